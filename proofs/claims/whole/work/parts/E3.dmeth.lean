/-! A METHOD IS DECLARED BY THE CLASS. -/
/-- what may be sent -/
def sdC (x : Int32) : Int32 := if x &&& 15 = 5 then (if (x >>> ((8 : Int32) &&& 31)) &&& 7 = 0 ∨ (x >>> ((8 : Int32) &&& 31)) &&& 7 = 3 then 1 else 0) else (if x &&& 15 = 1 ∨ x &&& 15 = 3 then 1 else 0)
theorem sdC_01 (x : Int32) : sdC x = 0 ∨ sdC x = 1 := by
  unfold sdC
  split
  · split
    · exact Or.inr rfl
    · exact Or.inl rfl
  · split
    · exact Or.inr rfl
    · exact Or.inl rfl
/-- only the Program and Method M change -/
def mSt (M : Nat) (h h' : rm_H) : Prop := dI h h' ∧ (∀ p, fd h' 10 p 7 = fd h 10 p 7) ∧ ∀ p, p ≠ M → ∀ j, fd h' 11 p j = fd h 11 p j
section DM
variable {L : Nat} {xs : Nat → Int32} {zf : Value} {w k n nk : Nat} {h0 h h1 h2 : rm_H} {s0 s s1 : rS} {M K l ar cap : Nat} {ds : List Nat} {cx : Nat → Nat} {pt vr a b ac so cp cq : Int32} {mv : Value} {S T : Int32 → Int32 → Prop} {f : Nat → Int64} {g tx : Nat → Int32}
theorem mSt_trans (a : mSt M h h1) (b : mSt M h1 h2) : mSt M h h2 := ⟨dI_trans a.1 b.1, fun p => (b.2.1 p).trans (a.2.1 p), fun p hp j => (b.2.2 p hp j).trans (a.2.2 p hp j)⟩
theorem mSt_refl : mSt M h h := ⟨dI_refl, fun _ => rfl, fun _ _ _ => rfl⟩
theorem mSt_P (p : pgS cx pt vr mv S h) (w : st1 (cx 8) h h1) : mSt M h h1 ∧ ∀ j, fd h1 11 M j = fd h 11 M j := by
  obtain ⟨a, b, p1, p2⟩ := id p
  exact ⟨⟨dI_st dI_refl p w, fun q => st_dc p1 (by decide) w q 7, fun q _ j => st_dc p1 (by decide) w q j⟩, fun j => st_dc p1 (by decide) w M j⟩
/-- 12 or 13 of M is written -/
theorem mSt_w {j : Nat} {u : Value} {x : Int32} (p : pgS cx pt vr mv S h) (e : fd h 11 M j = some u) (hj : j = 12 ∨ j = 13) (hf : rm_fit (ah_FT 11 j) (.int x) = true) : ∃ h', dpF h j [11] (some M) (.int x) = some h' ∧ mSt M h h' ∧ pgS cx pt vr mv S h' ∧ fd h' 11 M j = some (.int x) ∧ ∀ i, i ≠ j → fd h' 11 M i = fd h 11 M i := by
  obtain ⟨h', w1, w2, w3, w4⟩ := fd_w (v := .int x) (cis := [11]) e (by decide) hf (by decide)
  obtain ⟨fs, e1, _⟩ := fd_c e
  obtain ⟨a, b, p1, p2⟩ := p
  refine ⟨h', w1, ⟨dI_w dI_refl e1 (by decide) w4 (fun i hi => w3 i (fun z => hi ?_)), fun q => st_dc e1 (by decide) w4 q 7, fun q hq i => fd_st w4 hq⟩, ⟨a, b, st1_old w4 p1 (fun z => by rw [z, e1] at p1; cases p1), p2⟩, w2, w3⟩
  rw [z]
  exact Or.inr (Or.inl ⟨rfl, hj⟩)
theorem c_send (x : Int32) (h : rm_H) : (dM L xs zf w (k + 2) 158 [.int x] h).bind dxI = some (sdC x, h) := by
  rw [e158]
  show (b158_0 L xs zf (dM L xs zf w (k + 1)) w x h).bind dxI = _
  have a : (dM L xs zf w (k + 1) 159 [.int x] h).bind dxI = some (x &&& 15, h) := by
    rw [e159]
    rfl
  have b : (dM L xs zf w (k + 1) 160 [.int x] h).bind dxI = some ((x >>> ((8 : Int32) &&& 31)) &&& 7, h) := by
    rw [e160]
    rfl
  have r : ∀ (v : Int32), (v = 0 ∨ v = 1) → (drI (some .boolean) v h).bind dxI = some (v, h) := by
    intro v hv
    rcases hv with e | e <;> rw [e] <;> rfl
  refine (congrArg (fun z => Option.bind z dxI) (show b158_0 L xs zf (dM L xs zf w (k + 1)) w x h = drI (some .boolean) (sdC x) h from ?_)).trans (r _ (sdC_01 x))
  unfold b158_0
  refine bsq a ?_
  unfold sdC
  dsimp only
  rw [f2_ne, f2_eqd, f2_ne]
  by_cases c5 : x &&& 15 = 5
  · rw [if_neg (fun z => absurd c5 (of_decide_eq_true z)), if_pos c5, b, Option.bind_some, f1_eqd]
    dsimp only
    by_cases c0 : (x >>> ((8 : Int32) &&& 31)) &&& 7 = 0
    · rw [if_pos (decide_eq_true c0), if_pos (Or.inl c0)]
      rfl
    · rw [if_neg (fun z => c0 (of_decide_eq_true z)), b, Option.bind_some, f2_ne]
      dsimp only
      by_cases c3 : (x >>> ((8 : Int32) &&& 31)) &&& 7 = 3
      · rw [if_neg (fun z => absurd c3 (of_decide_eq_true z)), if_pos (Or.inr c3)]
        rfl
      · rw [if_pos (decide_eq_true c3), if_neg (fun z => z.elim c0 c3)]
        rfl
  · rw [if_pos (decide_eq_true c5), if_neg c5]
    by_cases c1 : x &&& 15 = 1
    · rw [if_pos (decide_eq_true c1), if_pos (Or.inl c1)]
      rfl
    · rw [if_neg (fun z => c1 (of_decide_eq_true z))]
      by_cases c3 : x &&& 15 = 3
      · rw [if_neg (fun z => absurd c3 (of_decide_eq_true z)), if_pos (Or.inr c3)]
        rfl
      · rw [if_pos (decide_eq_true c3), if_neg (fun z => z.elim c1 c3)]
        rfl
/-- the fault of parameter i -/
def spS (ac so : Int32) (tx g : Nat → Int32) (n : Nat) (u v : Int32) : Prop := ac ≠ 0 ∧ so ≠ 1 ∧ ∃ i, i < n ∧ tx i ≠ 0 ∧ sdC (tx i) = 0 ∧ u = 4 ∧ v = g i
/-- what the check finds of the parameters -/
def tkS (tx : Nat → Int32) (n : Nat) (x : Int32) : Prop := (x = 1 ∧ ∀ i, i < n → sdC (tx i) = 1) ∨ (x = 0 ∧ ∃ i, i < n ∧ sdC (tx i) = 0)
/-- a Method has been declared: n parameters of types tx; what the check finds of it -/
def pmR (cx : Nat → Nat) (pt vr : Int32) (mv : Value) (S : Int32 → Int32 → Prop) (tx : Nat → Int32) (n M : Nat) (h0 : rm_H) (r : Option dR) : Prop := ∃ h' tk', r = some (none, h') ∧ mSt M h0 h' ∧ pgS cx pt vr mv S h' ∧ fd h' 11 M 12 = some (.int tk') ∧ tkS tx n tk' ∧ ∃ hm, fd h' 11 M 13 = some (.int hm) ∧ ((fd h0 11 M 8 = some .null ∧ hm = tk') ∨ ∃ rd rt, fd h0 11 M 8 = some (.ref rd) ∧ fd h0 10 rd 7 = some (.int rt) ∧ hm = if tk' = 0 then 0 else sdC rt)
theorem c_pm_l (eM : fd h0 11 M 5 = some (.ref l)) (e0 : fd h0 11 M 0 = some (.int so)) (e8 : fd h0 11 M 8 = some .null ∨ ∃ rd rt, fd h0 11 M 8 = some (.ref rd) ∧ fd h0 10 rd 7 = some (.int rt)) (e : dL L xs h0 l ar cap ds f g) (et : ∀ i d, ds[i]? = some d → fd h0 10 d 7 = some (.int (tx i))) (hw : 200 ≤ w) : ∀ (m i N : Nat) (h : rm_H) (tk u13 : Int32), i + m = ds.length → m < N → mSt M h0 h → pgS cx pt vr mv (fun u v => S u v ∨ spS ac so tx g i u v) h → fd h 11 M 12 = some (.int tk) → tkS tx i tk → fd h 11 M 13 = some (.int u13) → pmR cx pt vr mv (fun u v => S u v ∨ spS ac so tx g ds.length u v) tx ds.length M h0 (b157_47 L xs zf (dM L xs zf w (k + 3)) w N (some (cx 8)) (some M) ac (Int32.ofNat i) h) := by
  intro m
  induction m with
  | zero =>
    intro i N h tk u13 e1 hN ms p t12 tv t13
    obtain ⟨N, rfl⟩ : ∃ M, N = M + 1 := ⟨N - 1, by omega⟩
    have ei : i = ds.length := by omega
    subst ei
    have e3 := (dL_I ms.1 e).1
    have eM' := dI_f ms.1 eM (nb11 (by decide))
    have sz : (dcV L xs (dM L xs zf w (k + 3)) 101 [5] (some l) [] h).bind dxI = some (Int32.ofNat ds.length, h) := by
      rw [al_v e3, al_size e3]
      rfl
    have ge : mx_f2 .ge (Int32.ofNat ds.length) (Int32.ofNat ds.length) = true := by
      rw [f2_ge]
      simp
    have fin : ∀ x : Int32, (x = 0 ∨ x = 1) → ∃ h', b157_160 L xs zf (dM L xs zf w (k + 3)) w x (some M) h = some (none, h') ∧ mSt M h h' ∧ pgS cx pt vr mv (fun u v => S u v ∨ spS ac so tx g ds.length u v) h' ∧ fd h' 11 M 13 = some (.int x) ∧ fd h' 11 M 12 = some (.int tk) := by
      intro x hx
      obtain ⟨h', w1, w2, w3, w4, w5⟩ := mSt_w (x := x) p t13 (Or.inr rfl) (by rcases hx with z | z <;> rw [z] <;> rfl)
      exact ⟨h', bse w1 rfl, w2, w3, w4, (w5 12 (by decide)).trans t12⟩
    have head : ∀ r, (if mx_f1 .eq tk = true then b157_159 L xs zf (dM L xs zf w (k + 3)) w (some M) h else (dgR L xs h 8 [11] (some M)).bind fun p11 => if dnl p11 = true then b157_155 L xs zf (dM L xs zf w (k + 3)) w (some M) h else (dgR L xs h 8 [11] (some M)).bind fun p14 => (dgI L xs h 7 [10] p14).bind fun x16 => ((dM L xs zf w (k + 3) 158 [.int x16] h).bind dxI).bind fun x18 => if mx_f1 .eq x18.1 = true then b157_159 L xs zf (dM L xs zf w (k + 3)) w (some M) x18.2 else b157_155 L xs zf (dM L xs zf w (k + 3)) w (some M) x18.2) = r → b157_47 L xs zf (dM L xs zf w (k + 3)) w (N + 1) (some (cx 8)) (some M) ac (Int32.ofNat ds.length) h = r := by
      intro r er
      rw [b157_47]
      exact bsq (fd_R (o := some l) eM' (by decide)) (bsq sz (itq ge (bsq (fd_I t12 (by decide)) er)))
    have t01 : tk = 0 ∨ tk = 1 := by
      rcases tv with ⟨z, _⟩ | ⟨z, _⟩
      · exact Or.inr z
      · exact Or.inl z
    have e8' : ∀ v, fd h0 11 M 8 = some v → fd h 11 M 8 = some v := fun v z => dI_f ms.1 z (nb11 (by decide))
    by_cases c0 : tk = 0
    · obtain ⟨h', w1, w2, w3, w4, w5⟩ := fin 0 (Or.inl rfl)
      refine ⟨h', tk, head _ (itq (by rw [c0]; decide) w1), mSt_trans ms w2, w3, w5, tv, 0, w4, ?_⟩
      rcases e8 with z | ⟨rd, rt, z1, z2⟩
      · exact Or.inl ⟨z, c0.symm⟩
      · exact Or.inr ⟨rd, rt, z1, z2, by rw [if_pos c0]⟩
    · have nt0 : ¬ mx_f1 .eq tk = true := by rw [f1_eqd]; exact fun z => c0 (of_decide_eq_true z)
      have c1 : tk = 1 := t01.resolve_left c0
      rcases e8 with z | ⟨rd, rt, z1, z2⟩
      · obtain ⟨h', w1, w2, w3, w4, w5⟩ := fin 1 (Or.inr rfl)
        refine ⟨h', tk, head _ (inq nt0 (bsq (fd_R (o := none) (e8' _ z) (by decide)) (itq rfl w1))), mSt_trans ms w2, w3, w5, tv, 1, w4, Or.inl ⟨z, c1.symm⟩⟩
      · obtain ⟨h', w1, w2, w3, w4, w5⟩ := fin (sdC rt) (sdC_01 rt)
        have g8 : dgR L xs h 8 [11] (some M) = some (some rd) := fd_R (o := some rd) (e8' _ z1) (by decide)
        have g7 : dgI L xs h 7 [10] (some rd) = some rt := fd_I ((ms.2.1 rd).trans z2) (by decide)
        refine ⟨h', tk, head _ (inq nt0 (bsq g8 (inq (dnl_s rd) (bsq g8 (bsq g7 (bsq (c_send (k := k + 1) rt h) ?_)))))), mSt_trans ms w2, w3, w5, tv, sdC rt, w4, Or.inr ⟨rd, rt, z1, z2, by rw [if_neg c0]⟩⟩
        rcases sdC_01 rt with y | y
        · rw [y] at w1 ⊢
          exact itq (show mx_f1 .eq (0 : Int32) = true by decide) w1
        · rw [y] at w1 ⊢
          exact inq (show ¬ mx_f1 .eq (1 : Int32) = true by decide) w1
  | succ m ih =>
    intro i N h tk u13 e1 hN ms p t12 tv t13
    obtain ⟨N, rfl⟩ : ∃ M, N = M + 1 := ⟨N - 1, by omega⟩
    have l100 := e.2.1
    obtain ⟨e3, _, e5⟩ := dL_I ms.1 e
    have eM' := dI_f ms.1 eM (nb11 (by decide))
    have e0' := dI_f ms.1 e0 (nb11 (by decide))
    obtain ⟨d, hd⟩ : ∃ d, ds[i]? = some d := ⟨ds[i]'(by omega), List.getElem?_eq_getElem (by omega)⟩
    have d7 : fd h 10 d 7 = some (.int (tx i)) := (ms.2.1 d).trans (et i d hd)
    obtain ⟨_, d1⟩ := e5 i d hd
    obtain ⟨_, dc, _⟩ := fd_c d7
    have sz : (dcV L xs (dM L xs zf w (k + 3)) 101 [5] (some l) [] h).bind dxI = some (Int32.ofNat ds.length, h) := by
      rw [al_v e3, al_size e3]
      rfl
    have gt : (dcV L xs (dM L xs zf w (k + 3)) 146 [5] (some l) [.int (Int32.ofNat i)] h).bind dxR = some (some d, h) := by
      rw [al_v e3, al_get e3 i hd]
      rfl
    have ge : ¬ mx_f2 .ge (Int32.ofNat i) (Int32.ofNat ds.length) = true := by
      rw [f2_ge, of_int (by omega), of_int (by omega)]
      simp
      omega
    have si : Int32.ofNat i + 1 = Int32.ofNat (i + 1) := of_add i 1
    -- the next parameter
    have nxt : ∀ (h2 : rm_H) (tk2 : Int32), mSt M h0 h2 → pgS cx pt vr mv (fun u v => S u v ∨ spS ac so tx g (i + 1) u v) h2 → fd h2 11 M 12 = some (.int tk2) → tkS tx (i + 1) tk2 → fd h2 11 M 13 = some (.int u13) → b157_47 L xs zf (dM L xs zf w (k + 3)) w (N + 1) (some (cx 8)) (some M) ac (Int32.ofNat i) h = b157_121 L xs zf (dM L xs zf w (k + 3)) w (b157_47 L xs zf (dM L xs zf w (k + 3)) w N) (some (cx 8)) (some M) ac (Int32.ofNat i) h2 → pmR cx pt vr mv (fun u v => S u v ∨ spS ac so tx g ds.length u v) tx ds.length M h0 (b157_47 L xs zf (dM L xs zf w (k + 3)) w (N + 1) (some (cx 8)) (some M) ac (Int32.ofNat i) h) := fun h2 tk2 a1 a2 a3 a4 a5 a6 => by
      obtain ⟨h', tk', r1, r2⟩ := ih (i + 1) N h2 tk2 u13 (by omega) (by omega) a1 a2 a3 a4 a5
      refine ⟨h', tk', a6.trans ?_, r2⟩
      unfold b157_121
      rw [si]
      exact r1
    have sn := c_send (L := L) (xs := xs) (zf := zf) (w := w) (k := k + 1) (tx i) h
    have head : ∀ r, (if mx_f1 .ne (sdC (tx i)) = true then b157_121 L xs zf (dM L xs zf w (k + 3)) w (b157_47 L xs zf (dM L xs zf w (k + 3)) w N) (some (cx 8)) (some M) ac (Int32.ofNat i) h else (dpF h 12 [11] (some M) (.int 0)).bind fun h42 => if mx_f1 .eq ac = true then b157_121 L xs zf (dM L xs zf w (k + 3)) w (b157_47 L xs zf (dM L xs zf w (k + 3)) w N) (some (cx 8)) (some M) ac (Int32.ofNat i) h42 else (dgI L xs h42 0 [11] (some M)).bind fun x45 => if mx_f2 .eq x45 1 = true then b157_121 L xs zf (dM L xs zf w (k + 3)) w (b157_47 L xs zf (dM L xs zf w (k + 3)) w N) (some (cx 8)) (some M) ac (Int32.ofNat i) h42 else (dgI L xs h42 7 [10] (some d)).bind fun x48 => if mx_f1 .eq x48 = true then b157_121 L xs zf (dM L xs zf w (k + 3)) w (b157_47 L xs zf (dM L xs zf w (k + 3)) w N) (some (cx 8)) (some M) ac (Int32.ofNat i) h42 else (dgI L xs h42 1 [10] (some d)).bind fun x51 => ((dcV L xs (dM L xs zf w (k + 3)) 144 [4] (some (cx 8)) [.int 4, .int x51] h42).bind dxV).bind fun h53 => b157_121 L xs zf (dM L xs zf w (k + 3)) w (b157_47 L xs zf (dM L xs zf w (k + 3)) w N) (some (cx 8)) (some M) ac (Int32.ofNat i) h53) = r → b157_47 L xs zf (dM L xs zf w (k + 3)) w (N + 1) (some (cx 8)) (some M) ac (Int32.ofNat i) h = r := by
      intro r er
      rw [b157_47]
      exact bsq (fd_R (o := some l) eM' (by decide)) (bsq sz (inq ge (bsq (fd_R (o := some l) eM' (by decide)) (bsq gt (inq (by rw [ck_of dc]; decide) (bsq (fd_I d7 (by decide)) (bsq sn er)))))))
    have skip : (∀ u v : Int32, ¬ (ac ≠ 0 ∧ so ≠ 1 ∧ tx i ≠ 0 ∧ sdC (tx i) = 0 ∧ u = 4 ∧ v = g i)) → ∀ u v, (S u v ∨ spS ac so tx g i u v) ↔ (S u v ∨ spS ac so tx g (i + 1) u v) := by
      intro no u v
      constructor
      · rintro (z | ⟨z1, z2, j, z3, z4⟩)
        · exact Or.inl z
        · exact Or.inr ⟨z1, z2, j, by omega, z4⟩
      · rintro (z | ⟨z1, z2, j, z3, z4, z5, z6, z7⟩)
        · exact Or.inl z
        · refine Or.inr ⟨z1, z2, j, ?_, z4, z5, z6, z7⟩
          by_cases z : j = i
          · rw [z] at z4 z5 z7
            exact absurd ⟨z1, z2, z4, z5, z6, z7⟩ (no u v)
          · omega
    rcases sdC_01 (tx i) with y | y
    · obtain ⟨h2, w1, w2, w3, w4, w5⟩ := mSt_w (x := 0) p t12 (Or.inl rfl) rfl
      have ms2 := mSt_trans ms w2
      have tv2 : tkS tx (i + 1) 0 := Or.inr ⟨rfl, i, by omega, y⟩
      have t13' : fd h2 11 M 13 = some (.int u13) := (w5 13 (by decide)).trans t13
      have p1 : ¬ mx_f1 .ne (sdC (tx i)) = true := by rw [y]; decide
      by_cases c1 : ac = 0
      · exact nxt h2 0 ms2 (pgS_ext (skip (fun u v z => z.1 c1)) w3) w4 tv2 t13' (head _ (inq p1 (bsq w1 (itq (by rw [c1]; decide) rfl))))
      have q1 : ¬ mx_f1 .eq ac = true := by rw [f1_eqd]; exact fun z => c1 (of_decide_eq_true z)
      have g0 : dgI L xs h2 0 [11] (some M) = some so := fd_I ((w5 0 (by decide)).trans e0') (by decide)
      by_cases c2 : so = 1
      · exact nxt h2 0 ms2 (pgS_ext (skip (fun u v z => z.2.1 c2)) w3) w4 tv2 t13' (head _ (inq p1 (bsq w1 (inq q1 (bsq g0 (itq (by rw [c2]; decide) rfl))))))
      have q2 : ¬ mx_f2 .eq so 1 = true := by rw [f2_eqd]; exact fun z => c2 (of_decide_eq_true z)
      have d7' : fd h2 10 d 7 = some (.int (tx i)) := (w2.2.1 d).trans d7
      have g7 : dgI L xs h2 7 [10] (some d) = some (tx i) := fd_I d7' (by decide)
      by_cases c3 : tx i = 0
      · exact nxt h2 0 ms2 (pgS_ext (skip (fun u v z => z.2.2.1 c3)) w3) w4 tv2 t13' (head _ (inq p1 (bsq w1 (inq q1 (bsq g0 (inq q2 (bsq g7 (itq (by rw [c3]; decide) rfl))))))))
      have q3 : ¬ mx_f1 .eq (tx i) = true := by rw [f1_eqd]; exact fun z => c3 (of_decide_eq_true z)
      have g1 : dgI L xs h2 1 [10] (some d) = some (g i) := fd_I (dI_f w2.1 d1 (fun z => by rcases z with z | z | z <;> omega)) (by decide)
      obtain ⟨h3, x1, x2, x3⟩ := c_noteS (L := L) (xs := xs) (zf := zf) (w := w) (k := k + 2) w3 4 (g i) (by decide)
      obtain ⟨y1, y2⟩ := mSt_P (M := M) w3 x2
      refine nxt h3 0 (mSt_trans ms2 y1) (pgS_ext (fun u v => ?_) x3) ((y2 12).trans w4) tv2 ((y2 13).trans t13') (head _ (inq p1 (bsq w1 (inq q1 (bsq g0 (inq q2 (bsq g7 (inq q3 (bsq g1 (bsq x1 rfl)))))))))) 
      constructor
      · rintro ((z | ⟨z1, z2, j, z3, z4⟩) | ⟨z1, z2⟩)
        · exact Or.inl z
        · exact Or.inr ⟨z1, z2, j, by omega, z4⟩
        · exact Or.inr ⟨c1, c2, i, by omega, c3, y, z1, z2⟩
      · rintro (z | ⟨z1, z2, j, z3, z4, z5, z6, z7⟩)
        · exact Or.inl (Or.inl z)
        · by_cases z : j = i
          · rw [z] at z7
            exact Or.inr ⟨z6, z7⟩
          · exact Or.inl (Or.inr ⟨z1, z2, j, by omega, z4, z5, z6, z7⟩)
    · refine nxt h tk ms (pgS_ext (skip (fun u v z => by rw [y] at z; exact absurd z.2.2.2.1 (by decide))) p) t12 ?_ t13 (head _ (itq (by rw [y]; decide) rfl))
      rcases tv with ⟨z1, z2⟩ | ⟨z1, j, z2, z3⟩
      · refine Or.inl ⟨z1, fun j hj => ?_⟩
        by_cases z : j = i
        · rw [z]; exact y
        · exact z2 j (by omega)
      · exact Or.inr ⟨z1, j, by omega, z3⟩
end DM
