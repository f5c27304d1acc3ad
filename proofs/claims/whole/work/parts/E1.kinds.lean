/-! REPEATED METHODS AND KINDS, BY THE CLASS. -/
section KM
variable {L : Nat} {xs : Nat → Int32} {zf : Value} {w k n nk mb : Nat} {h0 h h1 : rm_H} {s0 s s1 : rS} {K q l ar cap a9 c9 : Nat} {ms kl : List Nat} {cx : Nat → Nat} {pt vr a b : Int32} {mv : Value} {S T : Int32 → Int32 → Prop} {f : Nat → Int64} {g so : Nat → Int32} {c : Int64} {x : Int32}
/-- Methods with names f, sorts so, places g, numbers from mb on -/
def mL (L : Nat) (xs : Nat → Int32) (h : rm_H) (l ar cap : Nat) (ms : List Nat) (f : Nat → Int64) (so g : Nat → Int32) (mb : Nat) : Prop := aL h l ar cap ms ∧ ms.length ≤ 100 ∧ mb ≤ 1000 ∧ ∀ i d, ms[i]? = some d → (∃ nq, fd h 11 d 3 = some (.ref nq) ∧ nS L xs h nq (f i)) ∧ fd h 11 d 0 = some (.int (so i)) ∧ fd h 11 d 4 = some (.int (g i)) ∧ fd h 11 d 2 = some (.int (Int32.ofNat (mb + i)))
theorem nb11 {j : Nat} (hj : j < 12) : ¬ bdF 11 j := fun z => by rcases z with z | z | z <;> omega
theorem nb9 {j : Nat} : ¬ bdF 9 j := fun z => by rcases z with z | z | z <;> omega
theorem mL_I (i : dI h0 h) (e : mL L xs h0 l ar cap ms f so g mb) : mL L xs h l ar cap ms f so g mb := ⟨dI_aL i e.1, e.2.1, e.2.2.1, fun j d hj => by
  obtain ⟨⟨nq, e1, e2⟩, e3, e4, e5⟩ := e.2.2.2 j d hj
  exact ⟨⟨nq, dI_f i e1 (nb11 (by decide)), dI_n i e2⟩, dI_f i e3 (nb11 (by decide)), dI_f i e4 (nb11 (by decide)), dI_f i e5 (nb11 (by decide))⟩⟩
def fM (ms : List Nat) (so : Nat → Int32) (x : Int32) (o : Option Nat) : Option Nat := match o with
  | none => none
  | some j => if so j = x then ms[j]? else none
theorem c_fm_l (hK : fd h 9 K 5 = some (.ref l)) (e : mL L xs h l ar cap ms f so g mb) (hq : nS L xs h q c) (hw : 200 ≤ w) : ∀ (m i N : Nat), i + m = ms.length → m < N → b156_2 L xs zf (dM L xs zf w (k + 3)) w N (some K) (some q) x (Int32.ofNat i) h = some (some (va_rf (fM ms so x (kF f c m i))), h) := by
  intro m
  obtain ⟨e9, l100, _, e5⟩ := e
  have sz : (dcV L xs (dM L xs zf w (k + 3)) 101 [5] (some l) [] h).bind dxI = some (Int32.ofNat ms.length, h) := by
    rw [al_v e9, al_size e9]
    rfl
  induction m with
  | zero =>
    intro i N e1 hN
    obtain ⟨N, rfl⟩ : ∃ M, N = M + 1 := ⟨N - 1, by omega⟩
    rw [b156_2]
    refine bse (fd_R (o := some l) hK (by decide)) (bse sz (ift ?_ rfl))
    show mx_f2 .ge (Int32.ofNat i) (Int32.ofNat ms.length) = true
    rw [f2_ge, of_int (by omega), of_int (by omega)]
    simp
    omega
  | succ m ih =>
    intro i N e1 hN
    obtain ⟨N, rfl⟩ : ∃ M, N = M + 1 := ⟨N - 1, by omega⟩
    obtain ⟨d, hd⟩ : ∃ K, ms[i]? = some K := ⟨ms[i]'(by omega), List.getElem?_eq_getElem (by omega)⟩
    obtain ⟨⟨nm, n1, n2⟩, n5, _⟩ := e5 i d hd
    obtain ⟨fs, n3, n4⟩ := fd_c n1
    have gt : (dcV L xs (dM L xs zf w (k + 3)) 146 [5] (some l) [.int (Int32.ofNat i)] h).bind dxR = some (some d, h) := by
      rw [al_v e9, al_get e9 i hd]
      rfl
    have ge : ¬ mx_f2 .ge (Int32.ofNat i) (Int32.ofNat ms.length) = true := by
      rw [f2_ge, of_int (by omega), of_int (by omega)]
      simp
      omega
    have eq : (dcV L xs (dM L xs zf w (k + 3)) 151 [7, 16] (some nm) [va_rf (some q)] h).bind dxI = some ((if f i = c then 1 else 0 : Int32), h) := by
      obtain ⟨_, _, ⟨ci, a, fs', f', p1, p2, _⟩, _⟩ := id n2
      rw [dcV_lk p2 p1, show dM L xs zf w (k + 3) 151 (.ref nm :: [va_rf (some q)]) h = _ from se_of (k := k + 1) n2 hq (by omega)]
      rfl
    rw [b156_2]
    refine bse (fd_R (o := some l) hK (by decide)) (bse sz (ifn ge (bse (fd_R (o := some l) hK (by decide)) (bse gt (ifn (by rw [ck_of n3]; decide) (bse (fd_R (o := some nm) n1 (by decide)) (bse eq ?_)))))))
    rw [kF]
    by_cases u : f i = c
    · rw [if_pos u, if_pos u]
      refine ifn (by show ¬ mx_f1 .eq (1 : Int32) = true; decide) (bse (fd_I n5 (by decide)) ?_)
      show (if mx_f2 .ne (so i) x = true then _ else _) = some (some (va_rf (if so i = x then ms[i]? else none)), h)
      by_cases v : so i = x
      · rw [if_pos v, hd]
        exact ifn (by rw [f2_ne]; simpa using v) rfl
      · rw [if_neg v]
        exact ift (by rw [f2_ne]; exact decide_eq_true v) rfl
    · rw [if_neg u, if_neg u]
      refine ift (by show mx_f1 .eq (0 : Int32) = true; decide) ?_
      rw [show Int32.ofNat i + 1 = Int32.ofNat (i + 1) from of_add i 1]
      exact ih (i + 1) N (by omega) (by omega)
theorem c_fm (hK : fd h 9 K 5 = some (.ref l)) (e : mL L xs h l ar cap ms f so g mb) (hq : nS L xs h q c) (hw : 200 ≤ w) : (dcV L xs (dM L xs zf w (k + 4)) 156 [9] (some K) [va_rf (some q), .int x] h).bind dxR = some (fM ms so x (kF f c ms.length 0), h) := by
  rw [fd_v hK (by decide), e156]
  show (b156_2 L xs zf (dM L xs zf w (k + 3)) w w (some K) (some q) x (Int32.ofNat 0) h).bind dxR = _
  rw [c_fm_l hK e hq hw ms.length 0 w (by omega) (by have := e.2.1; omega)]
  cases fM ms so x (kF f c ms.length 0) <;> rfl
theorem gc_ge {p : Nat} (hp : 21 ≤ p) : ah_gc p = true := by
  have v : Nat.ble 21 p = true := Nat.ble_eq.mpr hp
  unfold ah_gc
  rw [v]
  rfl
theorem dcm_o {o : Option Nat} {p : Nat} (ho : ∀ q, o = some q → 21 ≤ q) (hp : 21 ≤ p) : dcm o (some p) = true := by
  show (rm_cm ah_gc o && ah_gc p) = true
  rw [gc_ge hp, Bool.and_true]
  cases o with
  | none => rfl
  | some q => exact gc_ge (ho q rfl)
theorem c_rm_l (hK : fd h0 9 K 5 = some (.ref l)) (e : mL L xs h0 l ar cap ms f so g mb) (hw : 200 ≤ w) : ∀ (m i N : Nat) (h : rm_H), i + m = ms.length → m < N → dI h0 h → pgS cx pt vr mv (fun u v => S u v ∨ rpA f g 0 i u v) h → ∃ h', b155_2 L xs zf (dM L xs zf w (k + 4)) w N (some (cx 8)) (some K) (Int32.ofNat i) h = some (none, h') ∧ st1 (cx 8) h h' ∧ pgS cx pt vr mv (fun u v => S u v ∨ rpA f g 0 ms.length u v) h' := by
  intro m
  induction m with
  | zero =>
    intro i N h e1 hN di p
    obtain ⟨N, rfl⟩ : ∃ M, N = M + 1 := ⟨N - 1, by omega⟩
    have ei : i = ms.length := by omega
    subst ei
    have e3 := (mL_I di e).1
    refine ⟨h, ?_, st1_refl _ _, p⟩
    rw [b155_2]
    refine bse (fd_R (o := some l) (dI_f di hK nb9) (by decide)) (bse (a := (Int32.ofNat ms.length, h)) ?_ (ift ?_ rfl))
    · rw [al_v e3, al_size e3]
      rfl
    · rw [f2_ge]
      simp
  | succ m ih =>
    intro i N h e1 hN di p
    obtain ⟨N, rfl⟩ : ∃ M, N = M + 1 := ⟨N - 1, by omega⟩
    have hK' := dI_f di hK nb9
    have e' := mL_I di e
    obtain ⟨e3, l100, lmb, e5⟩ := id e'
    have il : i < ms.length := by omega
    obtain ⟨d, hd⟩ : ∃ K, ms[i]? = some K := ⟨ms[i], List.getElem?_eq_getElem il⟩
    obtain ⟨⟨nm, n1, n2⟩, n3, n4, n5⟩ := e5 i d hd
    obtain ⟨fsd, n6, _⟩ := fd_c n1
    have sz : (dcV L xs (dM L xs zf w (k + 4)) 101 [5] (some l) [] h).bind dxI = some (Int32.ofNat ms.length, h) := by
      rw [al_v e3, al_size e3]
      rfl
    have gt : (dcV L xs (dM L xs zf w (k + 4)) 146 [5] (some l) [.int (Int32.ofNat i)] h).bind dxR = some (some d, h) := by
      rw [al_v e3, al_get e3 i hd]
      rfl
    have ge : ¬ mx_f2 .ge (Int32.ofNat i) (Int32.ofNat ms.length) = true := by
      rw [f2_ge, of_int (by omega), of_int (by omega)]
      simp
      omega
    have fm := c_fm (zf := zf) (w := w) (k := k) (x := so i) hK' e' n2 hw
    obtain ⟨j, j1, j2, j3⟩ := kF_own (f := f) il
    rw [j1] at fm
    have own : ∀ o, fM ms so (so i) (some j) = o → (∀ q, o = some q → 21 ≤ q) ∧ (o = some d ↔ j = i) := by
      intro o ho
      have ho : (if so j = so i then ms[j]? else none) = o := ho
      by_cases v : so j = so i
      · rw [if_pos v] at ho
        obtain ⟨dj, hj⟩ : ∃ K, ms[j]? = some K := ⟨ms[j]'(by omega), List.getElem?_eq_getElem (by omega)⟩
        obtain ⟨_, _, _, m5⟩ := e5 j dj hj
        rw [hj] at ho
        subst ho
        refine ⟨fun q hq => by cases hq; exact (fd_lt m5).2, fun z => ?_, fun z => by rw [z, hd] at hj; exact hj.symm⟩
        cases z
        rw [n5] at m5
        have := congrArg Int32.toInt (Value.int.inj (Option.some.inj m5))
        rw [of_int (by omega), of_int (by omega)] at this
        omega
      · rw [if_neg v] at ho
        subst ho
        exact ⟨fun q hq => (by cases hq), fun z => (by cases z), fun z => absurd (by rw [z]) v⟩
    generalize ho : fM ms so (so i) (some j) = o at fm
    obtain ⟨o1, o2⟩ := own o ho
    have cm := dcm_o o1 (fd_lt n1).2
    have head : ∀ r, (if dsm o (some d) = true then b155_54 L xs zf (dM L xs zf w (k + 4)) w (b155_2 L xs zf (dM L xs zf w (k + 4)) w N) (some (cx 8)) (some K) (Int32.ofNat i) h else ((dcV L xs (dM L xs zf w (k + 4)) 144 [4] (some (cx 8)) [.int 2, .int (g i)] h).bind dxV).bind fun h31 => b155_54 L xs zf (dM L xs zf w (k + 4)) w (b155_2 L xs zf (dM L xs zf w (k + 4)) w N) (some (cx 8)) (some K) (Int32.ofNat i) h31) = r → b155_2 L xs zf (dM L xs zf w (k + 4)) w (N + 1) (some (cx 8)) (some K) (Int32.ofNat i) h = r := by
      intro r er
      rw [b155_2]
      refine bsq (fd_R (o := some l) hK' (by decide)) (bsq sz (inq ge (bsq (fd_R (o := some l) hK' (by decide)) (bsq gt (inq (by rw [ck_of n6]; decide) (bsq (fd_R (o := some nm) n1 (by decide)) (bsq (fd_I n3 (by decide)) (bsq fm (itq cm ?_)))))))))
      rw [← er]
      dsimp only
      split
      · rfl
      · exact bsq (fd_I n4 (by decide)) rfl
    have si : Int32.ofNat i + 1 = Int32.ofNat (i + 1) := of_add i 1
    by_cases ji : j = i
    · obtain ⟨h3, r1, r2, r3⟩ := ih (i + 1) N h (by omega) (by omega) di (pgS_ext (fun u v => by
        rw [rpA_s (Nat.zero_le i)]
        constructor
        · rintro (z | z)
          · exact Or.inl z
          · exact Or.inr (Or.inl z)
        · rintro (z | z | ⟨z, _⟩)
          · exact Or.inl z
          · exact Or.inr z
          · exact absurd ji (j3.mpr z)) p)
      refine ⟨h3, head _ ?_, r2, r3⟩
      refine itq (decide_eq_true (o2.mpr ji)) ?_
      unfold b155_54
      rw [si]
      exact r1
    · obtain ⟨h2, w1, w2, w3⟩ := c_noteS (L := L) (xs := xs) (zf := zf) (w := w) (k := k + 3) p 2 (g i) (by decide)
      obtain ⟨h3, r1, r2, r3⟩ := ih (i + 1) N h2 (by omega) (by omega) (dI_st di p w2) (pgS_ext (fun u v => by
        rw [rpA_s (Nat.zero_le i)]
        constructor
        · rintro ((z | z) | z)
          · exact Or.inl z
          · exact Or.inr (Or.inl z)
          · exact Or.inr (Or.inr ⟨j3.mp ji, z⟩)
        · rintro (z | z | ⟨_, z⟩)
          · exact Or.inl (Or.inl z)
          · exact Or.inl (Or.inr z)
          · exact Or.inr z) w3)
      refine ⟨h3, head _ ?_, st1_trans w2 r2, r3⟩
      refine inq (fun z => ji (o2.mp (of_decide_eq_true z))) (bsq w1 ?_)
      unfold b155_54
      rw [si]
      exact r1
theorem c_rm (hK : fd h0 9 K 5 = some (.ref l)) (e : mL L xs h0 l ar cap ms f so g mb) (hw : 200 ≤ w) (di : dI h0 h) (p : pgS cx pt vr mv S h) : ∃ h', (dcV L xs (dM L xs zf w (k + 5)) 155 [4] (some (cx 8)) [va_rf (some K)] h).bind dxV = some h' ∧ st1 (cx 8) h h' ∧ pgS cx pt vr mv (fun u v => S u v ∨ rpA f g 0 ms.length u v) h' := by
  obtain ⟨h', q1, q2, q3⟩ := c_rm_l (L := L) (xs := xs) (zf := zf) (w := w) (k := k) hK e hw ms.length 0 w h (by omega) (by have := e.2.1; omega) di (pgS_ext (fun u v => ⟨Or.inl, fun z => by
    rcases z with z | ⟨i, _, z, _⟩
    · exact z
    · omega⟩) p)
  refine ⟨h', ?_, q2, q3⟩
  obtain ⟨a, b, p1, _⟩ := p
  rw [hc_v p1 (by decide), e155]
  show (b155_2 L xs zf (dM L xs zf w (k + 4)) w w (some (cx 8)) (some K) (Int32.ofNat 0) h).bind dxV = _
  rw [q1]
  rfl
end KM
