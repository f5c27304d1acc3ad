/-! BOTH CHECK: names. -/
section JNM
variable {L : Nat} {xs : Nat → Int32} {zf : Value} {w C Sc M Pl Ph LO HI nk m lv n p q i d lo hi k k2 z : Nat} {cx : Nat → Nat} {hB h h1 h2 : rm_H} {s0 s s1 s2 : rS} {pt vr gn gn1 a b a1 b1 x y rc : Int32} {mv : Value} {ds kl ml : List Nat} {G : List scN} {u u1 u2 : Nat → Nat} {A B A1 B1 : Nat → Int32} {c : Int64} {X : scN}
theorem kF_cg {f g : Nat → Int64} : ∀ n i, (∀ j, i ≤ j → j < i + n → f j = g j) → kF f c n i = kF g c n i := by
  intro n
  induction n with
  | zero => intro i _; rfl
  | succ n ih =>
    intro i e
    unfold kF
    rw [e i (Nat.le_refl _) (by omega), ih (i + 1) (fun j h1 h2 => e j (by omega) (by omega))]
theorem gAt_of (e : G[i]? = some X) : gAt G i = X := by
  unfold gAt
  rw [List.getD_eq_getElem?_getD, e]
  rfl
/-- both look a name up -/
theorem nm_look (e : CKJ L xs cx C Sc M pt vr mv hB s0 nk m h s ds G lv gn 0 b u A B) (hq : nS L xs h q c) (hw : 200 ≤ w) : (dcV L xs (dM L xs zf w (k + 3)) 181 [13] (some C) [va_rf (some q)] h).bind dxI = some (kI (kF (gN G) c G.length 0), h) ∧ (∀ k2, rM w (k2 + 1) 349 [.ref 36, .long c] s = some (some (.int (kI (kF (gN G) c G.length 0))), s)) ∧ ((∃ (i : Nat) (X : scN) (d : Nat), kF (gN G) c G.length 0 = some i ∧ i < 16 ∧ G[i]? = some X ∧ ds[i]? = some d ∧ X.1 = c ∧ dSn L xs h d c (Int32.ofNat X.2.1) (cT X.2.2.1)) ∨ (kF (gN G) c G.length 0 = none ∧ ∀ X ∈ G, X.1 ≠ c)) := by
  obtain ⟨kh, dl, bh, rk, e57, _, rg, gw⟩ := id e
  obtain ⟨r62, r63, r64, ⟨r66, _⟩, rr⟩ := rg rfl
  have row : ∀ i, i < G.length → s.2.2 82 i = gN G i := by
    intro i hi
    obtain ⟨X, hX⟩ : ∃ X, G[i]? = some X := ⟨G[i], List.getElem?_eq_getElem hi⟩
    unfold gN
    rw [gAt_of hX]
    exact (rr i X hX).1
  refine ⟨?_, fun k2 => ?_, ?_⟩
  · have := ck_find (zf := zf) (w := w) (k := k) kh hq hw
    rw [dl] at this
    exact this
  · rw [r_349 r62 gw.1.1 hw, kL_kF _ (fun i j hi hj e => ?_), kF_cg G.length 0 (fun j _ h2 => row j (by omega))]
    obtain ⟨X, hX⟩ : ∃ X, G[i]? = some X := ⟨G[i], List.getElem?_eq_getElem hi⟩
    obtain ⟨Y, hY⟩ : ∃ X, G[j]? = some X := ⟨G[j], List.getElem?_eq_getElem hj⟩
    exact gw.2.2.2 i j X Y hX hY (by rw [← (rr i X hX).1, ← (rr j Y hY).1]; exact e)
  · cases hk : kF (gN G) c G.length 0 with
    | none =>
      refine Or.inr ⟨rfl, fun X hX => ?_⟩
      obtain ⟨i, hi⟩ := List.getElem?_of_mem hX
      have il := (List.getElem?_eq_some_iff.mp hi).1
      have := kF_none hk i (by omega) (by omega)
      unfold gN at this
      rw [gAt_of hi] at this
      exact this
    | some i =>
      obtain ⟨_, q1, q2, _⟩ := kF_some hk
      obtain ⟨X, hX⟩ : ∃ X, G[i]? = some X := ⟨G[i]'(by omega), List.getElem?_eq_getElem (by omega)⟩
      obtain ⟨d, hd⟩ : ∃ d, ds[i]? = some d := ⟨ds[i]'(by omega), List.getElem?_eq_getElem (by omega)⟩
      have g1 := gw.1.1
      have dd := kh.2.2.2.2.1 i d hd
      unfold gN at q2
      unfold gN gSl gTp at dd
      rw [gAt_of hX] at q2 dd
      refine Or.inl ⟨i, X, d, rfl, by omega, hX, hd, q2, ?_⟩
      rw [← q2]
      exact dd
theorem ofN_m1 (hi : i < 16) : ¬ Int32.ofNat i = -1 := by
  have : ∀ i, i < 16 → ¬ Int32.ofNat i = -1 := by decide
  exact this i hi
/-- a NAME that can be used, or not -/
theorem c_180n (kh : KH L xs cx C Sc M pt vr mv h ds (gN G) (gSl G) (gTp G) gn rc a b u A B) (e2 : fd h 12 p 2 = some (.ref q)) (e3 : fd h 12 p 3 = some (.int y)) (lk : (dcV L xs (dM L xs zf w (k + 3)) 181 [13] (some C) [va_rf (some q)] h).bind dxI = some (-1, h)) : (dcV L xs (dM L xs zf w (k + 4)) 180 [13] (some C) [va_rf (some p)] h).bind dxI = ((dcV L xs (dM L xs zf w (k + 3)) 178 [13] (some C) [.int 3, .int y] h).bind dxV).bind fun h' => some (-1, h') := by
  rw [ck_v kh, e180]
  show (b180_0 L xs zf (dM L xs zf w (k + 3)) w (some C) (some p) h).bind dxI = _
  unfold b180_0
  rw [fd_R (o := some q) e2 (by decide), Option.bind_some, lk, Option.bind_some]
  dsimp only
  rw [if_neg (by decide), fd_I e3 (by decide), Option.bind_some]
  generalize (dcV L xs (dM L xs zf w (k + 3)) 178 [13] (some C) [.int 3, .int y] h).bind dxV = R
  cases R <;> rfl
theorem c_180 (kh : KH L xs cx C Sc M pt vr mv h ds (gN G) (gSl G) (gTp G) gn rc a b u A B) (e2 : fd h 12 p 2 = some (.ref q)) (e3 : fd h 12 p 3 = some (.int y)) (lk : (dcV L xs (dM L xs zf w (k + 3)) 181 [13] (some C) [va_rf (some q)] h).bind dxI = some (Int32.ofNat i, h)) (hi : i < 16) (hd : ds[i]? = some d) (dn : dSn L xs h d c (Int32.ofNat X.2.1) x) (hs : X.2.1 < 16) : (dcV L xs (dM L xs zf w (k + 4)) 180 [13] (some C) [va_rf (some p)] h).bind dxI = if gn &&& bt X.2.1 = 0 then some (Int32.ofNat i, h) else ((dcV L xs (dM L xs zf w (k + 3)) 178 [13] (some C) [.int 7, .int y] h).bind dxV).bind fun h' => some (-1, h') := by
  have ig := ck_isg (zf := zf) (w := w) (k := k + 2) kh dn
  rw [ck_v kh, e180]
  show (b180_0 L xs zf (dM L xs zf w (k + 3)) w (some C) (some p) h).bind dxI = _
  unfold b180_0
  rw [fd_R (o := some q) e2 (by decide), Option.bind_some, lk, Option.bind_some]
  dsimp only
  rw [if_pos (show mx_f2 .ne (Int32.ofNat i) (-1) = true by rw [f2_ne]; exact decide_eq_true (ofN_m1 hi)), ck_1 kh, Option.bind_some, ck_at kh hd, Option.bind_some, ig, Option.bind_some]
  dsimp only
  by_cases g0 : gn &&& bt X.2.1 = 0
  · rw [if_pos g0, if_pos ((bt_iff hs).mpr g0)]
    rfl
  · rw [if_neg g0, if_neg (fun z => g0 ((bt_iff hs).mp z)), if_neg (show ¬ mx_f1 .eq (1 : Int32) = true by decide), fd_I e3 (by decide), Option.bind_some]
    generalize (dcV L xs (dM L xs zf w (k + 3)) 178 [13] (some C) [.int 7, .int y] h).bind dxV = R
    cases R <;> rfl
theorem us_T : ∀ t, t < 72 → gTy t = true → usO (cT t) = if isO t = true ∧ t % 8 ≠ 3 then 0 else 1 := by decide +kernel
theorem iso_T : ∀ t, t < 72 → gTy t = true → ((c_so (cT t) = 5 ∧ c_cp (cT t) = 0) ↔ (isO t = true ∧ t % 8 = 0)) := by decide +kernel
/-- the reference's right to use it from outside: what 348 asks -/
theorem rm8 {t : Nat} (ht : gTy t = true) (o : isO t = true) : rTp t - rTp t / 8 * 8 = Int32.ofNat (t % 8) ∧ t % 8 < 5 := by
  have t8 : 8 ≤ t ∧ t % 8 < 5 := by
    unfold isO at o
    simp at o
    exact o
  have m1 := (t_all3 t (gTy_lt ht) ht t8.1).1
  rw [if_neg (show ¬ t % 8 = 6 by omega)] at m1
  exact ⟨m1, t8.2⟩
/-- the reference looks a name up to use it -/
def s8R (s : rS) (n sl : Nat) (cs : Bool) : rS := if cs = true then rs_w (rs_w (rs_w (rs_wA s 53 n (Int32.ofNat sl)) 61 0) 60 0) 64 (s.1 64 ||| bt sl) else rs_w (rs_w (rs_wA s 53 n (Int32.ofNat sl)) 61 0) 60 2
theorem r_348 {t : Nat} {cs : Bool} (hs : s.1 57 = 0) (hn : n < 4400) (lk : ∀ k2, rM w (k2 + 1) 349 [.ref 36, .long (s.2.2 56 n)] s = some (some (.int (Int32.ofNat i)), s)) (hi : i < 16) (r83 : s.2.1 83 i = Int32.ofNat X.2.1) (r84 : s.2.1 84 i = rTp t) (ht : gTy t = true) : rM w (k + 3) 348 [.ref 36, .int (Int32.ofNat n), .int (rd_01 cs)] s = if s.1 64 &&& bt X.2.1 = 0 then (if mx_f2 .ge (s.2.1 85 i) (s.1 63) = true ∨ ¬ (isO t = true ∧ t % 8 ≠ 3 ∧ ¬ (cs = true ∧ t % 8 = 0)) then some (some (.int (rTp t)), s8R s n X.2.1 cs) else some (some (.int (-1)), rfS s 6 (s.2.1 51 n))) else some (some (.int (-1)), rfS s 7 (s.2.1 51 n)) := by
  have g51 : rs_aI s 51 (Int32.ofNat n) = some (s.2.1 51 n) := aI_at (by decide) rfl hn (by decide)
  have g83 : rs_aI s 83 (Int32.ofNat i) = some (Int32.ofNat X.2.1) := (aI_at (by decide) rfl hi (by decide)).trans (by rw [r83])
  have g84 : rs_aI s 84 (Int32.ofNat i) = some (rTp t) := (aI_at (by decide) rfl hi (by decide)).trans (by rw [r84])
  have g85 : rs_aI s 85 (Int32.ofNat i) = some (s.2.1 85 i) := aI_at (by decide) rfl hi (by decide)
  have f136 : s348_136 (rM w (k + 2)) w (Int32.ofNat n) (rd_01 cs) (Int32.ofNat i) (bt X.2.1) (rTp t) s = some (some (.int (rTp t)), s8R s n X.2.1 cs) := by
    unfold s348_136
    refine bsq g83 (bsq (sI_at (i := n) (by decide) rfl hn (by decide)) (bsq (a := rs_w (rs_wA s 53 n (Int32.ofNat X.2.1)) 61 0) rfl ?_))
    unfold s8R
    cases cs with
    | true =>
      refine inq (by decide) ?_
      unfold s348_163
      refine bsq (a := rs_w (rs_w (rs_wA s 53 n (Int32.ofNat X.2.1)) 61 0) 60 0) rfl (inq (by decide) (bsq (a := rs_w (rs_w (rs_w (rs_wA s 53 n (Int32.ofNat X.2.1)) 61 0) 60 0) 64 (s.1 64 ||| bt X.2.1)) ?_ rfl))
      rw [show (rs_w (rs_w (rs_wA s 53 n (Int32.ofNat X.2.1)) 61 0) 60 0).1 64 = s.1 64 from by rw [w_ne _ _ (by decide), w_ne _ _ (by decide)]; rfl]
      rfl
    | false =>
      refine itq (by decide) ?_
      unfold s348_163
      exact bsq (a := rs_w (rs_w (rs_wA s 53 n (Int32.ofNat X.2.1)) 61 0) 60 2) rfl (itq (by decide) rfl)
  have f103 : ∀ (s0' : Int32), (mx_f1 .ne s0' = true ↔ ¬ (isO t = true ∧ t % 8 ≠ 3 ∧ ¬ (cs = true ∧ t % 8 = 0))) → s348_103 (rM w (k + 2)) w (Int32.ofNat n) (rd_01 cs) (Int32.ofNat i) (bt X.2.1) (rTp t) s0' s = if mx_f2 .ge (s.2.1 85 i) (s.1 63) = true ∨ ¬ (isO t = true ∧ t % 8 ≠ 3 ∧ ¬ (cs = true ∧ t % 8 = 0)) then some (some (.int (rTp t)), s8R s n X.2.1 cs) else some (some (.int (-1)), rfS s 6 (s.2.1 51 n)) := by
    intro s0' hQ
    unfold s348_103
    refine bsq g85 ?_
    by_cases q1 : mx_f2 .ge (s.2.1 85 i) (s.1 63) = true
    · rw [if_pos q1, if_pos (Or.inl q1)]
      exact f136
    · rw [if_neg q1]
      by_cases q2 : ¬ (isO t = true ∧ t % 8 ≠ 3 ∧ ¬ (cs = true ∧ t % 8 = 0))
      · rw [if_pos (hQ.mpr q2), if_pos (Or.inr q2)]
        exact f136
      · rw [if_neg (fun z => q2 (hQ.mp z)), if_neg (fun z => z.elim q1 q2)]
        exact bsq g51 (bsq (a := (-1, rfS s 6 (s.2.1 51 n))) (by rw [r_347 hs]; rfl) rfl)
  rw [y348]
  show s348_0 (rM w (k + 2)) w (Int32.ofNat n) (rd_01 cs) s = _
  unfold s348_0
  refine bsq (aJ_at (i := n) (by decide) rfl hn (by decide)) (bsq (a := (Int32.ofNat i, s)) (by rw [lk (k + 1)]; rfl) ?_)
  rw [if_pos (show mx_f2 .ne (Int32.ofNat i) (-1) = true by rw [f2_ne]; exact decide_eq_true (ofN_m1 hi))]
  refine bsq g83 ?_
  show (if mx_f1 .eq ((s.1 64) &&& bt X.2.1) = true then _ else _) = _
  by_cases g0 : s.1 64 &&& bt X.2.1 = 0
  · rw [if_pos (show mx_f1 .eq ((s.1 64) &&& bt X.2.1) = true from decide_eq_true g0), if_pos g0]
    refine bsq g84 ?_
    have o2 : isO t = true ∨ isO t = false := by cases isO t <;> simp
    rcases o2 with o | o
    · obtain ⟨m1, m5⟩ := rm8 ht o
      have n3 : mx_f2 .eq (Int32.ofNat (t % 8)) 3 = decide (t % 8 = 3) ∧ mx_f1 .ne (Int32.ofNat (t % 8)) = decide (¬ t % 8 = 0) := by
        have q : ∀ c, c < 5 → mx_f2 .eq (Int32.ofNat c) 3 = decide (c = 3) ∧ mx_f1 .ne (Int32.ofNat c) = decide (¬ c = 0) := by decide +kernel
        exact q _ m5
      refine bsq (a := (rd_01 true, s)) (by rw [r_333b, clR_T t (gTy_lt ht) ht, o]; rfl) (inq (show ¬ mx_f1 .eq (rd_01 true) = true by decide) ?_)
      rw [m1, n3.1]
      by_cases d3 : t % 8 = 3
      · rw [if_pos (decide_eq_true d3)]
        exact f103 1 ⟨fun _ z => z.2.1 d3, fun _ => by decide⟩
      · rw [if_neg (fun z => d3 (of_decide_eq_true z))]
        have cc : cs = true ∨ cs = false := by cases cs <;> simp
        rcases cc with cc | cc
        · rw [if_neg (show ¬ mx_f1 .eq (rd_01 cs) = true by rw [cc]; decide), n3.2]
          by_cases d0 : t % 8 = 0
          · rw [if_neg (fun z => (of_decide_eq_true z) d0)]
            exact f103 1 ⟨fun _ z => z.2.2 ⟨cc, d0⟩, fun _ => by decide⟩
          · rw [if_pos (decide_eq_true d0)]
            exact f103 0 ⟨fun z => absurd z (by decide), fun z => absurd ⟨o, d3, fun q => d0 q.2⟩ z⟩
        · rw [if_pos (show mx_f1 .eq (rd_01 cs) = true by rw [cc]; decide)]
          exact f103 0 ⟨fun z => absurd z (by decide), fun z => absurd ⟨o, d3, fun q => by rw [cc] at q; exact absurd q.1 (by decide)⟩ z⟩
    · refine bsq (a := (rd_01 false, s)) (by rw [r_333b, clR_T t (gTy_lt ht) ht, o]; rfl) (itq (show mx_f1 .eq (rd_01 false) = true by decide) ?_)
      exact f103 1 ⟨fun _ z => by rw [o] at z; exact absurd z.1 (by decide), fun _ => by decide⟩
  · rw [if_neg (show ¬ mx_f1 .eq ((s.1 64) &&& bt X.2.1) = true from fun z => g0 (of_decide_eq_true z)), if_neg g0]
    exact bsq g51 (bsq (a := (-1, rfS s 7 (s.2.1 51 n))) (by rw [r_347 hs]; rfl) rfl)
theorem r_348n {cs : Bool} (hs : s.1 57 = 0) (hn : n < 4400) (lk : ∀ k2, rM w (k2 + 1) 349 [.ref 36, .long (s.2.2 56 n)] s = some (some (.int (-1)), s)) : rM w (k + 3) 348 [.ref 36, .int (Int32.ofNat n), .int (rd_01 cs)] s = some (some (.int (-1)), rfS s 3 (s.2.1 51 n)) := by
  rw [y348]
  show s348_0 (rM w (k + 2)) w (Int32.ofNat n) (rd_01 cs) s = _
  unfold s348_0
  refine bsq (aJ_at (i := n) (by decide) rfl hn (by decide)) (bsq (a := (-1, s)) (by rw [lk (k + 1)]; rfl) ?_)
  exact inq (show ¬ mx_f2 .ne (-1 : Int32) (-1) = true by decide) (bsq (aI_at (i := n) (by decide) rfl hn (by decide)) (bsq (a := (-1, rfS s 3 (s.2.1 51 n))) (by rw [r_347 hs]; rfl) rfl))
end JNM
