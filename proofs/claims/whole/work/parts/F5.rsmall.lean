/-! THE REFERENCE'S SMALL CHECKS on types by number. -/
/-- the fault is noted, if there is one -/
def rzS (s : rS) (x y : Int32) : rS := if x = 0 then s else rfS s x y
theorem lk_01 : ∀ i, i < 5 → ∀ j, j < 5 → lkV 1 (Int32.ofNat i) (Int32.ofNat j) = 0 ∨ lkV 1 (Int32.ofNat i) (Int32.ofNat j) = 1 := by decide +kernel
theorem lk_02 : ∀ i, i < 5 → ∀ j, j < 5 → lkV 2 (Int32.ofNat i) (Int32.ofNat j) = 0 ∨ lkV 2 (Int32.ofNat i) (Int32.ofNat j) = 1 := by decide +kernel
theorem lk_cp : ∀ q, q = 3 ∨ q = 4 → ∀ i, i < 5 → ∀ j, j < 5 → lkV q (Int32.ofNat i) (Int32.ofNat j) = -1 ∨ ∃ c, c < 5 ∧ lkV q (Int32.ofNat i) (Int32.ofNat j) = Int32.ofNat c := by
  intro q hq
  rcases hq with e | e <;> subst e <;> decide +kernel
theorem clR_T : ∀ t, t < 72 → gTy t = true → clR (rTp t) = isO t := by decide +kernel
theorem rTp_1 : ∀ t, t < 72 → gTy t = true → (rTp t = -1 ↔ t = 0) ∧ (rTp t = 0 ↔ t = 1) ∧ (rTp t = 1 ↔ t = 2) := by decide +kernel
theorem niC_T : ∀ t, t < 72 → gTy t = true → niC (cT t) = if t = 1 then 0 else if t = 0 then 8 else 5 := by decide +kernel
theorem vl_T1 : ∀ W, W < 14 → ∀ t, t < 72 → gTy t = true → vlX (cT t) (Int32.ofNat W) = (vlF (isPl (Int32.ofNat W)) t).1 := by decide +kernel
theorem vl_T2 : ∀ W, W < 14 → ∀ t, t < 72 → gTy t = true → (vlF (isPl (Int32.ofNat W)) t).1 = 0 → vlT (cT t) (Int32.ofNat W) = cT (vlF (isPl (Int32.ofNat W)) t).2 := by decide +kernel
theorem vl_T3 : ∀ t, t < 72 → gTy t = true → ∀ pl, (vlF pl t).1 = 0 → gTy (vlF pl t).2 = true ∧ (vlF pl t).2 % 8 ≠ 6 ∧ (vlF pl t).2 ≠ 0 := by decide +kernel
def rvR (t : Nat) : Int32 := if isO t = true then (if t % 8 = 1 then (rTp t - 1) + 4 else rTp t) else rTp t
theorem rv_T : ∀ t, t < 72 → gTy t = true → t ≠ 0 → (isO t = true → t % 8 ≠ 0) → rvR t = rTp (vlF true t).2 ∧ rTp t = rTp (vlF false t).2 := by decide +kernel
theorem vl_0 : ∀ t, t < 72 → gTy t = true → ∀ pl, (vlF pl t).1 = 0 ∨ (vlF pl t).1 = 8 ∧ t = 0 ∨ (vlF pl t).1 = 6 ∧ pl = true ∧ isO t = true ∧ t % 8 = 0 := by decide +kernel
section RSM
variable {w k : Nat} {s : rS} {x y : Int32}
theorem r_333b (x : Int32) : rM w (k + 1) 333 [.int x] s = some (some (.int (rd_01 (clR x))), s) := by
  rw [y333]
  show s333_0 (rM w k) w x s = _
  unfold s333_0 clR
  cases c1 : mx_f2 .lt x 8 with
  | true => rfl
  | false =>
    cases c2 : mx_f2 .ge (x - x / 8 * 8) 5 with
    | true => rfl
    | false => rfl
def acR (x : Int32) : Bool := ! mx_f2 .lt x 8 && ! mx_f2 .ne (x - x / 8 * 8) 5
theorem r_332b (x : Int32) : rM w (k + 1) 332 [.int x] s = some (some (.int (rd_01 (acR x))), s) := by
  rw [y332]
  show s332_0 (rM w k) w x s = _
  unfold s332_0 acR
  cases c1 : mx_f2 .lt x 8 with
  | true => rfl
  | false =>
    cases c2 : mx_f2 .ne (x - x / 8 * 8) 5 with
    | true => rfl
    | false => rfl
theorem acR_T : ∀ t, t < 72 → gTy t = true → acR (rTp t) = decide (8 ≤ t ∧ 5 ≤ t % 8) := by decide +kernel
theorem sd_T : ∀ t, t < 72 → gTy t = true → ((rTp t = 0 ∨ acR (rTp t) = true ∨ (clR (rTp t) = true ∧ (rTp t - rTp t / 8 * 8 = 0 ∨ rTp t - rTp t / 8 * 8 = 3))) ↔ (t = 1 ∨ (8 ≤ t ∧ (5 ≤ t % 8 ∨ t % 8 = 0 ∨ t % 8 = 3)))) := by decide +kernel
theorem r_331 (x : Int32) : rM w (k + 2) 331 [.int x] s = some (some (.int (if x = 0 ∨ acR x = true ∨ (clR x = true ∧ (x - x / 8 * 8 = 0 ∨ x - x / 8 * 8 = 3)) then 1 else 0)), s) := by
  rw [y331]
  show s331_0 (rM w (k + 1)) w x s = _
  unfold s331_0
  by_cases c0 : x = 0
  · rw [if_pos (show mx_f1 .eq x = true from decide_eq_true c0), if_pos (Or.inl c0)]
    rfl
  · rw [if_neg (show ¬ mx_f1 .eq x = true from fun z => c0 (of_decide_eq_true z)), r_332b]
    show (if mx_f1 .ne (rd_01 (acR x)) = true then _ else _) = _
    cases c1 : acR x with
    | true =>
      rw [if_pos (show mx_f1 .ne (rd_01 true) = true by decide), if_pos (Or.inr (Or.inl rfl))]
      rfl
    | false =>
      rw [if_neg (show ¬ mx_f1 .ne (rd_01 false) = true by decide), r_333b]
      show (if mx_f1 .eq (rd_01 (clR x)) = true then _ else _) = _
      cases c2 : clR x with
      | false =>
        rw [if_pos (show mx_f1 .eq (rd_01 false) = true by decide), if_neg (fun z => by rcases z with z | z | z; exact c0 z; cases z; exact absurd z.1 (by decide))]
        rfl
      | true =>
        rw [if_neg (show ¬ mx_f1 .eq (rd_01 true) = true by decide)]
        by_cases c3 : x - x / 8 * 8 = 0
        · rw [if_pos (show mx_f1 .eq (x - x / 8 * 8) = true from decide_eq_true c3), if_pos (Or.inr (Or.inr ⟨rfl, Or.inl c3⟩))]
          rfl
        · rw [if_neg (show ¬ mx_f1 .eq (x - x / 8 * 8) = true from fun z => c3 (of_decide_eq_true z))]
          by_cases c4 : x - x / 8 * 8 = 3
          · rw [if_neg (show ¬ mx_f2 .ne (x - x / 8 * 8) 3 = true by rw [f2_ne, c4]; decide), if_pos (Or.inr (Or.inr ⟨rfl, Or.inr c4⟩))]
            rfl
          · rw [if_pos (show mx_f2 .ne (x - x / 8 * 8) 3 = true by rw [f2_ne]; exact decide_eq_true c4), if_neg (fun z => by rcases z with z | z | ⟨_, z | z⟩; exact c0 z; cases z; exact c3 z; exact c4 z)]
            rfl
/-- fits -/
theorem r_353 {e t q : Nat} (hs : s.1 57 = 0) (he : e < 4400) (ht : gTy t = true) (h6 : t % 8 ≠ 6) (hq : dTy q = true) : rM w (k + 3) 353 [.ref 36, .int (Int32.ofNat e), .int (rTp t), .int (rTp q)] s = some (some (.int (if fitC (cT t) (cT q) = 0 then 1 else 0)), rzS s (fitC (cT t) (cT q)) (s.2.1 50 e)) := by
  rw [← fit_all t (gTy_lt ht) ht h6 q (gTy_lt (dTy_g hq)) hq]
  have c1 := clR_T t (gTy_lt ht) ht
  have c2 := clR_T q (gTy_lt (dTy_g hq)) (dTy_g hq)
  have g50 : rs_aI s 50 (Int32.ofNat e) = some (s.2.1 50 e) := aI_at (by decide) rfl he (by decide)
  have yes : ∀ i4 : Int32, s353_81 (rM w (k + 2)) w (Int32.ofNat e) i4 1 s = some (some (.int 1), s) := fun _ => rfl
  have no0 : s353_81 (rM w (k + 2)) w (Int32.ofNat e) 0 0 s = some (some (.int 0), rfS s 5 (s.2.1 50 e)) := by
    unfold s353_81 s353_100
    exact inq (by decide) (itq (by decide) (bsq g50 (bsq (a := rfS s 5 (s.2.1 50 e)) (by rw [r_305 hs]; rfl) rfl)))
  have no1 : s353_81 (rM w (k + 2)) w (Int32.ofNat e) 1 0 s = some (some (.int 0), rfS s 6 (s.2.1 50 e)) := by
    unfold s353_81 s353_100
    exact inq (by decide) (inq (by decide) (bsq g50 (bsq (a := rfS s 6 (s.2.1 50 e)) (by rw [r_305 hs]; rfl) rfl)))
  -- no two objects of one kind
  have f38 : (isO t && isO q && decide (rTp t / 8 = rTp q / 8)) = false → s353_38 (rM w (k + 2)) w (Int32.ofNat e) (rTp t) (rTp q) s = some (some (.int (if fitR (rTp t) (rTp q) = 0 then 1 else 0)), rzS s (fitR (rTp t) (rTp q)) (s.2.1 50 e)) := by
    intro hc
    have ef : fitR (rTp t) (rTp q) = if rTp t = rTp q then 0 else if rTp t = 1 then (if mx_f2 .lt (rTp q) 8 = true then 5 else 0) else 5 := by
      unfold fitR
      rw [c1, c2, if_neg (by rw [hc]; decide)]
    rw [ef]
    unfold s353_38 s353_39
    refine itq (by decide) ?_
    by_cases d1 : rTp t = rTp q
    · rw [if_pos (show mx_f2 .eq (rTp t) (rTp q) = true from decide_eq_true d1), if_pos d1]
      exact yes 0
    · rw [if_neg (show ¬ mx_f2 .eq (rTp t) (rTp q) = true from fun z => d1 (of_decide_eq_true z)), if_neg d1]
      by_cases d2 : rTp t = 1
      · rw [if_neg (show ¬ mx_f2 .ne (rTp t) 1 = true by rw [f2_ne, d2]; decide), if_pos d2]
        by_cases d3 : mx_f2 .lt (rTp q) 8 = true
        · rw [if_pos d3, if_pos d3]
          exact no0
        · rw [if_neg d3, if_neg d3]
          exact yes 0
      · rw [if_pos (show mx_f2 .ne (rTp t) 1 = true by rw [f2_ne]; exact decide_eq_true d2), if_neg d2]
        exact no0
  rw [y353]
  show s353_0 (rM w (k + 2)) w (Int32.ofNat e) (rTp t) (rTp q) s = _
  unfold s353_0
  refine itq (by rw [hs]; decide) (bsq (a := (rd_01 (isO t), s)) (by rw [r_333b, c1]; rfl) ?_)
  cases o1 : isO t with
  | false =>
    exact itq (show mx_f1 .eq (rd_01 false) = true by decide) (f38 (by rw [o1]; rfl))
  | true =>
    refine inq (show ¬ mx_f1 .eq (rd_01 true) = true by decide) (bsq (a := (rd_01 (isO q), s)) (by rw [r_333b, c2]; rfl) ?_)
    cases o2 : isO q with
    | false => exact itq (show mx_f1 .eq (rd_01 false) = true by decide) (f38 (by rw [o1, o2]; rfl))
    | true =>
      refine inq (show ¬ mx_f1 .eq (rd_01 true) = true by decide) ?_
      by_cases d : rTp t / 8 = rTp q / 8
      · rw [if_neg (show ¬ mx_f2 .ne (rTp t / 8) (rTp q / 8) = true by rw [f2_ne, d]; simp)]
        have t8 : 8 ≤ t ∧ t % 8 < 5 := by
          unfold isO at o1
          simp at o1
          exact o1
        have q8 : 8 ≤ q ∧ q % 8 < 5 := by
          unfold isO at o2
          simp at o2
          exact o2
        have m1 := (t_all3 t (gTy_lt ht) ht t8.1).1
        have m2 := (t_all3 q (gTy_lt (dTy_g hq)) (dTy_g hq) q8.1).1
        rw [if_neg (show ¬ t % 8 = 6 by omega)] at m1
        rw [if_neg (show ¬ q % 8 = 6 by omega)] at m2
        have ef : fitR (rTp t) (rTp q) = if lkV 1 (Int32.ofNat (t % 8)) (Int32.ofNat (q % 8)) = 0 then 6 else 0 := by
          unfold fitR
          rw [c1, c2, o1, o2, m1, m2, d, if_pos (by simp)]
        rw [ef]
        unfold s353_39
        refine inq (by decide) (bsq (a := (lkV 1 (Int32.ofNat (t % 8)) (Int32.ofNat (q % 8)), s)) (by rw [m1, m2, r_290 t8.2 q8.2]; rfl) ?_)
        rcases lk_01 _ t8.2 _ q8.2 with z | z
        · rw [z]
          exact no1
        · rw [z]
          exact yes 1
      · rw [if_pos (show mx_f2 .ne (rTp t / 8) (rTp q / 8) = true by rw [f2_ne]; exact decide_eq_true d)]
        exact f38 (by rw [decide_eq_false d]; simp)
/-- int is asked for -/
theorem r_367 {e t : Nat} (hs : s.1 57 = 0) (he : e < 4400) (ht : gTy t = true) : rM w (k + 3) 367 [.ref 36, .int (Int32.ofNat e), .int (rTp t)] s = some (none, rzS s (niC (cT t)) (s.2.1 50 e)) := by
  obtain ⟨z1, z2, _⟩ := rTp_1 t (gTy_lt ht) ht
  rw [niC_T t (gTy_lt ht) ht, y367]
  show s367_0 (rM w (k + 2)) w (Int32.ofNat e) (rTp t) s = _
  unfold s367_0
  have g50 : rs_aI s 50 (Int32.ofNat e) = some (s.2.1 50 e) := aI_at (by decide) rfl he (by decide)
  have r := r_350 (w := w) (k := k) hs he (rTp t)
  by_cases c0 : t = 0
  · rw [if_pos (z1.mpr c0), if_pos (z1.mpr c0)] at r
    rw [if_neg (by omega), if_pos c0]
    exact bsq (a := (0, rfS s 8 (s.2.1 50 e))) (by rw [r]; rfl) (itq (show mx_f1 .eq (0 : Int32) = true by decide) rfl)
  · rw [if_neg (fun z => c0 (z1.mp z)), if_neg (fun z => c0 (z1.mp z))] at r
    refine bsq (a := (1, s)) (by rw [r]; rfl) (inq (show ¬ mx_f1 .eq (1 : Int32) = true by decide) ?_)
    by_cases c1 : t = 1
    · rw [if_pos c1, if_pos (show mx_f1 .eq (rTp t) = true from decide_eq_true (z2.mpr c1))]
      rfl
    · rw [if_neg c1, if_neg c0, if_neg (show ¬ mx_f1 .eq (rTp t) = true from fun z => c1 (z2.mp (of_decide_eq_true z)))]
      exact bsq g50 (bsq (a := rfS s 5 (s.2.1 50 e)) (by rw [r_305 hs]; rfl) rfl)
/-- a value: behind the expression -/
theorem r_338 {n t : Nat} {s1 : rS} (hn : n < 4400) (r : rM w (k + 2) 339 [.ref 36, .int (Int32.ofNat n)] s = some (some (.int (rTp t)), s1)) (hs : s1.1 57 = 0) (ht : gTy t = true) {pl : Bool} (h60 : s1.1 60 = 0 ↔ pl = false) : ∃ r', rM w (k + 3) 338 [.ref 36, .int (Int32.ofNat n)] s = some (some (.int r'), rzS s1 (vlF pl t).1 (s1.2.1 50 n)) ∧ ((vlF pl t).1 = 0 → r' = rTp (vlF pl t).2) := by
  obtain ⟨z1, z2, _⟩ := rTp_1 t (gTy_lt ht) ht
  have r5 := r_350 (w := w) (k := k) hs hn (rTp t)
  rw [y338]
  show ∃ r', s338_0 (rM w (k + 2)) w (Int32.ofNat n) s = _ ∧ _
  by_cases c0 : t = 0
  · subst c0
    refine ⟨-1, ?_, fun z => absurd z (by cases pl <;> decide)⟩
    rw [show (vlF pl 0).1 = 8 from by cases pl <;> rfl]
    unfold s338_0
    refine bsq (a := (rTp 0, s1)) (by rw [r]; rfl) (bsq (a := (0, rfS s1 8 (s1.2.1 50 n))) (by rw [r5]; rfl) (inq (show ¬ mx_f1 .ne (0 : Int32) = true by decide) rfl))
  · rw [if_neg (fun z => c0 (z1.mp z)), if_neg (fun z => c0 (z1.mp z))] at r5
    have pre : ∀ (v : Int32) (s2 : rS), (if mx_f1 .eq (s1.1 60) = true then s338_31 (rM w (k + 2)) w (rTp t) s1 else ((rM w (k + 2) 333 [.int (rTp t)] s1).bind rxI).bind fun x13 => if mx_f1 .ne x13.1 = true then if mx_f1 .ne (rTp t - rTp t / 8 * 8) = true then if mx_f2 .ne (rTp t - rTp t / 8 * 8) 1 = true then s338_70 (rM w (k + 2)) w (rTp t) x13.2 else s338_70 (rM w (k + 2)) w ((rTp t - 1) + 4) x13.2 else (rs_aI x13.2 50 (Int32.ofNat n)).bind fun x21 => ((rM w (k + 2) 347 [.ref 36, .int 6, .int x21] x13.2).bind rxI).bind fun x23 => rrI (some .int) x23.1 x23.2 else s338_31 (rM w (k + 2)) w (rTp t) x13.2) = some (some (.int v), s2) → s338_0 (rM w (k + 2)) w (Int32.ofNat n) s = some (some (.int v), s2) := by
      intro v s2 q
      unfold s338_0
      exact bsq (a := (rTp t, s1)) (by rw [r]; rfl) (bsq (a := (1, s1)) (by rw [r5]; rfl) (itq (show mx_f1 .ne (1 : Int32) = true by decide) q))
    have rv := rv_T t (gTy_lt ht) ht c0
    cases pl with
    | false =>
      have f1 : (vlF false t).1 = 0 := by
        rcases vl_0 t (gTy_lt ht) ht false with z | ⟨_, z⟩ | ⟨_, z, _⟩
        · exact z
        · exact absurd z c0
        · cases z
      refine ⟨rTp t, pre _ _ ?_, fun _ => ?_⟩
      · rw [f1]
        exact itq (decide_eq_true (h60.mpr rfl)) rfl
      · by_cases oo : isO t = true → t % 8 ≠ 0
        · exact (rv oo).2
        · have : isO t = true ∧ t % 8 = 0 := by
            by_cases q1 : isO t = true
            · exact ⟨q1, by by_cases q2 : t % 8 = 0; exact q2; exact absurd (fun _ => q2) oo⟩
            · exact absurd (fun z => absurd z q1) oo
          have : (vlF false t).2 = t := by
            have t8 : 8 ≤ t := by
              have := this.1
              unfold isO at this
              simp at this
              exact this.1
            unfold vlF
            rw [if_neg c0, if_neg (by omega), if_neg (by simp)]
          rw [this]
    | true =>
      have n60 : ¬ mx_f1 .eq (s1.1 60) = true := fun z => by
        have := h60.mp (of_decide_eq_true z)
        cases this
      have r3 : (rM w (k + 2) 333 [.int (rTp t)] s1).bind rxI = some (rd_01 (isO t), s1) := by
        rw [r_333b, clR_T t (gTy_lt ht) ht]
        rfl
      cases o1 : isO t with
      | false =>
        rw [o1] at r3
        have f1 : (vlF true t).1 = 0 := by
          rcases vl_0 t (gTy_lt ht) ht true with z | ⟨_, z⟩ | ⟨_, _, z, _⟩
          · exact z
          · exact absurd z c0
          · rw [o1] at z; cases z
        refine ⟨rTp t, pre _ _ ?_, fun _ => ?_⟩
        · rw [f1]
          exact inq n60 (bsq r3 (inq (show ¬ mx_f1 .ne (rd_01 false) = true by decide) rfl))
        · have := (rv (fun z => by rw [o1] at z; cases z)).1
          unfold rvR at this
          rw [o1, if_neg (by decide)] at this
          exact this
      | true =>
        rw [o1] at r3
        have t8 : 8 ≤ t ∧ t % 8 < 5 := by
          unfold isO at o1
          simp at o1
          exact o1
        have m1 := (t_all3 t (gTy_lt ht) ht t8.1).1
        rw [if_neg (show ¬ t % 8 = 6 by omega)] at m1
        have q1 : ∀ c, c < 5 → mx_f1 .ne (Int32.ofNat c) = decide (¬ c = 0) ∧ mx_f2 .ne (Int32.ofNat c) 1 = decide (¬ c = 1) := by decide +kernel
        obtain ⟨q1, q2⟩ := q1 _ t8.2
        by_cases d0 : t % 8 = 0
        · have f1 : vlF true t = (6, t) := by
            unfold vlF
            rw [if_neg c0, if_neg (by omega), o1, if_pos (by rfl), if_pos d0]
          refine ⟨-1, pre _ _ ?_, fun z => by rw [f1] at z; exact absurd (show (6 : Int32) = 0 from z) (by decide)⟩
          rw [f1]
          refine inq n60 (bsq r3 (itq (show mx_f1 .ne (rd_01 true) = true by decide) (inq (by rw [m1, q1]; exact fun z => (of_decide_eq_true z) d0) ?_)))
          exact bsq (aI_at (i := n) (by decide) rfl hn (by decide)) (bsq (a := (-1, rfS s1 6 (s1.2.1 50 n))) (by rw [r_347 hs]; rfl) rfl)
        · have rv1 := (rv (fun _ => d0)).1
          unfold rvR at rv1
          rw [o1, if_pos rfl] at rv1
          by_cases d1 : t % 8 = 1
          · have f1 : (vlF true t).1 = 0 := by
              unfold vlF
              rw [if_neg c0, if_neg (by omega), o1, if_pos (by rfl), if_neg d0, if_pos d1]
            refine ⟨(rTp t - 1) + 4, pre _ _ ?_, fun _ => ?_⟩
            · rw [f1]
              exact inq n60 (bsq r3 (itq (show mx_f1 .ne (rd_01 true) = true by decide) (itq (by rw [m1, q1]; exact decide_eq_true d0) (inq (by rw [m1, q2]; exact fun z => (of_decide_eq_true z) d1) rfl))))
            · rw [if_pos d1] at rv1
              exact rv1
          · have f1 : (vlF true t).1 = 0 := by
              unfold vlF
              rw [if_neg c0, if_neg (by omega), o1, if_pos (by rfl), if_neg d0, if_neg d1]
            refine ⟨rTp t, pre _ _ ?_, fun _ => ?_⟩
            · rw [f1]
              exact inq n60 (bsq r3 (itq (show mx_f1 .ne (rd_01 true) = true by decide) (itq (by rw [m1, q1]; exact decide_eq_true d0) (itq (by rw [m1, q2]; exact decide_eq_true d1) rfl))))
            · rw [if_neg d1] at rv1
              exact rv1
end RSM
