/-! THE CLASS'S PARSER: skip, take, atCap, atOperator over the reader. -/
/-- the parser at ps, over the reader at r and the program at pg -/
def pP (h : rm_H) (ps r pg : Nat) : Prop := 21 ≤ ps ∧ ps ≠ r ∧ h[ps - 21]? = some (.inr (8, [.ref r, .ref pg]))
/-- what take of token x does to the reader -/
def tkV (n : Nat) (A B : Nat → Int32) (x : Int32) (v : Nat → Int32) : Nat → Int32 := if v 6 = x then adV n A B v else rfV v
def skV (n : Nat) (A B : Nat → Int32) (x : Int32) (v : Nat → Int32) : Nat → Int32 := if v 6 = x then adV n A B v else v
section PT
variable {L : Nat} {xs : Nat → Int32} {zf : Value} {w k : Nat} {h : rm_H}
theorem pP_r {ps r pg : Nat} (hp : pP h ps r pg) : dgR L xs h 0 [8] (some ps) = some (some r) := gR_of hp.1 hp.2.2 (by decide) rfl
theorem pP_f {ps r pg : Nat} {h' : rm_H} (hp : pP h ps r pg) (hr : 21 ≤ r) (hf : fR r h h') : pP h' ps r pg := ⟨hp.1, hp.2.1, by rw [hf.2.2 (ps - 21) (by have := hp.2.1; have := hp.1; omega)]; exact hp.2.2⟩
theorem rP_v {r t a tk pl en n mi : Nat} {f v A B C : Nat → Int32} {D : dD} {As : List Value} (hP : rP h r t a tk pl en n f v A B C) : dcV L xs D mi [6] (some r) As h = D mi (.ref r :: As) h := rd_v (rP_rD hP)
theorem pt_take {ps r pg t a tk pl en n : Nat} {f v A B C : Nat → Int32} (hp : pP h ps r pg) (hP : rP h r t a tk pl en n f v A B C) (h4 : (v 4).toInt ≤ n) (x : Int32) : ∃ h', dM L xs zf w (k + 4) 109 [.ref ps, .int x] h = some (none, h') ∧ rP h' r t a tk pl en n f (tkV n A B x v) A B C ∧ fR r h h' := by
  rw [e109]
  show ∃ h', b109_0 L xs zf (dM L xs zf w (k + 3)) w (some ps) x h = some (none, h') ∧ _
  unfold b109_0 tkV
  by_cases c : v 6 = x
  · rw [if_pos c]
    obtain ⟨h', a1, a2, a3⟩ := rp_adv (L := L) (xs := xs) (zf := zf) (w := w) (k := k) hP h4
    refine ⟨h', ?_, a2, a3⟩
    refine bse (pP_r hp) (bse (rp_I hP 6 (by omega)) (ifn (show ¬ mx_f2 .ne (v 6) x = true by rw [f2_ne]; simp [c]) (bse (pP_r hp) (bse (a := h') ?_ rfl))))
    rw [rP_v hP, a1]
    rfl
  · rw [if_neg c]
    obtain ⟨h', a1, a2, a3⟩ := rp_ref (L := L) (xs := xs) (zf := zf) (w := w) (k := k + 2) hP
    refine ⟨h', ?_, a2, a3⟩
    refine bse (pP_r hp) (bse (rp_I hP 6 (by omega)) (ift (show mx_f2 .ne (v 6) x = true by rw [f2_ne]; simp [c]) (bse (pP_r hp) (bse (a := h') ?_ rfl))))
    rw [rP_v hP, a1]
    rfl
theorem pt_skip {ps r pg t a tk pl en n : Nat} {f v A B C : Nat → Int32} (hp : pP h ps r pg) (hP : rP h r t a tk pl en n f v A B C) (h4 : (v 4).toInt ≤ n) (x : Int32) : ∃ h', dM L xs zf w (k + 4) 118 [.ref ps, .int x] h = some (some (.int (rd_01 (decide (v 6 = x)))), h') ∧ rP h' r t a tk pl en n f (skV n A B x v) A B C ∧ fR r h h' := by
  rw [e118]
  show ∃ h', b118_0 L xs zf (dM L xs zf w (k + 3)) w (some ps) x h = some (some (.int (rd_01 (decide (v 6 = x)))), h') ∧ _
  unfold b118_0 skV
  by_cases c : v 6 = x
  · rw [if_pos c, decide_eq_true c]
    obtain ⟨h', a1, a2, a3⟩ := rp_adv (L := L) (xs := xs) (zf := zf) (w := w) (k := k) hP h4
    refine ⟨h', ?_, a2, a3⟩
    refine bse (pP_r hp) (bse (rp_I hP 6 (by omega)) (ift (show mx_f2 .eq (v 6) x = true from decide_eq_true c) (bse (pP_r hp) (bse (a := h') ?_ rfl))))
    rw [rP_v hP, a1]
    rfl
  · rw [if_neg c, decide_eq_false c]
    exact ⟨h, bse (pP_r hp) (bse (rp_I hP 6 (by omega)) (ifn (show ¬ mx_f2 .eq (v 6) x = true from fun z => c (of_decide_eq_true z)) rfl)), hP, rfl, rfl, fun _ _ => rfl⟩
theorem pt_cap {r t a tk pl en n : Nat} {f v A B C : Nat → Int32} (hP : rP h r t a tk pl en n f v A B C) : dM L xs zf w (k + 1) 114 [.ref r] h = some (some (.int (rd_01 (decide (38 ≤ (v 6).toInt ∧ (v 6).toInt < 43)))), h) := by
  rw [e114]
  show b114_0 L xs zf (dM L xs zf w k) w (some r) h = _
  unfold b114_0
  refine bse (rp_I hP 6 (by omega)) ?_
  have k38 : (38 : Int32).toInt = 38 := by decide
  have k43 : (43 : Int32).toInt = 43 := by decide
  by_cases c : (v 6).toInt < 38
  · rw [decide_eq_false (by omega)]
    exact ift (show mx_f2 .lt (v 6) 38 = true by rw [f2_lt, k38]; simp [c]) rfl
  refine ifn (show ¬ mx_f2 .lt (v 6) 38 = true by rw [f2_lt, k38]; simp; omega) (bse (rp_I hP 6 (by omega)) ?_)
  by_cases d : 43 ≤ (v 6).toInt
  · rw [decide_eq_false (by omega)]
    exact ift (show mx_f2 .ge (v 6) 43 = true by rw [f2_ge, k43]; simp [d]) rfl
  · rw [decide_eq_true (by omega)]
    exact ifn (show ¬ mx_f2 .ge (v 6) 43 = true by rw [f2_ge, k43]; simp; omega) rfl
theorem pt_op {r t a tk pl en n : Nat} {f v A B C : Nat → Int32} (hP : rP h r t a tk pl en n f v A B C) : dM L xs zf w (k + 1) 138 [.ref r] h = some (some (.int (rd_01 (decide (15 ≤ (v 6).toInt ∧ (v 6).toInt ≤ 19)))), h) := by
  rw [e138]
  show b138_0 L xs zf (dM L xs zf w k) w (some r) h = _
  unfold b138_0
  refine bse (rp_I hP 6 (by omega)) ?_
  have k15 : (15 : Int32).toInt = 15 := by decide
  have k19 : (19 : Int32).toInt = 19 := by decide
  by_cases c : (v 6).toInt < 15
  · rw [decide_eq_false (by omega)]
    exact ift (show mx_f2 .lt (v 6) 15 = true by rw [f2_lt, k15]; simp [c]) rfl
  refine ifn (show ¬ mx_f2 .lt (v 6) 15 = true by rw [f2_lt, k15]; simp; omega) (bse (rp_I hP 6 (by omega)) ?_)
  by_cases d : 19 < (v 6).toInt
  · rw [decide_eq_false (by omega)]
    exact ift (show mx_f2 .gt (v 6) 19 = true by rw [f2_gt, k19]; simp [d]) rfl
  · rw [decide_eq_true (by omega)]
    exact ifn (show ¬ mx_f2 .gt (v 6) 19 = true by rw [f2_gt, k19]; simp; omega) rfl
end PT
