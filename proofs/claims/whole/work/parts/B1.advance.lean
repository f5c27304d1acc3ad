/-! THE CLASS'S READER GOES ON: advance; skip, take of the parser. -/
section PS2
variable {L : Nat} {xs : Nat → Int32} {zf : Value} {w k : Nat} {h : rm_H}
theorem rp_R {r t a tk pl en n : Nat} {f v A B C : Nat → Int32} (hP : rP h r t a tk pl en n f v A B C) : dgR L xs h 1 [6] (some r) = some (some tk) ∧ dgR L xs h 2 [6] (some r) = some (some pl) ∧ dgR L xs h 3 [6] (some r) = some (some en) := by
  obtain ⟨⟨p1, p2, p3, p4, p5, p6⟩, nd, hn, h1, _⟩ := hP
  exact ⟨gR_of p1 h1 (by decide) rfl, gR_of p1 h1 (by decide) rfl, gR_of p1 h1 (by decide) rfl⟩
theorem rp_A {r t a tk pl en n : Nat} {f v A B C : Nat → Int32} (hP : rP h r t a tk pl en n f v A B C) (i : Int32) (h0 : 0 ≤ i.toInt) (h1 : i.toInt ≤ n) : daI L xs h (some tk) i = some (A i.toNatClampNeg) ∧ daI L xs h (some pl) i = some (B i.toNatClampNeg) ∧ daI L xs h (some en) i = some (C i.toNatClampNeg) := by
  obtain ⟨⟨p1, p2, p3, p4, p5, p6⟩, nd, hn, e1, _, _, e4, e5, e6⟩ := hP
  have hin : rm_in i (n + 1) = true := in_of h0 (by omega)
  exact ⟨aI_of p4 e4 hin, aI_of p5 e5 hin, aI_of p6 e6 hin⟩
theorem adv_30 {r t a tk pl en n : Nat} {f v A B C : Nat → Int32} (hP : rP h r t a tk pl en n f v A B C) (h4 : (v 4).toInt ≤ n) : ∃ h', b92_30 L xs zf (dM L xs zf w (k + 2)) w (some r) h = some (none, h') ∧ rP h' r t a tk pl en n f (if 0 ≤ (v 5).toInt ∧ (v 5).toInt < (v 4).toInt then upd (upd v 6 (A (v 5).toNatClampNeg)) 7 (B (v 5).toNatClampNeg) else upd (upd v 6 0) 7 (Int32.ofNat n)) A B C ∧ fR r h h' := by
  unfold b92_30
  by_cases c : 0 ≤ (v 5).toInt ∧ (v 5).toInt < (v 4).toInt
  · rw [if_pos c]
    obtain ⟨h1, a1, a2, a3, a4, a5⟩ := rp_set hP 6 (by omega) (A (v 5).toNatClampNeg)
    obtain ⟨h2, b1, b2, b3, b4, b5⟩ := rp_set a2 7 (by omega) (B (v 5).toNatClampNeg)
    refine ⟨h2, ?_, b2, fR_trans ⟨a3, a4, a5⟩ ⟨b3, b4, b5⟩⟩
    refine bse (rp_I hP 5 (by omega)) (ifn (show ¬ mx_f1 .lt (v 5) = true by rw [f1_lt]; simp; omega) (bse (rp_I hP 5 (by omega)) (bse (rp_I hP 4 (by omega)) (ifn (show ¬ mx_f2 .ge (v 5) (v 4) = true by rw [f2_ge]; simp; omega) ?_))))
    unfold b92_53
    refine ifn (by decide) (bse (rp_R hP).1 (bse (rp_I hP 5 (by omega)) (bse (rp_A hP (v 5) c.1 (by omega)).1 ?_)))
    unfold b92_72
    refine bse a1 (ifn (by decide) (bse (rp_R a2).2.1 ?_))
    have i5 := rp_I (L := L) (xs := xs) a2 5 (by omega)
    rw [upd_ne _ _ (by decide)] at i5
    refine bse i5 (bse (rp_A a2 (v 5) c.1 (by omega)).2.1 ?_)
    unfold b92_99
    exact bse b1 rfl
  · rw [if_neg c]
    obtain ⟨h1, a1, a2, a3, a4, a5⟩ := rp_set hP 6 (by omega) 0
    obtain ⟨h2, b1, b2, b3, b4, b5⟩ := rp_set a2 7 (by omega) (Int32.ofNat n)
    have key : b92_52 L xs zf (dM L xs zf w (k + 2)) w (some r) h = some (none, h2) := by
      unfold b92_52 b92_53
      refine ift (by decide) ?_
      unfold b92_72
      refine bse a1 (ift (by decide) (bse (rd_t (rP_rD a2)) (bse (st_l (rP_sT a2)) ?_)))
      unfold b92_99
      exact bse b1 rfl
    refine ⟨h2, ?_, b2, fR_trans ⟨a3, a4, a5⟩ ⟨b3, b4, b5⟩⟩
    refine bse (rp_I hP 5 (by omega)) ?_
    by_cases l : (v 5).toInt < 0
    · exact ift (show mx_f1 .lt (v 5) = true by rw [f1_lt]; simp [l]) key
    · refine ifn (show ¬ mx_f1 .lt (v 5) = true by rw [f1_lt]; simp; omega) (bse (rp_I hP 5 (by omega)) (bse (rp_I hP 4 (by omega)) ?_))
      exact ift (show mx_f2 .ge (v 5) (v 4) = true by rw [f2_ge]; simp; omega) key
theorem rp_adv {r t a tk pl en n : Nat} {f v A B C : Nat → Int32} (hP : rP h r t a tk pl en n f v A B C) (h4 : (v 4).toInt ≤ n) : ∃ h', dM L xs zf w (k + 3) 92 [.ref r] h = some (none, h') ∧ rP h' r t a tk pl en n f (adV n A B v) A B C ∧ fR r h h' := by
  rw [e92]
  show ∃ h', b92_0 L xs zf (dM L xs zf w (k + 2)) w (some r) h = some (none, h') ∧ _
  unfold b92_0 adV
  by_cases c : v 8 = -1
  · rw [if_pos c]
    unfold adC
    by_cases d : (v 5).toInt < (v 4).toInt
    · rw [if_pos d]
      obtain ⟨h1, a1, a2, a3, a4, a5⟩ := rp_set hP 5 (by omega) (v 5 + 1)
      obtain ⟨h2, b1, b2, b3⟩ := adv_30 (L := L) (xs := xs) (zf := zf) (w := w) (k := k) a2 (by rw [upd_ne _ _ (by decide)]; exact h4)
      refine ⟨h2, ?_, b2, fR_trans ⟨a3, a4, a5⟩ b3⟩
      refine bse (rp_I hP 8 (by omega)) (ift (show mx_f2 .eq (v 8) (-1) = true from decide_eq_true c) (bse (rp_I hP 5 (by omega)) (bse (rp_I hP 4 (by omega)) (ifn (show ¬ mx_f2 .ge (v 5) (v 4) = true by rw [f2_ge]; simp; omega) (bse (rp_I hP 5 (by omega)) (bse a1 b1))))))
    · rw [if_neg d]
      obtain ⟨h2, b1, b2, b3⟩ := adv_30 (L := L) (xs := xs) (zf := zf) (w := w) (k := k) hP h4
      refine ⟨h2, ?_, b2, b3⟩
      refine bse (rp_I hP 8 (by omega)) (ift (show mx_f2 .eq (v 8) (-1) = true from decide_eq_true c) (bse (rp_I hP 5 (by omega)) (bse (rp_I hP 4 (by omega)) (ift (show mx_f2 .ge (v 5) (v 4) = true by rw [f2_ge]; simp; omega) b1))))
  · rw [if_neg c]
    exact ⟨h, bse (rp_I hP 8 (by omega)) (ifn (show ¬ mx_f2 .eq (v 8) (-1) = true from fun z => c (of_decide_eq_true z)) rfl), hP, rfl, rfl, fun _ _ => rfl⟩
end PS2
