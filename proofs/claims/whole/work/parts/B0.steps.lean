/-! THE CLASS'S READER GOES ON: advance, refuse. -/
/-- what changes of the reader when it refuses, when it goes on -/
def rfV (v : Nat → Int32) : Nat → Int32 := if v 8 = -1 then upd (upd v 8 (v 7)) 6 1 else upd v 6 1
def adC (v : Nat → Int32) : Nat → Int32 := if (v 5).toInt < (v 4).toInt then upd v 5 (v 5 + 1) else v
def adV (n : Nat) (A B v : Nat → Int32) : Nat → Int32 := if v 8 = -1 then (if 0 ≤ (adC v 5).toInt ∧ (adC v 5).toInt < (adC v 4).toInt then upd (upd (adC v) 6 (A (adC v 5).toNatClampNeg)) 7 (B (adC v 5).toNatClampNeg) else upd (upd (adC v) 6 0) 7 (Int32.ofNat n)) else v
section PS
variable {L : Nat} {xs : Nat → Int32} {zf : Value} {w k : Nat} {h : rm_H}
theorem rp_I {r t a tk pl en n : Nat} {f v A B C : Nat → Int32} (hP : rP h r t a tk pl en n f v A B C) (j : Nat) (hj : 4 ≤ j ∧ j ≤ 8) : dgI L xs h j [6] (some r) = some (v j) := by
  obtain ⟨⟨p1, p2, p3, p4, p5, p6⟩, nd, hn, h1, _⟩ := hP
  obtain ⟨j1, j2⟩ := hj
  have : j = 4 ∨ j = 5 ∨ j = 6 ∨ j = 7 ∨ j = 8 := by omega
  rcases this with e | e | e | e | e <;> subst e <;> exact gI_of p1 h1 (by decide) rfl
/-- one of the reader's numbers is set -/
theorem rp_set {r t a tk pl en n : Nat} {f v A B C : Nat → Int32} (hP : rP h r t a tk pl en n f v A B C) (j : Nat) (hj : 4 ≤ j ∧ j ≤ 8) (x : Int32) : ∃ h', dpF h j [6] (some r) (.int x) = some h' ∧ rP h' r t a tk pl en n f (upd v j x) A B C ∧ h'.length = h.length ∧ zh h' = zh h ∧ ∀ q, q ≠ r - 21 → h'[q]? = h[q]? := by
  obtain ⟨⟨p1, p2, p3, p4, p5, p6⟩, nd, hn, h1, ⟨x1, y1, h2⟩, h3, h4, h5, h6⟩ := hP
  have nd0 := nd
  simp only [List.nodup_cons, List.mem_cons, List.not_mem_nil, or_false, not_or, not_false_eq_true, and_true, List.nodup_nil] at nd0
  obtain ⟨⟨d1, d2, d3, d4, d5⟩, _⟩ := nd0
  refine ⟨h.set (r - 21) (.inr (6, [.ref t, .ref tk, .ref pl, .ref en, .int (upd v j x 4), .int (upd v j x 5), .int (upd v j x 6), .int (upd v j x 7), .int (upd v j x 8)])), ?_, ⟨⟨p1, p2, p3, p4, p5, p6⟩, nd, hn, rs_set_eq h1, ⟨x1, y1, set_old (by omega) h2⟩, set_old (by omega) h3, set_old (by omega) h4, set_old (by omega) h5, set_old (by omega) h6⟩, by simp, zh_set (by rfl) h1, fun q hq => rs_set_ne (fun z => hq z.symm)⟩
  unfold dpF
  dsimp only
  rw [if_pos p1, h1]
  obtain ⟨j1, j2⟩ := hj
  have : j = 4 ∨ j = 5 ∨ j = 6 ∨ j = 7 ∨ j = 8 := by omega
  rcases this with e | e | e | e | e <;> subst e <;> rfl
/-- what two settings leave alone -/
def fR (r : Nat) (h h' : rm_H) : Prop := h'.length = h.length ∧ zh h' = zh h ∧ ∀ q, q ≠ r - 21 → h'[q]? = h[q]?
theorem fR_trans {r : Nat} {h h1 h2 : rm_H} (a : fR r h h1) (b : fR r h1 h2) : fR r h h2 := ⟨b.1.trans a.1, b.2.1.trans a.2.1, fun q hq => (b.2.2 q hq).trans (a.2.2 q hq)⟩
theorem rp_ref {r t a tk pl en n : Nat} {f v A B C : Nat → Int32} (hP : rP h r t a tk pl en n f v A B C) : ∃ h', dM L xs zf w (k + 1) 95 [.ref r] h = some (none, h') ∧ rP h' r t a tk pl en n f (rfV v) A B C ∧ fR r h h' := by
  rw [e95]
  show ∃ h', b95_0 L xs zf (dM L xs zf w k) w (some r) h = some (none, h') ∧ _
  unfold b95_0 rfV
  by_cases c : v 8 = -1
  · rw [if_pos c]
    obtain ⟨h1, a1, a2, a3, a4, a5⟩ := rp_set hP 8 (by omega) (v 7)
    obtain ⟨h2, b1, b2, b3, b4, b5⟩ := rp_set a2 6 (by omega) 1
    refine ⟨h2, ?_, b2, fR_trans ⟨a3, a4, a5⟩ ⟨b3, b4, b5⟩⟩
    refine bse (rp_I hP 8 (by omega)) (ifn (show ¬ mx_f2 .ne (v 8) (-1) = true by rw [f2_ne]; simp [c]) (bse (rp_I hP 7 (by omega)) (bse a1 ?_)))
    unfold b95_16
    exact bse b1 rfl
  · rw [if_neg c]
    obtain ⟨h2, b1, b2, b3, b4, b5⟩ := rp_set hP 6 (by omega) 1
    refine ⟨h2, ?_, b2, ⟨b3, b4, b5⟩⟩
    refine bse (rp_I hP 8 (by omega)) (ift (show mx_f2 .ne (v 8) (-1) = true by rw [f2_ne]; simp [c]) ?_)
    unfold b95_16
    exact bse b1 rfl
end PS
