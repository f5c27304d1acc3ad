/-! THE REFERENCE'S BUILD: its text is copied. -/
section RH
variable {w k n : Nat} {s : rS} {E : rE}
theorem r_copy (h37 : rs_t 37 = (0, 2000, false) ∧ rs_t 38 = (0, 2000, false)) (hn : n ≤ 2000) : ∀ (r i : Nat) (s : rS) (M : Nat), i + r = n → s.1 3 = Int32.ofNat n → ∃ s', s294_10 E w (r + M + 1) (Int32.ofNat i) s = s294_10 E w (M + 1) (Int32.ofNat n) s' ∧ s'.1 = s.1 ∧ s'.2.2 = s.2.2 ∧ (∀ p, p ≠ 38 → s'.2.1 p = s.2.1 p) ∧ ∀ j, s'.2.1 38 j = if i ≤ j ∧ j < n then s.2.1 37 j else s.2.1 38 j := by
  intro r
  induction r with
  | zero =>
    intro i s M hi h3
    have : i = n := by omega
    subst this
    exact ⟨s, by rw [Nat.zero_add], rfl, rfl, fun _ _ => rfl, fun j => by rw [if_neg (by omega)]⟩
  | succ r ih =>
    intro i s M hi h3
    obtain ⟨s', e1, e2, e3, e4, e5⟩ := ih (i + 1) (rs_wA s 38 i (s.2.1 37 i)) M (by omega) h3
    refine ⟨s', ?_, e2, e3, fun p hp => (e4 p hp).trans (wA_ne _ _ _ hp), fun j => ?_⟩
    · rw [show r + 1 + M + 1 = r + M + 1 + 1 from by omega, s294_10, if_neg (by rw [f2_ge, h3, of_int (by omega), of_int (by omega)]; simp; omega), aI_at (by omega) h37.1 (by omega) (by omega), Option.bind_some, sI_at (by omega) h37.2 (by omega) (by omega), Option.bind_some, show Int32.ofNat i + 1 = Int32.ofNat (i + 1) from of_add i 1]
      exact e1
    · rw [e5 j]
      by_cases c : i + 1 ≤ j ∧ j < n
      · rw [if_pos c, if_pos (by omega), wA_ne _ _ _ (by decide)]
      · rw [if_neg c, wA_get]
        by_cases d : j = i
        · subst d
          rw [if_pos ⟨rfl, rfl⟩, if_pos (by omega)]
        · rw [if_neg (fun u => d u.2), if_neg (by omega)]
end RH
