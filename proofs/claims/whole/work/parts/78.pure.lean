/-! WHOLE AS A PURE STATEMENT: the law as a function answers 1, and what it leaves is small enough. -/
theorem ah_pure {L : Nat} {xs : Nat → Int32} {zf : Value} (hz : zf.category = 1) (k w : Nat) (h' : rm_H) (hk : k ≤ 1397) (hh : b0_0 L xs zf (dM L xs zf w k) w (some 0) [] = some (some (.int 1), h')) (h1 : h'.length ≤ 600000) (h2 : zh h' ≤ 7300000) : ah_Goal L xs zf := by
  have hq := dq_R (c0_0 (dM_O w hz k) hz (some 0) [(0, .ref 0)] [] _ rfl hh)
  exact rm_Runs.mono hq (by show h'.length - 0 ≤ _; omega) (by show zh h' - 0 ≤ _; omega) (by omega) (by omega) (fun v _ z => z.1)
