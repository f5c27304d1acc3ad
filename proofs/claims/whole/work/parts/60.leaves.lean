/-! CONTRACTS over the machine of the mind, 1: leaves of ActorHouse that only reckon. -/
theorem ct_sortOf (L : Nat) (xs : Nat → Int32) (zf : Value) (x : Int32) (h : rm_H) : rm_Runs ah_P ah_gc 21 (ah_O L xs) (ah_Z zf) ah_TY ah_FT ah_DV ah_CA ah_M159 0 [(0, .int x)] [] h 0 0 0 0 (fun v h' => v = some (.int (x &&& 15)) ∧ h' = h) := by
  refine rm_Runs.step rfl rfl rfl rfl rfl (Nat.zero_le _) (Nat.zero_le _) ?_
  refine rm_Runs.step rfl rfl rfl rfl rfl (Nat.zero_le _) (Nat.zero_le _) ?_
  refine rm_Runs.step rfl rfl rfl rfl rfl (Nat.zero_le _) (Nat.zero_le _) ?_
  exact rm_Runs.ret rfl rfl ⟨rfl, rfl⟩
theorem ct_kindOf (L : Nat) (xs : Nat → Int32) (zf : Value) (x : Int32) (h : rm_H) : rm_Runs ah_P ah_gc 21 (ah_O L xs) (ah_Z zf) ah_TY ah_FT ah_DV ah_CA ah_M189 0 [(0, .int x)] [] h 0 0 0 0 (fun v h' => v = some (.int ((x >>> (4 &&& 31)) &&& 15)) ∧ h' = h) := by
  refine rm_Runs.step rfl rfl rfl rfl rfl (Nat.zero_le _) (Nat.zero_le _) ?_
  refine rm_Runs.step rfl rfl rfl rfl rfl (Nat.zero_le _) (Nat.zero_le _) ?_
  refine rm_Runs.step rfl rfl rfl rfl rfl (Nat.zero_le _) (Nat.zero_le _) ?_
  refine rm_Runs.step rfl rfl rfl rfl rfl (Nat.zero_le _) (Nat.zero_le _) ?_
  refine rm_Runs.step rfl rfl rfl rfl rfl (Nat.zero_le _) (Nat.zero_le _) ?_
  exact rm_Runs.ret rfl rfl ⟨rfl, rfl⟩
theorem ct_capOf (L : Nat) (xs : Nat → Int32) (zf : Value) (x : Int32) (h : rm_H) : rm_Runs ah_P ah_gc 21 (ah_O L xs) (ah_Z zf) ah_TY ah_FT ah_DV ah_CA ah_M160 0 [(0, .int x)] [] h 0 0 0 0 (fun v h' => v = some (.int ((x >>> (8 &&& 31)) &&& 7)) ∧ h' = h) := by
  refine rm_Runs.step rfl rfl rfl rfl rfl (Nat.zero_le _) (Nat.zero_le _) ?_
  refine rm_Runs.step rfl rfl rfl rfl rfl (Nat.zero_le _) (Nat.zero_le _) ?_
  refine rm_Runs.step rfl rfl rfl rfl rfl (Nat.zero_le _) (Nat.zero_le _) ?_
  refine rm_Runs.step rfl rfl rfl rfl rfl (Nat.zero_le _) (Nat.zero_le _) ?_
  refine rm_Runs.step rfl rfl rfl rfl rfl (Nat.zero_le _) (Nat.zero_le _) ?_
  exact rm_Runs.ret rfl rfl ⟨rfl, rfl⟩
theorem ct_typeOf (L : Nat) (xs : Nat → Int32) (zf : Value) (x y z : Int32) (h : rm_H) : rm_Runs ah_P ah_gc 21 (ah_O L xs) (ah_Z zf) ah_TY ah_FT ah_DV ah_CA ah_M153 0 [(0, .int x), (1, .int y), (2, .int z)] [] h 0 0 0 0 (fun v h' => v = some (.int ((x ||| (y <<< (4 &&& 31))) ||| (z <<< (8 &&& 31)))) ∧ h' = h) := by
  refine rm_Runs.step rfl rfl rfl rfl rfl (Nat.zero_le _) (Nat.zero_le _) ?_
  refine rm_Runs.step rfl rfl rfl rfl rfl (Nat.zero_le _) (Nat.zero_le _) ?_
  refine rm_Runs.step rfl rfl rfl rfl rfl (Nat.zero_le _) (Nat.zero_le _) ?_
  refine rm_Runs.step rfl rfl rfl rfl rfl (Nat.zero_le _) (Nat.zero_le _) ?_
  refine rm_Runs.step rfl rfl rfl rfl rfl (Nat.zero_le _) (Nat.zero_le _) ?_
  refine rm_Runs.step rfl rfl rfl rfl rfl (Nat.zero_le _) (Nat.zero_le _) ?_
  refine rm_Runs.step rfl rfl rfl rfl rfl (Nat.zero_le _) (Nat.zero_le _) ?_
  refine rm_Runs.step rfl rfl rfl rfl rfl (Nat.zero_le _) (Nat.zero_le _) ?_
  refine rm_Runs.step rfl rfl rfl rfl rfl (Nat.zero_le _) (Nat.zero_le _) ?_
  exact rm_Runs.ret rfl rfl ⟨rfl, rfl⟩
