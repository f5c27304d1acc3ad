/-! SCRIPTS of fewer than six ints; printed by wip/whole/gen_p1.py. -/
theorem iv_a8 (xs : Nat → Int32) (zf : Value) (hz : zf.category = 1) : mx_R 0 xs zf ah_M0 18 [(3, .int 0), (2, .ref 36), (1, .ref 21), (0, .ref 0)] [] hh_a203 0 0 0 0 (fun v h' => v = some (.int 1) ∧ h' = hh_a203) := by
  refine mx_B 2 20 [(3, .int 0), (2, .ref 36), (1, .ref 21), (0, .ref 0)] [.ref 0, .int 0] (by decide +kernel) ?_
  refine mx_S (.arraylength) 1 [] 21 [(3, .int 0), (2, .ref 36), (1, .ref 21), (0, .ref 0)] [.int 0, .int 0] (by decide +kernel) rfl ?_
  refine mx_B 4 543 [(3, .int 0), (2, .ref 36), (1, .ref 21), (0, .ref 0)] [.int 1] (by decide +kernel) ?_
  exact mx_ret (some (.int 1)) (by decide +kernel) ⟨rfl, rfl⟩
theorem lw_short0 (xs : Nat → Int32) (zf : Value) (hz : zf.category = 1) : mx_R 0 xs zf ah_M0 18 [(3, .int 0), (2, .ref 36), (1, .ref 21), (0, .ref 0)] [] hh_a203 599906 7021181 2048 84000 (fun v _ => v = some (.int 1)) := mx_end (iv_a8 xs zf hz) (by decide +kernel)
theorem iv_a9 (xs : Nat → Int32) (zf : Value) (hz : zf.category = 1) : mx_R 1 xs zf ah_M0 18 [(3, .int 0), (2, .ref 36), (1, .ref 21), (0, .ref 0)] [] hh_a203 0 0 0 0 (fun v h' => v = some (.int 1) ∧ h' = hh_a203) := by
  refine mx_B 2 20 [(3, .int 0), (2, .ref 36), (1, .ref 21), (0, .ref 0)] [.ref 0, .int 0] (by decide +kernel) ?_
  refine mx_S (.arraylength) 1 [] 21 [(3, .int 0), (2, .ref 36), (1, .ref 21), (0, .ref 0)] [.int 1, .int 0] (by decide +kernel) rfl ?_
  refine mx_B 4 543 [(3, .int 0), (2, .ref 36), (1, .ref 21), (0, .ref 0)] [.int 1] (by decide +kernel) ?_
  exact mx_ret (some (.int 1)) (by decide +kernel) ⟨rfl, rfl⟩
theorem lw_short1 (xs : Nat → Int32) (zf : Value) (hz : zf.category = 1) : mx_R 1 xs zf ah_M0 18 [(3, .int 0), (2, .ref 36), (1, .ref 21), (0, .ref 0)] [] hh_a203 599906 7021181 2048 84000 (fun v _ => v = some (.int 1)) := mx_end (iv_a9 xs zf hz) (by decide +kernel)
theorem iv_a10 (xs : Nat → Int32) (zf : Value) (hz : zf.category = 1) : mx_R 2 xs zf ah_M0 18 [(3, .int 0), (2, .ref 36), (1, .ref 21), (0, .ref 0)] [] hh_a203 0 0 0 0 (fun v h' => v = some (.int 1) ∧ h' = hh_a203) := by
  refine mx_B 2 20 [(3, .int 0), (2, .ref 36), (1, .ref 21), (0, .ref 0)] [.ref 0, .int 0] (by decide +kernel) ?_
  refine mx_S (.arraylength) 1 [] 21 [(3, .int 0), (2, .ref 36), (1, .ref 21), (0, .ref 0)] [.int 2, .int 0] (by decide +kernel) rfl ?_
  refine mx_B 4 543 [(3, .int 0), (2, .ref 36), (1, .ref 21), (0, .ref 0)] [.int 1] (by decide +kernel) ?_
  exact mx_ret (some (.int 1)) (by decide +kernel) ⟨rfl, rfl⟩
theorem lw_short2 (xs : Nat → Int32) (zf : Value) (hz : zf.category = 1) : mx_R 2 xs zf ah_M0 18 [(3, .int 0), (2, .ref 36), (1, .ref 21), (0, .ref 0)] [] hh_a203 599906 7021181 2048 84000 (fun v _ => v = some (.int 1)) := mx_end (iv_a10 xs zf hz) (by decide +kernel)
theorem iv_a11 (xs : Nat → Int32) (zf : Value) (hz : zf.category = 1) : mx_R 3 xs zf ah_M0 18 [(3, .int 0), (2, .ref 36), (1, .ref 21), (0, .ref 0)] [] hh_a203 0 0 0 0 (fun v h' => v = some (.int 1) ∧ h' = hh_a203) := by
  refine mx_B 2 20 [(3, .int 0), (2, .ref 36), (1, .ref 21), (0, .ref 0)] [.ref 0, .int 0] (by decide +kernel) ?_
  refine mx_S (.arraylength) 1 [] 21 [(3, .int 0), (2, .ref 36), (1, .ref 21), (0, .ref 0)] [.int 3, .int 0] (by decide +kernel) rfl ?_
  refine mx_B 4 543 [(3, .int 0), (2, .ref 36), (1, .ref 21), (0, .ref 0)] [.int 1] (by decide +kernel) ?_
  exact mx_ret (some (.int 1)) (by decide +kernel) ⟨rfl, rfl⟩
theorem lw_short3 (xs : Nat → Int32) (zf : Value) (hz : zf.category = 1) : mx_R 3 xs zf ah_M0 18 [(3, .int 0), (2, .ref 36), (1, .ref 21), (0, .ref 0)] [] hh_a203 599906 7021181 2048 84000 (fun v _ => v = some (.int 1)) := mx_end (iv_a11 xs zf hz) (by decide +kernel)
theorem iv_a12 (xs : Nat → Int32) (zf : Value) (hz : zf.category = 1) : mx_R 4 xs zf ah_M0 18 [(3, .int 0), (2, .ref 36), (1, .ref 21), (0, .ref 0)] [] hh_a203 0 0 0 0 (fun v h' => v = some (.int 1) ∧ h' = hh_a203) := by
  refine mx_B 2 20 [(3, .int 0), (2, .ref 36), (1, .ref 21), (0, .ref 0)] [.ref 0, .int 0] (by decide +kernel) ?_
  refine mx_S (.arraylength) 1 [] 21 [(3, .int 0), (2, .ref 36), (1, .ref 21), (0, .ref 0)] [.int 4, .int 0] (by decide +kernel) rfl ?_
  refine mx_B 4 543 [(3, .int 0), (2, .ref 36), (1, .ref 21), (0, .ref 0)] [.int 1] (by decide +kernel) ?_
  exact mx_ret (some (.int 1)) (by decide +kernel) ⟨rfl, rfl⟩
theorem lw_short4 (xs : Nat → Int32) (zf : Value) (hz : zf.category = 1) : mx_R 4 xs zf ah_M0 18 [(3, .int 0), (2, .ref 36), (1, .ref 21), (0, .ref 0)] [] hh_a203 599906 7021181 2048 84000 (fun v _ => v = some (.int 1)) := mx_end (iv_a12 xs zf hz) (by decide +kernel)
theorem iv_a13 (xs : Nat → Int32) (zf : Value) (hz : zf.category = 1) : mx_R 5 xs zf ah_M0 18 [(3, .int 0), (2, .ref 36), (1, .ref 21), (0, .ref 0)] [] hh_a203 0 0 0 0 (fun v h' => v = some (.int 1) ∧ h' = hh_a203) := by
  refine mx_B 2 20 [(3, .int 0), (2, .ref 36), (1, .ref 21), (0, .ref 0)] [.ref 0, .int 0] (by decide +kernel) ?_
  refine mx_S (.arraylength) 1 [] 21 [(3, .int 0), (2, .ref 36), (1, .ref 21), (0, .ref 0)] [.int 5, .int 0] (by decide +kernel) rfl ?_
  refine mx_B 4 543 [(3, .int 0), (2, .ref 36), (1, .ref 21), (0, .ref 0)] [.int 1] (by decide +kernel) ?_
  exact mx_ret (some (.int 1)) (by decide +kernel) ⟨rfl, rfl⟩
theorem lw_short5 (xs : Nat → Int32) (zf : Value) (hz : zf.category = 1) : mx_R 5 xs zf ah_M0 18 [(3, .int 0), (2, .ref 36), (1, .ref 21), (0, .ref 0)] [] hh_a203 599906 7021181 2048 84000 (fun v _ => v = some (.int 1)) := mx_end (iv_a13 xs zf hz) (by decide +kernel)
