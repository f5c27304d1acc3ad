/-! THE FIRST CALL, sort 4; printed by wip/whole/gen_p1.py. -/
theorem iv_a203 (L : Nat) (xs : Nat → Int32) (zf : Value) (hz : zf.category = 1) (hk : xs 0 &&& 15 = 4) : mx_R L xs zf ah_M219 0 [(0, .ref 21), (1, .int (xs 1))] [] hh_a203 0 0 0 0 (fun v h' => v = some (.int (-1)) ∧ h' = hh_a203) := by
  refine mx_S (.aload_n 0) 1 [] 1 [(0, .ref 21), (1, .int (xs 1))] [.ref 21] (by decide +kernel) rfl ?_
  refine mx_S (.getfield 30) 3 [3, 0] 4 [(0, .ref 21), (1, .int (xs 1))] [.null] (by decide +kernel) rfl ?_
  refine mx_S (.ifnonnull 5) 3 [] 7 [(0, .ref 21), (1, .int (xs 1))] [] (by decide +kernel) rfl ?_
  refine mx_S (.iconst (-1)) 1 [] 8 [(0, .ref 21), (1, .int (xs 1))] [.int (-1)] (by decide +kernel) rfl ?_
  exact mx_ret (some (.int (-1))) (by decide +kernel) ⟨rfl, rfl⟩
theorem iv_a204 (L : Nat) (xs : Nat → Int32) (zf : Value) (hz : zf.category = 1) (hk : xs 0 &&& 15 = 4) : mx_R L xs zf ah_M371 0 [(0, .ref 36), (1, .int (xs 1))] [] hh_a203 0 0 0 0 (fun v h' => v = some (.int (-1)) ∧ h' = hh_a203) := by
  refine mx_S (.aload_n 0) 1 [] 1 [(0, .ref 36), (1, .int (xs 1))] [.ref 36] (by decide +kernel) rfl ?_
  refine mx_S (.getfield 578) 3 [73, 15] 4 [(0, .ref 36), (1, .int (xs 1))] [.int 0] (by decide +kernel) rfl ?_
  refine mx_1 .ne 5 false 7 (by decide +kernel) (by decide +kernel) ?_
  refine mx_S (.iconst (-1)) 1 [] 8 [(0, .ref 36), (1, .int (xs 1))] [.int (-1)] (by decide +kernel) rfl ?_
  exact mx_ret (some (.int (-1))) (by decide +kernel) ⟨rfl, rfl⟩
theorem iv_a205 (xs : Nat → Int32) (zf : Value) (hz : zf.category = 1) (hk : xs 0 &&& 15 = 4) : mx_R 6 xs zf ah_M0 18 [(3, .int 0), (2, .ref 36), (1, .ref 21), (0, .ref 0)] [] hh_a203 0 0 1 21 (fun v h' => v = some (.int 1) ∧ h' = hh_a203) := by
  refine mx_B 2 20 [(3, .int 0), (2, .ref 36), (1, .ref 21), (0, .ref 0)] [.ref 0, .int 0] (by decide +kernel) ?_
  refine mx_S (.arraylength) 1 [] 21 [(3, .int 0), (2, .ref 36), (1, .ref 21), (0, .ref 0)] [.int 6, .int 0] (by decide +kernel) rfl ?_
  refine mx_B 5 29 [(3, .int 0), (2, .ref 36), (1, .ref 21), (0, .ref 0)] [.int 0, .ref 0] (by decide +kernel) ?_
  refine mx_scr 6 0 30 (by decide +kernel) (by decide +kernel) (by decide +kernel) ?_
  refine mx_S (.bipush 15) 2 [] 32 [(3, .int 0), (2, .ref 36), (1, .ref 21), (0, .ref 0)] [.int 15, .int (xs 0)] (by decide +kernel) rfl ?_
  refine mx_S (.iand) 1 [] 33 [(3, .int 0), (2, .ref 36), (1, .ref 21), (0, .ref 0)] [.int ((xs 0) &&& 15)] (by decide +kernel) rfl ?_
  refine mx_eq 4 hk ?_
  refine mx_B 6 231 [(3, .int 0), (2, .ref 36), (1, .ref 21), (0, .ref 0)] [.int 1, .ref 0, .ref 21] (by decide +kernel) ?_
  refine mx_scr 6 1 232 (by decide +kernel) (by decide +kernel) (by decide +kernel) ?_
  refine mx_calls (.invokevirtual 32) [219, 5, 1, 0] 219 3 [.ref 21, .int (xs 1)] [] [(0, .ref 21), (1, .int (xs 1))] (some (.int (-1))) hh_a203 0 0 0 0 0 0 235 [.int (-1)] ap_219 (by decide +kernel) rfl ⟨by decide +kernel, rfl, rfl, rfl, rfl⟩ (iv_a203 6 xs zf hz hk) ?_
  refine mx_B 5 240 [(3, .int 0), (2, .ref 36), (1, .ref 21), (0, .ref 0)] [.int 1, .ref 0, .ref 36, .int (-1)] (by decide +kernel) ?_
  refine mx_scr 6 1 241 (by decide +kernel) (by decide +kernel) (by decide +kernel) ?_
  refine mx_calls (.invokevirtual 35) [371, 5, 1, 15] 371 3 [.ref 36, .int (xs 1)] [.int (-1)] [(0, .ref 36), (1, .int (xs 1))] (some (.int (-1))) hh_a203 0 0 0 0 0 0 244 [.int (-1), .int (-1)] ap_371 (by decide +kernel) rfl ⟨by decide +kernel, rfl, rfl, rfl, rfl⟩ (iv_a204 6 xs zf hz hk) ?_
  refine mx_B 5 20 [(3, .int 6), (2, .ref 36), (1, .ref 21), (0, .ref 0)] [.ref 0, .int 6] (by decide +kernel) ?_
  refine mx_S (.arraylength) 1 [] 21 [(3, .int 6), (2, .ref 36), (1, .ref 21), (0, .ref 0)] [.int 6, .int 6] (by decide +kernel) rfl ?_
  refine mx_B 4 543 [(3, .int 6), (2, .ref 36), (1, .ref 21), (0, .ref 0)] [.int 1] (by decide +kernel) ?_
  exact mx_ret (some (.int 1)) (by decide +kernel) ⟨rfl, rfl⟩
theorem lw_case4 (xs : Nat → Int32) (zf : Value) (hz : zf.category = 1) (hk : xs 0 &&& 15 = 4) : mx_R 6 xs zf ah_M0 18 [(3, .int 0), (2, .ref 36), (1, .ref 21), (0, .ref 0)] [] hh_a203 599906 7021181 2048 84000 (fun v _ => v = some (.int 1)) := by
  exact mx_end (iv_a205 xs zf hz hk) (by decide +kernel)
