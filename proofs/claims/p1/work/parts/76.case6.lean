/-! THE FIRST CALL, sort 6; printed by wip/whole/gen_p1.py. -/
theorem iv_a756 (L : Nat) (xs : Nat → Int32) (zf : Value) (hz : zf.category = 1) (hk : xs 0 &&& 15 = 6) : mx_R L xs zf ah_M222 0 [(0, .ref 21), (1, .int (xs 1)), (2, .int (xs 2))] [] hh_a203 0 0 0 0 (fun v h' => v = some (.int 0) ∧ h' = hh_a203) := by
  refine mx_S (.aload_n 0) 1 [] 1 [(0, .ref 21), (1, .int (xs 1)), (2, .int (xs 2))] [.ref 21] (by decide +kernel) rfl ?_
  refine mx_S (.getfield 30) 3 [3, 0] 4 [(0, .ref 21), (1, .int (xs 1)), (2, .int (xs 2))] [.null] (by decide +kernel) rfl ?_
  refine mx_S (.ifnull 26) 3 [] 30 [(0, .ref 21), (1, .int (xs 1)), (2, .int (xs 2))] [] (by decide +kernel) rfl ?_
  refine mx_S (.iconst 0) 1 [] 31 [(0, .ref 21), (1, .int (xs 1)), (2, .int (xs 2))] [.int 0] (by decide +kernel) rfl ?_
  exact mx_ret (some (.int 0)) (by decide +kernel) ⟨rfl, rfl⟩
theorem iv_a757 (L : Nat) (xs : Nat → Int32) (zf : Value) (hz : zf.category = 1) (hk : xs 0 &&& 15 = 6) : mx_R L xs zf ah_M372 0 [(0, .ref 36), (1, .int (xs 1)), (2, .int (xs 2))] [] hh_a203 0 0 0 0 (fun v h' => v = some (.int 0) ∧ h' = hh_a203) := by
  refine mx_S (.aload_n 0) 1 [] 1 [(0, .ref 36), (1, .int (xs 1)), (2, .int (xs 2))] [.ref 36] (by decide +kernel) rfl ?_
  refine mx_S (.getfield 578) 3 [73, 15] 4 [(0, .ref 36), (1, .int (xs 1)), (2, .int (xs 2))] [.int 0] (by decide +kernel) rfl ?_
  refine mx_1 .eq 26 true 30 (by decide +kernel) (by decide +kernel) ?_
  refine mx_S (.iconst 0) 1 [] 31 [(0, .ref 36), (1, .int (xs 1)), (2, .int (xs 2))] [.int 0] (by decide +kernel) rfl ?_
  exact mx_ret (some (.int 0)) (by decide +kernel) ⟨rfl, rfl⟩
theorem iv_a758 (xs : Nat → Int32) (zf : Value) (hz : zf.category = 1) (hk : xs 0 &&& 15 = 6) : mx_R 6 xs zf ah_M0 18 [(3, .int 0), (2, .ref 36), (1, .ref 21), (0, .ref 0)] [] hh_a203 0 0 1 24 (fun v h' => v = some (.int 1) ∧ h' = hh_a203) := by
  refine mx_B 2 20 [(3, .int 0), (2, .ref 36), (1, .ref 21), (0, .ref 0)] [.ref 0, .int 0] (by decide +kernel) ?_
  refine mx_S (.arraylength) 1 [] 21 [(3, .int 0), (2, .ref 36), (1, .ref 21), (0, .ref 0)] [.int 6, .int 0] (by decide +kernel) rfl ?_
  refine mx_B 5 29 [(3, .int 0), (2, .ref 36), (1, .ref 21), (0, .ref 0)] [.int 0, .ref 0] (by decide +kernel) ?_
  refine mx_scr 6 0 30 (by decide +kernel) (by decide +kernel) (by decide +kernel) ?_
  refine mx_S (.bipush 15) 2 [] 32 [(3, .int 0), (2, .ref 36), (1, .ref 21), (0, .ref 0)] [.int 15, .int (xs 0)] (by decide +kernel) rfl ?_
  refine mx_S (.iand) 1 [] 33 [(3, .int 0), (2, .ref 36), (1, .ref 21), (0, .ref 0)] [.int ((xs 0) &&& 15)] (by decide +kernel) rfl ?_
  refine mx_eq 6 hk ?_
  refine mx_B 6 297 [(3, .int 0), (2, .ref 36), (1, .ref 21), (0, .ref 0)] [.int 1, .ref 0, .ref 21] (by decide +kernel) ?_
  refine mx_scr 6 1 298 (by decide +kernel) (by decide +kernel) (by decide +kernel) ?_
  refine mx_S (.aload_n 0) 1 [] 299 [(3, .int 0), (2, .ref 36), (1, .ref 21), (0, .ref 0)] [.ref 0, .int (xs 1), .ref 21] (by decide +kernel) rfl ?_
  refine mx_S (.iload_n 3) 1 [] 300 [(3, .int 0), (2, .ref 36), (1, .ref 21), (0, .ref 0)] [.int 0, .ref 0, .int (xs 1), .ref 21] (by decide +kernel) rfl ?_
  refine mx_S (.iconst 2) 1 [] 301 [(3, .int 0), (2, .ref 36), (1, .ref 21), (0, .ref 0)] [.int 2, .int 0, .ref 0, .int (xs 1), .ref 21] (by decide +kernel) rfl ?_
  refine mx_S (.iadd) 1 [] 302 [(3, .int 0), (2, .ref 36), (1, .ref 21), (0, .ref 0)] [.int 2, .ref 0, .int (xs 1), .ref 21] (by decide +kernel) rfl ?_
  refine mx_scr 6 2 303 (by decide +kernel) (by decide +kernel) (by decide +kernel) ?_
  refine mx_calls (.invokevirtual 41) [222, 5, 2, 0] 222 3 [.ref 21, .int (xs 1), .int (xs 2)] [] [(0, .ref 21), (1, .int (xs 1)), (2, .int (xs 2))] (some (.int 0)) hh_a203 0 0 0 0 0 0 306 [.int 0] ap_222 (by decide +kernel) rfl ⟨by decide +kernel, rfl, rfl, rfl, rfl⟩ (iv_a756 6 xs zf hz hk) ?_
  refine mx_B 5 311 [(3, .int 0), (2, .ref 36), (1, .ref 21), (0, .ref 0)] [.int 1, .ref 0, .ref 36, .int 0] (by decide +kernel) ?_
  refine mx_scr 6 1 312 (by decide +kernel) (by decide +kernel) (by decide +kernel) ?_
  refine mx_S (.aload_n 0) 1 [] 313 [(3, .int 0), (2, .ref 36), (1, .ref 21), (0, .ref 0)] [.ref 0, .int (xs 1), .ref 36, .int 0] (by decide +kernel) rfl ?_
  refine mx_S (.iload_n 3) 1 [] 314 [(3, .int 0), (2, .ref 36), (1, .ref 21), (0, .ref 0)] [.int 0, .ref 0, .int (xs 1), .ref 36, .int 0] (by decide +kernel) rfl ?_
  refine mx_S (.iconst 2) 1 [] 315 [(3, .int 0), (2, .ref 36), (1, .ref 21), (0, .ref 0)] [.int 2, .int 0, .ref 0, .int (xs 1), .ref 36, .int 0] (by decide +kernel) rfl ?_
  refine mx_S (.iadd) 1 [] 316 [(3, .int 0), (2, .ref 36), (1, .ref 21), (0, .ref 0)] [.int 2, .ref 0, .int (xs 1), .ref 36, .int 0] (by decide +kernel) rfl ?_
  refine mx_scr 6 2 317 (by decide +kernel) (by decide +kernel) (by decide +kernel) ?_
  refine mx_calls (.invokevirtual 45) [372, 5, 2, 15] 372 3 [.ref 36, .int (xs 1), .int (xs 2)] [.int 0] [(0, .ref 36), (1, .int (xs 1)), (2, .int (xs 2))] (some (.int 0)) hh_a203 0 0 0 0 0 0 320 [.int 0, .int 0] ap_372 (by decide +kernel) rfl ⟨by decide +kernel, rfl, rfl, rfl, rfl⟩ (iv_a757 6 xs zf hz hk) ?_
  refine mx_B 5 20 [(3, .int 6), (2, .ref 36), (1, .ref 21), (0, .ref 0)] [.ref 0, .int 6] (by decide +kernel) ?_
  refine mx_S (.arraylength) 1 [] 21 [(3, .int 6), (2, .ref 36), (1, .ref 21), (0, .ref 0)] [.int 6, .int 6] (by decide +kernel) rfl ?_
  refine mx_B 4 543 [(3, .int 6), (2, .ref 36), (1, .ref 21), (0, .ref 0)] [.int 1] (by decide +kernel) ?_
  exact mx_ret (some (.int 1)) (by decide +kernel) ⟨rfl, rfl⟩
theorem lw_case6 (xs : Nat → Int32) (zf : Value) (hz : zf.category = 1) (hk : xs 0 &&& 15 = 6) : mx_R 6 xs zf ah_M0 18 [(3, .int 0), (2, .ref 36), (1, .ref 21), (0, .ref 0)] [] hh_a203 599906 7021181 2048 84000 (fun v _ => v = some (.int 1)) := by
  exact mx_end (iv_a758 xs zf hz hk) (by decide +kernel)
