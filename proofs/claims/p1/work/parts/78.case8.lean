/-! THE FIRST CALL, sort 8; printed by wip/whole/gen_p1.py. -/
theorem iv_a777 (L : Nat) (xs : Nat → Int32) (zf : Value) (hz : zf.category = 1) (hk : xs 0 &&& 15 = 8) (u1 : (xs 1).toInt ≤ (-1)) : mx_R L xs zf ah_M267 0 [(0, .ref 21), (1, .int (xs 1))] [] hh_a203 0 0 0 0 (fun v h' => v = some (.int (-1)) ∧ h' = hh_a203) := by
  refine mx_S (.iload_n 1) 1 [] 1 [(0, .ref 21), (1, .int (xs 1))] [.int (xs 1)] (by decide +kernel) rfl ?_
  refine mx_sd 111 0 7 #[47, 55, 63, 71, 79, 87, 95, 103] 47 112 (by decide +kernel) (by decide +kernel) (mx_swd (x := (xs 1)) 0 7 (-2147483648) (-1) (mx_lo _) u1 (by decide +kernel)) ?_
  refine mx_S (.iconst (-1)) 1 [] 113 [(0, .ref 21), (1, .int (xs 1))] [.int (-1)] (by decide +kernel) rfl ?_
  exact mx_ret (some (.int (-1))) (by decide +kernel) ⟨rfl, rfl⟩
theorem iv_a778 (L : Nat) (xs : Nat → Int32) (zf : Value) (hz : zf.category = 1) (hk : xs 0 &&& 15 = 8) (u1 : (xs 1).toInt ≤ (-1)) : mx_R L xs zf ah_M402 0 [(0, .ref 36), (1, .int (xs 1))] [] hh_a203 0 0 0 0 (fun v h' => v = some (.int (-1)) ∧ h' = hh_a203) := by
  refine mx_S (.iload_n 1) 1 [] 1 [(0, .ref 36), (1, .int (xs 1))] [.int (xs 1)] (by decide +kernel) rfl ?_
  refine mx_1 .lt 9 true 10 (mx_v1 .lt (x := (xs 1)) (-2147483648) (-1)  (mx_lo _) u1 (by decide +kernel)) (by decide +kernel) ?_
  refine mx_S (.iconst (-1)) 1 [] 11 [(0, .ref 36), (1, .int (xs 1))] [.int (-1)] (by decide +kernel) rfl ?_
  exact mx_ret (some (.int (-1))) (by decide +kernel) ⟨rfl, rfl⟩
theorem iv_a779 (xs : Nat → Int32) (zf : Value) (hz : zf.category = 1) (hk : xs 0 &&& 15 = 8) (u1 : (xs 1).toInt ≤ (-1)) : mx_R 6 xs zf ah_M0 18 [(3, .int 0), (2, .ref 36), (1, .ref 21), (0, .ref 0)] [] hh_a203 0 0 1 21 (fun v h' => v = some (.int 1) ∧ h' = hh_a203) := by
  refine mx_B 2 20 [(3, .int 0), (2, .ref 36), (1, .ref 21), (0, .ref 0)] [.ref 0, .int 0] (by decide +kernel) ?_
  refine mx_S (.arraylength) 1 [] 21 [(3, .int 0), (2, .ref 36), (1, .ref 21), (0, .ref 0)] [.int 6, .int 0] (by decide +kernel) rfl ?_
  refine mx_B 5 29 [(3, .int 0), (2, .ref 36), (1, .ref 21), (0, .ref 0)] [.int 0, .ref 0] (by decide +kernel) ?_
  refine mx_scr 6 0 30 (by decide +kernel) (by decide +kernel) (by decide +kernel) ?_
  refine mx_S (.bipush 15) 2 [] 32 [(3, .int 0), (2, .ref 36), (1, .ref 21), (0, .ref 0)] [.int 15, .int (xs 0)] (by decide +kernel) rfl ?_
  refine mx_S (.iand) 1 [] 33 [(3, .int 0), (2, .ref 36), (1, .ref 21), (0, .ref 0)] [.int ((xs 0) &&& 15)] (by decide +kernel) rfl ?_
  refine mx_eq 8 hk ?_
  refine mx_B 6 363 [(3, .int 0), (2, .ref 36), (1, .ref 21), (0, .ref 0)] [.int 1, .ref 0, .ref 21] (by decide +kernel) ?_
  refine mx_scr 6 1 364 (by decide +kernel) (by decide +kernel) (by decide +kernel) ?_
  refine mx_calls (.invokevirtual 51) [267, 5, 1, 0] 267 3 [.ref 21, .int (xs 1)] [] [(0, .ref 21), (1, .int (xs 1))] (some (.int (-1))) hh_a203 0 0 0 0 0 0 367 [.int (-1)] ap_267 (by decide +kernel) rfl ⟨by decide +kernel, rfl, rfl, rfl, rfl⟩ (iv_a777 6 xs zf hz hk u1) ?_
  refine mx_B 5 372 [(3, .int 0), (2, .ref 36), (1, .ref 21), (0, .ref 0)] [.int 1, .ref 0, .ref 36, .int (-1)] (by decide +kernel) ?_
  refine mx_scr 6 1 373 (by decide +kernel) (by decide +kernel) (by decide +kernel) ?_
  refine mx_calls (.invokevirtual 54) [402, 5, 1, 15] 402 3 [.ref 36, .int (xs 1)] [.int (-1)] [(0, .ref 36), (1, .int (xs 1))] (some (.int (-1))) hh_a203 0 0 0 0 0 0 376 [.int (-1), .int (-1)] ap_402 (by decide +kernel) rfl ⟨by decide +kernel, rfl, rfl, rfl, rfl⟩ (iv_a778 6 xs zf hz hk u1) ?_
  refine mx_B 5 20 [(3, .int 6), (2, .ref 36), (1, .ref 21), (0, .ref 0)] [.ref 0, .int 6] (by decide +kernel) ?_
  refine mx_S (.arraylength) 1 [] 21 [(3, .int 6), (2, .ref 36), (1, .ref 21), (0, .ref 0)] [.int 6, .int 6] (by decide +kernel) rfl ?_
  refine mx_B 4 543 [(3, .int 6), (2, .ref 36), (1, .ref 21), (0, .ref 0)] [.int 1] (by decide +kernel) ?_
  exact mx_ret (some (.int 1)) (by decide +kernel) ⟨rfl, rfl⟩
theorem iv_a780 (L : Nat) (xs : Nat → Int32) (zf : Value) (hz : zf.category = 1) : mx_R L xs zf ah_M267 0 [(0, .ref 21), (1, .int 0)] [] hh_a203 0 0 0 0 (fun v h' => v = some (.int 0) ∧ h' = hh_a203) := by
  refine mx_B 5 55 [(0, .ref 21), (1, .int 0)] [.int 0] (by decide +kernel) ?_
  exact mx_ret (some (.int 0)) (by decide +kernel) ⟨rfl, rfl⟩
theorem iv_a781 (L : Nat) (xs : Nat → Int32) (zf : Value) (hz : zf.category = 1) : mx_R L xs zf ah_M402 0 [(0, .ref 36), (1, .int 0)] [] hh_a203 0 0 0 0 (fun v h' => v = some (.int 0) ∧ h' = hh_a203) := by
  refine mx_B 9 20 [(0, .ref 36), (1, .int 0)] [.int 0] (by decide +kernel) ?_
  exact mx_ret (some (.int 0)) (by decide +kernel) ⟨rfl, rfl⟩
theorem iv_a782 (xs : Nat → Int32) (zf : Value) (hz : zf.category = 1) (hk : xs 0 &&& 15 = 8) (l1 : 0 ≤ (xs 1).toInt) (u1 : (xs 1).toInt ≤ 0) : mx_R 6 xs zf ah_M0 18 [(3, .int 0), (2, .ref 36), (1, .ref 21), (0, .ref 0)] [] hh_a203 0 0 1 21 (fun v h' => v = some (.int 1) ∧ h' = hh_a203) := by
  refine mx_B 2 20 [(3, .int 0), (2, .ref 36), (1, .ref 21), (0, .ref 0)] [.ref 0, .int 0] (by decide +kernel) ?_
  refine mx_S (.arraylength) 1 [] 21 [(3, .int 0), (2, .ref 36), (1, .ref 21), (0, .ref 0)] [.int 6, .int 0] (by decide +kernel) rfl ?_
  refine mx_B 5 29 [(3, .int 0), (2, .ref 36), (1, .ref 21), (0, .ref 0)] [.int 0, .ref 0] (by decide +kernel) ?_
  refine mx_scr 6 0 30 (by decide +kernel) (by decide +kernel) (by decide +kernel) ?_
  refine mx_S (.bipush 15) 2 [] 32 [(3, .int 0), (2, .ref 36), (1, .ref 21), (0, .ref 0)] [.int 15, .int (xs 0)] (by decide +kernel) rfl ?_
  refine mx_S (.iand) 1 [] 33 [(3, .int 0), (2, .ref 36), (1, .ref 21), (0, .ref 0)] [.int ((xs 0) &&& 15)] (by decide +kernel) rfl ?_
  refine mx_eq 8 hk ?_
  refine mx_B 6 363 [(3, .int 0), (2, .ref 36), (1, .ref 21), (0, .ref 0)] [.int 1, .ref 0, .ref 21] (by decide +kernel) ?_
  refine mx_scr 6 1 364 (by decide +kernel) (by decide +kernel) (by decide +kernel) ?_
  refine mx_eq 0 (mx_pt l1 u1 (by decide +kernel)) ?_
  refine mx_call 267 3 [.ref 21, .int 0] [] [(0, .ref 21), (1, .int 0)] (some (.int 0)) hh_a203 0 0 0 0 0 0 367 [.int 0] ap_267 (by decide +kernel) (by decide +kernel) (iv_a780 6 xs zf hz) ?_
  refine mx_B 5 372 [(3, .int 0), (2, .ref 36), (1, .ref 21), (0, .ref 0)] [.int 1, .ref 0, .ref 36, .int 0] (by decide +kernel) ?_
  refine mx_scr 6 1 373 (by decide +kernel) (by decide +kernel) (by decide +kernel) ?_
  refine mx_eq 0 (mx_pt l1 u1 (by decide +kernel)) ?_
  refine mx_call 402 3 [.ref 36, .int 0] [.int 0] [(0, .ref 36), (1, .int 0)] (some (.int 0)) hh_a203 0 0 0 0 0 0 376 [.int 0, .int 0] ap_402 (by decide +kernel) (by decide +kernel) (iv_a781 6 xs zf hz) ?_
  refine mx_B 5 20 [(3, .int 6), (2, .ref 36), (1, .ref 21), (0, .ref 0)] [.ref 0, .int 6] (by decide +kernel) ?_
  refine mx_S (.arraylength) 1 [] 21 [(3, .int 6), (2, .ref 36), (1, .ref 21), (0, .ref 0)] [.int 6, .int 6] (by decide +kernel) rfl ?_
  refine mx_B 4 543 [(3, .int 6), (2, .ref 36), (1, .ref 21), (0, .ref 0)] [.int 1] (by decide +kernel) ?_
  exact mx_ret (some (.int 1)) (by decide +kernel) ⟨rfl, rfl⟩
theorem iv_a783 (L : Nat) (xs : Nat → Int32) (zf : Value) (hz : zf.category = 1) : mx_R L xs zf ah_M267 0 [(0, .ref 21), (1, .int 1)] [] hh_a203 0 0 0 0 (fun v h' => v = some (.int 0) ∧ h' = hh_a203) := by
  refine mx_B 5 63 [(0, .ref 21), (1, .int 1)] [.int 0] (by decide +kernel) ?_
  exact mx_ret (some (.int 0)) (by decide +kernel) ⟨rfl, rfl⟩
theorem iv_a784 (L : Nat) (xs : Nat → Int32) (zf : Value) (hz : zf.category = 1) : mx_R L xs zf ah_M402 0 [(0, .ref 36), (1, .int 1)] [] hh_a203 0 0 0 0 (fun v h' => v = some (.int 0) ∧ h' = hh_a203) := by
  refine mx_B 9 20 [(0, .ref 36), (1, .int 1)] [.int 0] (by decide +kernel) ?_
  exact mx_ret (some (.int 0)) (by decide +kernel) ⟨rfl, rfl⟩
theorem iv_a785 (xs : Nat → Int32) (zf : Value) (hz : zf.category = 1) (hk : xs 0 &&& 15 = 8) (l1 : 1 ≤ (xs 1).toInt) (u1 : (xs 1).toInt ≤ 1) : mx_R 6 xs zf ah_M0 18 [(3, .int 0), (2, .ref 36), (1, .ref 21), (0, .ref 0)] [] hh_a203 0 0 1 21 (fun v h' => v = some (.int 1) ∧ h' = hh_a203) := by
  refine mx_B 2 20 [(3, .int 0), (2, .ref 36), (1, .ref 21), (0, .ref 0)] [.ref 0, .int 0] (by decide +kernel) ?_
  refine mx_S (.arraylength) 1 [] 21 [(3, .int 0), (2, .ref 36), (1, .ref 21), (0, .ref 0)] [.int 6, .int 0] (by decide +kernel) rfl ?_
  refine mx_B 5 29 [(3, .int 0), (2, .ref 36), (1, .ref 21), (0, .ref 0)] [.int 0, .ref 0] (by decide +kernel) ?_
  refine mx_scr 6 0 30 (by decide +kernel) (by decide +kernel) (by decide +kernel) ?_
  refine mx_S (.bipush 15) 2 [] 32 [(3, .int 0), (2, .ref 36), (1, .ref 21), (0, .ref 0)] [.int 15, .int (xs 0)] (by decide +kernel) rfl ?_
  refine mx_S (.iand) 1 [] 33 [(3, .int 0), (2, .ref 36), (1, .ref 21), (0, .ref 0)] [.int ((xs 0) &&& 15)] (by decide +kernel) rfl ?_
  refine mx_eq 8 hk ?_
  refine mx_B 6 363 [(3, .int 0), (2, .ref 36), (1, .ref 21), (0, .ref 0)] [.int 1, .ref 0, .ref 21] (by decide +kernel) ?_
  refine mx_scr 6 1 364 (by decide +kernel) (by decide +kernel) (by decide +kernel) ?_
  refine mx_eq 1 (mx_pt l1 u1 (by decide +kernel)) ?_
  refine mx_call 267 3 [.ref 21, .int 1] [] [(0, .ref 21), (1, .int 1)] (some (.int 0)) hh_a203 0 0 0 0 0 0 367 [.int 0] ap_267 (by decide +kernel) (by decide +kernel) (iv_a783 6 xs zf hz) ?_
  refine mx_B 5 372 [(3, .int 0), (2, .ref 36), (1, .ref 21), (0, .ref 0)] [.int 1, .ref 0, .ref 36, .int 0] (by decide +kernel) ?_
  refine mx_scr 6 1 373 (by decide +kernel) (by decide +kernel) (by decide +kernel) ?_
  refine mx_eq 1 (mx_pt l1 u1 (by decide +kernel)) ?_
  refine mx_call 402 3 [.ref 36, .int 1] [.int 0] [(0, .ref 36), (1, .int 1)] (some (.int 0)) hh_a203 0 0 0 0 0 0 376 [.int 0, .int 0] ap_402 (by decide +kernel) (by decide +kernel) (iv_a784 6 xs zf hz) ?_
  refine mx_B 5 20 [(3, .int 6), (2, .ref 36), (1, .ref 21), (0, .ref 0)] [.ref 0, .int 6] (by decide +kernel) ?_
  refine mx_S (.arraylength) 1 [] 21 [(3, .int 6), (2, .ref 36), (1, .ref 21), (0, .ref 0)] [.int 6, .int 6] (by decide +kernel) rfl ?_
  refine mx_B 4 543 [(3, .int 6), (2, .ref 36), (1, .ref 21), (0, .ref 0)] [.int 1] (by decide +kernel) ?_
  exact mx_ret (some (.int 1)) (by decide +kernel) ⟨rfl, rfl⟩
theorem iv_a786 (L : Nat) (xs : Nat → Int32) (zf : Value) (hz : zf.category = 1) : mx_R L xs zf ah_M267 0 [(0, .ref 21), (1, .int 2)] [] hh_a203 0 0 0 0 (fun v h' => v = some (.int 0) ∧ h' = hh_a203) := by
  refine mx_B 5 71 [(0, .ref 21), (1, .int 2)] [.int 0] (by decide +kernel) ?_
  exact mx_ret (some (.int 0)) (by decide +kernel) ⟨rfl, rfl⟩
theorem iv_a787 (L : Nat) (xs : Nat → Int32) (zf : Value) (hz : zf.category = 1) : mx_R L xs zf ah_M402 0 [(0, .ref 36), (1, .int 2)] [] hh_a203 0 0 0 0 (fun v h' => v = some (.int 0) ∧ h' = hh_a203) := by
  refine mx_B 9 20 [(0, .ref 36), (1, .int 2)] [.int 0] (by decide +kernel) ?_
  exact mx_ret (some (.int 0)) (by decide +kernel) ⟨rfl, rfl⟩
theorem iv_a788 (xs : Nat → Int32) (zf : Value) (hz : zf.category = 1) (hk : xs 0 &&& 15 = 8) (l1 : 2 ≤ (xs 1).toInt) (u1 : (xs 1).toInt ≤ 2) : mx_R 6 xs zf ah_M0 18 [(3, .int 0), (2, .ref 36), (1, .ref 21), (0, .ref 0)] [] hh_a203 0 0 1 21 (fun v h' => v = some (.int 1) ∧ h' = hh_a203) := by
  refine mx_B 2 20 [(3, .int 0), (2, .ref 36), (1, .ref 21), (0, .ref 0)] [.ref 0, .int 0] (by decide +kernel) ?_
  refine mx_S (.arraylength) 1 [] 21 [(3, .int 0), (2, .ref 36), (1, .ref 21), (0, .ref 0)] [.int 6, .int 0] (by decide +kernel) rfl ?_
  refine mx_B 5 29 [(3, .int 0), (2, .ref 36), (1, .ref 21), (0, .ref 0)] [.int 0, .ref 0] (by decide +kernel) ?_
  refine mx_scr 6 0 30 (by decide +kernel) (by decide +kernel) (by decide +kernel) ?_
  refine mx_S (.bipush 15) 2 [] 32 [(3, .int 0), (2, .ref 36), (1, .ref 21), (0, .ref 0)] [.int 15, .int (xs 0)] (by decide +kernel) rfl ?_
  refine mx_S (.iand) 1 [] 33 [(3, .int 0), (2, .ref 36), (1, .ref 21), (0, .ref 0)] [.int ((xs 0) &&& 15)] (by decide +kernel) rfl ?_
  refine mx_eq 8 hk ?_
  refine mx_B 6 363 [(3, .int 0), (2, .ref 36), (1, .ref 21), (0, .ref 0)] [.int 1, .ref 0, .ref 21] (by decide +kernel) ?_
  refine mx_scr 6 1 364 (by decide +kernel) (by decide +kernel) (by decide +kernel) ?_
  refine mx_eq 2 (mx_pt l1 u1 (by decide +kernel)) ?_
  refine mx_call 267 3 [.ref 21, .int 2] [] [(0, .ref 21), (1, .int 2)] (some (.int 0)) hh_a203 0 0 0 0 0 0 367 [.int 0] ap_267 (by decide +kernel) (by decide +kernel) (iv_a786 6 xs zf hz) ?_
  refine mx_B 5 372 [(3, .int 0), (2, .ref 36), (1, .ref 21), (0, .ref 0)] [.int 1, .ref 0, .ref 36, .int 0] (by decide +kernel) ?_
  refine mx_scr 6 1 373 (by decide +kernel) (by decide +kernel) (by decide +kernel) ?_
  refine mx_eq 2 (mx_pt l1 u1 (by decide +kernel)) ?_
  refine mx_call 402 3 [.ref 36, .int 2] [.int 0] [(0, .ref 36), (1, .int 2)] (some (.int 0)) hh_a203 0 0 0 0 0 0 376 [.int 0, .int 0] ap_402 (by decide +kernel) (by decide +kernel) (iv_a787 6 xs zf hz) ?_
  refine mx_B 5 20 [(3, .int 6), (2, .ref 36), (1, .ref 21), (0, .ref 0)] [.ref 0, .int 6] (by decide +kernel) ?_
  refine mx_S (.arraylength) 1 [] 21 [(3, .int 6), (2, .ref 36), (1, .ref 21), (0, .ref 0)] [.int 6, .int 6] (by decide +kernel) rfl ?_
  refine mx_B 4 543 [(3, .int 6), (2, .ref 36), (1, .ref 21), (0, .ref 0)] [.int 1] (by decide +kernel) ?_
  exact mx_ret (some (.int 1)) (by decide +kernel) ⟨rfl, rfl⟩
theorem iv_a789 (L : Nat) (xs : Nat → Int32) (zf : Value) (hz : zf.category = 1) : mx_R L xs zf ah_M267 0 [(0, .ref 21), (1, .int 3)] [] hh_a203 0 0 0 0 (fun v h' => v = some (.int 0) ∧ h' = hh_a203) := by
  refine mx_B 5 79 [(0, .ref 21), (1, .int 3)] [.int 0] (by decide +kernel) ?_
  exact mx_ret (some (.int 0)) (by decide +kernel) ⟨rfl, rfl⟩
theorem iv_a790 (L : Nat) (xs : Nat → Int32) (zf : Value) (hz : zf.category = 1) : mx_R L xs zf ah_M402 0 [(0, .ref 36), (1, .int 3)] [] hh_a203 0 0 0 0 (fun v h' => v = some (.int 0) ∧ h' = hh_a203) := by
  refine mx_B 9 20 [(0, .ref 36), (1, .int 3)] [.int 0] (by decide +kernel) ?_
  exact mx_ret (some (.int 0)) (by decide +kernel) ⟨rfl, rfl⟩
theorem iv_a791 (xs : Nat → Int32) (zf : Value) (hz : zf.category = 1) (hk : xs 0 &&& 15 = 8) (l1 : 3 ≤ (xs 1).toInt) (u1 : (xs 1).toInt ≤ 3) : mx_R 6 xs zf ah_M0 18 [(3, .int 0), (2, .ref 36), (1, .ref 21), (0, .ref 0)] [] hh_a203 0 0 1 21 (fun v h' => v = some (.int 1) ∧ h' = hh_a203) := by
  refine mx_B 2 20 [(3, .int 0), (2, .ref 36), (1, .ref 21), (0, .ref 0)] [.ref 0, .int 0] (by decide +kernel) ?_
  refine mx_S (.arraylength) 1 [] 21 [(3, .int 0), (2, .ref 36), (1, .ref 21), (0, .ref 0)] [.int 6, .int 0] (by decide +kernel) rfl ?_
  refine mx_B 5 29 [(3, .int 0), (2, .ref 36), (1, .ref 21), (0, .ref 0)] [.int 0, .ref 0] (by decide +kernel) ?_
  refine mx_scr 6 0 30 (by decide +kernel) (by decide +kernel) (by decide +kernel) ?_
  refine mx_S (.bipush 15) 2 [] 32 [(3, .int 0), (2, .ref 36), (1, .ref 21), (0, .ref 0)] [.int 15, .int (xs 0)] (by decide +kernel) rfl ?_
  refine mx_S (.iand) 1 [] 33 [(3, .int 0), (2, .ref 36), (1, .ref 21), (0, .ref 0)] [.int ((xs 0) &&& 15)] (by decide +kernel) rfl ?_
  refine mx_eq 8 hk ?_
  refine mx_B 6 363 [(3, .int 0), (2, .ref 36), (1, .ref 21), (0, .ref 0)] [.int 1, .ref 0, .ref 21] (by decide +kernel) ?_
  refine mx_scr 6 1 364 (by decide +kernel) (by decide +kernel) (by decide +kernel) ?_
  refine mx_eq 3 (mx_pt l1 u1 (by decide +kernel)) ?_
  refine mx_call 267 3 [.ref 21, .int 3] [] [(0, .ref 21), (1, .int 3)] (some (.int 0)) hh_a203 0 0 0 0 0 0 367 [.int 0] ap_267 (by decide +kernel) (by decide +kernel) (iv_a789 6 xs zf hz) ?_
  refine mx_B 5 372 [(3, .int 0), (2, .ref 36), (1, .ref 21), (0, .ref 0)] [.int 1, .ref 0, .ref 36, .int 0] (by decide +kernel) ?_
  refine mx_scr 6 1 373 (by decide +kernel) (by decide +kernel) (by decide +kernel) ?_
  refine mx_eq 3 (mx_pt l1 u1 (by decide +kernel)) ?_
  refine mx_call 402 3 [.ref 36, .int 3] [.int 0] [(0, .ref 36), (1, .int 3)] (some (.int 0)) hh_a203 0 0 0 0 0 0 376 [.int 0, .int 0] ap_402 (by decide +kernel) (by decide +kernel) (iv_a790 6 xs zf hz) ?_
  refine mx_B 5 20 [(3, .int 6), (2, .ref 36), (1, .ref 21), (0, .ref 0)] [.ref 0, .int 6] (by decide +kernel) ?_
  refine mx_S (.arraylength) 1 [] 21 [(3, .int 6), (2, .ref 36), (1, .ref 21), (0, .ref 0)] [.int 6, .int 6] (by decide +kernel) rfl ?_
  refine mx_B 4 543 [(3, .int 6), (2, .ref 36), (1, .ref 21), (0, .ref 0)] [.int 1] (by decide +kernel) ?_
  exact mx_ret (some (.int 1)) (by decide +kernel) ⟨rfl, rfl⟩
theorem iv_a792 (L : Nat) (xs : Nat → Int32) (zf : Value) (hz : zf.category = 1) : mx_R L xs zf ah_M267 0 [(0, .ref 21), (1, .int 4)] [] hh_a203 0 0 0 0 (fun v h' => v = some (.int 0) ∧ h' = hh_a203) := by
  refine mx_B 5 87 [(0, .ref 21), (1, .int 4)] [.int 0] (by decide +kernel) ?_
  exact mx_ret (some (.int 0)) (by decide +kernel) ⟨rfl, rfl⟩
theorem iv_a793 (L : Nat) (xs : Nat → Int32) (zf : Value) (hz : zf.category = 1) : mx_R L xs zf ah_M402 0 [(0, .ref 36), (1, .int 4)] [] hh_a203 0 0 0 0 (fun v h' => v = some (.int 0) ∧ h' = hh_a203) := by
  refine mx_B 9 20 [(0, .ref 36), (1, .int 4)] [.int 0] (by decide +kernel) ?_
  exact mx_ret (some (.int 0)) (by decide +kernel) ⟨rfl, rfl⟩
theorem iv_a794 (xs : Nat → Int32) (zf : Value) (hz : zf.category = 1) (hk : xs 0 &&& 15 = 8) (l1 : 4 ≤ (xs 1).toInt) (u1 : (xs 1).toInt ≤ 4) : mx_R 6 xs zf ah_M0 18 [(3, .int 0), (2, .ref 36), (1, .ref 21), (0, .ref 0)] [] hh_a203 0 0 1 21 (fun v h' => v = some (.int 1) ∧ h' = hh_a203) := by
  refine mx_B 2 20 [(3, .int 0), (2, .ref 36), (1, .ref 21), (0, .ref 0)] [.ref 0, .int 0] (by decide +kernel) ?_
  refine mx_S (.arraylength) 1 [] 21 [(3, .int 0), (2, .ref 36), (1, .ref 21), (0, .ref 0)] [.int 6, .int 0] (by decide +kernel) rfl ?_
  refine mx_B 5 29 [(3, .int 0), (2, .ref 36), (1, .ref 21), (0, .ref 0)] [.int 0, .ref 0] (by decide +kernel) ?_
  refine mx_scr 6 0 30 (by decide +kernel) (by decide +kernel) (by decide +kernel) ?_
  refine mx_S (.bipush 15) 2 [] 32 [(3, .int 0), (2, .ref 36), (1, .ref 21), (0, .ref 0)] [.int 15, .int (xs 0)] (by decide +kernel) rfl ?_
  refine mx_S (.iand) 1 [] 33 [(3, .int 0), (2, .ref 36), (1, .ref 21), (0, .ref 0)] [.int ((xs 0) &&& 15)] (by decide +kernel) rfl ?_
  refine mx_eq 8 hk ?_
  refine mx_B 6 363 [(3, .int 0), (2, .ref 36), (1, .ref 21), (0, .ref 0)] [.int 1, .ref 0, .ref 21] (by decide +kernel) ?_
  refine mx_scr 6 1 364 (by decide +kernel) (by decide +kernel) (by decide +kernel) ?_
  refine mx_eq 4 (mx_pt l1 u1 (by decide +kernel)) ?_
  refine mx_call 267 3 [.ref 21, .int 4] [] [(0, .ref 21), (1, .int 4)] (some (.int 0)) hh_a203 0 0 0 0 0 0 367 [.int 0] ap_267 (by decide +kernel) (by decide +kernel) (iv_a792 6 xs zf hz) ?_
  refine mx_B 5 372 [(3, .int 0), (2, .ref 36), (1, .ref 21), (0, .ref 0)] [.int 1, .ref 0, .ref 36, .int 0] (by decide +kernel) ?_
  refine mx_scr 6 1 373 (by decide +kernel) (by decide +kernel) (by decide +kernel) ?_
  refine mx_eq 4 (mx_pt l1 u1 (by decide +kernel)) ?_
  refine mx_call 402 3 [.ref 36, .int 4] [.int 0] [(0, .ref 36), (1, .int 4)] (some (.int 0)) hh_a203 0 0 0 0 0 0 376 [.int 0, .int 0] ap_402 (by decide +kernel) (by decide +kernel) (iv_a793 6 xs zf hz) ?_
  refine mx_B 5 20 [(3, .int 6), (2, .ref 36), (1, .ref 21), (0, .ref 0)] [.ref 0, .int 6] (by decide +kernel) ?_
  refine mx_S (.arraylength) 1 [] 21 [(3, .int 6), (2, .ref 36), (1, .ref 21), (0, .ref 0)] [.int 6, .int 6] (by decide +kernel) rfl ?_
  refine mx_B 4 543 [(3, .int 6), (2, .ref 36), (1, .ref 21), (0, .ref 0)] [.int 1] (by decide +kernel) ?_
  exact mx_ret (some (.int 1)) (by decide +kernel) ⟨rfl, rfl⟩
theorem iv_a795 (L : Nat) (xs : Nat → Int32) (zf : Value) (hz : zf.category = 1) : mx_R L xs zf ah_M267 0 [(0, .ref 21), (1, .int 5)] [] hh_a203 0 0 0 0 (fun v h' => v = some (.int 0) ∧ h' = hh_a203) := by
  refine mx_B 5 95 [(0, .ref 21), (1, .int 5)] [.int 0] (by decide +kernel) ?_
  exact mx_ret (some (.int 0)) (by decide +kernel) ⟨rfl, rfl⟩
theorem iv_a796 (L : Nat) (xs : Nat → Int32) (zf : Value) (hz : zf.category = 1) : mx_R L xs zf ah_M402 0 [(0, .ref 36), (1, .int 5)] [] hh_a203 0 0 0 0 (fun v h' => v = some (.int 0) ∧ h' = hh_a203) := by
  refine mx_B 9 20 [(0, .ref 36), (1, .int 5)] [.int 0] (by decide +kernel) ?_
  exact mx_ret (some (.int 0)) (by decide +kernel) ⟨rfl, rfl⟩
theorem iv_a797 (xs : Nat → Int32) (zf : Value) (hz : zf.category = 1) (hk : xs 0 &&& 15 = 8) (l1 : 5 ≤ (xs 1).toInt) (u1 : (xs 1).toInt ≤ 5) : mx_R 6 xs zf ah_M0 18 [(3, .int 0), (2, .ref 36), (1, .ref 21), (0, .ref 0)] [] hh_a203 0 0 1 21 (fun v h' => v = some (.int 1) ∧ h' = hh_a203) := by
  refine mx_B 2 20 [(3, .int 0), (2, .ref 36), (1, .ref 21), (0, .ref 0)] [.ref 0, .int 0] (by decide +kernel) ?_
  refine mx_S (.arraylength) 1 [] 21 [(3, .int 0), (2, .ref 36), (1, .ref 21), (0, .ref 0)] [.int 6, .int 0] (by decide +kernel) rfl ?_
  refine mx_B 5 29 [(3, .int 0), (2, .ref 36), (1, .ref 21), (0, .ref 0)] [.int 0, .ref 0] (by decide +kernel) ?_
  refine mx_scr 6 0 30 (by decide +kernel) (by decide +kernel) (by decide +kernel) ?_
  refine mx_S (.bipush 15) 2 [] 32 [(3, .int 0), (2, .ref 36), (1, .ref 21), (0, .ref 0)] [.int 15, .int (xs 0)] (by decide +kernel) rfl ?_
  refine mx_S (.iand) 1 [] 33 [(3, .int 0), (2, .ref 36), (1, .ref 21), (0, .ref 0)] [.int ((xs 0) &&& 15)] (by decide +kernel) rfl ?_
  refine mx_eq 8 hk ?_
  refine mx_B 6 363 [(3, .int 0), (2, .ref 36), (1, .ref 21), (0, .ref 0)] [.int 1, .ref 0, .ref 21] (by decide +kernel) ?_
  refine mx_scr 6 1 364 (by decide +kernel) (by decide +kernel) (by decide +kernel) ?_
  refine mx_eq 5 (mx_pt l1 u1 (by decide +kernel)) ?_
  refine mx_call 267 3 [.ref 21, .int 5] [] [(0, .ref 21), (1, .int 5)] (some (.int 0)) hh_a203 0 0 0 0 0 0 367 [.int 0] ap_267 (by decide +kernel) (by decide +kernel) (iv_a795 6 xs zf hz) ?_
  refine mx_B 5 372 [(3, .int 0), (2, .ref 36), (1, .ref 21), (0, .ref 0)] [.int 1, .ref 0, .ref 36, .int 0] (by decide +kernel) ?_
  refine mx_scr 6 1 373 (by decide +kernel) (by decide +kernel) (by decide +kernel) ?_
  refine mx_eq 5 (mx_pt l1 u1 (by decide +kernel)) ?_
  refine mx_call 402 3 [.ref 36, .int 5] [.int 0] [(0, .ref 36), (1, .int 5)] (some (.int 0)) hh_a203 0 0 0 0 0 0 376 [.int 0, .int 0] ap_402 (by decide +kernel) (by decide +kernel) (iv_a796 6 xs zf hz) ?_
  refine mx_B 5 20 [(3, .int 6), (2, .ref 36), (1, .ref 21), (0, .ref 0)] [.ref 0, .int 6] (by decide +kernel) ?_
  refine mx_S (.arraylength) 1 [] 21 [(3, .int 6), (2, .ref 36), (1, .ref 21), (0, .ref 0)] [.int 6, .int 6] (by decide +kernel) rfl ?_
  refine mx_B 4 543 [(3, .int 6), (2, .ref 36), (1, .ref 21), (0, .ref 0)] [.int 1] (by decide +kernel) ?_
  exact mx_ret (some (.int 1)) (by decide +kernel) ⟨rfl, rfl⟩
theorem iv_a798 (L : Nat) (xs : Nat → Int32) (zf : Value) (hz : zf.category = 1) : mx_R L xs zf ah_M267 0 [(0, .ref 21), (1, .int 6)] [] hh_a203 0 0 0 0 (fun v h' => v = some (.int 0) ∧ h' = hh_a203) := by
  refine mx_B 5 103 [(0, .ref 21), (1, .int 6)] [.int 0] (by decide +kernel) ?_
  exact mx_ret (some (.int 0)) (by decide +kernel) ⟨rfl, rfl⟩
theorem iv_a799 (L : Nat) (xs : Nat → Int32) (zf : Value) (hz : zf.category = 1) : mx_R L xs zf ah_M402 0 [(0, .ref 36), (1, .int 6)] [] hh_a203 0 0 0 0 (fun v h' => v = some (.int 0) ∧ h' = hh_a203) := by
  refine mx_B 9 20 [(0, .ref 36), (1, .int 6)] [.int 0] (by decide +kernel) ?_
  exact mx_ret (some (.int 0)) (by decide +kernel) ⟨rfl, rfl⟩
theorem iv_a800 (xs : Nat → Int32) (zf : Value) (hz : zf.category = 1) (hk : xs 0 &&& 15 = 8) (l1 : 6 ≤ (xs 1).toInt) (u1 : (xs 1).toInt ≤ 6) : mx_R 6 xs zf ah_M0 18 [(3, .int 0), (2, .ref 36), (1, .ref 21), (0, .ref 0)] [] hh_a203 0 0 1 21 (fun v h' => v = some (.int 1) ∧ h' = hh_a203) := by
  refine mx_B 2 20 [(3, .int 0), (2, .ref 36), (1, .ref 21), (0, .ref 0)] [.ref 0, .int 0] (by decide +kernel) ?_
  refine mx_S (.arraylength) 1 [] 21 [(3, .int 0), (2, .ref 36), (1, .ref 21), (0, .ref 0)] [.int 6, .int 0] (by decide +kernel) rfl ?_
  refine mx_B 5 29 [(3, .int 0), (2, .ref 36), (1, .ref 21), (0, .ref 0)] [.int 0, .ref 0] (by decide +kernel) ?_
  refine mx_scr 6 0 30 (by decide +kernel) (by decide +kernel) (by decide +kernel) ?_
  refine mx_S (.bipush 15) 2 [] 32 [(3, .int 0), (2, .ref 36), (1, .ref 21), (0, .ref 0)] [.int 15, .int (xs 0)] (by decide +kernel) rfl ?_
  refine mx_S (.iand) 1 [] 33 [(3, .int 0), (2, .ref 36), (1, .ref 21), (0, .ref 0)] [.int ((xs 0) &&& 15)] (by decide +kernel) rfl ?_
  refine mx_eq 8 hk ?_
  refine mx_B 6 363 [(3, .int 0), (2, .ref 36), (1, .ref 21), (0, .ref 0)] [.int 1, .ref 0, .ref 21] (by decide +kernel) ?_
  refine mx_scr 6 1 364 (by decide +kernel) (by decide +kernel) (by decide +kernel) ?_
  refine mx_eq 6 (mx_pt l1 u1 (by decide +kernel)) ?_
  refine mx_call 267 3 [.ref 21, .int 6] [] [(0, .ref 21), (1, .int 6)] (some (.int 0)) hh_a203 0 0 0 0 0 0 367 [.int 0] ap_267 (by decide +kernel) (by decide +kernel) (iv_a798 6 xs zf hz) ?_
  refine mx_B 5 372 [(3, .int 0), (2, .ref 36), (1, .ref 21), (0, .ref 0)] [.int 1, .ref 0, .ref 36, .int 0] (by decide +kernel) ?_
  refine mx_scr 6 1 373 (by decide +kernel) (by decide +kernel) (by decide +kernel) ?_
  refine mx_eq 6 (mx_pt l1 u1 (by decide +kernel)) ?_
  refine mx_call 402 3 [.ref 36, .int 6] [.int 0] [(0, .ref 36), (1, .int 6)] (some (.int 0)) hh_a203 0 0 0 0 0 0 376 [.int 0, .int 0] ap_402 (by decide +kernel) (by decide +kernel) (iv_a799 6 xs zf hz) ?_
  refine mx_B 5 20 [(3, .int 6), (2, .ref 36), (1, .ref 21), (0, .ref 0)] [.ref 0, .int 6] (by decide +kernel) ?_
  refine mx_S (.arraylength) 1 [] 21 [(3, .int 6), (2, .ref 36), (1, .ref 21), (0, .ref 0)] [.int 6, .int 6] (by decide +kernel) rfl ?_
  refine mx_B 4 543 [(3, .int 6), (2, .ref 36), (1, .ref 21), (0, .ref 0)] [.int 1] (by decide +kernel) ?_
  exact mx_ret (some (.int 1)) (by decide +kernel) ⟨rfl, rfl⟩
theorem iv_a801 (L : Nat) (xs : Nat → Int32) (zf : Value) (hz : zf.category = 1) : mx_R L xs zf ah_M267 0 [(0, .ref 21), (1, .int 7)] [] hh_a203 0 0 0 0 (fun v h' => v = some (.int 0) ∧ h' = hh_a203) := by
  refine mx_B 5 111 [(0, .ref 21), (1, .int 7)] [.int 0] (by decide +kernel) ?_
  exact mx_ret (some (.int 0)) (by decide +kernel) ⟨rfl, rfl⟩
theorem iv_a802 (L : Nat) (xs : Nat → Int32) (zf : Value) (hz : zf.category = 1) : mx_R L xs zf ah_M402 0 [(0, .ref 36), (1, .int 7)] [] hh_a203 0 0 0 0 (fun v h' => v = some (.int 0) ∧ h' = hh_a203) := by
  refine mx_B 9 20 [(0, .ref 36), (1, .int 7)] [.int 0] (by decide +kernel) ?_
  exact mx_ret (some (.int 0)) (by decide +kernel) ⟨rfl, rfl⟩
theorem iv_a803 (xs : Nat → Int32) (zf : Value) (hz : zf.category = 1) (hk : xs 0 &&& 15 = 8) (l1 : 7 ≤ (xs 1).toInt) (u1 : (xs 1).toInt ≤ 7) : mx_R 6 xs zf ah_M0 18 [(3, .int 0), (2, .ref 36), (1, .ref 21), (0, .ref 0)] [] hh_a203 0 0 1 21 (fun v h' => v = some (.int 1) ∧ h' = hh_a203) := by
  refine mx_B 2 20 [(3, .int 0), (2, .ref 36), (1, .ref 21), (0, .ref 0)] [.ref 0, .int 0] (by decide +kernel) ?_
  refine mx_S (.arraylength) 1 [] 21 [(3, .int 0), (2, .ref 36), (1, .ref 21), (0, .ref 0)] [.int 6, .int 0] (by decide +kernel) rfl ?_
  refine mx_B 5 29 [(3, .int 0), (2, .ref 36), (1, .ref 21), (0, .ref 0)] [.int 0, .ref 0] (by decide +kernel) ?_
  refine mx_scr 6 0 30 (by decide +kernel) (by decide +kernel) (by decide +kernel) ?_
  refine mx_S (.bipush 15) 2 [] 32 [(3, .int 0), (2, .ref 36), (1, .ref 21), (0, .ref 0)] [.int 15, .int (xs 0)] (by decide +kernel) rfl ?_
  refine mx_S (.iand) 1 [] 33 [(3, .int 0), (2, .ref 36), (1, .ref 21), (0, .ref 0)] [.int ((xs 0) &&& 15)] (by decide +kernel) rfl ?_
  refine mx_eq 8 hk ?_
  refine mx_B 6 363 [(3, .int 0), (2, .ref 36), (1, .ref 21), (0, .ref 0)] [.int 1, .ref 0, .ref 21] (by decide +kernel) ?_
  refine mx_scr 6 1 364 (by decide +kernel) (by decide +kernel) (by decide +kernel) ?_
  refine mx_eq 7 (mx_pt l1 u1 (by decide +kernel)) ?_
  refine mx_call 267 3 [.ref 21, .int 7] [] [(0, .ref 21), (1, .int 7)] (some (.int 0)) hh_a203 0 0 0 0 0 0 367 [.int 0] ap_267 (by decide +kernel) (by decide +kernel) (iv_a801 6 xs zf hz) ?_
  refine mx_B 5 372 [(3, .int 0), (2, .ref 36), (1, .ref 21), (0, .ref 0)] [.int 1, .ref 0, .ref 36, .int 0] (by decide +kernel) ?_
  refine mx_scr 6 1 373 (by decide +kernel) (by decide +kernel) (by decide +kernel) ?_
  refine mx_eq 7 (mx_pt l1 u1 (by decide +kernel)) ?_
  refine mx_call 402 3 [.ref 36, .int 7] [.int 0] [(0, .ref 36), (1, .int 7)] (some (.int 0)) hh_a203 0 0 0 0 0 0 376 [.int 0, .int 0] ap_402 (by decide +kernel) (by decide +kernel) (iv_a802 6 xs zf hz) ?_
  refine mx_B 5 20 [(3, .int 6), (2, .ref 36), (1, .ref 21), (0, .ref 0)] [.ref 0, .int 6] (by decide +kernel) ?_
  refine mx_S (.arraylength) 1 [] 21 [(3, .int 6), (2, .ref 36), (1, .ref 21), (0, .ref 0)] [.int 6, .int 6] (by decide +kernel) rfl ?_
  refine mx_B 4 543 [(3, .int 6), (2, .ref 36), (1, .ref 21), (0, .ref 0)] [.int 1] (by decide +kernel) ?_
  exact mx_ret (some (.int 1)) (by decide +kernel) ⟨rfl, rfl⟩
theorem iv_a804 (L : Nat) (xs : Nat → Int32) (zf : Value) (hz : zf.category = 1) (hk : xs 0 &&& 15 = 8) (l1 : 8 ≤ (xs 1).toInt) : mx_R L xs zf ah_M267 0 [(0, .ref 21), (1, .int (xs 1))] [] hh_a203 0 0 0 0 (fun v h' => v = some (.int (-1)) ∧ h' = hh_a203) := by
  refine mx_S (.iload_n 1) 1 [] 1 [(0, .ref 21), (1, .int (xs 1))] [.int (xs 1)] (by decide +kernel) rfl ?_
  refine mx_sd 111 0 7 #[47, 55, 63, 71, 79, 87, 95, 103] 47 112 (by decide +kernel) (by decide +kernel) (mx_swd (x := (xs 1)) 0 7 8 2147483647 l1 (mx_hi _) (by decide +kernel)) ?_
  refine mx_S (.iconst (-1)) 1 [] 113 [(0, .ref 21), (1, .int (xs 1))] [.int (-1)] (by decide +kernel) rfl ?_
  exact mx_ret (some (.int (-1))) (by decide +kernel) ⟨rfl, rfl⟩
theorem iv_a805 (L : Nat) (xs : Nat → Int32) (zf : Value) (hz : zf.category = 1) (hk : xs 0 &&& 15 = 8) (l1 : 8 ≤ (xs 1).toInt) : mx_R L xs zf ah_M402 0 [(0, .ref 36), (1, .int (xs 1))] [] hh_a203 0 0 0 0 (fun v h' => v = some (.int (-1)) ∧ h' = hh_a203) := by
  refine mx_S (.iload_n 1) 1 [] 1 [(0, .ref 36), (1, .int (xs 1))] [.int (xs 1)] (by decide +kernel) rfl ?_
  refine mx_1 .lt 9 false 4 (mx_v1 .lt (x := (xs 1)) 8 2147483647  l1 (mx_hi _) (by decide +kernel)) (by decide +kernel) ?_
  refine mx_S (.iload_n 1) 1 [] 5 [(0, .ref 36), (1, .int (xs 1))] [.int (xs 1)] (by decide +kernel) rfl ?_
  refine mx_S (.bipush 7) 2 [] 7 [(0, .ref 36), (1, .int (xs 1))] [.int 7, .int (xs 1)] (by decide +kernel) rfl ?_
  refine mx_2 .le 5 false 10 (mx_v2 .le (x := (xs 1)) (y := 7) 8 2147483647 7  l1 (mx_hi _) (by decide +kernel) (by decide +kernel)) (by decide +kernel) ?_
  refine mx_S (.iconst (-1)) 1 [] 11 [(0, .ref 36), (1, .int (xs 1))] [.int (-1)] (by decide +kernel) rfl ?_
  exact mx_ret (some (.int (-1))) (by decide +kernel) ⟨rfl, rfl⟩
theorem iv_a806 (xs : Nat → Int32) (zf : Value) (hz : zf.category = 1) (hk : xs 0 &&& 15 = 8) (l1 : 8 ≤ (xs 1).toInt) : mx_R 6 xs zf ah_M0 18 [(3, .int 0), (2, .ref 36), (1, .ref 21), (0, .ref 0)] [] hh_a203 0 0 1 21 (fun v h' => v = some (.int 1) ∧ h' = hh_a203) := by
  refine mx_B 2 20 [(3, .int 0), (2, .ref 36), (1, .ref 21), (0, .ref 0)] [.ref 0, .int 0] (by decide +kernel) ?_
  refine mx_S (.arraylength) 1 [] 21 [(3, .int 0), (2, .ref 36), (1, .ref 21), (0, .ref 0)] [.int 6, .int 0] (by decide +kernel) rfl ?_
  refine mx_B 5 29 [(3, .int 0), (2, .ref 36), (1, .ref 21), (0, .ref 0)] [.int 0, .ref 0] (by decide +kernel) ?_
  refine mx_scr 6 0 30 (by decide +kernel) (by decide +kernel) (by decide +kernel) ?_
  refine mx_S (.bipush 15) 2 [] 32 [(3, .int 0), (2, .ref 36), (1, .ref 21), (0, .ref 0)] [.int 15, .int (xs 0)] (by decide +kernel) rfl ?_
  refine mx_S (.iand) 1 [] 33 [(3, .int 0), (2, .ref 36), (1, .ref 21), (0, .ref 0)] [.int ((xs 0) &&& 15)] (by decide +kernel) rfl ?_
  refine mx_eq 8 hk ?_
  refine mx_B 6 363 [(3, .int 0), (2, .ref 36), (1, .ref 21), (0, .ref 0)] [.int 1, .ref 0, .ref 21] (by decide +kernel) ?_
  refine mx_scr 6 1 364 (by decide +kernel) (by decide +kernel) (by decide +kernel) ?_
  refine mx_calls (.invokevirtual 51) [267, 5, 1, 0] 267 3 [.ref 21, .int (xs 1)] [] [(0, .ref 21), (1, .int (xs 1))] (some (.int (-1))) hh_a203 0 0 0 0 0 0 367 [.int (-1)] ap_267 (by decide +kernel) rfl ⟨by decide +kernel, rfl, rfl, rfl, rfl⟩ (iv_a804 6 xs zf hz hk l1) ?_
  refine mx_B 5 372 [(3, .int 0), (2, .ref 36), (1, .ref 21), (0, .ref 0)] [.int 1, .ref 0, .ref 36, .int (-1)] (by decide +kernel) ?_
  refine mx_scr 6 1 373 (by decide +kernel) (by decide +kernel) (by decide +kernel) ?_
  refine mx_calls (.invokevirtual 54) [402, 5, 1, 15] 402 3 [.ref 36, .int (xs 1)] [.int (-1)] [(0, .ref 36), (1, .int (xs 1))] (some (.int (-1))) hh_a203 0 0 0 0 0 0 376 [.int (-1), .int (-1)] ap_402 (by decide +kernel) rfl ⟨by decide +kernel, rfl, rfl, rfl, rfl⟩ (iv_a805 6 xs zf hz hk l1) ?_
  refine mx_B 5 20 [(3, .int 6), (2, .ref 36), (1, .ref 21), (0, .ref 0)] [.ref 0, .int 6] (by decide +kernel) ?_
  refine mx_S (.arraylength) 1 [] 21 [(3, .int 6), (2, .ref 36), (1, .ref 21), (0, .ref 0)] [.int 6, .int 6] (by decide +kernel) rfl ?_
  refine mx_B 4 543 [(3, .int 6), (2, .ref 36), (1, .ref 21), (0, .ref 0)] [.int 1] (by decide +kernel) ?_
  exact mx_ret (some (.int 1)) (by decide +kernel) ⟨rfl, rfl⟩
theorem lw_case8 (xs : Nat → Int32) (zf : Value) (hz : zf.category = 1) (hk : xs 0 &&& 15 = 8) : mx_R 6 xs zf ah_M0 18 [(3, .int 0), (2, .ref 36), (1, .ref 21), (0, .ref 0)] [] hh_a203 599906 7021181 2048 84000 (fun v _ => v = some (.int 1)) := by
  rcases mx_cut (xs 1).toInt (-1) 0 rfl with u1 | l1
  · exact mx_end (iv_a779 xs zf hz hk u1) (by decide +kernel)
  rcases mx_cut (xs 1).toInt 0 1 rfl with u1 | l1
  · exact mx_end (iv_a782 xs zf hz hk l1 u1) (by decide +kernel)
  rcases mx_cut (xs 1).toInt 1 2 rfl with u1 | l1
  · exact mx_end (iv_a785 xs zf hz hk l1 u1) (by decide +kernel)
  rcases mx_cut (xs 1).toInt 2 3 rfl with u1 | l1
  · exact mx_end (iv_a788 xs zf hz hk l1 u1) (by decide +kernel)
  rcases mx_cut (xs 1).toInt 3 4 rfl with u1 | l1
  · exact mx_end (iv_a791 xs zf hz hk l1 u1) (by decide +kernel)
  rcases mx_cut (xs 1).toInt 4 5 rfl with u1 | l1
  · exact mx_end (iv_a794 xs zf hz hk l1 u1) (by decide +kernel)
  rcases mx_cut (xs 1).toInt 5 6 rfl with u1 | l1
  · exact mx_end (iv_a797 xs zf hz hk l1 u1) (by decide +kernel)
  rcases mx_cut (xs 1).toInt 6 7 rfl with u1 | l1
  · exact mx_end (iv_a800 xs zf hz hk l1 u1) (by decide +kernel)
  rcases mx_cut (xs 1).toInt 7 8 rfl with u1 | l1
  · exact mx_end (iv_a803 xs zf hz hk l1 u1) (by decide +kernel)
  exact mx_end (iv_a806 xs zf hz hk l1) (by decide +kernel)
