/-! THE FIRST CALL, sort 1; printed by wip/whole/gen_p1.py. -/
theorem iv_a131 (L : Nat) (xs : Nat → Int32) (zf : Value) (hz : zf.category = 1) (hk : xs 0 &&& 15 = 1) (u1 : (xs 1).toInt ≤ (-1)) : mx_R L xs zf ah_M36 0 [(0, .ref 21), (1, .int (xs 1))] [] hh_a203 0 0 0 0 (fun v h' => v = some (.int (-1)) ∧ h' = hh_a203) := by
  refine mx_S (.iload_n 1) 1 [] 1 [(0, .ref 21), (1, .int (xs 1))] [.int (xs 1)] (by decide +kernel) rfl ?_
  refine mx_1 .lt 14 true 15 (mx_v1 .lt (x := (xs 1)) (-2147483648) (-1)  (mx_lo _) u1 (by decide +kernel)) (by decide +kernel) ?_
  refine mx_S (.iconst (-1)) 1 [] 16 [(0, .ref 21), (1, .int (xs 1))] [.int (-1)] (by decide +kernel) rfl ?_
  exact mx_ret (some (.int (-1))) (by decide +kernel) ⟨rfl, rfl⟩
theorem iv_a132 (L : Nat) (xs : Nat → Int32) (zf : Value) (hz : zf.category = 1) (hk : xs 0 &&& 15 = 1) (u1 : (xs 1).toInt ≤ (-1)) : mx_R L xs zf ah_M287 0 [(0, .ref 36), (1, .int (xs 1))] [] hh_a203 0 0 0 0 (fun v h' => v = some (.int (-1)) ∧ h' = hh_a203) := by
  refine mx_S (.iload_n 1) 1 [] 1 [(0, .ref 36), (1, .int (xs 1))] [.int (xs 1)] (by decide +kernel) rfl ?_
  refine mx_1 .lt 11 true 12 (mx_v1 .lt (x := (xs 1)) (-2147483648) (-1)  (mx_lo _) u1 (by decide +kernel)) (by decide +kernel) ?_
  refine mx_S (.iconst (-1)) 1 [] 13 [(0, .ref 36), (1, .int (xs 1))] [.int (-1)] (by decide +kernel) rfl ?_
  exact mx_ret (some (.int (-1))) (by decide +kernel) ⟨rfl, rfl⟩
theorem iv_a133 (xs : Nat → Int32) (zf : Value) (hz : zf.category = 1) (hk : xs 0 &&& 15 = 1) (u1 : (xs 1).toInt ≤ (-1)) : mx_R 6 xs zf ah_M0 18 [(3, .int 0), (2, .ref 36), (1, .ref 21), (0, .ref 0)] [] hh_a203 0 0 1 21 (fun v h' => v = some (.int 1) ∧ h' = hh_a203) := by
  refine mx_B 2 20 [(3, .int 0), (2, .ref 36), (1, .ref 21), (0, .ref 0)] [.ref 0, .int 0] (by decide +kernel) ?_
  refine mx_S (.arraylength) 1 [] 21 [(3, .int 0), (2, .ref 36), (1, .ref 21), (0, .ref 0)] [.int 6, .int 0] (by decide +kernel) rfl ?_
  refine mx_B 5 29 [(3, .int 0), (2, .ref 36), (1, .ref 21), (0, .ref 0)] [.int 0, .ref 0] (by decide +kernel) ?_
  refine mx_scr 6 0 30 (by decide +kernel) (by decide +kernel) (by decide +kernel) ?_
  refine mx_S (.bipush 15) 2 [] 32 [(3, .int 0), (2, .ref 36), (1, .ref 21), (0, .ref 0)] [.int 15, .int (xs 0)] (by decide +kernel) rfl ?_
  refine mx_S (.iand) 1 [] 33 [(3, .int 0), (2, .ref 36), (1, .ref 21), (0, .ref 0)] [.int ((xs 0) &&& 15)] (by decide +kernel) rfl ?_
  refine mx_eq 1 hk ?_
  refine mx_B 6 172 [(3, .int 0), (2, .ref 36), (1, .ref 21), (0, .ref 0)] [.int 1, .ref 0, .ref 21] (by decide +kernel) ?_
  refine mx_scr 6 1 173 (by decide +kernel) (by decide +kernel) (by decide +kernel) ?_
  refine mx_calls (.invokevirtual 18) [36, 5, 1, 0] 36 3 [.ref 21, .int (xs 1)] [] [(0, .ref 21), (1, .int (xs 1))] (some (.int (-1))) hh_a203 0 0 0 0 0 0 176 [.int (-1)] ap_36 (by decide +kernel) rfl ⟨by decide +kernel, rfl, rfl, rfl, rfl⟩ (iv_a131 6 xs zf hz hk u1) ?_
  refine mx_B 5 181 [(3, .int 0), (2, .ref 36), (1, .ref 21), (0, .ref 0)] [.int 1, .ref 0, .ref 36, .int (-1)] (by decide +kernel) ?_
  refine mx_scr 6 1 182 (by decide +kernel) (by decide +kernel) (by decide +kernel) ?_
  refine mx_calls (.invokevirtual 22) [287, 5, 1, 15] 287 3 [.ref 36, .int (xs 1)] [.int (-1)] [(0, .ref 36), (1, .int (xs 1))] (some (.int (-1))) hh_a203 0 0 0 0 0 0 185 [.int (-1), .int (-1)] ap_287 (by decide +kernel) rfl ⟨by decide +kernel, rfl, rfl, rfl, rfl⟩ (iv_a132 6 xs zf hz hk u1) ?_
  refine mx_B 5 20 [(3, .int 6), (2, .ref 36), (1, .ref 21), (0, .ref 0)] [.ref 0, .int 6] (by decide +kernel) ?_
  refine mx_S (.arraylength) 1 [] 21 [(3, .int 6), (2, .ref 36), (1, .ref 21), (0, .ref 0)] [.int 6, .int 6] (by decide +kernel) rfl ?_
  refine mx_B 4 543 [(3, .int 6), (2, .ref 36), (1, .ref 21), (0, .ref 0)] [.int 1] (by decide +kernel) ?_
  exact mx_ret (some (.int 1)) (by decide +kernel) ⟨rfl, rfl⟩
theorem iv_a134 (L : Nat) (xs : Nat → Int32) (zf : Value) (hz : zf.category = 1) : mx_R L xs zf ah_M15 0 [(0, .ref 22), (1, .int 0)] [] hh_a203 0 0 0 0 (fun v h' => v = none ∧ h' = hh_a203) := by
  refine mx_B 11 38 [(2, .int 16), (0, .ref 22), (1, .int 0)] [] (by decide +kernel) ?_
  exact mx_ret none (by decide +kernel) ⟨rfl, rfl⟩
theorem iv_a135 (L : Nat) (xs : Nat → Int32) (zf : Value) (hz : zf.category = 1) : mx_R L xs zf ah_M38 0 [(0, .ref 22), (1, .int 0)] [] hh_a203 0 0 1 22 (fun v h' => v = none ∧ h' = hh_a203) := by
  refine mx_B 4 15 [(0, .ref 22), (1, .int 0)] [.int 0, .ref 22] (by decide +kernel) ?_
  refine mx_call 15 3 [.ref 22, .int 0] [] [(0, .ref 22), (1, .int 0)] none hh_a203 0 0 0 0 0 0 18 [] ap_15 (by decide +kernel) (by decide +kernel) (iv_a134 L xs zf hz) ?_
  refine mx_B 10 78 [(0, .ref 22), (1, .int 0)] [.int 0, .ref 22] (by decide +kernel) ?_
  refine mx_put 79 3 [1] 1 [.ref 23, .int 0, .int 0, .int 0] 1 81 [.ref 23, .int 0, .int 0, .int 0] hh_a203 (by decide +kernel) rfl (by decide +kernel) (by decide +kernel) rfl ?_
  exact mx_ret none (by decide +kernel) ⟨rfl, rfl⟩
theorem iv_a136 (L : Nat) (xs : Nat → Int32) (zf : Value) (hz : zf.category = 1) : mx_R L xs zf ah_M37 0 [(0, .ref 22), (1, .int 0)] [] hh_a203 0 0 2 43 (fun v h' => v = none ∧ h' = hh_a203) := by
  refine mx_B 2 2 [(0, .ref 22), (1, .int 0)] [.int 0, .ref 22] (by decide +kernel) ?_
  refine mx_call 38 3 [.ref 22, .int 0] [] [(0, .ref 22), (1, .int 0)] none hh_a203 0 0 1 22 0 0 5 [] ap_38 (by decide +kernel) (by decide +kernel) (iv_a135 L xs zf hz) ?_
  exact mx_ret none (by decide +kernel) ⟨rfl, rfl⟩
theorem iv_a137 (L : Nat) (xs : Nat → Int32) (zf : Value) (hz : zf.category = 1) : mx_R L xs zf ah_M36 0 [(0, .ref 21), (1, .int 0)] [] hh_a203 0 0 3 64 (fun v h' => v = some (.int 0) ∧ h' = hh_a203) := by
  refine mx_B 5 9 [(0, .ref 21), (1, .int 0)] [.ref 22, .int 0] (by decide +kernel) ?_
  refine mx_call 10 3 [.ref 22] [.int 0] [(0, .ref 22)] (some (.int 0)) hh_a203 0 0 1 20 0 0 12 [.int 0, .int 0] ap_10 (by decide +kernel) (by decide +kernel) (iv_a15 L xs zf hz) ?_
  refine mx_B 4 22 [(0, .ref 21), (1, .int 0)] [.int 0, .ref 22] (by decide +kernel) ?_
  refine mx_call 37 3 [.ref 22, .int 0] [] [(0, .ref 22), (1, .int 0)] none hh_a203 0 0 2 43 0 0 25 [] ap_37 (by decide +kernel) (by decide +kernel) (iv_a136 L xs zf hz) ?_
  refine mx_B 1 26 [(0, .ref 21), (1, .int 0)] [.int 0] (by decide +kernel) ?_
  exact mx_ret (some (.int 0)) (by decide +kernel) ⟨rfl, rfl⟩
theorem iv_a138 (L : Nat) (xs : Nat → Int32) (zf : Value) (hz : zf.category = 1) : mx_R L xs zf ah_M287 0 [(0, .ref 36), (1, .int 0)] [] hh_a203 0 0 0 0 (fun v h' => v = some (.int 0) ∧ h' = hh_a203) := by
  refine mx_B 8 16 [(0, .ref 36), (1, .int 0)] [.int 0, .ref 36] (by decide +kernel) ?_
  refine mx_put 1 2 [15] 15 [.ref 37, .ref 38, .int 0, .int 0, .ref 39, .int 0, .ref 40, .ref 41, .ref 42, .ref 43, .int 0, .ref 44, .ref 45, .ref 46, .ref 47, .ref 48, .ref 49, .ref 50, .ref 51, .ref 52, .ref 53, .ref 54, .ref 55, .ref 56, .int 0, .int 0, .int 0, .ref 57, .ref 58, .ref 59, .ref 60, .ref 61, .int 0, .ref 62, .ref 63, .ref 64, .ref 65, .ref 66, .int 0, .ref 67, .ref 68, .ref 69, .int 0, .ref 70, .ref 71, .ref 72, .ref 73, .ref 74, .ref 75, .ref 76, .ref 77, .ref 78, .int 0, .ref 79, .ref 80, .ref 81, .int 0, .int 0, .int (-1), .int 0, .int 0, .int 0, .int 0, .int 0, .int 0, .int 0, .int 0, .ref 82, .ref 83, .ref 84, .ref 85, .ref 86, .int 0, .int 0, .int 0, .int 0, .int 0, .int 0, .int 0, .int 0, .int 0, .int 0, .int 0, .int 0, .int 0, .ref 87, .ref 88, .int 0, .ref 89, .ref 90, .ref 91, .ref 92, .ref 93, .ref 94, .ref 95, .ref 96, .ref 97, .ref 98, .ref 99, .ref 100, .ref 101, .ref 102, .ref 103, .ref 104, .ref 105, .ref 106, .ref 107, .ref 108, .ref 109, .ref 110, .ref 111, .int 0, .ref 112, .ref 113, .ref 114] 15 19 [.ref 37, .ref 38, .int 0, .int 0, .ref 39, .int 0, .ref 40, .ref 41, .ref 42, .ref 43, .int 0, .ref 44, .ref 45, .ref 46, .ref 47, .ref 48, .ref 49, .ref 50, .ref 51, .ref 52, .ref 53, .ref 54, .ref 55, .ref 56, .int 0, .int 0, .int 0, .ref 57, .ref 58, .ref 59, .ref 60, .ref 61, .int 0, .ref 62, .ref 63, .ref 64, .ref 65, .ref 66, .int 0, .ref 67, .ref 68, .ref 69, .int 0, .ref 70, .ref 71, .ref 72, .ref 73, .ref 74, .ref 75, .ref 76, .ref 77, .ref 78, .int 0, .ref 79, .ref 80, .ref 81, .int 0, .int 0, .int (-1), .int 0, .int 0, .int 0, .int 0, .int 0, .int 0, .int 0, .int 0, .ref 82, .ref 83, .ref 84, .ref 85, .ref 86, .int 0, .int 0, .int 0, .int 0, .int 0, .int 0, .int 0, .int 0, .int 0, .int 0, .int 0, .int 0, .int 0, .ref 87, .ref 88, .int 0, .ref 89, .ref 90, .ref 91, .ref 92, .ref 93, .ref 94, .ref 95, .ref 96, .ref 97, .ref 98, .ref 99, .ref 100, .ref 101, .ref 102, .ref 103, .ref 104, .ref 105, .ref 106, .ref 107, .ref 108, .ref 109, .ref 110, .ref 111, .int 0, .ref 112, .ref 113, .ref 114] hh_a203 (by decide +kernel) rfl (by decide +kernel) (by decide +kernel) rfl ?_
  refine mx_B 1 20 [(0, .ref 36), (1, .int 0)] [.int 0] (by decide +kernel) ?_
  exact mx_ret (some (.int 0)) (by decide +kernel) ⟨rfl, rfl⟩
theorem iv_a139 (xs : Nat → Int32) (zf : Value) (hz : zf.category = 1) (hk : xs 0 &&& 15 = 1) (l1 : 0 ≤ (xs 1).toInt) (u1 : (xs 1).toInt ≤ 0) : mx_R 6 xs zf ah_M0 18 [(3, .int 0), (2, .ref 36), (1, .ref 21), (0, .ref 0)] [] hh_a203 0 0 4 85 (fun v h' => v = some (.int 1) ∧ h' = hh_a203) := by
  refine mx_B 2 20 [(3, .int 0), (2, .ref 36), (1, .ref 21), (0, .ref 0)] [.ref 0, .int 0] (by decide +kernel) ?_
  refine mx_S (.arraylength) 1 [] 21 [(3, .int 0), (2, .ref 36), (1, .ref 21), (0, .ref 0)] [.int 6, .int 0] (by decide +kernel) rfl ?_
  refine mx_B 5 29 [(3, .int 0), (2, .ref 36), (1, .ref 21), (0, .ref 0)] [.int 0, .ref 0] (by decide +kernel) ?_
  refine mx_scr 6 0 30 (by decide +kernel) (by decide +kernel) (by decide +kernel) ?_
  refine mx_S (.bipush 15) 2 [] 32 [(3, .int 0), (2, .ref 36), (1, .ref 21), (0, .ref 0)] [.int 15, .int (xs 0)] (by decide +kernel) rfl ?_
  refine mx_S (.iand) 1 [] 33 [(3, .int 0), (2, .ref 36), (1, .ref 21), (0, .ref 0)] [.int ((xs 0) &&& 15)] (by decide +kernel) rfl ?_
  refine mx_eq 1 hk ?_
  refine mx_B 6 172 [(3, .int 0), (2, .ref 36), (1, .ref 21), (0, .ref 0)] [.int 1, .ref 0, .ref 21] (by decide +kernel) ?_
  refine mx_scr 6 1 173 (by decide +kernel) (by decide +kernel) (by decide +kernel) ?_
  refine mx_eq 0 (mx_pt l1 u1 (by decide +kernel)) ?_
  refine mx_call 36 3 [.ref 21, .int 0] [] [(0, .ref 21), (1, .int 0)] (some (.int 0)) hh_a203 0 0 3 64 0 0 176 [.int 0] ap_36 (by decide +kernel) (by decide +kernel) (iv_a137 6 xs zf hz) ?_
  refine mx_B 5 181 [(3, .int 0), (2, .ref 36), (1, .ref 21), (0, .ref 0)] [.int 1, .ref 0, .ref 36, .int 0] (by decide +kernel) ?_
  refine mx_scr 6 1 182 (by decide +kernel) (by decide +kernel) (by decide +kernel) ?_
  refine mx_eq 0 (mx_pt l1 u1 (by decide +kernel)) ?_
  refine mx_call 287 3 [.ref 36, .int 0] [.int 0] [(0, .ref 36), (1, .int 0)] (some (.int 0)) hh_a203 0 0 0 0 0 0 185 [.int 0, .int 0] ap_287 (by decide +kernel) (by decide +kernel) (iv_a138 6 xs zf hz) ?_
  refine mx_B 5 20 [(3, .int 6), (2, .ref 36), (1, .ref 21), (0, .ref 0)] [.ref 0, .int 6] (by decide +kernel) ?_
  refine mx_S (.arraylength) 1 [] 21 [(3, .int 6), (2, .ref 36), (1, .ref 21), (0, .ref 0)] [.int 6, .int 6] (by decide +kernel) rfl ?_
  refine mx_B 4 543 [(3, .int 6), (2, .ref 36), (1, .ref 21), (0, .ref 0)] [.int 1] (by decide +kernel) ?_
  exact mx_ret (some (.int 1)) (by decide +kernel) ⟨rfl, rfl⟩
theorem iv_a140 (L : Nat) (xs : Nat → Int32) (zf : Value) (hz : zf.category = 1) (hk : xs 0 &&& 15 = 1) (l1 : 1 ≤ (xs 1).toInt) : mx_R L xs zf ah_M36 0 [(0, .ref 21), (1, .int (xs 1))] [] hh_a203 0 0 2 40 (fun v h' => v = some (.int (-1)) ∧ h' = hh_a203) := by
  refine mx_S (.iload_n 1) 1 [] 1 [(0, .ref 21), (1, .int (xs 1))] [.int (xs 1)] (by decide +kernel) rfl ?_
  refine mx_1 .lt 14 false 4 (mx_v1 .lt (x := (xs 1)) 1 2147483647  l1 (mx_hi _) (by decide +kernel)) (by decide +kernel) ?_
  refine mx_S (.iload_n 1) 1 [] 5 [(0, .ref 21), (1, .int (xs 1))] [.int (xs 1)] (by decide +kernel) rfl ?_
  refine mx_S (.aload_n 0) 1 [] 6 [(0, .ref 21), (1, .int (xs 1))] [.ref 21, .int (xs 1)] (by decide +kernel) rfl ?_
  refine mx_S (.getfield 10) 3 [0, 0] 9 [(0, .ref 21), (1, .int (xs 1))] [.ref 22, .int (xs 1)] (by decide +kernel) rfl ?_
  refine mx_calls (.invokevirtual 41) [10, 5, 0, 1] 10 3 [.ref 22] [.int (xs 1)] [(0, .ref 22)] (some (.int 0)) hh_a203 0 0 1 20 0 0 12 [.int 0, .int (xs 1)] ap_10 (by decide +kernel) rfl ⟨by decide +kernel, rfl, rfl, rfl, rfl⟩ (iv_a15 L xs zf hz) ?_
  refine mx_2 .le 5 false 15 (mx_v2 .le (x := (xs 1)) (y := 0) 1 2147483647 0  l1 (mx_hi _) (by decide +kernel) (by decide +kernel)) (by decide +kernel) ?_
  refine mx_S (.iconst (-1)) 1 [] 16 [(0, .ref 21), (1, .int (xs 1))] [.int (-1)] (by decide +kernel) rfl ?_
  exact mx_ret (some (.int (-1))) (by decide +kernel) ⟨rfl, rfl⟩
theorem iv_a141 (L : Nat) (xs : Nat → Int32) (zf : Value) (hz : zf.category = 1) (hk : xs 0 &&& 15 = 1) (l1 : 1 ≤ (xs 1).toInt) : mx_R L xs zf ah_M287 0 [(0, .ref 36), (1, .int (xs 1))] [] hh_a203 0 0 0 0 (fun v h' => v = some (.int (-1)) ∧ h' = hh_a203) := by
  refine mx_S (.iload_n 1) 1 [] 1 [(0, .ref 36), (1, .int (xs 1))] [.int (xs 1)] (by decide +kernel) rfl ?_
  refine mx_1 .lt 11 false 4 (mx_v1 .lt (x := (xs 1)) 1 2147483647  l1 (mx_hi _) (by decide +kernel)) (by decide +kernel) ?_
  refine mx_S (.iload_n 1) 1 [] 5 [(0, .ref 36), (1, .int (xs 1))] [.int (xs 1)] (by decide +kernel) rfl ?_
  refine mx_S (.aload_n 0) 1 [] 6 [(0, .ref 36), (1, .int (xs 1))] [.ref 36, .int (xs 1)] (by decide +kernel) rfl ?_
  refine mx_S (.getfield 1) 3 [2, 15] 9 [(0, .ref 36), (1, .int (xs 1))] [.int 0, .int (xs 1)] (by decide +kernel) rfl ?_
  refine mx_2 .le 5 false 12 (mx_v2 .le (x := (xs 1)) (y := 0) 1 2147483647 0  l1 (mx_hi _) (by decide +kernel) (by decide +kernel)) (by decide +kernel) ?_
  refine mx_S (.iconst (-1)) 1 [] 13 [(0, .ref 36), (1, .int (xs 1))] [.int (-1)] (by decide +kernel) rfl ?_
  exact mx_ret (some (.int (-1))) (by decide +kernel) ⟨rfl, rfl⟩
theorem iv_a142 (xs : Nat → Int32) (zf : Value) (hz : zf.category = 1) (hk : xs 0 &&& 15 = 1) (l1 : 1 ≤ (xs 1).toInt) : mx_R 6 xs zf ah_M0 18 [(3, .int 0), (2, .ref 36), (1, .ref 21), (0, .ref 0)] [] hh_a203 0 0 3 61 (fun v h' => v = some (.int 1) ∧ h' = hh_a203) := by
  refine mx_B 2 20 [(3, .int 0), (2, .ref 36), (1, .ref 21), (0, .ref 0)] [.ref 0, .int 0] (by decide +kernel) ?_
  refine mx_S (.arraylength) 1 [] 21 [(3, .int 0), (2, .ref 36), (1, .ref 21), (0, .ref 0)] [.int 6, .int 0] (by decide +kernel) rfl ?_
  refine mx_B 5 29 [(3, .int 0), (2, .ref 36), (1, .ref 21), (0, .ref 0)] [.int 0, .ref 0] (by decide +kernel) ?_
  refine mx_scr 6 0 30 (by decide +kernel) (by decide +kernel) (by decide +kernel) ?_
  refine mx_S (.bipush 15) 2 [] 32 [(3, .int 0), (2, .ref 36), (1, .ref 21), (0, .ref 0)] [.int 15, .int (xs 0)] (by decide +kernel) rfl ?_
  refine mx_S (.iand) 1 [] 33 [(3, .int 0), (2, .ref 36), (1, .ref 21), (0, .ref 0)] [.int ((xs 0) &&& 15)] (by decide +kernel) rfl ?_
  refine mx_eq 1 hk ?_
  refine mx_B 6 172 [(3, .int 0), (2, .ref 36), (1, .ref 21), (0, .ref 0)] [.int 1, .ref 0, .ref 21] (by decide +kernel) ?_
  refine mx_scr 6 1 173 (by decide +kernel) (by decide +kernel) (by decide +kernel) ?_
  refine mx_calls (.invokevirtual 18) [36, 5, 1, 0] 36 3 [.ref 21, .int (xs 1)] [] [(0, .ref 21), (1, .int (xs 1))] (some (.int (-1))) hh_a203 0 0 2 40 0 0 176 [.int (-1)] ap_36 (by decide +kernel) rfl ⟨by decide +kernel, rfl, rfl, rfl, rfl⟩ (iv_a140 6 xs zf hz hk l1) ?_
  refine mx_B 5 181 [(3, .int 0), (2, .ref 36), (1, .ref 21), (0, .ref 0)] [.int 1, .ref 0, .ref 36, .int (-1)] (by decide +kernel) ?_
  refine mx_scr 6 1 182 (by decide +kernel) (by decide +kernel) (by decide +kernel) ?_
  refine mx_calls (.invokevirtual 22) [287, 5, 1, 15] 287 3 [.ref 36, .int (xs 1)] [.int (-1)] [(0, .ref 36), (1, .int (xs 1))] (some (.int (-1))) hh_a203 0 0 0 0 0 0 185 [.int (-1), .int (-1)] ap_287 (by decide +kernel) rfl ⟨by decide +kernel, rfl, rfl, rfl, rfl⟩ (iv_a141 6 xs zf hz hk l1) ?_
  refine mx_B 5 20 [(3, .int 6), (2, .ref 36), (1, .ref 21), (0, .ref 0)] [.ref 0, .int 6] (by decide +kernel) ?_
  refine mx_S (.arraylength) 1 [] 21 [(3, .int 6), (2, .ref 36), (1, .ref 21), (0, .ref 0)] [.int 6, .int 6] (by decide +kernel) rfl ?_
  refine mx_B 4 543 [(3, .int 6), (2, .ref 36), (1, .ref 21), (0, .ref 0)] [.int 1] (by decide +kernel) ?_
  exact mx_ret (some (.int 1)) (by decide +kernel) ⟨rfl, rfl⟩
theorem lw_case1 (xs : Nat → Int32) (zf : Value) (hz : zf.category = 1) (hk : xs 0 &&& 15 = 1) : mx_R 6 xs zf ah_M0 18 [(3, .int 0), (2, .ref 36), (1, .ref 21), (0, .ref 0)] [] hh_a203 599906 7021181 2048 84000 (fun v _ => v = some (.int 1)) := by
  rcases mx_cut (xs 1).toInt (-1) 0 rfl with u1 | l1
  · exact mx_end (iv_a133 xs zf hz hk u1) (by decide +kernel)
  rcases mx_cut (xs 1).toInt 0 1 rfl with u1 | l1
  · exact mx_end (iv_a139 xs zf hz hk l1 u1) (by decide +kernel)
  exact mx_end (iv_a142 xs zf hz hk l1) (by decide +kernel)
