/-! THE FIRST CALL, sort 3; printed by wip/whole/gen_p1.py. -/
theorem iv_a191 (L : Nat) (xs : Nat → Int32) (zf : Value) (hz : zf.category = 1) (hk : xs 0 &&& 15 = 3) (u1 : (xs 1).toInt ≤ (-1)) : mx_R L xs zf ah_M218 0 [(0, .ref 21), (1, .int (xs 1))] [] hh_a203 0 0 0 0 (fun v h' => v = some (.int (-1)) ∧ h' = hh_a203) := by
  refine mx_S (.iload_n 1) 1 [] 1 [(0, .ref 21), (1, .int (xs 1))] [.int (xs 1)] (by decide +kernel) rfl ?_
  refine mx_1 .ne 8 true 9 (mx_v1 .ne (x := (xs 1)) (-2147483648) (-1)  (mx_lo _) u1 (by decide +kernel)) (by decide +kernel) ?_
  refine mx_S (.iload_n 1) 1 [] 10 [(0, .ref 21), (1, .int (xs 1))] [.int (xs 1)] (by decide +kernel) rfl ?_
  refine mx_S (.iconst 1) 1 [] 11 [(0, .ref 21), (1, .int (xs 1))] [.int 1, .int (xs 1)] (by decide +kernel) rfl ?_
  refine mx_2 .ne 10 true 21 (mx_v2 .ne (x := (xs 1)) (y := 1) (-2147483648) (-1) 1  (mx_lo _) u1 (by decide +kernel) (by decide +kernel)) (by decide +kernel) ?_
  refine mx_S (.iconst (-1)) 1 [] 22 [(0, .ref 21), (1, .int (xs 1))] [.int (-1)] (by decide +kernel) rfl ?_
  exact mx_ret (some (.int (-1))) (by decide +kernel) ⟨rfl, rfl⟩
theorem iv_a192 (L : Nat) (xs : Nat → Int32) (zf : Value) (hz : zf.category = 1) (hk : xs 0 &&& 15 = 3) (u1 : (xs 1).toInt ≤ (-1)) : mx_R L xs zf ah_M370 0 [(0, .ref 36), (1, .int (xs 1))] [] hh_a203 0 0 0 0 (fun v h' => v = some (.int (-1)) ∧ h' = hh_a203) := by
  refine mx_S (.aload_n 0) 1 [] 1 [(0, .ref 36), (1, .int (xs 1))] [.ref 36] (by decide +kernel) rfl ?_
  refine mx_S (.getfield 575) 3 [72, 15] 4 [(0, .ref 36), (1, .int (xs 1))] [.int 0] (by decide +kernel) rfl ?_
  refine mx_1 .eq 12 true 16 (by decide +kernel) (by decide +kernel) ?_
  refine mx_S (.iconst (-1)) 1 [] 17 [(0, .ref 36), (1, .int (xs 1))] [.int (-1)] (by decide +kernel) rfl ?_
  refine mx_S (.goto 18) 3 [] 35 [(0, .ref 36), (1, .int (xs 1))] [.int (-1)] (by decide +kernel) rfl ?_
  exact mx_ret (some (.int (-1))) (by decide +kernel) ⟨rfl, rfl⟩
theorem iv_a193 (xs : Nat → Int32) (zf : Value) (hz : zf.category = 1) (hk : xs 0 &&& 15 = 3) (u1 : (xs 1).toInt ≤ (-1)) : mx_R 6 xs zf ah_M0 18 [(3, .int 0), (2, .ref 36), (1, .ref 21), (0, .ref 0)] [] hh_a203 0 0 1 21 (fun v h' => v = some (.int 1) ∧ h' = hh_a203) := by
  refine mx_B 2 20 [(3, .int 0), (2, .ref 36), (1, .ref 21), (0, .ref 0)] [.ref 0, .int 0] (by decide +kernel) ?_
  refine mx_S (.arraylength) 1 [] 21 [(3, .int 0), (2, .ref 36), (1, .ref 21), (0, .ref 0)] [.int 6, .int 0] (by decide +kernel) rfl ?_
  refine mx_B 5 29 [(3, .int 0), (2, .ref 36), (1, .ref 21), (0, .ref 0)] [.int 0, .ref 0] (by decide +kernel) ?_
  refine mx_scr 6 0 30 (by decide +kernel) (by decide +kernel) (by decide +kernel) ?_
  refine mx_S (.bipush 15) 2 [] 32 [(3, .int 0), (2, .ref 36), (1, .ref 21), (0, .ref 0)] [.int 15, .int (xs 0)] (by decide +kernel) rfl ?_
  refine mx_S (.iand) 1 [] 33 [(3, .int 0), (2, .ref 36), (1, .ref 21), (0, .ref 0)] [.int ((xs 0) &&& 15)] (by decide +kernel) rfl ?_
  refine mx_eq 3 hk ?_
  refine mx_B 6 208 [(3, .int 0), (2, .ref 36), (1, .ref 21), (0, .ref 0)] [.int 1, .ref 0, .ref 21] (by decide +kernel) ?_
  refine mx_scr 6 1 209 (by decide +kernel) (by decide +kernel) (by decide +kernel) ?_
  refine mx_calls (.invokevirtual 28) [218, 5, 1, 0] 218 3 [.ref 21, .int (xs 1)] [] [(0, .ref 21), (1, .int (xs 1))] (some (.int (-1))) hh_a203 0 0 0 0 0 0 212 [.int (-1)] ap_218 (by decide +kernel) rfl ⟨by decide +kernel, rfl, rfl, rfl, rfl⟩ (iv_a191 6 xs zf hz hk u1) ?_
  refine mx_B 5 217 [(3, .int 0), (2, .ref 36), (1, .ref 21), (0, .ref 0)] [.int 1, .ref 0, .ref 36, .int (-1)] (by decide +kernel) ?_
  refine mx_scr 6 1 218 (by decide +kernel) (by decide +kernel) (by decide +kernel) ?_
  refine mx_calls (.invokevirtual 31) [370, 5, 1, 15] 370 3 [.ref 36, .int (xs 1)] [.int (-1)] [(0, .ref 36), (1, .int (xs 1))] (some (.int (-1))) hh_a203 0 0 0 0 0 0 221 [.int (-1), .int (-1)] ap_370 (by decide +kernel) rfl ⟨by decide +kernel, rfl, rfl, rfl, rfl⟩ (iv_a192 6 xs zf hz hk u1) ?_
  refine mx_B 5 20 [(3, .int 6), (2, .ref 36), (1, .ref 21), (0, .ref 0)] [.ref 0, .int 6] (by decide +kernel) ?_
  refine mx_S (.arraylength) 1 [] 21 [(3, .int 6), (2, .ref 36), (1, .ref 21), (0, .ref 0)] [.int 6, .int 6] (by decide +kernel) rfl ?_
  refine mx_B 4 543 [(3, .int 6), (2, .ref 36), (1, .ref 21), (0, .ref 0)] [.int 1] (by decide +kernel) ?_
  exact mx_ret (some (.int 1)) (by decide +kernel) ⟨rfl, rfl⟩
theorem iv_a194 (L : Nat) (xs : Nat → Int32) (zf : Value) (hz : zf.category = 1) : mx_R L xs zf ah_M218 0 [(0, .ref 21), (1, .int 0)] [] hh_a203 0 0 0 0 (fun v h' => v = some (.int (-1)) ∧ h' = hh_a203) := by
  refine mx_B 4 8 [(0, .ref 21), (1, .int 0)] [.int (-1)] (by decide +kernel) ?_
  exact mx_ret (some (.int (-1))) (by decide +kernel) ⟨rfl, rfl⟩
theorem iv_a195 (L : Nat) (xs : Nat → Int32) (zf : Value) (hz : zf.category = 1) : mx_R L xs zf ah_M370 0 [(0, .ref 36), (1, .int 0)] [] hh_a203 0 0 0 0 (fun v h' => v = some (.int (-1)) ∧ h' = hh_a203) := by
  refine mx_B 5 35 [(0, .ref 36), (1, .int 0)] [.int (-1)] (by decide +kernel) ?_
  exact mx_ret (some (.int (-1))) (by decide +kernel) ⟨rfl, rfl⟩
theorem iv_a196 (xs : Nat → Int32) (zf : Value) (hz : zf.category = 1) (hk : xs 0 &&& 15 = 3) (l1 : 0 ≤ (xs 1).toInt) (u1 : (xs 1).toInt ≤ 0) : mx_R 6 xs zf ah_M0 18 [(3, .int 0), (2, .ref 36), (1, .ref 21), (0, .ref 0)] [] hh_a203 0 0 1 21 (fun v h' => v = some (.int 1) ∧ h' = hh_a203) := by
  refine mx_B 2 20 [(3, .int 0), (2, .ref 36), (1, .ref 21), (0, .ref 0)] [.ref 0, .int 0] (by decide +kernel) ?_
  refine mx_S (.arraylength) 1 [] 21 [(3, .int 0), (2, .ref 36), (1, .ref 21), (0, .ref 0)] [.int 6, .int 0] (by decide +kernel) rfl ?_
  refine mx_B 5 29 [(3, .int 0), (2, .ref 36), (1, .ref 21), (0, .ref 0)] [.int 0, .ref 0] (by decide +kernel) ?_
  refine mx_scr 6 0 30 (by decide +kernel) (by decide +kernel) (by decide +kernel) ?_
  refine mx_S (.bipush 15) 2 [] 32 [(3, .int 0), (2, .ref 36), (1, .ref 21), (0, .ref 0)] [.int 15, .int (xs 0)] (by decide +kernel) rfl ?_
  refine mx_S (.iand) 1 [] 33 [(3, .int 0), (2, .ref 36), (1, .ref 21), (0, .ref 0)] [.int ((xs 0) &&& 15)] (by decide +kernel) rfl ?_
  refine mx_eq 3 hk ?_
  refine mx_B 6 208 [(3, .int 0), (2, .ref 36), (1, .ref 21), (0, .ref 0)] [.int 1, .ref 0, .ref 21] (by decide +kernel) ?_
  refine mx_scr 6 1 209 (by decide +kernel) (by decide +kernel) (by decide +kernel) ?_
  refine mx_eq 0 (mx_pt l1 u1 (by decide +kernel)) ?_
  refine mx_call 218 3 [.ref 21, .int 0] [] [(0, .ref 21), (1, .int 0)] (some (.int (-1))) hh_a203 0 0 0 0 0 0 212 [.int (-1)] ap_218 (by decide +kernel) (by decide +kernel) (iv_a194 6 xs zf hz) ?_
  refine mx_B 5 217 [(3, .int 0), (2, .ref 36), (1, .ref 21), (0, .ref 0)] [.int 1, .ref 0, .ref 36, .int (-1)] (by decide +kernel) ?_
  refine mx_scr 6 1 218 (by decide +kernel) (by decide +kernel) (by decide +kernel) ?_
  refine mx_eq 0 (mx_pt l1 u1 (by decide +kernel)) ?_
  refine mx_call 370 3 [.ref 36, .int 0] [.int (-1)] [(0, .ref 36), (1, .int 0)] (some (.int (-1))) hh_a203 0 0 0 0 0 0 221 [.int (-1), .int (-1)] ap_370 (by decide +kernel) (by decide +kernel) (iv_a195 6 xs zf hz) ?_
  refine mx_B 5 20 [(3, .int 6), (2, .ref 36), (1, .ref 21), (0, .ref 0)] [.ref 0, .int 6] (by decide +kernel) ?_
  refine mx_S (.arraylength) 1 [] 21 [(3, .int 6), (2, .ref 36), (1, .ref 21), (0, .ref 0)] [.int 6, .int 6] (by decide +kernel) rfl ?_
  refine mx_B 4 543 [(3, .int 6), (2, .ref 36), (1, .ref 21), (0, .ref 0)] [.int 1] (by decide +kernel) ?_
  exact mx_ret (some (.int 1)) (by decide +kernel) ⟨rfl, rfl⟩
theorem iv_a197 (L : Nat) (xs : Nat → Int32) (zf : Value) (hz : zf.category = 1) : mx_R L xs zf ah_M218 0 [(0, .ref 21), (1, .int 1)] [] hh_a203 0 0 0 0 (fun v h' => v = some (.int (-1)) ∧ h' = hh_a203) := by
  refine mx_B 8 22 [(0, .ref 21), (1, .int 1)] [.int (-1)] (by decide +kernel) ?_
  exact mx_ret (some (.int (-1))) (by decide +kernel) ⟨rfl, rfl⟩
theorem iv_a198 (L : Nat) (xs : Nat → Int32) (zf : Value) (hz : zf.category = 1) : mx_R L xs zf ah_M370 0 [(0, .ref 36), (1, .int 1)] [] hh_a203 0 0 0 0 (fun v h' => v = some (.int (-1)) ∧ h' = hh_a203) := by
  refine mx_B 5 35 [(0, .ref 36), (1, .int 1)] [.int (-1)] (by decide +kernel) ?_
  exact mx_ret (some (.int (-1))) (by decide +kernel) ⟨rfl, rfl⟩
theorem iv_a199 (xs : Nat → Int32) (zf : Value) (hz : zf.category = 1) (hk : xs 0 &&& 15 = 3) (l1 : 1 ≤ (xs 1).toInt) (u1 : (xs 1).toInt ≤ 1) : mx_R 6 xs zf ah_M0 18 [(3, .int 0), (2, .ref 36), (1, .ref 21), (0, .ref 0)] [] hh_a203 0 0 1 21 (fun v h' => v = some (.int 1) ∧ h' = hh_a203) := by
  refine mx_B 2 20 [(3, .int 0), (2, .ref 36), (1, .ref 21), (0, .ref 0)] [.ref 0, .int 0] (by decide +kernel) ?_
  refine mx_S (.arraylength) 1 [] 21 [(3, .int 0), (2, .ref 36), (1, .ref 21), (0, .ref 0)] [.int 6, .int 0] (by decide +kernel) rfl ?_
  refine mx_B 5 29 [(3, .int 0), (2, .ref 36), (1, .ref 21), (0, .ref 0)] [.int 0, .ref 0] (by decide +kernel) ?_
  refine mx_scr 6 0 30 (by decide +kernel) (by decide +kernel) (by decide +kernel) ?_
  refine mx_S (.bipush 15) 2 [] 32 [(3, .int 0), (2, .ref 36), (1, .ref 21), (0, .ref 0)] [.int 15, .int (xs 0)] (by decide +kernel) rfl ?_
  refine mx_S (.iand) 1 [] 33 [(3, .int 0), (2, .ref 36), (1, .ref 21), (0, .ref 0)] [.int ((xs 0) &&& 15)] (by decide +kernel) rfl ?_
  refine mx_eq 3 hk ?_
  refine mx_B 6 208 [(3, .int 0), (2, .ref 36), (1, .ref 21), (0, .ref 0)] [.int 1, .ref 0, .ref 21] (by decide +kernel) ?_
  refine mx_scr 6 1 209 (by decide +kernel) (by decide +kernel) (by decide +kernel) ?_
  refine mx_eq 1 (mx_pt l1 u1 (by decide +kernel)) ?_
  refine mx_call 218 3 [.ref 21, .int 1] [] [(0, .ref 21), (1, .int 1)] (some (.int (-1))) hh_a203 0 0 0 0 0 0 212 [.int (-1)] ap_218 (by decide +kernel) (by decide +kernel) (iv_a197 6 xs zf hz) ?_
  refine mx_B 5 217 [(3, .int 0), (2, .ref 36), (1, .ref 21), (0, .ref 0)] [.int 1, .ref 0, .ref 36, .int (-1)] (by decide +kernel) ?_
  refine mx_scr 6 1 218 (by decide +kernel) (by decide +kernel) (by decide +kernel) ?_
  refine mx_eq 1 (mx_pt l1 u1 (by decide +kernel)) ?_
  refine mx_call 370 3 [.ref 36, .int 1] [.int (-1)] [(0, .ref 36), (1, .int 1)] (some (.int (-1))) hh_a203 0 0 0 0 0 0 221 [.int (-1), .int (-1)] ap_370 (by decide +kernel) (by decide +kernel) (iv_a198 6 xs zf hz) ?_
  refine mx_B 5 20 [(3, .int 6), (2, .ref 36), (1, .ref 21), (0, .ref 0)] [.ref 0, .int 6] (by decide +kernel) ?_
  refine mx_S (.arraylength) 1 [] 21 [(3, .int 6), (2, .ref 36), (1, .ref 21), (0, .ref 0)] [.int 6, .int 6] (by decide +kernel) rfl ?_
  refine mx_B 4 543 [(3, .int 6), (2, .ref 36), (1, .ref 21), (0, .ref 0)] [.int 1] (by decide +kernel) ?_
  exact mx_ret (some (.int 1)) (by decide +kernel) ⟨rfl, rfl⟩
theorem iv_a200 (L : Nat) (xs : Nat → Int32) (zf : Value) (hz : zf.category = 1) (hk : xs 0 &&& 15 = 3) (l1 : 2 ≤ (xs 1).toInt) : mx_R L xs zf ah_M218 0 [(0, .ref 21), (1, .int (xs 1))] [] hh_a203 0 0 0 0 (fun v h' => v = some (.int (-1)) ∧ h' = hh_a203) := by
  refine mx_S (.iload_n 1) 1 [] 1 [(0, .ref 21), (1, .int (xs 1))] [.int (xs 1)] (by decide +kernel) rfl ?_
  refine mx_1 .ne 8 true 9 (mx_v1 .ne (x := (xs 1)) 2 2147483647  l1 (mx_hi _) (by decide +kernel)) (by decide +kernel) ?_
  refine mx_S (.iload_n 1) 1 [] 10 [(0, .ref 21), (1, .int (xs 1))] [.int (xs 1)] (by decide +kernel) rfl ?_
  refine mx_S (.iconst 1) 1 [] 11 [(0, .ref 21), (1, .int (xs 1))] [.int 1, .int (xs 1)] (by decide +kernel) rfl ?_
  refine mx_2 .ne 10 true 21 (mx_v2 .ne (x := (xs 1)) (y := 1) 2 2147483647 1  l1 (mx_hi _) (by decide +kernel) (by decide +kernel)) (by decide +kernel) ?_
  refine mx_S (.iconst (-1)) 1 [] 22 [(0, .ref 21), (1, .int (xs 1))] [.int (-1)] (by decide +kernel) rfl ?_
  exact mx_ret (some (.int (-1))) (by decide +kernel) ⟨rfl, rfl⟩
theorem iv_a201 (L : Nat) (xs : Nat → Int32) (zf : Value) (hz : zf.category = 1) (hk : xs 0 &&& 15 = 3) (l1 : 2 ≤ (xs 1).toInt) : mx_R L xs zf ah_M370 0 [(0, .ref 36), (1, .int (xs 1))] [] hh_a203 0 0 0 0 (fun v h' => v = some (.int (-1)) ∧ h' = hh_a203) := by
  refine mx_S (.aload_n 0) 1 [] 1 [(0, .ref 36), (1, .int (xs 1))] [.ref 36] (by decide +kernel) rfl ?_
  refine mx_S (.getfield 575) 3 [72, 15] 4 [(0, .ref 36), (1, .int (xs 1))] [.int 0] (by decide +kernel) rfl ?_
  refine mx_1 .eq 12 true 16 (by decide +kernel) (by decide +kernel) ?_
  refine mx_S (.iconst (-1)) 1 [] 17 [(0, .ref 36), (1, .int (xs 1))] [.int (-1)] (by decide +kernel) rfl ?_
  refine mx_S (.goto 18) 3 [] 35 [(0, .ref 36), (1, .int (xs 1))] [.int (-1)] (by decide +kernel) rfl ?_
  exact mx_ret (some (.int (-1))) (by decide +kernel) ⟨rfl, rfl⟩
theorem iv_a202 (xs : Nat → Int32) (zf : Value) (hz : zf.category = 1) (hk : xs 0 &&& 15 = 3) (l1 : 2 ≤ (xs 1).toInt) : mx_R 6 xs zf ah_M0 18 [(3, .int 0), (2, .ref 36), (1, .ref 21), (0, .ref 0)] [] hh_a203 0 0 1 21 (fun v h' => v = some (.int 1) ∧ h' = hh_a203) := by
  refine mx_B 2 20 [(3, .int 0), (2, .ref 36), (1, .ref 21), (0, .ref 0)] [.ref 0, .int 0] (by decide +kernel) ?_
  refine mx_S (.arraylength) 1 [] 21 [(3, .int 0), (2, .ref 36), (1, .ref 21), (0, .ref 0)] [.int 6, .int 0] (by decide +kernel) rfl ?_
  refine mx_B 5 29 [(3, .int 0), (2, .ref 36), (1, .ref 21), (0, .ref 0)] [.int 0, .ref 0] (by decide +kernel) ?_
  refine mx_scr 6 0 30 (by decide +kernel) (by decide +kernel) (by decide +kernel) ?_
  refine mx_S (.bipush 15) 2 [] 32 [(3, .int 0), (2, .ref 36), (1, .ref 21), (0, .ref 0)] [.int 15, .int (xs 0)] (by decide +kernel) rfl ?_
  refine mx_S (.iand) 1 [] 33 [(3, .int 0), (2, .ref 36), (1, .ref 21), (0, .ref 0)] [.int ((xs 0) &&& 15)] (by decide +kernel) rfl ?_
  refine mx_eq 3 hk ?_
  refine mx_B 6 208 [(3, .int 0), (2, .ref 36), (1, .ref 21), (0, .ref 0)] [.int 1, .ref 0, .ref 21] (by decide +kernel) ?_
  refine mx_scr 6 1 209 (by decide +kernel) (by decide +kernel) (by decide +kernel) ?_
  refine mx_calls (.invokevirtual 28) [218, 5, 1, 0] 218 3 [.ref 21, .int (xs 1)] [] [(0, .ref 21), (1, .int (xs 1))] (some (.int (-1))) hh_a203 0 0 0 0 0 0 212 [.int (-1)] ap_218 (by decide +kernel) rfl ⟨by decide +kernel, rfl, rfl, rfl, rfl⟩ (iv_a200 6 xs zf hz hk l1) ?_
  refine mx_B 5 217 [(3, .int 0), (2, .ref 36), (1, .ref 21), (0, .ref 0)] [.int 1, .ref 0, .ref 36, .int (-1)] (by decide +kernel) ?_
  refine mx_scr 6 1 218 (by decide +kernel) (by decide +kernel) (by decide +kernel) ?_
  refine mx_calls (.invokevirtual 31) [370, 5, 1, 15] 370 3 [.ref 36, .int (xs 1)] [.int (-1)] [(0, .ref 36), (1, .int (xs 1))] (some (.int (-1))) hh_a203 0 0 0 0 0 0 221 [.int (-1), .int (-1)] ap_370 (by decide +kernel) rfl ⟨by decide +kernel, rfl, rfl, rfl, rfl⟩ (iv_a201 6 xs zf hz hk l1) ?_
  refine mx_B 5 20 [(3, .int 6), (2, .ref 36), (1, .ref 21), (0, .ref 0)] [.ref 0, .int 6] (by decide +kernel) ?_
  refine mx_S (.arraylength) 1 [] 21 [(3, .int 6), (2, .ref 36), (1, .ref 21), (0, .ref 0)] [.int 6, .int 6] (by decide +kernel) rfl ?_
  refine mx_B 4 543 [(3, .int 6), (2, .ref 36), (1, .ref 21), (0, .ref 0)] [.int 1] (by decide +kernel) ?_
  exact mx_ret (some (.int 1)) (by decide +kernel) ⟨rfl, rfl⟩
theorem lw_case3 (xs : Nat → Int32) (zf : Value) (hz : zf.category = 1) (hk : xs 0 &&& 15 = 3) : mx_R 6 xs zf ah_M0 18 [(3, .int 0), (2, .ref 36), (1, .ref 21), (0, .ref 0)] [] hh_a203 599906 7021181 2048 84000 (fun v _ => v = some (.int 1)) := by
  rcases mx_cut (xs 1).toInt (-1) 0 rfl with u1 | l1
  · exact mx_end (iv_a193 xs zf hz hk u1) (by decide +kernel)
  rcases mx_cut (xs 1).toInt 0 1 rfl with u1 | l1
  · exact mx_end (iv_a196 xs zf hz hk l1 u1) (by decide +kernel)
  rcases mx_cut (xs 1).toInt 1 2 rfl with u1 | l1
  · exact mx_end (iv_a199 xs zf hz hk l1 u1) (by decide +kernel)
  exact mx_end (iv_a202 xs zf hz hk l1) (by decide +kernel)
