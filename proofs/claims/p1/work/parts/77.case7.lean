/-! THE FIRST CALL, sort 7; printed by wip/whole/gen_p1.py. -/
theorem iv_a759 (L : Nat) (xs : Nat → Int32) (zf : Value) (hz : zf.category = 1) (hk : xs 0 &&& 15 = 7) (u2 : (xs 2).toInt ≤ 0) : mx_R L xs zf ah_M235 0 [(0, .ref 21), (1, .int (xs 1)), (2, .int (xs 2))] [] hh_a203 0 0 0 0 (fun v h' => v = some (.int (-1)) ∧ h' = hh_a203) := by
  refine mx_S (.iload_n 2) 1 [] 1 [(0, .ref 21), (1, .int (xs 1)), (2, .int (xs 2))] [.int (xs 2)] (by decide +kernel) rfl ?_
  refine mx_S (.iconst 1) 1 [] 2 [(0, .ref 21), (1, .int (xs 1)), (2, .int (xs 2))] [.int 1, .int (xs 2)] (by decide +kernel) rfl ?_
  refine mx_2 .lt 10 true 12 (mx_v2 .lt (x := (xs 2)) (y := 1) (-2147483648) 0 1  (mx_lo _) u2 (by decide +kernel) (by decide +kernel)) (by decide +kernel) ?_
  refine mx_S (.iconst (-1)) 1 [] 13 [(0, .ref 21), (1, .int (xs 1)), (2, .int (xs 2))] [.int (-1)] (by decide +kernel) rfl ?_
  exact mx_ret (some (.int (-1))) (by decide +kernel) ⟨rfl, rfl⟩
theorem iv_a760 (L : Nat) (xs : Nat → Int32) (zf : Value) (hz : zf.category = 1) (hk : xs 0 &&& 15 = 7) (u2 : (xs 2).toInt ≤ 0) : mx_R L xs zf ah_M381 0 [(0, .ref 36), (1, .int (xs 1))] [] hh_a203 0 0 0 0 (fun v h' => v = some (.int 0) ∧ h' = hh_a203) := by
  refine mx_S (.aload_n 0) 1 [] 1 [(0, .ref 36), (1, .int (xs 1))] [.ref 36] (by decide +kernel) rfl ?_
  refine mx_S (.getfield 569) 3 [74, 15] 4 [(0, .ref 36), (1, .int (xs 1))] [.int 0] (by decide +kernel) rfl ?_
  refine mx_1 .eq 19 true 23 (by decide +kernel) (by decide +kernel) ?_
  refine mx_S (.iconst 0) 1 [] 24 [(0, .ref 36), (1, .int (xs 1))] [.int 0] (by decide +kernel) rfl ?_
  exact mx_ret (some (.int 0)) (by decide +kernel) ⟨rfl, rfl⟩
theorem iv_a761 (L : Nat) (xs : Nat → Int32) (zf : Value) (hz : zf.category = 1) (hk : xs 0 &&& 15 = 7) (u2 : (xs 2).toInt ≤ 0) : mx_R L xs zf ah_M380 0 [(0, .ref 36), (1, .int (xs 1)), (2, .int (xs 2))] [] hh_a203 0 0 1 21 (fun v h' => v = some (.int (-1)) ∧ h' = hh_a203) := by
  refine mx_S (.aload_n 0) 1 [] 1 [(0, .ref 36), (1, .int (xs 1)), (2, .int (xs 2))] [.ref 36] (by decide +kernel) rfl ?_
  refine mx_S (.iload_n 1) 1 [] 2 [(0, .ref 36), (1, .int (xs 1)), (2, .int (xs 2))] [.int (xs 1), .ref 36] (by decide +kernel) rfl ?_
  refine mx_calls (.invokevirtual 709) [381, 5, 1, 15] 381 3 [.ref 36, .int (xs 1)] [] [(0, .ref 36), (1, .int (xs 1))] (some (.int 0)) hh_a203 0 0 0 0 0 0 5 [.int 0] ap_381 (by decide +kernel) rfl ⟨by decide +kernel, rfl, rfl, rfl, rfl⟩ (iv_a760 L xs zf hz hk u2) ?_
  refine mx_1 .eq 15 true 20 (by decide +kernel) (by decide +kernel) ?_
  refine mx_S (.iconst (-1)) 1 [] 21 [(0, .ref 36), (1, .int (xs 1)), (2, .int (xs 2))] [.int (-1)] (by decide +kernel) rfl ?_
  exact mx_ret (some (.int (-1))) (by decide +kernel) ⟨rfl, rfl⟩
theorem iv_a762 (xs : Nat → Int32) (zf : Value) (hz : zf.category = 1) (hk : xs 0 &&& 15 = 7) (u2 : (xs 2).toInt ≤ 0) : mx_R 6 xs zf ah_M0 18 [(3, .int 0), (2, .ref 36), (1, .ref 21), (0, .ref 0)] [] hh_a203 0 0 2 44 (fun v h' => v = some (.int 1) ∧ h' = hh_a203) := by
  refine mx_B 2 20 [(3, .int 0), (2, .ref 36), (1, .ref 21), (0, .ref 0)] [.ref 0, .int 0] (by decide +kernel) ?_
  refine mx_S (.arraylength) 1 [] 21 [(3, .int 0), (2, .ref 36), (1, .ref 21), (0, .ref 0)] [.int 6, .int 0] (by decide +kernel) rfl ?_
  refine mx_B 5 29 [(3, .int 0), (2, .ref 36), (1, .ref 21), (0, .ref 0)] [.int 0, .ref 0] (by decide +kernel) ?_
  refine mx_scr 6 0 30 (by decide +kernel) (by decide +kernel) (by decide +kernel) ?_
  refine mx_S (.bipush 15) 2 [] 32 [(3, .int 0), (2, .ref 36), (1, .ref 21), (0, .ref 0)] [.int 15, .int (xs 0)] (by decide +kernel) rfl ?_
  refine mx_S (.iand) 1 [] 33 [(3, .int 0), (2, .ref 36), (1, .ref 21), (0, .ref 0)] [.int ((xs 0) &&& 15)] (by decide +kernel) rfl ?_
  refine mx_eq 7 hk ?_
  refine mx_B 6 330 [(3, .int 0), (2, .ref 36), (1, .ref 21), (0, .ref 0)] [.int 1, .ref 0, .ref 21] (by decide +kernel) ?_
  refine mx_scr 6 1 331 (by decide +kernel) (by decide +kernel) (by decide +kernel) ?_
  refine mx_S (.aload_n 0) 1 [] 332 [(3, .int 0), (2, .ref 36), (1, .ref 21), (0, .ref 0)] [.ref 0, .int (xs 1), .ref 21] (by decide +kernel) rfl ?_
  refine mx_S (.iload_n 3) 1 [] 333 [(3, .int 0), (2, .ref 36), (1, .ref 21), (0, .ref 0)] [.int 0, .ref 0, .int (xs 1), .ref 21] (by decide +kernel) rfl ?_
  refine mx_S (.iconst 2) 1 [] 334 [(3, .int 0), (2, .ref 36), (1, .ref 21), (0, .ref 0)] [.int 2, .int 0, .ref 0, .int (xs 1), .ref 21] (by decide +kernel) rfl ?_
  refine mx_S (.iadd) 1 [] 335 [(3, .int 0), (2, .ref 36), (1, .ref 21), (0, .ref 0)] [.int 2, .ref 0, .int (xs 1), .ref 21] (by decide +kernel) rfl ?_
  refine mx_scr 6 2 336 (by decide +kernel) (by decide +kernel) (by decide +kernel) ?_
  refine mx_calls (.invokevirtual 46) [235, 5, 2, 0] 235 3 [.ref 21, .int (xs 1), .int (xs 2)] [] [(0, .ref 21), (1, .int (xs 1)), (2, .int (xs 2))] (some (.int (-1))) hh_a203 0 0 0 0 0 0 339 [.int (-1)] ap_235 (by decide +kernel) rfl ⟨by decide +kernel, rfl, rfl, rfl, rfl⟩ (iv_a759 6 xs zf hz hk u2) ?_
  refine mx_B 5 344 [(3, .int 0), (2, .ref 36), (1, .ref 21), (0, .ref 0)] [.int 1, .ref 0, .ref 36, .int (-1)] (by decide +kernel) ?_
  refine mx_scr 6 1 345 (by decide +kernel) (by decide +kernel) (by decide +kernel) ?_
  refine mx_S (.aload_n 0) 1 [] 346 [(3, .int 0), (2, .ref 36), (1, .ref 21), (0, .ref 0)] [.ref 0, .int (xs 1), .ref 36, .int (-1)] (by decide +kernel) rfl ?_
  refine mx_S (.iload_n 3) 1 [] 347 [(3, .int 0), (2, .ref 36), (1, .ref 21), (0, .ref 0)] [.int 0, .ref 0, .int (xs 1), .ref 36, .int (-1)] (by decide +kernel) rfl ?_
  refine mx_S (.iconst 2) 1 [] 348 [(3, .int 0), (2, .ref 36), (1, .ref 21), (0, .ref 0)] [.int 2, .int 0, .ref 0, .int (xs 1), .ref 36, .int (-1)] (by decide +kernel) rfl ?_
  refine mx_S (.iadd) 1 [] 349 [(3, .int 0), (2, .ref 36), (1, .ref 21), (0, .ref 0)] [.int 2, .ref 0, .int (xs 1), .ref 36, .int (-1)] (by decide +kernel) rfl ?_
  refine mx_scr 6 2 350 (by decide +kernel) (by decide +kernel) (by decide +kernel) ?_
  refine mx_calls (.invokevirtual 50) [380, 5, 2, 15] 380 3 [.ref 36, .int (xs 1), .int (xs 2)] [.int (-1)] [(0, .ref 36), (1, .int (xs 1)), (2, .int (xs 2))] (some (.int (-1))) hh_a203 0 0 1 21 0 0 353 [.int (-1), .int (-1)] ap_380 (by decide +kernel) rfl ⟨by decide +kernel, rfl, rfl, rfl, rfl⟩ (iv_a761 6 xs zf hz hk u2) ?_
  refine mx_B 5 20 [(3, .int 6), (2, .ref 36), (1, .ref 21), (0, .ref 0)] [.ref 0, .int 6] (by decide +kernel) ?_
  refine mx_S (.arraylength) 1 [] 21 [(3, .int 6), (2, .ref 36), (1, .ref 21), (0, .ref 0)] [.int 6, .int 6] (by decide +kernel) rfl ?_
  refine mx_B 4 543 [(3, .int 6), (2, .ref 36), (1, .ref 21), (0, .ref 0)] [.int 1] (by decide +kernel) ?_
  exact mx_ret (some (.int 1)) (by decide +kernel) ⟨rfl, rfl⟩
theorem iv_a763 (L : Nat) (xs : Nat → Int32) (zf : Value) (hz : zf.category = 1) (hk : xs 0 &&& 15 = 7) (u1 : (xs 1).toInt ≤ (-1)) (l2 : 1 ≤ (xs 2).toInt) (u2 : (xs 2).toInt ≤ 200) : mx_R L xs zf ah_M236 0 [(0, .ref 24), (1, .int (xs 1))] [] hh_a203 0 0 0 0 (fun v h' => v = some (.null) ∧ h' = hh_a203) := by
  refine mx_S (.iload_n 1) 1 [] 1 [(0, .ref 24), (1, .int (xs 1))] [.int (xs 1)] (by decide +kernel) rfl ?_
  refine mx_1 .lt 11 true 12 (mx_v1 .lt (x := (xs 1)) (-2147483648) (-1)  (mx_lo _) u1 (by decide +kernel)) (by decide +kernel) ?_
  refine mx_S (.aconst_null) 1 [] 13 [(0, .ref 24), (1, .int (xs 1))] [.null] (by decide +kernel) rfl ?_
  refine mx_S (.goto 9) 3 [] 22 [(0, .ref 24), (1, .int (xs 1))] [.null] (by decide +kernel) rfl ?_
  exact mx_ret (some (.null)) (by decide +kernel) ⟨rfl, rfl⟩
theorem iv_a764 (L : Nat) (xs : Nat → Int32) (zf : Value) (hz : zf.category = 1) (hk : xs 0 &&& 15 = 7) (u1 : (xs 1).toInt ≤ (-1)) (l2 : 1 ≤ (xs 2).toInt) (u2 : (xs 2).toInt ≤ 200) : mx_R L xs zf ah_M235 0 [(0, .ref 21), (1, .int (xs 1)), (2, .int (xs 2))] [] hh_a203 0 0 1 21 (fun v h' => v = some (.int (-1)) ∧ h' = hh_a203) := by
  refine mx_S (.iload_n 2) 1 [] 1 [(0, .ref 21), (1, .int (xs 1)), (2, .int (xs 2))] [.int (xs 2)] (by decide +kernel) rfl ?_
  refine mx_S (.iconst 1) 1 [] 2 [(0, .ref 21), (1, .int (xs 1)), (2, .int (xs 2))] [.int 1, .int (xs 2)] (by decide +kernel) rfl ?_
  refine mx_2 .lt 10 false 5 (mx_v2 .lt (x := (xs 2)) (y := 1) 1 200 1  l2 u2 (by decide +kernel) (by decide +kernel)) (by decide +kernel) ?_
  refine mx_S (.iload_n 2) 1 [] 6 [(0, .ref 21), (1, .int (xs 1)), (2, .int (xs 2))] [.int (xs 2)] (by decide +kernel) rfl ?_
  refine mx_S (.sipush 200) 3 [] 9 [(0, .ref 21), (1, .int (xs 1)), (2, .int (xs 2))] [.int 200, .int (xs 2)] (by decide +kernel) rfl ?_
  refine mx_2 .le 5 true 14 (mx_v2 .le (x := (xs 2)) (y := 200) 1 200 200  l2 u2 (by decide +kernel) (by decide +kernel)) (by decide +kernel) ?_
  refine mx_S (.aload_n 0) 1 [] 15 [(0, .ref 21), (1, .int (xs 1)), (2, .int (xs 2))] [.ref 21] (by decide +kernel) rfl ?_
  refine mx_S (.getfield 19) 3 [1, 0] 18 [(0, .ref 21), (1, .int (xs 1)), (2, .int (xs 2))] [.ref 24] (by decide +kernel) rfl ?_
  refine mx_S (.iload_n 1) 1 [] 19 [(0, .ref 21), (1, .int (xs 1)), (2, .int (xs 2))] [.int (xs 1), .ref 24] (by decide +kernel) rfl ?_
  refine mx_calls (.invokevirtual 145) [236, 5, 1, 2] 236 3 [.ref 24, .int (xs 1)] [] [(0, .ref 24), (1, .int (xs 1))] (some (.null)) hh_a203 0 0 0 0 0 0 22 [.null] ap_236 (by decide +kernel) rfl ⟨by decide +kernel, rfl, rfl, rfl, rfl⟩ (iv_a763 L xs zf hz hk u1 l2 u2) ?_
  refine mx_S (.astore_n 3) 1 [] 23 [(3, .null), (0, .ref 21), (1, .int (xs 1)), (2, .int (xs 2))] [] (by decide +kernel) rfl ?_
  refine mx_S (.aload_n 3) 1 [] 24 [(3, .null), (0, .ref 21), (1, .int (xs 1)), (2, .int (xs 2))] [.null] (by decide +kernel) rfl ?_
  refine mx_S (.ifnonnull 5) 3 [] 27 [(3, .null), (0, .ref 21), (1, .int (xs 1)), (2, .int (xs 2))] [] (by decide +kernel) rfl ?_
  refine mx_S (.iconst (-1)) 1 [] 28 [(3, .null), (0, .ref 21), (1, .int (xs 1)), (2, .int (xs 2))] [.int (-1)] (by decide +kernel) rfl ?_
  exact mx_ret (some (.int (-1))) (by decide +kernel) ⟨rfl, rfl⟩
theorem iv_a765 (L : Nat) (xs : Nat → Int32) (zf : Value) (hz : zf.category = 1) (hk : xs 0 &&& 15 = 7) (u1 : (xs 1).toInt ≤ (-1)) (l2 : 1 ≤ (xs 2).toInt) (u2 : (xs 2).toInt ≤ 200) : mx_R L xs zf ah_M381 0 [(0, .ref 36), (1, .int (xs 1))] [] hh_a203 0 0 0 0 (fun v h' => v = some (.int 0) ∧ h' = hh_a203) := by
  refine mx_S (.aload_n 0) 1 [] 1 [(0, .ref 36), (1, .int (xs 1))] [.ref 36] (by decide +kernel) rfl ?_
  refine mx_S (.getfield 569) 3 [74, 15] 4 [(0, .ref 36), (1, .int (xs 1))] [.int 0] (by decide +kernel) rfl ?_
  refine mx_1 .eq 19 true 23 (by decide +kernel) (by decide +kernel) ?_
  refine mx_S (.iconst 0) 1 [] 24 [(0, .ref 36), (1, .int (xs 1))] [.int 0] (by decide +kernel) rfl ?_
  exact mx_ret (some (.int 0)) (by decide +kernel) ⟨rfl, rfl⟩
theorem iv_a766 (L : Nat) (xs : Nat → Int32) (zf : Value) (hz : zf.category = 1) (hk : xs 0 &&& 15 = 7) (u1 : (xs 1).toInt ≤ (-1)) (l2 : 1 ≤ (xs 2).toInt) (u2 : (xs 2).toInt ≤ 200) : mx_R L xs zf ah_M380 0 [(0, .ref 36), (1, .int (xs 1)), (2, .int (xs 2))] [] hh_a203 0 0 1 21 (fun v h' => v = some (.int (-1)) ∧ h' = hh_a203) := by
  refine mx_S (.aload_n 0) 1 [] 1 [(0, .ref 36), (1, .int (xs 1)), (2, .int (xs 2))] [.ref 36] (by decide +kernel) rfl ?_
  refine mx_S (.iload_n 1) 1 [] 2 [(0, .ref 36), (1, .int (xs 1)), (2, .int (xs 2))] [.int (xs 1), .ref 36] (by decide +kernel) rfl ?_
  refine mx_calls (.invokevirtual 709) [381, 5, 1, 15] 381 3 [.ref 36, .int (xs 1)] [] [(0, .ref 36), (1, .int (xs 1))] (some (.int 0)) hh_a203 0 0 0 0 0 0 5 [.int 0] ap_381 (by decide +kernel) rfl ⟨by decide +kernel, rfl, rfl, rfl, rfl⟩ (iv_a765 L xs zf hz hk u1 l2 u2) ?_
  refine mx_1 .eq 15 true 20 (by decide +kernel) (by decide +kernel) ?_
  refine mx_S (.iconst (-1)) 1 [] 21 [(0, .ref 36), (1, .int (xs 1)), (2, .int (xs 2))] [.int (-1)] (by decide +kernel) rfl ?_
  exact mx_ret (some (.int (-1))) (by decide +kernel) ⟨rfl, rfl⟩
theorem iv_a767 (xs : Nat → Int32) (zf : Value) (hz : zf.category = 1) (hk : xs 0 &&& 15 = 7) (u1 : (xs 1).toInt ≤ (-1)) (l2 : 1 ≤ (xs 2).toInt) (u2 : (xs 2).toInt ≤ 200) : mx_R 6 xs zf ah_M0 18 [(3, .int 0), (2, .ref 36), (1, .ref 21), (0, .ref 0)] [] hh_a203 0 0 2 45 (fun v h' => v = some (.int 1) ∧ h' = hh_a203) := by
  refine mx_B 2 20 [(3, .int 0), (2, .ref 36), (1, .ref 21), (0, .ref 0)] [.ref 0, .int 0] (by decide +kernel) ?_
  refine mx_S (.arraylength) 1 [] 21 [(3, .int 0), (2, .ref 36), (1, .ref 21), (0, .ref 0)] [.int 6, .int 0] (by decide +kernel) rfl ?_
  refine mx_B 5 29 [(3, .int 0), (2, .ref 36), (1, .ref 21), (0, .ref 0)] [.int 0, .ref 0] (by decide +kernel) ?_
  refine mx_scr 6 0 30 (by decide +kernel) (by decide +kernel) (by decide +kernel) ?_
  refine mx_S (.bipush 15) 2 [] 32 [(3, .int 0), (2, .ref 36), (1, .ref 21), (0, .ref 0)] [.int 15, .int (xs 0)] (by decide +kernel) rfl ?_
  refine mx_S (.iand) 1 [] 33 [(3, .int 0), (2, .ref 36), (1, .ref 21), (0, .ref 0)] [.int ((xs 0) &&& 15)] (by decide +kernel) rfl ?_
  refine mx_eq 7 hk ?_
  refine mx_B 6 330 [(3, .int 0), (2, .ref 36), (1, .ref 21), (0, .ref 0)] [.int 1, .ref 0, .ref 21] (by decide +kernel) ?_
  refine mx_scr 6 1 331 (by decide +kernel) (by decide +kernel) (by decide +kernel) ?_
  refine mx_S (.aload_n 0) 1 [] 332 [(3, .int 0), (2, .ref 36), (1, .ref 21), (0, .ref 0)] [.ref 0, .int (xs 1), .ref 21] (by decide +kernel) rfl ?_
  refine mx_S (.iload_n 3) 1 [] 333 [(3, .int 0), (2, .ref 36), (1, .ref 21), (0, .ref 0)] [.int 0, .ref 0, .int (xs 1), .ref 21] (by decide +kernel) rfl ?_
  refine mx_S (.iconst 2) 1 [] 334 [(3, .int 0), (2, .ref 36), (1, .ref 21), (0, .ref 0)] [.int 2, .int 0, .ref 0, .int (xs 1), .ref 21] (by decide +kernel) rfl ?_
  refine mx_S (.iadd) 1 [] 335 [(3, .int 0), (2, .ref 36), (1, .ref 21), (0, .ref 0)] [.int 2, .ref 0, .int (xs 1), .ref 21] (by decide +kernel) rfl ?_
  refine mx_scr 6 2 336 (by decide +kernel) (by decide +kernel) (by decide +kernel) ?_
  refine mx_calls (.invokevirtual 46) [235, 5, 2, 0] 235 3 [.ref 21, .int (xs 1), .int (xs 2)] [] [(0, .ref 21), (1, .int (xs 1)), (2, .int (xs 2))] (some (.int (-1))) hh_a203 0 0 1 21 0 0 339 [.int (-1)] ap_235 (by decide +kernel) rfl ⟨by decide +kernel, rfl, rfl, rfl, rfl⟩ (iv_a764 6 xs zf hz hk u1 l2 u2) ?_
  refine mx_B 5 344 [(3, .int 0), (2, .ref 36), (1, .ref 21), (0, .ref 0)] [.int 1, .ref 0, .ref 36, .int (-1)] (by decide +kernel) ?_
  refine mx_scr 6 1 345 (by decide +kernel) (by decide +kernel) (by decide +kernel) ?_
  refine mx_S (.aload_n 0) 1 [] 346 [(3, .int 0), (2, .ref 36), (1, .ref 21), (0, .ref 0)] [.ref 0, .int (xs 1), .ref 36, .int (-1)] (by decide +kernel) rfl ?_
  refine mx_S (.iload_n 3) 1 [] 347 [(3, .int 0), (2, .ref 36), (1, .ref 21), (0, .ref 0)] [.int 0, .ref 0, .int (xs 1), .ref 36, .int (-1)] (by decide +kernel) rfl ?_
  refine mx_S (.iconst 2) 1 [] 348 [(3, .int 0), (2, .ref 36), (1, .ref 21), (0, .ref 0)] [.int 2, .int 0, .ref 0, .int (xs 1), .ref 36, .int (-1)] (by decide +kernel) rfl ?_
  refine mx_S (.iadd) 1 [] 349 [(3, .int 0), (2, .ref 36), (1, .ref 21), (0, .ref 0)] [.int 2, .ref 0, .int (xs 1), .ref 36, .int (-1)] (by decide +kernel) rfl ?_
  refine mx_scr 6 2 350 (by decide +kernel) (by decide +kernel) (by decide +kernel) ?_
  refine mx_calls (.invokevirtual 50) [380, 5, 2, 15] 380 3 [.ref 36, .int (xs 1), .int (xs 2)] [.int (-1)] [(0, .ref 36), (1, .int (xs 1)), (2, .int (xs 2))] (some (.int (-1))) hh_a203 0 0 1 21 0 0 353 [.int (-1), .int (-1)] ap_380 (by decide +kernel) rfl ⟨by decide +kernel, rfl, rfl, rfl, rfl⟩ (iv_a766 6 xs zf hz hk u1 l2 u2) ?_
  refine mx_B 5 20 [(3, .int 6), (2, .ref 36), (1, .ref 21), (0, .ref 0)] [.ref 0, .int 6] (by decide +kernel) ?_
  refine mx_S (.arraylength) 1 [] 21 [(3, .int 6), (2, .ref 36), (1, .ref 21), (0, .ref 0)] [.int 6, .int 6] (by decide +kernel) rfl ?_
  refine mx_B 4 543 [(3, .int 6), (2, .ref 36), (1, .ref 21), (0, .ref 0)] [.int 1] (by decide +kernel) ?_
  exact mx_ret (some (.int 1)) (by decide +kernel) ⟨rfl, rfl⟩
theorem iv_a768 (L : Nat) (xs : Nat → Int32) (zf : Value) (hz : zf.category = 1) (hk : xs 0 &&& 15 = 7) (l1 : 0 ≤ (xs 1).toInt) (l2 : 1 ≤ (xs 2).toInt) (u2 : (xs 2).toInt ≤ 200) : mx_R L xs zf ah_M236 0 [(0, .ref 24), (1, .int (xs 1))] [] hh_a203 0 0 0 0 (fun v h' => v = some (.null) ∧ h' = hh_a203) := by
  refine mx_S (.iload_n 1) 1 [] 1 [(0, .ref 24), (1, .int (xs 1))] [.int (xs 1)] (by decide +kernel) rfl ?_
  refine mx_1 .lt 11 false 4 (mx_v1 .lt (x := (xs 1)) 0 2147483647  l1 (mx_hi _) (by decide +kernel)) (by decide +kernel) ?_
  refine mx_S (.iload_n 1) 1 [] 5 [(0, .ref 24), (1, .int (xs 1))] [.int (xs 1)] (by decide +kernel) rfl ?_
  refine mx_S (.aload_n 0) 1 [] 6 [(0, .ref 24), (1, .int (xs 1))] [.ref 24, .int (xs 1)] (by decide +kernel) rfl ?_
  refine mx_S (.getfield 34) 3 [8, 2] 9 [(0, .ref 24), (1, .int (xs 1))] [.int 0, .int (xs 1)] (by decide +kernel) rfl ?_
  refine mx_2 .lt 7 false 12 (mx_v2 .lt (x := (xs 1)) (y := 0) 0 2147483647 0  l1 (mx_hi _) (by decide +kernel) (by decide +kernel)) (by decide +kernel) ?_
  refine mx_S (.aconst_null) 1 [] 13 [(0, .ref 24), (1, .int (xs 1))] [.null] (by decide +kernel) rfl ?_
  refine mx_S (.goto 9) 3 [] 22 [(0, .ref 24), (1, .int (xs 1))] [.null] (by decide +kernel) rfl ?_
  exact mx_ret (some (.null)) (by decide +kernel) ⟨rfl, rfl⟩
theorem iv_a769 (L : Nat) (xs : Nat → Int32) (zf : Value) (hz : zf.category = 1) (hk : xs 0 &&& 15 = 7) (l1 : 0 ≤ (xs 1).toInt) (l2 : 1 ≤ (xs 2).toInt) (u2 : (xs 2).toInt ≤ 200) : mx_R L xs zf ah_M235 0 [(0, .ref 21), (1, .int (xs 1)), (2, .int (xs 2))] [] hh_a203 0 0 1 21 (fun v h' => v = some (.int (-1)) ∧ h' = hh_a203) := by
  refine mx_S (.iload_n 2) 1 [] 1 [(0, .ref 21), (1, .int (xs 1)), (2, .int (xs 2))] [.int (xs 2)] (by decide +kernel) rfl ?_
  refine mx_S (.iconst 1) 1 [] 2 [(0, .ref 21), (1, .int (xs 1)), (2, .int (xs 2))] [.int 1, .int (xs 2)] (by decide +kernel) rfl ?_
  refine mx_2 .lt 10 false 5 (mx_v2 .lt (x := (xs 2)) (y := 1) 1 200 1  l2 u2 (by decide +kernel) (by decide +kernel)) (by decide +kernel) ?_
  refine mx_S (.iload_n 2) 1 [] 6 [(0, .ref 21), (1, .int (xs 1)), (2, .int (xs 2))] [.int (xs 2)] (by decide +kernel) rfl ?_
  refine mx_S (.sipush 200) 3 [] 9 [(0, .ref 21), (1, .int (xs 1)), (2, .int (xs 2))] [.int 200, .int (xs 2)] (by decide +kernel) rfl ?_
  refine mx_2 .le 5 true 14 (mx_v2 .le (x := (xs 2)) (y := 200) 1 200 200  l2 u2 (by decide +kernel) (by decide +kernel)) (by decide +kernel) ?_
  refine mx_S (.aload_n 0) 1 [] 15 [(0, .ref 21), (1, .int (xs 1)), (2, .int (xs 2))] [.ref 21] (by decide +kernel) rfl ?_
  refine mx_S (.getfield 19) 3 [1, 0] 18 [(0, .ref 21), (1, .int (xs 1)), (2, .int (xs 2))] [.ref 24] (by decide +kernel) rfl ?_
  refine mx_S (.iload_n 1) 1 [] 19 [(0, .ref 21), (1, .int (xs 1)), (2, .int (xs 2))] [.int (xs 1), .ref 24] (by decide +kernel) rfl ?_
  refine mx_calls (.invokevirtual 145) [236, 5, 1, 2] 236 3 [.ref 24, .int (xs 1)] [] [(0, .ref 24), (1, .int (xs 1))] (some (.null)) hh_a203 0 0 0 0 0 0 22 [.null] ap_236 (by decide +kernel) rfl ⟨by decide +kernel, rfl, rfl, rfl, rfl⟩ (iv_a768 L xs zf hz hk l1 l2 u2) ?_
  refine mx_S (.astore_n 3) 1 [] 23 [(3, .null), (0, .ref 21), (1, .int (xs 1)), (2, .int (xs 2))] [] (by decide +kernel) rfl ?_
  refine mx_S (.aload_n 3) 1 [] 24 [(3, .null), (0, .ref 21), (1, .int (xs 1)), (2, .int (xs 2))] [.null] (by decide +kernel) rfl ?_
  refine mx_S (.ifnonnull 5) 3 [] 27 [(3, .null), (0, .ref 21), (1, .int (xs 1)), (2, .int (xs 2))] [] (by decide +kernel) rfl ?_
  refine mx_S (.iconst (-1)) 1 [] 28 [(3, .null), (0, .ref 21), (1, .int (xs 1)), (2, .int (xs 2))] [.int (-1)] (by decide +kernel) rfl ?_
  exact mx_ret (some (.int (-1))) (by decide +kernel) ⟨rfl, rfl⟩
theorem iv_a770 (L : Nat) (xs : Nat → Int32) (zf : Value) (hz : zf.category = 1) (hk : xs 0 &&& 15 = 7) (l1 : 0 ≤ (xs 1).toInt) (l2 : 1 ≤ (xs 2).toInt) (u2 : (xs 2).toInt ≤ 200) : mx_R L xs zf ah_M381 0 [(0, .ref 36), (1, .int (xs 1))] [] hh_a203 0 0 0 0 (fun v h' => v = some (.int 0) ∧ h' = hh_a203) := by
  refine mx_S (.aload_n 0) 1 [] 1 [(0, .ref 36), (1, .int (xs 1))] [.ref 36] (by decide +kernel) rfl ?_
  refine mx_S (.getfield 569) 3 [74, 15] 4 [(0, .ref 36), (1, .int (xs 1))] [.int 0] (by decide +kernel) rfl ?_
  refine mx_1 .eq 19 true 23 (by decide +kernel) (by decide +kernel) ?_
  refine mx_S (.iconst 0) 1 [] 24 [(0, .ref 36), (1, .int (xs 1))] [.int 0] (by decide +kernel) rfl ?_
  exact mx_ret (some (.int 0)) (by decide +kernel) ⟨rfl, rfl⟩
theorem iv_a771 (L : Nat) (xs : Nat → Int32) (zf : Value) (hz : zf.category = 1) (hk : xs 0 &&& 15 = 7) (l1 : 0 ≤ (xs 1).toInt) (l2 : 1 ≤ (xs 2).toInt) (u2 : (xs 2).toInt ≤ 200) : mx_R L xs zf ah_M380 0 [(0, .ref 36), (1, .int (xs 1)), (2, .int (xs 2))] [] hh_a203 0 0 1 21 (fun v h' => v = some (.int (-1)) ∧ h' = hh_a203) := by
  refine mx_S (.aload_n 0) 1 [] 1 [(0, .ref 36), (1, .int (xs 1)), (2, .int (xs 2))] [.ref 36] (by decide +kernel) rfl ?_
  refine mx_S (.iload_n 1) 1 [] 2 [(0, .ref 36), (1, .int (xs 1)), (2, .int (xs 2))] [.int (xs 1), .ref 36] (by decide +kernel) rfl ?_
  refine mx_calls (.invokevirtual 709) [381, 5, 1, 15] 381 3 [.ref 36, .int (xs 1)] [] [(0, .ref 36), (1, .int (xs 1))] (some (.int 0)) hh_a203 0 0 0 0 0 0 5 [.int 0] ap_381 (by decide +kernel) rfl ⟨by decide +kernel, rfl, rfl, rfl, rfl⟩ (iv_a770 L xs zf hz hk l1 l2 u2) ?_
  refine mx_1 .eq 15 true 20 (by decide +kernel) (by decide +kernel) ?_
  refine mx_S (.iconst (-1)) 1 [] 21 [(0, .ref 36), (1, .int (xs 1)), (2, .int (xs 2))] [.int (-1)] (by decide +kernel) rfl ?_
  exact mx_ret (some (.int (-1))) (by decide +kernel) ⟨rfl, rfl⟩
theorem iv_a772 (xs : Nat → Int32) (zf : Value) (hz : zf.category = 1) (hk : xs 0 &&& 15 = 7) (l1 : 0 ≤ (xs 1).toInt) (l2 : 1 ≤ (xs 2).toInt) (u2 : (xs 2).toInt ≤ 200) : mx_R 6 xs zf ah_M0 18 [(3, .int 0), (2, .ref 36), (1, .ref 21), (0, .ref 0)] [] hh_a203 0 0 2 45 (fun v h' => v = some (.int 1) ∧ h' = hh_a203) := by
  refine mx_B 2 20 [(3, .int 0), (2, .ref 36), (1, .ref 21), (0, .ref 0)] [.ref 0, .int 0] (by decide +kernel) ?_
  refine mx_S (.arraylength) 1 [] 21 [(3, .int 0), (2, .ref 36), (1, .ref 21), (0, .ref 0)] [.int 6, .int 0] (by decide +kernel) rfl ?_
  refine mx_B 5 29 [(3, .int 0), (2, .ref 36), (1, .ref 21), (0, .ref 0)] [.int 0, .ref 0] (by decide +kernel) ?_
  refine mx_scr 6 0 30 (by decide +kernel) (by decide +kernel) (by decide +kernel) ?_
  refine mx_S (.bipush 15) 2 [] 32 [(3, .int 0), (2, .ref 36), (1, .ref 21), (0, .ref 0)] [.int 15, .int (xs 0)] (by decide +kernel) rfl ?_
  refine mx_S (.iand) 1 [] 33 [(3, .int 0), (2, .ref 36), (1, .ref 21), (0, .ref 0)] [.int ((xs 0) &&& 15)] (by decide +kernel) rfl ?_
  refine mx_eq 7 hk ?_
  refine mx_B 6 330 [(3, .int 0), (2, .ref 36), (1, .ref 21), (0, .ref 0)] [.int 1, .ref 0, .ref 21] (by decide +kernel) ?_
  refine mx_scr 6 1 331 (by decide +kernel) (by decide +kernel) (by decide +kernel) ?_
  refine mx_S (.aload_n 0) 1 [] 332 [(3, .int 0), (2, .ref 36), (1, .ref 21), (0, .ref 0)] [.ref 0, .int (xs 1), .ref 21] (by decide +kernel) rfl ?_
  refine mx_S (.iload_n 3) 1 [] 333 [(3, .int 0), (2, .ref 36), (1, .ref 21), (0, .ref 0)] [.int 0, .ref 0, .int (xs 1), .ref 21] (by decide +kernel) rfl ?_
  refine mx_S (.iconst 2) 1 [] 334 [(3, .int 0), (2, .ref 36), (1, .ref 21), (0, .ref 0)] [.int 2, .int 0, .ref 0, .int (xs 1), .ref 21] (by decide +kernel) rfl ?_
  refine mx_S (.iadd) 1 [] 335 [(3, .int 0), (2, .ref 36), (1, .ref 21), (0, .ref 0)] [.int 2, .ref 0, .int (xs 1), .ref 21] (by decide +kernel) rfl ?_
  refine mx_scr 6 2 336 (by decide +kernel) (by decide +kernel) (by decide +kernel) ?_
  refine mx_calls (.invokevirtual 46) [235, 5, 2, 0] 235 3 [.ref 21, .int (xs 1), .int (xs 2)] [] [(0, .ref 21), (1, .int (xs 1)), (2, .int (xs 2))] (some (.int (-1))) hh_a203 0 0 1 21 0 0 339 [.int (-1)] ap_235 (by decide +kernel) rfl ⟨by decide +kernel, rfl, rfl, rfl, rfl⟩ (iv_a769 6 xs zf hz hk l1 l2 u2) ?_
  refine mx_B 5 344 [(3, .int 0), (2, .ref 36), (1, .ref 21), (0, .ref 0)] [.int 1, .ref 0, .ref 36, .int (-1)] (by decide +kernel) ?_
  refine mx_scr 6 1 345 (by decide +kernel) (by decide +kernel) (by decide +kernel) ?_
  refine mx_S (.aload_n 0) 1 [] 346 [(3, .int 0), (2, .ref 36), (1, .ref 21), (0, .ref 0)] [.ref 0, .int (xs 1), .ref 36, .int (-1)] (by decide +kernel) rfl ?_
  refine mx_S (.iload_n 3) 1 [] 347 [(3, .int 0), (2, .ref 36), (1, .ref 21), (0, .ref 0)] [.int 0, .ref 0, .int (xs 1), .ref 36, .int (-1)] (by decide +kernel) rfl ?_
  refine mx_S (.iconst 2) 1 [] 348 [(3, .int 0), (2, .ref 36), (1, .ref 21), (0, .ref 0)] [.int 2, .int 0, .ref 0, .int (xs 1), .ref 36, .int (-1)] (by decide +kernel) rfl ?_
  refine mx_S (.iadd) 1 [] 349 [(3, .int 0), (2, .ref 36), (1, .ref 21), (0, .ref 0)] [.int 2, .ref 0, .int (xs 1), .ref 36, .int (-1)] (by decide +kernel) rfl ?_
  refine mx_scr 6 2 350 (by decide +kernel) (by decide +kernel) (by decide +kernel) ?_
  refine mx_calls (.invokevirtual 50) [380, 5, 2, 15] 380 3 [.ref 36, .int (xs 1), .int (xs 2)] [.int (-1)] [(0, .ref 36), (1, .int (xs 1)), (2, .int (xs 2))] (some (.int (-1))) hh_a203 0 0 1 21 0 0 353 [.int (-1), .int (-1)] ap_380 (by decide +kernel) rfl ⟨by decide +kernel, rfl, rfl, rfl, rfl⟩ (iv_a771 6 xs zf hz hk l1 l2 u2) ?_
  refine mx_B 5 20 [(3, .int 6), (2, .ref 36), (1, .ref 21), (0, .ref 0)] [.ref 0, .int 6] (by decide +kernel) ?_
  refine mx_S (.arraylength) 1 [] 21 [(3, .int 6), (2, .ref 36), (1, .ref 21), (0, .ref 0)] [.int 6, .int 6] (by decide +kernel) rfl ?_
  refine mx_B 4 543 [(3, .int 6), (2, .ref 36), (1, .ref 21), (0, .ref 0)] [.int 1] (by decide +kernel) ?_
  exact mx_ret (some (.int 1)) (by decide +kernel) ⟨rfl, rfl⟩
theorem iv_a773 (L : Nat) (xs : Nat → Int32) (zf : Value) (hz : zf.category = 1) (hk : xs 0 &&& 15 = 7) (l2 : 201 ≤ (xs 2).toInt) : mx_R L xs zf ah_M235 0 [(0, .ref 21), (1, .int (xs 1)), (2, .int (xs 2))] [] hh_a203 0 0 0 0 (fun v h' => v = some (.int (-1)) ∧ h' = hh_a203) := by
  refine mx_S (.iload_n 2) 1 [] 1 [(0, .ref 21), (1, .int (xs 1)), (2, .int (xs 2))] [.int (xs 2)] (by decide +kernel) rfl ?_
  refine mx_S (.iconst 1) 1 [] 2 [(0, .ref 21), (1, .int (xs 1)), (2, .int (xs 2))] [.int 1, .int (xs 2)] (by decide +kernel) rfl ?_
  refine mx_2 .lt 10 false 5 (mx_v2 .lt (x := (xs 2)) (y := 1) 201 2147483647 1  l2 (mx_hi _) (by decide +kernel) (by decide +kernel)) (by decide +kernel) ?_
  refine mx_S (.iload_n 2) 1 [] 6 [(0, .ref 21), (1, .int (xs 1)), (2, .int (xs 2))] [.int (xs 2)] (by decide +kernel) rfl ?_
  refine mx_S (.sipush 200) 3 [] 9 [(0, .ref 21), (1, .int (xs 1)), (2, .int (xs 2))] [.int 200, .int (xs 2)] (by decide +kernel) rfl ?_
  refine mx_2 .le 5 false 12 (mx_v2 .le (x := (xs 2)) (y := 200) 201 2147483647 200  l2 (mx_hi _) (by decide +kernel) (by decide +kernel)) (by decide +kernel) ?_
  refine mx_S (.iconst (-1)) 1 [] 13 [(0, .ref 21), (1, .int (xs 1)), (2, .int (xs 2))] [.int (-1)] (by decide +kernel) rfl ?_
  exact mx_ret (some (.int (-1))) (by decide +kernel) ⟨rfl, rfl⟩
theorem iv_a774 (L : Nat) (xs : Nat → Int32) (zf : Value) (hz : zf.category = 1) (hk : xs 0 &&& 15 = 7) (l2 : 201 ≤ (xs 2).toInt) : mx_R L xs zf ah_M381 0 [(0, .ref 36), (1, .int (xs 1))] [] hh_a203 0 0 0 0 (fun v h' => v = some (.int 0) ∧ h' = hh_a203) := by
  refine mx_S (.aload_n 0) 1 [] 1 [(0, .ref 36), (1, .int (xs 1))] [.ref 36] (by decide +kernel) rfl ?_
  refine mx_S (.getfield 569) 3 [74, 15] 4 [(0, .ref 36), (1, .int (xs 1))] [.int 0] (by decide +kernel) rfl ?_
  refine mx_1 .eq 19 true 23 (by decide +kernel) (by decide +kernel) ?_
  refine mx_S (.iconst 0) 1 [] 24 [(0, .ref 36), (1, .int (xs 1))] [.int 0] (by decide +kernel) rfl ?_
  exact mx_ret (some (.int 0)) (by decide +kernel) ⟨rfl, rfl⟩
theorem iv_a775 (L : Nat) (xs : Nat → Int32) (zf : Value) (hz : zf.category = 1) (hk : xs 0 &&& 15 = 7) (l2 : 201 ≤ (xs 2).toInt) : mx_R L xs zf ah_M380 0 [(0, .ref 36), (1, .int (xs 1)), (2, .int (xs 2))] [] hh_a203 0 0 1 21 (fun v h' => v = some (.int (-1)) ∧ h' = hh_a203) := by
  refine mx_S (.aload_n 0) 1 [] 1 [(0, .ref 36), (1, .int (xs 1)), (2, .int (xs 2))] [.ref 36] (by decide +kernel) rfl ?_
  refine mx_S (.iload_n 1) 1 [] 2 [(0, .ref 36), (1, .int (xs 1)), (2, .int (xs 2))] [.int (xs 1), .ref 36] (by decide +kernel) rfl ?_
  refine mx_calls (.invokevirtual 709) [381, 5, 1, 15] 381 3 [.ref 36, .int (xs 1)] [] [(0, .ref 36), (1, .int (xs 1))] (some (.int 0)) hh_a203 0 0 0 0 0 0 5 [.int 0] ap_381 (by decide +kernel) rfl ⟨by decide +kernel, rfl, rfl, rfl, rfl⟩ (iv_a774 L xs zf hz hk l2) ?_
  refine mx_1 .eq 15 true 20 (by decide +kernel) (by decide +kernel) ?_
  refine mx_S (.iconst (-1)) 1 [] 21 [(0, .ref 36), (1, .int (xs 1)), (2, .int (xs 2))] [.int (-1)] (by decide +kernel) rfl ?_
  exact mx_ret (some (.int (-1))) (by decide +kernel) ⟨rfl, rfl⟩
theorem iv_a776 (xs : Nat → Int32) (zf : Value) (hz : zf.category = 1) (hk : xs 0 &&& 15 = 7) (l2 : 201 ≤ (xs 2).toInt) : mx_R 6 xs zf ah_M0 18 [(3, .int 0), (2, .ref 36), (1, .ref 21), (0, .ref 0)] [] hh_a203 0 0 2 44 (fun v h' => v = some (.int 1) ∧ h' = hh_a203) := by
  refine mx_B 2 20 [(3, .int 0), (2, .ref 36), (1, .ref 21), (0, .ref 0)] [.ref 0, .int 0] (by decide +kernel) ?_
  refine mx_S (.arraylength) 1 [] 21 [(3, .int 0), (2, .ref 36), (1, .ref 21), (0, .ref 0)] [.int 6, .int 0] (by decide +kernel) rfl ?_
  refine mx_B 5 29 [(3, .int 0), (2, .ref 36), (1, .ref 21), (0, .ref 0)] [.int 0, .ref 0] (by decide +kernel) ?_
  refine mx_scr 6 0 30 (by decide +kernel) (by decide +kernel) (by decide +kernel) ?_
  refine mx_S (.bipush 15) 2 [] 32 [(3, .int 0), (2, .ref 36), (1, .ref 21), (0, .ref 0)] [.int 15, .int (xs 0)] (by decide +kernel) rfl ?_
  refine mx_S (.iand) 1 [] 33 [(3, .int 0), (2, .ref 36), (1, .ref 21), (0, .ref 0)] [.int ((xs 0) &&& 15)] (by decide +kernel) rfl ?_
  refine mx_eq 7 hk ?_
  refine mx_B 6 330 [(3, .int 0), (2, .ref 36), (1, .ref 21), (0, .ref 0)] [.int 1, .ref 0, .ref 21] (by decide +kernel) ?_
  refine mx_scr 6 1 331 (by decide +kernel) (by decide +kernel) (by decide +kernel) ?_
  refine mx_S (.aload_n 0) 1 [] 332 [(3, .int 0), (2, .ref 36), (1, .ref 21), (0, .ref 0)] [.ref 0, .int (xs 1), .ref 21] (by decide +kernel) rfl ?_
  refine mx_S (.iload_n 3) 1 [] 333 [(3, .int 0), (2, .ref 36), (1, .ref 21), (0, .ref 0)] [.int 0, .ref 0, .int (xs 1), .ref 21] (by decide +kernel) rfl ?_
  refine mx_S (.iconst 2) 1 [] 334 [(3, .int 0), (2, .ref 36), (1, .ref 21), (0, .ref 0)] [.int 2, .int 0, .ref 0, .int (xs 1), .ref 21] (by decide +kernel) rfl ?_
  refine mx_S (.iadd) 1 [] 335 [(3, .int 0), (2, .ref 36), (1, .ref 21), (0, .ref 0)] [.int 2, .ref 0, .int (xs 1), .ref 21] (by decide +kernel) rfl ?_
  refine mx_scr 6 2 336 (by decide +kernel) (by decide +kernel) (by decide +kernel) ?_
  refine mx_calls (.invokevirtual 46) [235, 5, 2, 0] 235 3 [.ref 21, .int (xs 1), .int (xs 2)] [] [(0, .ref 21), (1, .int (xs 1)), (2, .int (xs 2))] (some (.int (-1))) hh_a203 0 0 0 0 0 0 339 [.int (-1)] ap_235 (by decide +kernel) rfl ⟨by decide +kernel, rfl, rfl, rfl, rfl⟩ (iv_a773 6 xs zf hz hk l2) ?_
  refine mx_B 5 344 [(3, .int 0), (2, .ref 36), (1, .ref 21), (0, .ref 0)] [.int 1, .ref 0, .ref 36, .int (-1)] (by decide +kernel) ?_
  refine mx_scr 6 1 345 (by decide +kernel) (by decide +kernel) (by decide +kernel) ?_
  refine mx_S (.aload_n 0) 1 [] 346 [(3, .int 0), (2, .ref 36), (1, .ref 21), (0, .ref 0)] [.ref 0, .int (xs 1), .ref 36, .int (-1)] (by decide +kernel) rfl ?_
  refine mx_S (.iload_n 3) 1 [] 347 [(3, .int 0), (2, .ref 36), (1, .ref 21), (0, .ref 0)] [.int 0, .ref 0, .int (xs 1), .ref 36, .int (-1)] (by decide +kernel) rfl ?_
  refine mx_S (.iconst 2) 1 [] 348 [(3, .int 0), (2, .ref 36), (1, .ref 21), (0, .ref 0)] [.int 2, .int 0, .ref 0, .int (xs 1), .ref 36, .int (-1)] (by decide +kernel) rfl ?_
  refine mx_S (.iadd) 1 [] 349 [(3, .int 0), (2, .ref 36), (1, .ref 21), (0, .ref 0)] [.int 2, .ref 0, .int (xs 1), .ref 36, .int (-1)] (by decide +kernel) rfl ?_
  refine mx_scr 6 2 350 (by decide +kernel) (by decide +kernel) (by decide +kernel) ?_
  refine mx_calls (.invokevirtual 50) [380, 5, 2, 15] 380 3 [.ref 36, .int (xs 1), .int (xs 2)] [.int (-1)] [(0, .ref 36), (1, .int (xs 1)), (2, .int (xs 2))] (some (.int (-1))) hh_a203 0 0 1 21 0 0 353 [.int (-1), .int (-1)] ap_380 (by decide +kernel) rfl ⟨by decide +kernel, rfl, rfl, rfl, rfl⟩ (iv_a775 6 xs zf hz hk l2) ?_
  refine mx_B 5 20 [(3, .int 6), (2, .ref 36), (1, .ref 21), (0, .ref 0)] [.ref 0, .int 6] (by decide +kernel) ?_
  refine mx_S (.arraylength) 1 [] 21 [(3, .int 6), (2, .ref 36), (1, .ref 21), (0, .ref 0)] [.int 6, .int 6] (by decide +kernel) rfl ?_
  refine mx_B 4 543 [(3, .int 6), (2, .ref 36), (1, .ref 21), (0, .ref 0)] [.int 1] (by decide +kernel) ?_
  exact mx_ret (some (.int 1)) (by decide +kernel) ⟨rfl, rfl⟩
theorem lw_case7 (xs : Nat → Int32) (zf : Value) (hz : zf.category = 1) (hk : xs 0 &&& 15 = 7) : mx_R 6 xs zf ah_M0 18 [(3, .int 0), (2, .ref 36), (1, .ref 21), (0, .ref 0)] [] hh_a203 599906 7021181 2048 84000 (fun v _ => v = some (.int 1)) := by
  rcases mx_cut (xs 2).toInt 0 1 rfl with u2 | l2
  · exact mx_end (iv_a762 xs zf hz hk u2) (by decide +kernel)
  rcases mx_cut (xs 2).toInt 200 201 rfl with u2 | l2
  · rcases mx_cut (xs 1).toInt (-1) 0 rfl with u1 | l1
    · exact mx_end (iv_a767 xs zf hz hk u1 l2 u2) (by decide +kernel)
    exact mx_end (iv_a772 xs zf hz hk l1 l2 u2) (by decide +kernel)
  exact mx_end (iv_a776 xs zf hz hk l2) (by decide +kernel)
