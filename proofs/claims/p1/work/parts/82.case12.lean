/-! THE FIRST CALL, sort 12; printed by wip/whole/gen_p1.py. -/
theorem iv_a841 (L : Nat) (xs : Nat → Int32) (zf : Value) (hz : zf.category = 1) (hk : xs 0 &&& 15 = 12) (u1 : (xs 1).toInt ≤ (-1)) : mx_R L xs zf ah_M236 0 [(0, .ref 24), (1, .int (xs 1))] [] hh_a391 0 0 0 0 (fun v h' => v = some (.null) ∧ h' = hh_a391) := by
  refine mx_S (.iload_n 1) 1 [] 1 [(0, .ref 24), (1, .int (xs 1))] [.int (xs 1)] (by decide +kernel) rfl ?_
  refine mx_1 .lt 11 true 12 (mx_v1 .lt (x := (xs 1)) (-2147483648) (-1)  (mx_lo _) u1 (by decide +kernel)) (by decide +kernel) ?_
  refine mx_S (.aconst_null) 1 [] 13 [(0, .ref 24), (1, .int (xs 1))] [.null] (by decide +kernel) rfl ?_
  refine mx_S (.goto 9) 3 [] 22 [(0, .ref 24), (1, .int (xs 1))] [.null] (by decide +kernel) rfl ?_
  exact mx_ret (some (.null)) (by decide +kernel) ⟨rfl, rfl⟩
theorem iv_a842 (L : Nat) (xs : Nat → Int32) (zf : Value) (hz : zf.category = 1) (hk : xs 0 &&& 15 = 12) (u1 : (xs 1).toInt ≤ (-1)) : mx_R L xs zf ah_M280 0 [(0, .ref 21), (1, .int (xs 1)), (2, .int (xs 2))] [] hh_a203 0 0 4 84 (fun v h' => v = some (.int (-1)) ∧ h' = hh_a391) := by
  refine mx_S (.aload_n 0) 1 [] 1 [(0, .ref 21), (1, .int (xs 1)), (2, .int (xs 2))] [.ref 21] (by decide +kernel) rfl ?_
  refine mx_S (.getfield 26) 3 [2, 0] 4 [(0, .ref 21), (1, .int (xs 1)), (2, .int (xs 2))] [.ref 30] (by decide +kernel) rfl ?_
  refine mx_calls (.invokevirtual 91) [217, 5, 0, 3] 217 3 [.ref 30] [] [(0, .ref 30)] none hh_a391 0 0 3 64 0 0 7 [] ap_217 (by decide +kernel) rfl (by decide +kernel) (iv_a829 L xs zf hz) ?_
  refine mx_S (.aload_n 0) 1 [] 8 [(0, .ref 21), (1, .int (xs 1)), (2, .int (xs 2))] [.ref 21] (by decide +kernel) rfl ?_
  refine mx_S (.getfield 19) 3 [1, 0] 11 [(0, .ref 21), (1, .int (xs 1)), (2, .int (xs 2))] [.ref 24] (by decide +kernel) rfl ?_
  refine mx_S (.iload_n 1) 1 [] 12 [(0, .ref 21), (1, .int (xs 1)), (2, .int (xs 2))] [.int (xs 1), .ref 24] (by decide +kernel) rfl ?_
  refine mx_calls (.invokevirtual 145) [236, 5, 1, 2] 236 3 [.ref 24, .int (xs 1)] [] [(0, .ref 24), (1, .int (xs 1))] (some (.null)) hh_a391 0 0 0 0 0 0 15 [.null] ap_236 (by decide +kernel) rfl ⟨by decide +kernel, rfl, rfl, rfl, rfl⟩ (iv_a841 L xs zf hz hk u1) ?_
  refine mx_S (.astore_n 3) 1 [] 16 [(3, .null), (0, .ref 21), (1, .int (xs 1)), (2, .int (xs 2))] [] (by decide +kernel) rfl ?_
  refine mx_S (.aload_n 3) 1 [] 17 [(3, .null), (0, .ref 21), (1, .int (xs 1)), (2, .int (xs 2))] [.null] (by decide +kernel) rfl ?_
  refine mx_S (.ifnull 15) 3 [] 32 [(3, .null), (0, .ref 21), (1, .int (xs 1)), (2, .int (xs 2))] [] (by decide +kernel) rfl ?_
  refine mx_S (.iconst (-1)) 1 [] 33 [(3, .null), (0, .ref 21), (1, .int (xs 1)), (2, .int (xs 2))] [.int (-1)] (by decide +kernel) rfl ?_
  exact mx_ret (some (.int (-1))) (by decide +kernel) ⟨rfl, rfl⟩
theorem iv_a843 (L : Nat) (xs : Nat → Int32) (zf : Value) (hz : zf.category = 1) (hk : xs 0 &&& 15 = 12) (u1 : (xs 1).toInt ≤ (-1)) : mx_R L xs zf ah_M381 0 [(0, .ref 36), (1, .int (xs 1))] [] hh_a391 0 0 0 0 (fun v h' => v = some (.int 0) ∧ h' = hh_a391) := by
  refine mx_S (.aload_n 0) 1 [] 1 [(0, .ref 36), (1, .int (xs 1))] [.ref 36] (by decide +kernel) rfl ?_
  refine mx_S (.getfield 569) 3 [74, 15] 4 [(0, .ref 36), (1, .int (xs 1))] [.int 0] (by decide +kernel) rfl ?_
  refine mx_1 .eq 19 true 23 (by decide +kernel) (by decide +kernel) ?_
  refine mx_S (.iconst 0) 1 [] 24 [(0, .ref 36), (1, .int (xs 1))] [.int 0] (by decide +kernel) rfl ?_
  exact mx_ret (some (.int 0)) (by decide +kernel) ⟨rfl, rfl⟩
theorem iv_a844 (L : Nat) (xs : Nat → Int32) (zf : Value) (hz : zf.category = 1) (hk : xs 0 &&& 15 = 12) (u1 : (xs 1).toInt ≤ (-1)) : mx_R L xs zf ah_M412 0 [(0, .ref 36), (1, .int (xs 1)), (2, .int (xs 2))] [] hh_a391 0 0 1 21 (fun v h' => v = some (.int (-1)) ∧ h' = hh_a391) := by
  refine mx_S (.aload_n 0) 1 [] 1 [(0, .ref 36), (1, .int (xs 1)), (2, .int (xs 2))] [.ref 36] (by decide +kernel) rfl ?_
  refine mx_calls (.invokevirtual 740) [406, 5, 0, 15] 406 3 [.ref 36] [] [(0, .ref 36)] none hh_a391 0 0 0 0 0 0 4 [] ap_406 (by decide +kernel) rfl (by decide +kernel) (iv_a832 L xs zf hz) ?_
  refine mx_S (.aload_n 0) 1 [] 5 [(0, .ref 36), (1, .int (xs 1)), (2, .int (xs 2))] [.ref 36] (by decide +kernel) rfl ?_
  refine mx_S (.iload_n 1) 1 [] 6 [(0, .ref 36), (1, .int (xs 1)), (2, .int (xs 2))] [.int (xs 1), .ref 36] (by decide +kernel) rfl ?_
  refine mx_calls (.invokevirtual 709) [381, 5, 1, 15] 381 3 [.ref 36, .int (xs 1)] [] [(0, .ref 36), (1, .int (xs 1))] (some (.int 0)) hh_a391 0 0 0 0 0 0 9 [.int 0] ap_381 (by decide +kernel) rfl ⟨by decide +kernel, rfl, rfl, rfl, rfl⟩ (iv_a843 L xs zf hz hk u1) ?_
  refine mx_1 .eq 17 true 26 (by decide +kernel) (by decide +kernel) ?_
  refine mx_S (.iconst (-1)) 1 [] 27 [(0, .ref 36), (1, .int (xs 1)), (2, .int (xs 2))] [.int (-1)] (by decide +kernel) rfl ?_
  exact mx_ret (some (.int (-1))) (by decide +kernel) ⟨rfl, rfl⟩
theorem iv_a845 (xs : Nat → Int32) (zf : Value) (hz : zf.category = 1) (hk : xs 0 &&& 15 = 12) (u1 : (xs 1).toInt ≤ (-1)) : mx_R 6 xs zf ah_M0 18 [(3, .int 0), (2, .ref 36), (1, .ref 21), (0, .ref 0)] [] hh_a203 0 0 5 107 (fun v h' => v = some (.int 1) ∧ h' = hh_a391) := by
  refine mx_B 2 20 [(3, .int 0), (2, .ref 36), (1, .ref 21), (0, .ref 0)] [.ref 0, .int 0] (by decide +kernel) ?_
  refine mx_S (.arraylength) 1 [] 21 [(3, .int 0), (2, .ref 36), (1, .ref 21), (0, .ref 0)] [.int 6, .int 0] (by decide +kernel) rfl ?_
  refine mx_B 5 29 [(3, .int 0), (2, .ref 36), (1, .ref 21), (0, .ref 0)] [.int 0, .ref 0] (by decide +kernel) ?_
  refine mx_scr 6 0 30 (by decide +kernel) (by decide +kernel) (by decide +kernel) ?_
  refine mx_S (.bipush 15) 2 [] 32 [(3, .int 0), (2, .ref 36), (1, .ref 21), (0, .ref 0)] [.int 15, .int (xs 0)] (by decide +kernel) rfl ?_
  refine mx_S (.iand) 1 [] 33 [(3, .int 0), (2, .ref 36), (1, .ref 21), (0, .ref 0)] [.int ((xs 0) &&& 15)] (by decide +kernel) rfl ?_
  refine mx_eq 12 hk ?_
  refine mx_B 6 485 [(3, .int 0), (2, .ref 36), (1, .ref 21), (0, .ref 0)] [.int 1, .ref 0, .ref 21] (by decide +kernel) ?_
  refine mx_scr 6 1 486 (by decide +kernel) (by decide +kernel) (by decide +kernel) ?_
  refine mx_S (.aload_n 0) 1 [] 487 [(3, .int 0), (2, .ref 36), (1, .ref 21), (0, .ref 0)] [.ref 0, .int (xs 1), .ref 21] (by decide +kernel) rfl ?_
  refine mx_S (.iload_n 3) 1 [] 488 [(3, .int 0), (2, .ref 36), (1, .ref 21), (0, .ref 0)] [.int 0, .ref 0, .int (xs 1), .ref 21] (by decide +kernel) rfl ?_
  refine mx_S (.iconst 2) 1 [] 489 [(3, .int 0), (2, .ref 36), (1, .ref 21), (0, .ref 0)] [.int 2, .int 0, .ref 0, .int (xs 1), .ref 21] (by decide +kernel) rfl ?_
  refine mx_S (.iadd) 1 [] 490 [(3, .int 0), (2, .ref 36), (1, .ref 21), (0, .ref 0)] [.int 2, .ref 0, .int (xs 1), .ref 21] (by decide +kernel) rfl ?_
  refine mx_scr 6 2 491 (by decide +kernel) (by decide +kernel) (by decide +kernel) ?_
  refine mx_calls (.invokevirtual 67) [280, 5, 2, 0] 280 3 [.ref 21, .int (xs 1), .int (xs 2)] [] [(0, .ref 21), (1, .int (xs 1)), (2, .int (xs 2))] (some (.int (-1))) hh_a391 0 0 4 84 0 0 494 [.int (-1)] ap_280 (by decide +kernel) rfl ⟨by decide +kernel, rfl, rfl, rfl, rfl⟩ (iv_a842 6 xs zf hz hk u1) ?_
  refine mx_B 5 499 [(3, .int 0), (2, .ref 36), (1, .ref 21), (0, .ref 0)] [.int 1, .ref 0, .ref 36, .int (-1)] (by decide +kernel) ?_
  refine mx_scr 6 1 500 (by decide +kernel) (by decide +kernel) (by decide +kernel) ?_
  refine mx_S (.aload_n 0) 1 [] 501 [(3, .int 0), (2, .ref 36), (1, .ref 21), (0, .ref 0)] [.ref 0, .int (xs 1), .ref 36, .int (-1)] (by decide +kernel) rfl ?_
  refine mx_S (.iload_n 3) 1 [] 502 [(3, .int 0), (2, .ref 36), (1, .ref 21), (0, .ref 0)] [.int 0, .ref 0, .int (xs 1), .ref 36, .int (-1)] (by decide +kernel) rfl ?_
  refine mx_S (.iconst 2) 1 [] 503 [(3, .int 0), (2, .ref 36), (1, .ref 21), (0, .ref 0)] [.int 2, .int 0, .ref 0, .int (xs 1), .ref 36, .int (-1)] (by decide +kernel) rfl ?_
  refine mx_S (.iadd) 1 [] 504 [(3, .int 0), (2, .ref 36), (1, .ref 21), (0, .ref 0)] [.int 2, .ref 0, .int (xs 1), .ref 36, .int (-1)] (by decide +kernel) rfl ?_
  refine mx_scr 6 2 505 (by decide +kernel) (by decide +kernel) (by decide +kernel) ?_
  refine mx_calls (.invokevirtual 70) [412, 5, 2, 15] 412 3 [.ref 36, .int (xs 1), .int (xs 2)] [.int (-1)] [(0, .ref 36), (1, .int (xs 1)), (2, .int (xs 2))] (some (.int (-1))) hh_a391 0 0 1 21 0 0 508 [.int (-1), .int (-1)] ap_412 (by decide +kernel) rfl ⟨by decide +kernel, rfl, rfl, rfl, rfl⟩ (iv_a844 6 xs zf hz hk u1) ?_
  refine mx_B 5 20 [(3, .int 6), (2, .ref 36), (1, .ref 21), (0, .ref 0)] [.ref 0, .int 6] (by decide +kernel) ?_
  refine mx_S (.arraylength) 1 [] 21 [(3, .int 6), (2, .ref 36), (1, .ref 21), (0, .ref 0)] [.int 6, .int 6] (by decide +kernel) rfl ?_
  refine mx_B 4 543 [(3, .int 6), (2, .ref 36), (1, .ref 21), (0, .ref 0)] [.int 1] (by decide +kernel) ?_
  exact mx_ret (some (.int 1)) (by decide +kernel) ⟨rfl, rfl⟩
theorem iv_a846 (L : Nat) (xs : Nat → Int32) (zf : Value) (hz : zf.category = 1) (hk : xs 0 &&& 15 = 12) (l1 : 0 ≤ (xs 1).toInt) : mx_R L xs zf ah_M236 0 [(0, .ref 24), (1, .int (xs 1))] [] hh_a391 0 0 0 0 (fun v h' => v = some (.null) ∧ h' = hh_a391) := by
  refine mx_S (.iload_n 1) 1 [] 1 [(0, .ref 24), (1, .int (xs 1))] [.int (xs 1)] (by decide +kernel) rfl ?_
  refine mx_1 .lt 11 false 4 (mx_v1 .lt (x := (xs 1)) 0 2147483647  l1 (mx_hi _) (by decide +kernel)) (by decide +kernel) ?_
  refine mx_S (.iload_n 1) 1 [] 5 [(0, .ref 24), (1, .int (xs 1))] [.int (xs 1)] (by decide +kernel) rfl ?_
  refine mx_S (.aload_n 0) 1 [] 6 [(0, .ref 24), (1, .int (xs 1))] [.ref 24, .int (xs 1)] (by decide +kernel) rfl ?_
  refine mx_S (.getfield 34) 3 [8, 2] 9 [(0, .ref 24), (1, .int (xs 1))] [.int 0, .int (xs 1)] (by decide +kernel) rfl ?_
  refine mx_2 .lt 7 false 12 (mx_v2 .lt (x := (xs 1)) (y := 0) 0 2147483647 0  l1 (mx_hi _) (by decide +kernel) (by decide +kernel)) (by decide +kernel) ?_
  refine mx_S (.aconst_null) 1 [] 13 [(0, .ref 24), (1, .int (xs 1))] [.null] (by decide +kernel) rfl ?_
  refine mx_S (.goto 9) 3 [] 22 [(0, .ref 24), (1, .int (xs 1))] [.null] (by decide +kernel) rfl ?_
  exact mx_ret (some (.null)) (by decide +kernel) ⟨rfl, rfl⟩
theorem iv_a847 (L : Nat) (xs : Nat → Int32) (zf : Value) (hz : zf.category = 1) (hk : xs 0 &&& 15 = 12) (l1 : 0 ≤ (xs 1).toInt) : mx_R L xs zf ah_M280 0 [(0, .ref 21), (1, .int (xs 1)), (2, .int (xs 2))] [] hh_a203 0 0 4 84 (fun v h' => v = some (.int (-1)) ∧ h' = hh_a391) := by
  refine mx_S (.aload_n 0) 1 [] 1 [(0, .ref 21), (1, .int (xs 1)), (2, .int (xs 2))] [.ref 21] (by decide +kernel) rfl ?_
  refine mx_S (.getfield 26) 3 [2, 0] 4 [(0, .ref 21), (1, .int (xs 1)), (2, .int (xs 2))] [.ref 30] (by decide +kernel) rfl ?_
  refine mx_calls (.invokevirtual 91) [217, 5, 0, 3] 217 3 [.ref 30] [] [(0, .ref 30)] none hh_a391 0 0 3 64 0 0 7 [] ap_217 (by decide +kernel) rfl (by decide +kernel) (iv_a829 L xs zf hz) ?_
  refine mx_S (.aload_n 0) 1 [] 8 [(0, .ref 21), (1, .int (xs 1)), (2, .int (xs 2))] [.ref 21] (by decide +kernel) rfl ?_
  refine mx_S (.getfield 19) 3 [1, 0] 11 [(0, .ref 21), (1, .int (xs 1)), (2, .int (xs 2))] [.ref 24] (by decide +kernel) rfl ?_
  refine mx_S (.iload_n 1) 1 [] 12 [(0, .ref 21), (1, .int (xs 1)), (2, .int (xs 2))] [.int (xs 1), .ref 24] (by decide +kernel) rfl ?_
  refine mx_calls (.invokevirtual 145) [236, 5, 1, 2] 236 3 [.ref 24, .int (xs 1)] [] [(0, .ref 24), (1, .int (xs 1))] (some (.null)) hh_a391 0 0 0 0 0 0 15 [.null] ap_236 (by decide +kernel) rfl ⟨by decide +kernel, rfl, rfl, rfl, rfl⟩ (iv_a846 L xs zf hz hk l1) ?_
  refine mx_S (.astore_n 3) 1 [] 16 [(3, .null), (0, .ref 21), (1, .int (xs 1)), (2, .int (xs 2))] [] (by decide +kernel) rfl ?_
  refine mx_S (.aload_n 3) 1 [] 17 [(3, .null), (0, .ref 21), (1, .int (xs 1)), (2, .int (xs 2))] [.null] (by decide +kernel) rfl ?_
  refine mx_S (.ifnull 15) 3 [] 32 [(3, .null), (0, .ref 21), (1, .int (xs 1)), (2, .int (xs 2))] [] (by decide +kernel) rfl ?_
  refine mx_S (.iconst (-1)) 1 [] 33 [(3, .null), (0, .ref 21), (1, .int (xs 1)), (2, .int (xs 2))] [.int (-1)] (by decide +kernel) rfl ?_
  exact mx_ret (some (.int (-1))) (by decide +kernel) ⟨rfl, rfl⟩
theorem iv_a848 (L : Nat) (xs : Nat → Int32) (zf : Value) (hz : zf.category = 1) (hk : xs 0 &&& 15 = 12) (l1 : 0 ≤ (xs 1).toInt) : mx_R L xs zf ah_M381 0 [(0, .ref 36), (1, .int (xs 1))] [] hh_a391 0 0 0 0 (fun v h' => v = some (.int 0) ∧ h' = hh_a391) := by
  refine mx_S (.aload_n 0) 1 [] 1 [(0, .ref 36), (1, .int (xs 1))] [.ref 36] (by decide +kernel) rfl ?_
  refine mx_S (.getfield 569) 3 [74, 15] 4 [(0, .ref 36), (1, .int (xs 1))] [.int 0] (by decide +kernel) rfl ?_
  refine mx_1 .eq 19 true 23 (by decide +kernel) (by decide +kernel) ?_
  refine mx_S (.iconst 0) 1 [] 24 [(0, .ref 36), (1, .int (xs 1))] [.int 0] (by decide +kernel) rfl ?_
  exact mx_ret (some (.int 0)) (by decide +kernel) ⟨rfl, rfl⟩
theorem iv_a849 (L : Nat) (xs : Nat → Int32) (zf : Value) (hz : zf.category = 1) (hk : xs 0 &&& 15 = 12) (l1 : 0 ≤ (xs 1).toInt) : mx_R L xs zf ah_M412 0 [(0, .ref 36), (1, .int (xs 1)), (2, .int (xs 2))] [] hh_a391 0 0 1 21 (fun v h' => v = some (.int (-1)) ∧ h' = hh_a391) := by
  refine mx_S (.aload_n 0) 1 [] 1 [(0, .ref 36), (1, .int (xs 1)), (2, .int (xs 2))] [.ref 36] (by decide +kernel) rfl ?_
  refine mx_calls (.invokevirtual 740) [406, 5, 0, 15] 406 3 [.ref 36] [] [(0, .ref 36)] none hh_a391 0 0 0 0 0 0 4 [] ap_406 (by decide +kernel) rfl (by decide +kernel) (iv_a832 L xs zf hz) ?_
  refine mx_S (.aload_n 0) 1 [] 5 [(0, .ref 36), (1, .int (xs 1)), (2, .int (xs 2))] [.ref 36] (by decide +kernel) rfl ?_
  refine mx_S (.iload_n 1) 1 [] 6 [(0, .ref 36), (1, .int (xs 1)), (2, .int (xs 2))] [.int (xs 1), .ref 36] (by decide +kernel) rfl ?_
  refine mx_calls (.invokevirtual 709) [381, 5, 1, 15] 381 3 [.ref 36, .int (xs 1)] [] [(0, .ref 36), (1, .int (xs 1))] (some (.int 0)) hh_a391 0 0 0 0 0 0 9 [.int 0] ap_381 (by decide +kernel) rfl ⟨by decide +kernel, rfl, rfl, rfl, rfl⟩ (iv_a848 L xs zf hz hk l1) ?_
  refine mx_1 .eq 17 true 26 (by decide +kernel) (by decide +kernel) ?_
  refine mx_S (.iconst (-1)) 1 [] 27 [(0, .ref 36), (1, .int (xs 1)), (2, .int (xs 2))] [.int (-1)] (by decide +kernel) rfl ?_
  exact mx_ret (some (.int (-1))) (by decide +kernel) ⟨rfl, rfl⟩
theorem iv_a850 (xs : Nat → Int32) (zf : Value) (hz : zf.category = 1) (hk : xs 0 &&& 15 = 12) (l1 : 0 ≤ (xs 1).toInt) : mx_R 6 xs zf ah_M0 18 [(3, .int 0), (2, .ref 36), (1, .ref 21), (0, .ref 0)] [] hh_a203 0 0 5 107 (fun v h' => v = some (.int 1) ∧ h' = hh_a391) := by
  refine mx_B 2 20 [(3, .int 0), (2, .ref 36), (1, .ref 21), (0, .ref 0)] [.ref 0, .int 0] (by decide +kernel) ?_
  refine mx_S (.arraylength) 1 [] 21 [(3, .int 0), (2, .ref 36), (1, .ref 21), (0, .ref 0)] [.int 6, .int 0] (by decide +kernel) rfl ?_
  refine mx_B 5 29 [(3, .int 0), (2, .ref 36), (1, .ref 21), (0, .ref 0)] [.int 0, .ref 0] (by decide +kernel) ?_
  refine mx_scr 6 0 30 (by decide +kernel) (by decide +kernel) (by decide +kernel) ?_
  refine mx_S (.bipush 15) 2 [] 32 [(3, .int 0), (2, .ref 36), (1, .ref 21), (0, .ref 0)] [.int 15, .int (xs 0)] (by decide +kernel) rfl ?_
  refine mx_S (.iand) 1 [] 33 [(3, .int 0), (2, .ref 36), (1, .ref 21), (0, .ref 0)] [.int ((xs 0) &&& 15)] (by decide +kernel) rfl ?_
  refine mx_eq 12 hk ?_
  refine mx_B 6 485 [(3, .int 0), (2, .ref 36), (1, .ref 21), (0, .ref 0)] [.int 1, .ref 0, .ref 21] (by decide +kernel) ?_
  refine mx_scr 6 1 486 (by decide +kernel) (by decide +kernel) (by decide +kernel) ?_
  refine mx_S (.aload_n 0) 1 [] 487 [(3, .int 0), (2, .ref 36), (1, .ref 21), (0, .ref 0)] [.ref 0, .int (xs 1), .ref 21] (by decide +kernel) rfl ?_
  refine mx_S (.iload_n 3) 1 [] 488 [(3, .int 0), (2, .ref 36), (1, .ref 21), (0, .ref 0)] [.int 0, .ref 0, .int (xs 1), .ref 21] (by decide +kernel) rfl ?_
  refine mx_S (.iconst 2) 1 [] 489 [(3, .int 0), (2, .ref 36), (1, .ref 21), (0, .ref 0)] [.int 2, .int 0, .ref 0, .int (xs 1), .ref 21] (by decide +kernel) rfl ?_
  refine mx_S (.iadd) 1 [] 490 [(3, .int 0), (2, .ref 36), (1, .ref 21), (0, .ref 0)] [.int 2, .ref 0, .int (xs 1), .ref 21] (by decide +kernel) rfl ?_
  refine mx_scr 6 2 491 (by decide +kernel) (by decide +kernel) (by decide +kernel) ?_
  refine mx_calls (.invokevirtual 67) [280, 5, 2, 0] 280 3 [.ref 21, .int (xs 1), .int (xs 2)] [] [(0, .ref 21), (1, .int (xs 1)), (2, .int (xs 2))] (some (.int (-1))) hh_a391 0 0 4 84 0 0 494 [.int (-1)] ap_280 (by decide +kernel) rfl ⟨by decide +kernel, rfl, rfl, rfl, rfl⟩ (iv_a847 6 xs zf hz hk l1) ?_
  refine mx_B 5 499 [(3, .int 0), (2, .ref 36), (1, .ref 21), (0, .ref 0)] [.int 1, .ref 0, .ref 36, .int (-1)] (by decide +kernel) ?_
  refine mx_scr 6 1 500 (by decide +kernel) (by decide +kernel) (by decide +kernel) ?_
  refine mx_S (.aload_n 0) 1 [] 501 [(3, .int 0), (2, .ref 36), (1, .ref 21), (0, .ref 0)] [.ref 0, .int (xs 1), .ref 36, .int (-1)] (by decide +kernel) rfl ?_
  refine mx_S (.iload_n 3) 1 [] 502 [(3, .int 0), (2, .ref 36), (1, .ref 21), (0, .ref 0)] [.int 0, .ref 0, .int (xs 1), .ref 36, .int (-1)] (by decide +kernel) rfl ?_
  refine mx_S (.iconst 2) 1 [] 503 [(3, .int 0), (2, .ref 36), (1, .ref 21), (0, .ref 0)] [.int 2, .int 0, .ref 0, .int (xs 1), .ref 36, .int (-1)] (by decide +kernel) rfl ?_
  refine mx_S (.iadd) 1 [] 504 [(3, .int 0), (2, .ref 36), (1, .ref 21), (0, .ref 0)] [.int 2, .ref 0, .int (xs 1), .ref 36, .int (-1)] (by decide +kernel) rfl ?_
  refine mx_scr 6 2 505 (by decide +kernel) (by decide +kernel) (by decide +kernel) ?_
  refine mx_calls (.invokevirtual 70) [412, 5, 2, 15] 412 3 [.ref 36, .int (xs 1), .int (xs 2)] [.int (-1)] [(0, .ref 36), (1, .int (xs 1)), (2, .int (xs 2))] (some (.int (-1))) hh_a391 0 0 1 21 0 0 508 [.int (-1), .int (-1)] ap_412 (by decide +kernel) rfl ⟨by decide +kernel, rfl, rfl, rfl, rfl⟩ (iv_a849 6 xs zf hz hk l1) ?_
  refine mx_B 5 20 [(3, .int 6), (2, .ref 36), (1, .ref 21), (0, .ref 0)] [.ref 0, .int 6] (by decide +kernel) ?_
  refine mx_S (.arraylength) 1 [] 21 [(3, .int 6), (2, .ref 36), (1, .ref 21), (0, .ref 0)] [.int 6, .int 6] (by decide +kernel) rfl ?_
  refine mx_B 4 543 [(3, .int 6), (2, .ref 36), (1, .ref 21), (0, .ref 0)] [.int 1] (by decide +kernel) ?_
  exact mx_ret (some (.int 1)) (by decide +kernel) ⟨rfl, rfl⟩
theorem lw_case12 (xs : Nat → Int32) (zf : Value) (hz : zf.category = 1) (hk : xs 0 &&& 15 = 12) : mx_R 6 xs zf ah_M0 18 [(3, .int 0), (2, .ref 36), (1, .ref 21), (0, .ref 0)] [] hh_a203 599906 7021181 2048 84000 (fun v _ => v = some (.int 1)) := by
  rcases mx_cut (xs 1).toInt (-1) 0 rfl with u1 | l1
  · exact mx_end (iv_a845 xs zf hz hk u1) (by decide +kernel)
  exact mx_end (iv_a850 xs zf hz hk l1) (by decide +kernel)
