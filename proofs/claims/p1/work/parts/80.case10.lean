/-! THE FIRST CALL, sort 10; printed by wip/whole/gen_p1.py. -/
theorem iv_a817 (L : Nat) (xs : Nat → Int32) (zf : Value) (hz : zf.category = 1) (hk : xs 0 &&& 15 = 10) (u1 : (xs 1).toInt ≤ (-1)) : mx_R L xs zf ah_M269 0 [(0, .ref 21), (1, .int (xs 1)), (2, .int (xs 2))] [] hh_a203 0 0 0 0 (fun v h' => v = some (.int 0) ∧ h' = hh_a203) := by
  refine mx_S (.iload_n 1) 1 [] 1 [(0, .ref 21), (1, .int (xs 1)), (2, .int (xs 2))] [.int (xs 1)] (by decide +kernel) rfl ?_
  refine mx_1 .lt 21 true 22 (mx_v1 .lt (x := (xs 1)) (-2147483648) (-1)  (mx_lo _) u1 (by decide +kernel)) (by decide +kernel) ?_
  refine mx_S (.iconst 0) 1 [] 23 [(0, .ref 21), (1, .int (xs 1)), (2, .int (xs 2))] [.int 0] (by decide +kernel) rfl ?_
  exact mx_ret (some (.int 0)) (by decide +kernel) ⟨rfl, rfl⟩
theorem iv_a818 (L : Nat) (xs : Nat → Int32) (zf : Value) (hz : zf.category = 1) (hk : xs 0 &&& 15 = 10) (u1 : (xs 1).toInt ≤ (-1)) : mx_R L xs zf ah_M404 0 [(0, .ref 36), (1, .int (xs 1)), (2, .int (xs 2))] [] hh_a203 0 0 0 0 (fun v h' => v = some (.int 0) ∧ h' = hh_a203) := by
  refine mx_S (.aload_n 0) 1 [] 1 [(0, .ref 36), (1, .int (xs 1)), (2, .int (xs 2))] [.ref 36] (by decide +kernel) rfl ?_
  refine mx_S (.getfield 569) 3 [74, 15] 4 [(0, .ref 36), (1, .int (xs 1)), (2, .int (xs 2))] [.int 0] (by decide +kernel) rfl ?_
  refine mx_1 .eq 22 true 26 (by decide +kernel) (by decide +kernel) ?_
  refine mx_S (.iconst 0) 1 [] 27 [(0, .ref 36), (1, .int (xs 1)), (2, .int (xs 2))] [.int 0] (by decide +kernel) rfl ?_
  exact mx_ret (some (.int 0)) (by decide +kernel) ⟨rfl, rfl⟩
theorem iv_a819 (xs : Nat → Int32) (zf : Value) (hz : zf.category = 1) (hk : xs 0 &&& 15 = 10) (u1 : (xs 1).toInt ≤ (-1)) : mx_R 6 xs zf ah_M0 18 [(3, .int 0), (2, .ref 36), (1, .ref 21), (0, .ref 0)] [] hh_a203 0 0 1 22 (fun v h' => v = some (.int 1) ∧ h' = hh_a203) := by
  refine mx_B 2 20 [(3, .int 0), (2, .ref 36), (1, .ref 21), (0, .ref 0)] [.ref 0, .int 0] (by decide +kernel) ?_
  refine mx_S (.arraylength) 1 [] 21 [(3, .int 0), (2, .ref 36), (1, .ref 21), (0, .ref 0)] [.int 6, .int 0] (by decide +kernel) rfl ?_
  refine mx_B 5 29 [(3, .int 0), (2, .ref 36), (1, .ref 21), (0, .ref 0)] [.int 0, .ref 0] (by decide +kernel) ?_
  refine mx_scr 6 0 30 (by decide +kernel) (by decide +kernel) (by decide +kernel) ?_
  refine mx_S (.bipush 15) 2 [] 32 [(3, .int 0), (2, .ref 36), (1, .ref 21), (0, .ref 0)] [.int 15, .int (xs 0)] (by decide +kernel) rfl ?_
  refine mx_S (.iand) 1 [] 33 [(3, .int 0), (2, .ref 36), (1, .ref 21), (0, .ref 0)] [.int ((xs 0) &&& 15)] (by decide +kernel) rfl ?_
  refine mx_eq 10 hk ?_
  refine mx_B 6 419 [(3, .int 0), (2, .ref 36), (1, .ref 21), (0, .ref 0)] [.int 1, .ref 0, .ref 21] (by decide +kernel) ?_
  refine mx_scr 6 1 420 (by decide +kernel) (by decide +kernel) (by decide +kernel) ?_
  refine mx_S (.aload_n 0) 1 [] 421 [(3, .int 0), (2, .ref 36), (1, .ref 21), (0, .ref 0)] [.ref 0, .int (xs 1), .ref 21] (by decide +kernel) rfl ?_
  refine mx_S (.iload_n 3) 1 [] 422 [(3, .int 0), (2, .ref 36), (1, .ref 21), (0, .ref 0)] [.int 0, .ref 0, .int (xs 1), .ref 21] (by decide +kernel) rfl ?_
  refine mx_S (.iconst 2) 1 [] 423 [(3, .int 0), (2, .ref 36), (1, .ref 21), (0, .ref 0)] [.int 2, .int 0, .ref 0, .int (xs 1), .ref 21] (by decide +kernel) rfl ?_
  refine mx_S (.iadd) 1 [] 424 [(3, .int 0), (2, .ref 36), (1, .ref 21), (0, .ref 0)] [.int 2, .ref 0, .int (xs 1), .ref 21] (by decide +kernel) rfl ?_
  refine mx_scr 6 2 425 (by decide +kernel) (by decide +kernel) (by decide +kernel) ?_
  refine mx_calls (.invokevirtual 59) [269, 5, 2, 0] 269 3 [.ref 21, .int (xs 1), .int (xs 2)] [] [(0, .ref 21), (1, .int (xs 1)), (2, .int (xs 2))] (some (.int 0)) hh_a203 0 0 0 0 0 0 428 [.int 0] ap_269 (by decide +kernel) rfl ⟨by decide +kernel, rfl, rfl, rfl, rfl⟩ (iv_a817 6 xs zf hz hk u1) ?_
  refine mx_B 5 433 [(3, .int 0), (2, .ref 36), (1, .ref 21), (0, .ref 0)] [.int 1, .ref 0, .ref 36, .int 0] (by decide +kernel) ?_
  refine mx_scr 6 1 434 (by decide +kernel) (by decide +kernel) (by decide +kernel) ?_
  refine mx_S (.aload_n 0) 1 [] 435 [(3, .int 0), (2, .ref 36), (1, .ref 21), (0, .ref 0)] [.ref 0, .int (xs 1), .ref 36, .int 0] (by decide +kernel) rfl ?_
  refine mx_S (.iload_n 3) 1 [] 436 [(3, .int 0), (2, .ref 36), (1, .ref 21), (0, .ref 0)] [.int 0, .ref 0, .int (xs 1), .ref 36, .int 0] (by decide +kernel) rfl ?_
  refine mx_S (.iconst 2) 1 [] 437 [(3, .int 0), (2, .ref 36), (1, .ref 21), (0, .ref 0)] [.int 2, .int 0, .ref 0, .int (xs 1), .ref 36, .int 0] (by decide +kernel) rfl ?_
  refine mx_S (.iadd) 1 [] 438 [(3, .int 0), (2, .ref 36), (1, .ref 21), (0, .ref 0)] [.int 2, .ref 0, .int (xs 1), .ref 36, .int 0] (by decide +kernel) rfl ?_
  refine mx_scr 6 2 439 (by decide +kernel) (by decide +kernel) (by decide +kernel) ?_
  refine mx_calls (.invokevirtual 62) [404, 5, 2, 15] 404 3 [.ref 36, .int (xs 1), .int (xs 2)] [.int 0] [(0, .ref 36), (1, .int (xs 1)), (2, .int (xs 2))] (some (.int 0)) hh_a203 0 0 0 0 0 0 442 [.int 0, .int 0] ap_404 (by decide +kernel) rfl ⟨by decide +kernel, rfl, rfl, rfl, rfl⟩ (iv_a818 6 xs zf hz hk u1) ?_
  refine mx_B 5 20 [(3, .int 6), (2, .ref 36), (1, .ref 21), (0, .ref 0)] [.ref 0, .int 6] (by decide +kernel) ?_
  refine mx_S (.arraylength) 1 [] 21 [(3, .int 6), (2, .ref 36), (1, .ref 21), (0, .ref 0)] [.int 6, .int 6] (by decide +kernel) rfl ?_
  refine mx_B 4 543 [(3, .int 6), (2, .ref 36), (1, .ref 21), (0, .ref 0)] [.int 1] (by decide +kernel) ?_
  exact mx_ret (some (.int 1)) (by decide +kernel) ⟨rfl, rfl⟩
theorem iv_a820 (L : Nat) (xs : Nat → Int32) (zf : Value) (hz : zf.category = 1) (hk : xs 0 &&& 15 = 10) (l1 : 0 ≤ (xs 1).toInt) (u1 : (xs 1).toInt ≤ 199) : mx_R L xs zf ah_M269 0 [(0, .ref 21), (1, .int (xs 1)), (2, .int (xs 2))] [] hh_a203 0 0 0 0 (fun v h' => v = some (.int 0) ∧ h' = hh_a203) := by
  refine mx_S (.iload_n 1) 1 [] 1 [(0, .ref 21), (1, .int (xs 1)), (2, .int (xs 2))] [.int (xs 1)] (by decide +kernel) rfl ?_
  refine mx_1 .lt 21 false 4 (mx_v1 .lt (x := (xs 1)) 0 199  l1 u1 (by decide +kernel)) (by decide +kernel) ?_
  refine mx_S (.iload_n 1) 1 [] 5 [(0, .ref 21), (1, .int (xs 1)), (2, .int (xs 2))] [.int (xs 1)] (by decide +kernel) rfl ?_
  refine mx_S (.sipush 200) 3 [] 8 [(0, .ref 21), (1, .int (xs 1)), (2, .int (xs 2))] [.int 200, .int (xs 1)] (by decide +kernel) rfl ?_
  refine mx_2 .ge 14 false 11 (mx_v2 .ge (x := (xs 1)) (y := 200) 0 199 200  l1 u1 (by decide +kernel) (by decide +kernel)) (by decide +kernel) ?_
  refine mx_S (.iload_n 1) 1 [] 12 [(0, .ref 21), (1, .int (xs 1)), (2, .int (xs 2))] [.int (xs 1)] (by decide +kernel) rfl ?_
  refine mx_S (.aload_n 0) 1 [] 13 [(0, .ref 21), (1, .int (xs 1)), (2, .int (xs 2))] [.ref 21, .int (xs 1)] (by decide +kernel) rfl ?_
  refine mx_S (.getfield 19) 3 [1, 0] 16 [(0, .ref 21), (1, .int (xs 1)), (2, .int (xs 2))] [.ref 24, .int (xs 1)] (by decide +kernel) rfl ?_
  refine mx_S (.getfield 165) 3 [12, 2] 19 [(0, .ref 21), (1, .int (xs 1)), (2, .int (xs 2))] [.int 0, .int (xs 1)] (by decide +kernel) rfl ?_
  refine mx_2 .lt 5 false 22 (mx_v2 .lt (x := (xs 1)) (y := 0) 0 199 0  l1 u1 (by decide +kernel) (by decide +kernel)) (by decide +kernel) ?_
  refine mx_S (.iconst 0) 1 [] 23 [(0, .ref 21), (1, .int (xs 1)), (2, .int (xs 2))] [.int 0] (by decide +kernel) rfl ?_
  exact mx_ret (some (.int 0)) (by decide +kernel) ⟨rfl, rfl⟩
theorem iv_a821 (L : Nat) (xs : Nat → Int32) (zf : Value) (hz : zf.category = 1) (hk : xs 0 &&& 15 = 10) (l1 : 0 ≤ (xs 1).toInt) (u1 : (xs 1).toInt ≤ 199) : mx_R L xs zf ah_M404 0 [(0, .ref 36), (1, .int (xs 1)), (2, .int (xs 2))] [] hh_a203 0 0 0 0 (fun v h' => v = some (.int 0) ∧ h' = hh_a203) := by
  refine mx_S (.aload_n 0) 1 [] 1 [(0, .ref 36), (1, .int (xs 1)), (2, .int (xs 2))] [.ref 36] (by decide +kernel) rfl ?_
  refine mx_S (.getfield 569) 3 [74, 15] 4 [(0, .ref 36), (1, .int (xs 1)), (2, .int (xs 2))] [.int 0] (by decide +kernel) rfl ?_
  refine mx_1 .eq 22 true 26 (by decide +kernel) (by decide +kernel) ?_
  refine mx_S (.iconst 0) 1 [] 27 [(0, .ref 36), (1, .int (xs 1)), (2, .int (xs 2))] [.int 0] (by decide +kernel) rfl ?_
  exact mx_ret (some (.int 0)) (by decide +kernel) ⟨rfl, rfl⟩
theorem iv_a822 (xs : Nat → Int32) (zf : Value) (hz : zf.category = 1) (hk : xs 0 &&& 15 = 10) (l1 : 0 ≤ (xs 1).toInt) (u1 : (xs 1).toInt ≤ 199) : mx_R 6 xs zf ah_M0 18 [(3, .int 0), (2, .ref 36), (1, .ref 21), (0, .ref 0)] [] hh_a203 0 0 1 22 (fun v h' => v = some (.int 1) ∧ h' = hh_a203) := by
  refine mx_B 2 20 [(3, .int 0), (2, .ref 36), (1, .ref 21), (0, .ref 0)] [.ref 0, .int 0] (by decide +kernel) ?_
  refine mx_S (.arraylength) 1 [] 21 [(3, .int 0), (2, .ref 36), (1, .ref 21), (0, .ref 0)] [.int 6, .int 0] (by decide +kernel) rfl ?_
  refine mx_B 5 29 [(3, .int 0), (2, .ref 36), (1, .ref 21), (0, .ref 0)] [.int 0, .ref 0] (by decide +kernel) ?_
  refine mx_scr 6 0 30 (by decide +kernel) (by decide +kernel) (by decide +kernel) ?_
  refine mx_S (.bipush 15) 2 [] 32 [(3, .int 0), (2, .ref 36), (1, .ref 21), (0, .ref 0)] [.int 15, .int (xs 0)] (by decide +kernel) rfl ?_
  refine mx_S (.iand) 1 [] 33 [(3, .int 0), (2, .ref 36), (1, .ref 21), (0, .ref 0)] [.int ((xs 0) &&& 15)] (by decide +kernel) rfl ?_
  refine mx_eq 10 hk ?_
  refine mx_B 6 419 [(3, .int 0), (2, .ref 36), (1, .ref 21), (0, .ref 0)] [.int 1, .ref 0, .ref 21] (by decide +kernel) ?_
  refine mx_scr 6 1 420 (by decide +kernel) (by decide +kernel) (by decide +kernel) ?_
  refine mx_S (.aload_n 0) 1 [] 421 [(3, .int 0), (2, .ref 36), (1, .ref 21), (0, .ref 0)] [.ref 0, .int (xs 1), .ref 21] (by decide +kernel) rfl ?_
  refine mx_S (.iload_n 3) 1 [] 422 [(3, .int 0), (2, .ref 36), (1, .ref 21), (0, .ref 0)] [.int 0, .ref 0, .int (xs 1), .ref 21] (by decide +kernel) rfl ?_
  refine mx_S (.iconst 2) 1 [] 423 [(3, .int 0), (2, .ref 36), (1, .ref 21), (0, .ref 0)] [.int 2, .int 0, .ref 0, .int (xs 1), .ref 21] (by decide +kernel) rfl ?_
  refine mx_S (.iadd) 1 [] 424 [(3, .int 0), (2, .ref 36), (1, .ref 21), (0, .ref 0)] [.int 2, .ref 0, .int (xs 1), .ref 21] (by decide +kernel) rfl ?_
  refine mx_scr 6 2 425 (by decide +kernel) (by decide +kernel) (by decide +kernel) ?_
  refine mx_calls (.invokevirtual 59) [269, 5, 2, 0] 269 3 [.ref 21, .int (xs 1), .int (xs 2)] [] [(0, .ref 21), (1, .int (xs 1)), (2, .int (xs 2))] (some (.int 0)) hh_a203 0 0 0 0 0 0 428 [.int 0] ap_269 (by decide +kernel) rfl ⟨by decide +kernel, rfl, rfl, rfl, rfl⟩ (iv_a820 6 xs zf hz hk l1 u1) ?_
  refine mx_B 5 433 [(3, .int 0), (2, .ref 36), (1, .ref 21), (0, .ref 0)] [.int 1, .ref 0, .ref 36, .int 0] (by decide +kernel) ?_
  refine mx_scr 6 1 434 (by decide +kernel) (by decide +kernel) (by decide +kernel) ?_
  refine mx_S (.aload_n 0) 1 [] 435 [(3, .int 0), (2, .ref 36), (1, .ref 21), (0, .ref 0)] [.ref 0, .int (xs 1), .ref 36, .int 0] (by decide +kernel) rfl ?_
  refine mx_S (.iload_n 3) 1 [] 436 [(3, .int 0), (2, .ref 36), (1, .ref 21), (0, .ref 0)] [.int 0, .ref 0, .int (xs 1), .ref 36, .int 0] (by decide +kernel) rfl ?_
  refine mx_S (.iconst 2) 1 [] 437 [(3, .int 0), (2, .ref 36), (1, .ref 21), (0, .ref 0)] [.int 2, .int 0, .ref 0, .int (xs 1), .ref 36, .int 0] (by decide +kernel) rfl ?_
  refine mx_S (.iadd) 1 [] 438 [(3, .int 0), (2, .ref 36), (1, .ref 21), (0, .ref 0)] [.int 2, .ref 0, .int (xs 1), .ref 36, .int 0] (by decide +kernel) rfl ?_
  refine mx_scr 6 2 439 (by decide +kernel) (by decide +kernel) (by decide +kernel) ?_
  refine mx_calls (.invokevirtual 62) [404, 5, 2, 15] 404 3 [.ref 36, .int (xs 1), .int (xs 2)] [.int 0] [(0, .ref 36), (1, .int (xs 1)), (2, .int (xs 2))] (some (.int 0)) hh_a203 0 0 0 0 0 0 442 [.int 0, .int 0] ap_404 (by decide +kernel) rfl ⟨by decide +kernel, rfl, rfl, rfl, rfl⟩ (iv_a821 6 xs zf hz hk l1 u1) ?_
  refine mx_B 5 20 [(3, .int 6), (2, .ref 36), (1, .ref 21), (0, .ref 0)] [.ref 0, .int 6] (by decide +kernel) ?_
  refine mx_S (.arraylength) 1 [] 21 [(3, .int 6), (2, .ref 36), (1, .ref 21), (0, .ref 0)] [.int 6, .int 6] (by decide +kernel) rfl ?_
  refine mx_B 4 543 [(3, .int 6), (2, .ref 36), (1, .ref 21), (0, .ref 0)] [.int 1] (by decide +kernel) ?_
  exact mx_ret (some (.int 1)) (by decide +kernel) ⟨rfl, rfl⟩
theorem iv_a823 (L : Nat) (xs : Nat → Int32) (zf : Value) (hz : zf.category = 1) (hk : xs 0 &&& 15 = 10) (l1 : 200 ≤ (xs 1).toInt) : mx_R L xs zf ah_M269 0 [(0, .ref 21), (1, .int (xs 1)), (2, .int (xs 2))] [] hh_a203 0 0 0 0 (fun v h' => v = some (.int 0) ∧ h' = hh_a203) := by
  refine mx_S (.iload_n 1) 1 [] 1 [(0, .ref 21), (1, .int (xs 1)), (2, .int (xs 2))] [.int (xs 1)] (by decide +kernel) rfl ?_
  refine mx_1 .lt 21 false 4 (mx_v1 .lt (x := (xs 1)) 200 2147483647  l1 (mx_hi _) (by decide +kernel)) (by decide +kernel) ?_
  refine mx_S (.iload_n 1) 1 [] 5 [(0, .ref 21), (1, .int (xs 1)), (2, .int (xs 2))] [.int (xs 1)] (by decide +kernel) rfl ?_
  refine mx_S (.sipush 200) 3 [] 8 [(0, .ref 21), (1, .int (xs 1)), (2, .int (xs 2))] [.int 200, .int (xs 1)] (by decide +kernel) rfl ?_
  refine mx_2 .ge 14 true 22 (mx_v2 .ge (x := (xs 1)) (y := 200) 200 2147483647 200  l1 (mx_hi _) (by decide +kernel) (by decide +kernel)) (by decide +kernel) ?_
  refine mx_S (.iconst 0) 1 [] 23 [(0, .ref 21), (1, .int (xs 1)), (2, .int (xs 2))] [.int 0] (by decide +kernel) rfl ?_
  exact mx_ret (some (.int 0)) (by decide +kernel) ⟨rfl, rfl⟩
theorem iv_a824 (L : Nat) (xs : Nat → Int32) (zf : Value) (hz : zf.category = 1) (hk : xs 0 &&& 15 = 10) (l1 : 200 ≤ (xs 1).toInt) : mx_R L xs zf ah_M404 0 [(0, .ref 36), (1, .int (xs 1)), (2, .int (xs 2))] [] hh_a203 0 0 0 0 (fun v h' => v = some (.int 0) ∧ h' = hh_a203) := by
  refine mx_S (.aload_n 0) 1 [] 1 [(0, .ref 36), (1, .int (xs 1)), (2, .int (xs 2))] [.ref 36] (by decide +kernel) rfl ?_
  refine mx_S (.getfield 569) 3 [74, 15] 4 [(0, .ref 36), (1, .int (xs 1)), (2, .int (xs 2))] [.int 0] (by decide +kernel) rfl ?_
  refine mx_1 .eq 22 true 26 (by decide +kernel) (by decide +kernel) ?_
  refine mx_S (.iconst 0) 1 [] 27 [(0, .ref 36), (1, .int (xs 1)), (2, .int (xs 2))] [.int 0] (by decide +kernel) rfl ?_
  exact mx_ret (some (.int 0)) (by decide +kernel) ⟨rfl, rfl⟩
theorem iv_a825 (xs : Nat → Int32) (zf : Value) (hz : zf.category = 1) (hk : xs 0 &&& 15 = 10) (l1 : 200 ≤ (xs 1).toInt) : mx_R 6 xs zf ah_M0 18 [(3, .int 0), (2, .ref 36), (1, .ref 21), (0, .ref 0)] [] hh_a203 0 0 1 22 (fun v h' => v = some (.int 1) ∧ h' = hh_a203) := by
  refine mx_B 2 20 [(3, .int 0), (2, .ref 36), (1, .ref 21), (0, .ref 0)] [.ref 0, .int 0] (by decide +kernel) ?_
  refine mx_S (.arraylength) 1 [] 21 [(3, .int 0), (2, .ref 36), (1, .ref 21), (0, .ref 0)] [.int 6, .int 0] (by decide +kernel) rfl ?_
  refine mx_B 5 29 [(3, .int 0), (2, .ref 36), (1, .ref 21), (0, .ref 0)] [.int 0, .ref 0] (by decide +kernel) ?_
  refine mx_scr 6 0 30 (by decide +kernel) (by decide +kernel) (by decide +kernel) ?_
  refine mx_S (.bipush 15) 2 [] 32 [(3, .int 0), (2, .ref 36), (1, .ref 21), (0, .ref 0)] [.int 15, .int (xs 0)] (by decide +kernel) rfl ?_
  refine mx_S (.iand) 1 [] 33 [(3, .int 0), (2, .ref 36), (1, .ref 21), (0, .ref 0)] [.int ((xs 0) &&& 15)] (by decide +kernel) rfl ?_
  refine mx_eq 10 hk ?_
  refine mx_B 6 419 [(3, .int 0), (2, .ref 36), (1, .ref 21), (0, .ref 0)] [.int 1, .ref 0, .ref 21] (by decide +kernel) ?_
  refine mx_scr 6 1 420 (by decide +kernel) (by decide +kernel) (by decide +kernel) ?_
  refine mx_S (.aload_n 0) 1 [] 421 [(3, .int 0), (2, .ref 36), (1, .ref 21), (0, .ref 0)] [.ref 0, .int (xs 1), .ref 21] (by decide +kernel) rfl ?_
  refine mx_S (.iload_n 3) 1 [] 422 [(3, .int 0), (2, .ref 36), (1, .ref 21), (0, .ref 0)] [.int 0, .ref 0, .int (xs 1), .ref 21] (by decide +kernel) rfl ?_
  refine mx_S (.iconst 2) 1 [] 423 [(3, .int 0), (2, .ref 36), (1, .ref 21), (0, .ref 0)] [.int 2, .int 0, .ref 0, .int (xs 1), .ref 21] (by decide +kernel) rfl ?_
  refine mx_S (.iadd) 1 [] 424 [(3, .int 0), (2, .ref 36), (1, .ref 21), (0, .ref 0)] [.int 2, .ref 0, .int (xs 1), .ref 21] (by decide +kernel) rfl ?_
  refine mx_scr 6 2 425 (by decide +kernel) (by decide +kernel) (by decide +kernel) ?_
  refine mx_calls (.invokevirtual 59) [269, 5, 2, 0] 269 3 [.ref 21, .int (xs 1), .int (xs 2)] [] [(0, .ref 21), (1, .int (xs 1)), (2, .int (xs 2))] (some (.int 0)) hh_a203 0 0 0 0 0 0 428 [.int 0] ap_269 (by decide +kernel) rfl ⟨by decide +kernel, rfl, rfl, rfl, rfl⟩ (iv_a823 6 xs zf hz hk l1) ?_
  refine mx_B 5 433 [(3, .int 0), (2, .ref 36), (1, .ref 21), (0, .ref 0)] [.int 1, .ref 0, .ref 36, .int 0] (by decide +kernel) ?_
  refine mx_scr 6 1 434 (by decide +kernel) (by decide +kernel) (by decide +kernel) ?_
  refine mx_S (.aload_n 0) 1 [] 435 [(3, .int 0), (2, .ref 36), (1, .ref 21), (0, .ref 0)] [.ref 0, .int (xs 1), .ref 36, .int 0] (by decide +kernel) rfl ?_
  refine mx_S (.iload_n 3) 1 [] 436 [(3, .int 0), (2, .ref 36), (1, .ref 21), (0, .ref 0)] [.int 0, .ref 0, .int (xs 1), .ref 36, .int 0] (by decide +kernel) rfl ?_
  refine mx_S (.iconst 2) 1 [] 437 [(3, .int 0), (2, .ref 36), (1, .ref 21), (0, .ref 0)] [.int 2, .int 0, .ref 0, .int (xs 1), .ref 36, .int 0] (by decide +kernel) rfl ?_
  refine mx_S (.iadd) 1 [] 438 [(3, .int 0), (2, .ref 36), (1, .ref 21), (0, .ref 0)] [.int 2, .ref 0, .int (xs 1), .ref 36, .int 0] (by decide +kernel) rfl ?_
  refine mx_scr 6 2 439 (by decide +kernel) (by decide +kernel) (by decide +kernel) ?_
  refine mx_calls (.invokevirtual 62) [404, 5, 2, 15] 404 3 [.ref 36, .int (xs 1), .int (xs 2)] [.int 0] [(0, .ref 36), (1, .int (xs 1)), (2, .int (xs 2))] (some (.int 0)) hh_a203 0 0 0 0 0 0 442 [.int 0, .int 0] ap_404 (by decide +kernel) rfl ⟨by decide +kernel, rfl, rfl, rfl, rfl⟩ (iv_a824 6 xs zf hz hk l1) ?_
  refine mx_B 5 20 [(3, .int 6), (2, .ref 36), (1, .ref 21), (0, .ref 0)] [.ref 0, .int 6] (by decide +kernel) ?_
  refine mx_S (.arraylength) 1 [] 21 [(3, .int 6), (2, .ref 36), (1, .ref 21), (0, .ref 0)] [.int 6, .int 6] (by decide +kernel) rfl ?_
  refine mx_B 4 543 [(3, .int 6), (2, .ref 36), (1, .ref 21), (0, .ref 0)] [.int 1] (by decide +kernel) ?_
  exact mx_ret (some (.int 1)) (by decide +kernel) ⟨rfl, rfl⟩
theorem lw_case10 (xs : Nat → Int32) (zf : Value) (hz : zf.category = 1) (hk : xs 0 &&& 15 = 10) : mx_R 6 xs zf ah_M0 18 [(3, .int 0), (2, .ref 36), (1, .ref 21), (0, .ref 0)] [] hh_a203 599906 7021181 2048 84000 (fun v _ => v = some (.int 1)) := by
  rcases mx_cut (xs 1).toInt (-1) 0 rfl with u1 | l1
  · exact mx_end (iv_a819 xs zf hz hk u1) (by decide +kernel)
  rcases mx_cut (xs 1).toInt 199 200 rfl with u1 | l1
  · exact mx_end (iv_a822 xs zf hz hk l1 u1) (by decide +kernel)
  exact mx_end (iv_a825 xs zf hz hk l1) (by decide +kernel)
