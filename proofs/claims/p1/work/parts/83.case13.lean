/-! THE FIRST CALL, sort 13; printed by wip/whole/gen_p1.py. -/
theorem iv_a851 (L : Nat) (xs : Nat → Int32) (zf : Value) (hz : zf.category = 1) (hk : xs 0 &&& 15 = 13) (u1 : (xs 1).toInt ≤ (-1)) : mx_R L xs zf ah_M283 0 [(0, .ref 30), (1, .int (xs 1))] [] hh_a203 0 0 0 0 (fun v h' => v = some (.int 0) ∧ h' = hh_a203) := by
  refine mx_S (.iload_n 1) 1 [] 1 [(0, .ref 30), (1, .int (xs 1))] [.int (xs 1)] (by decide +kernel) rfl ?_
  refine mx_1 .lt 14 true 15 (mx_v1 .lt (x := (xs 1)) (-2147483648) (-1)  (mx_lo _) u1 (by decide +kernel)) (by decide +kernel) ?_
  refine mx_S (.iconst 0) 1 [] 16 [(0, .ref 30), (1, .int (xs 1))] [.int 0] (by decide +kernel) rfl ?_
  refine mx_S (.goto 11) 3 [] 27 [(0, .ref 30), (1, .int (xs 1))] [.int 0] (by decide +kernel) rfl ?_
  exact mx_ret (some (.int 0)) (by decide +kernel) ⟨rfl, rfl⟩
theorem iv_a852 (L : Nat) (xs : Nat → Int32) (zf : Value) (hz : zf.category = 1) (hk : xs 0 &&& 15 = 13) (u1 : (xs 1).toInt ≤ (-1)) : mx_R L xs zf ah_M282 0 [(0, .ref 21), (1, .int (xs 1))] [] hh_a203 0 0 1 21 (fun v h' => v = some (.int 0) ∧ h' = hh_a203) := by
  refine mx_S (.aload_n 0) 1 [] 1 [(0, .ref 21), (1, .int (xs 1))] [.ref 21] (by decide +kernel) rfl ?_
  refine mx_S (.getfield 26) 3 [2, 0] 4 [(0, .ref 21), (1, .int (xs 1))] [.ref 30] (by decide +kernel) rfl ?_
  refine mx_S (.iload_n 1) 1 [] 5 [(0, .ref 21), (1, .int (xs 1))] [.int (xs 1), .ref 30] (by decide +kernel) rfl ?_
  refine mx_calls (.invokevirtual 214) [283, 5, 1, 3] 283 3 [.ref 30, .int (xs 1)] [] [(0, .ref 30), (1, .int (xs 1))] (some (.int 0)) hh_a203 0 0 0 0 0 0 8 [.int 0] ap_283 (by decide +kernel) rfl ⟨by decide +kernel, rfl, rfl, rfl, rfl⟩ (iv_a851 L xs zf hz hk u1) ?_
  exact mx_ret (some (.int 0)) (by decide +kernel) ⟨rfl, rfl⟩
theorem iv_a853 (L : Nat) (xs : Nat → Int32) (zf : Value) (hz : zf.category = 1) (hk : xs 0 &&& 15 = 13) (u1 : (xs 1).toInt ≤ (-1)) : mx_R L xs zf ah_M413 0 [(0, .ref 36), (1, .int (xs 1))] [] hh_a203 0 0 0 0 (fun v h' => v = some (.int 0) ∧ h' = hh_a203) := by
  refine mx_S (.iload_n 1) 1 [] 1 [(0, .ref 36), (1, .int (xs 1))] [.int (xs 1)] (by decide +kernel) rfl ?_
  refine mx_1 .lt 18 true 19 (mx_v1 .lt (x := (xs 1)) (-2147483648) (-1)  (mx_lo _) u1 (by decide +kernel)) (by decide +kernel) ?_
  refine mx_S (.iconst 0) 1 [] 20 [(0, .ref 36), (1, .int (xs 1))] [.int 0] (by decide +kernel) rfl ?_
  refine mx_S (.goto 9) 3 [] 29 [(0, .ref 36), (1, .int (xs 1))] [.int 0] (by decide +kernel) rfl ?_
  exact mx_ret (some (.int 0)) (by decide +kernel) ⟨rfl, rfl⟩
theorem iv_a854 (xs : Nat → Int32) (zf : Value) (hz : zf.category = 1) (hk : xs 0 &&& 15 = 13) (u1 : (xs 1).toInt ≤ (-1)) : mx_R 6 xs zf ah_M0 18 [(3, .int 0), (2, .ref 36), (1, .ref 21), (0, .ref 0)] [] hh_a203 0 0 2 42 (fun v h' => v = some (.int 1) ∧ h' = hh_a203) := by
  refine mx_B 2 20 [(3, .int 0), (2, .ref 36), (1, .ref 21), (0, .ref 0)] [.ref 0, .int 0] (by decide +kernel) ?_
  refine mx_S (.arraylength) 1 [] 21 [(3, .int 0), (2, .ref 36), (1, .ref 21), (0, .ref 0)] [.int 6, .int 0] (by decide +kernel) rfl ?_
  refine mx_B 5 29 [(3, .int 0), (2, .ref 36), (1, .ref 21), (0, .ref 0)] [.int 0, .ref 0] (by decide +kernel) ?_
  refine mx_scr 6 0 30 (by decide +kernel) (by decide +kernel) (by decide +kernel) ?_
  refine mx_S (.bipush 15) 2 [] 32 [(3, .int 0), (2, .ref 36), (1, .ref 21), (0, .ref 0)] [.int 15, .int (xs 0)] (by decide +kernel) rfl ?_
  refine mx_S (.iand) 1 [] 33 [(3, .int 0), (2, .ref 36), (1, .ref 21), (0, .ref 0)] [.int ((xs 0) &&& 15)] (by decide +kernel) rfl ?_
  refine mx_eq 13 hk ?_
  refine mx_B 6 518 [(3, .int 0), (2, .ref 36), (1, .ref 21), (0, .ref 0)] [.int 1, .ref 0, .ref 21] (by decide +kernel) ?_
  refine mx_scr 6 1 519 (by decide +kernel) (by decide +kernel) (by decide +kernel) ?_
  refine mx_calls (.invokevirtual 71) [282, 5, 1, 0] 282 3 [.ref 21, .int (xs 1)] [] [(0, .ref 21), (1, .int (xs 1))] (some (.int 0)) hh_a203 0 0 1 21 0 0 522 [.int 0] ap_282 (by decide +kernel) rfl ⟨by decide +kernel, rfl, rfl, rfl, rfl⟩ (iv_a852 6 xs zf hz hk u1) ?_
  refine mx_B 5 527 [(3, .int 0), (2, .ref 36), (1, .ref 21), (0, .ref 0)] [.int 1, .ref 0, .ref 36, .int 0] (by decide +kernel) ?_
  refine mx_scr 6 1 528 (by decide +kernel) (by decide +kernel) (by decide +kernel) ?_
  refine mx_calls (.invokevirtual 74) [413, 5, 1, 15] 413 3 [.ref 36, .int (xs 1)] [.int 0] [(0, .ref 36), (1, .int (xs 1))] (some (.int 0)) hh_a203 0 0 0 0 0 0 531 [.int 0, .int 0] ap_413 (by decide +kernel) rfl ⟨by decide +kernel, rfl, rfl, rfl, rfl⟩ (iv_a853 6 xs zf hz hk u1) ?_
  refine mx_B 5 20 [(3, .int 6), (2, .ref 36), (1, .ref 21), (0, .ref 0)] [.ref 0, .int 6] (by decide +kernel) ?_
  refine mx_S (.arraylength) 1 [] 21 [(3, .int 6), (2, .ref 36), (1, .ref 21), (0, .ref 0)] [.int 6, .int 6] (by decide +kernel) rfl ?_
  refine mx_B 4 543 [(3, .int 6), (2, .ref 36), (1, .ref 21), (0, .ref 0)] [.int 1] (by decide +kernel) ?_
  exact mx_ret (some (.int 1)) (by decide +kernel) ⟨rfl, rfl⟩
theorem iv_a855 (L : Nat) (xs : Nat → Int32) (zf : Value) (hz : zf.category = 1) : mx_R L xs zf ah_M11 0 [(0, .ref 31)] [] hh_a203 0 0 0 0 (fun v h' => v = some (.int 0) ∧ h' = hh_a203) := by
  refine mx_B 2 4 [(0, .ref 31)] [.int 0] (by decide +kernel) ?_
  exact mx_ret (some (.int 0)) (by decide +kernel) ⟨rfl, rfl⟩
theorem iv_a856 (L : Nat) (xs : Nat → Int32) (zf : Value) (hz : zf.category = 1) : mx_R L xs zf ah_M10 0 [(0, .ref 31)] [] hh_a203 0 0 1 20 (fun v h' => v = some (.int 0) ∧ h' = hh_a203) := by
  refine mx_B 1 1 [(0, .ref 31)] [.ref 31] (by decide +kernel) ?_
  refine mx_call 11 3 [.ref 31] [] [(0, .ref 31)] (some (.int 0)) hh_a203 0 0 0 0 0 0 4 [.int 0] ap_11 (by decide +kernel) (by decide +kernel) (iv_a855 L xs zf hz) ?_
  exact mx_ret (some (.int 0)) (by decide +kernel) ⟨rfl, rfl⟩
theorem iv_a857 (L : Nat) (xs : Nat → Int32) (zf : Value) (hz : zf.category = 1) (hk : xs 0 &&& 15 = 13) (l1 : 0 ≤ (xs 1).toInt) : mx_R L xs zf ah_M283 0 [(0, .ref 30), (1, .int (xs 1))] [] hh_a203 0 0 2 40 (fun v h' => v = some (.int 0) ∧ h' = hh_a203) := by
  refine mx_S (.iload_n 1) 1 [] 1 [(0, .ref 30), (1, .int (xs 1))] [.int (xs 1)] (by decide +kernel) rfl ?_
  refine mx_1 .lt 14 false 4 (mx_v1 .lt (x := (xs 1)) 0 2147483647  l1 (mx_hi _) (by decide +kernel)) (by decide +kernel) ?_
  refine mx_S (.iload_n 1) 1 [] 5 [(0, .ref 30), (1, .int (xs 1))] [.int (xs 1)] (by decide +kernel) rfl ?_
  refine mx_S (.aload_n 0) 1 [] 6 [(0, .ref 30), (1, .int (xs 1))] [.ref 30, .int (xs 1)] (by decide +kernel) rfl ?_
  refine mx_S (.getfield 12) 3 [0, 3] 9 [(0, .ref 30), (1, .int (xs 1))] [.ref 31, .int (xs 1)] (by decide +kernel) rfl ?_
  refine mx_calls (.invokevirtual 42) [10, 5, 0, 1] 10 3 [.ref 31] [.int (xs 1)] [(0, .ref 31)] (some (.int 0)) hh_a203 0 0 1 20 0 0 12 [.int 0, .int (xs 1)] ap_10 (by decide +kernel) rfl ⟨by decide +kernel, rfl, rfl, rfl, rfl⟩ (iv_a856 L xs zf hz) ?_
  refine mx_2 .lt 7 false 15 (mx_v2 .lt (x := (xs 1)) (y := 0) 0 2147483647 0  l1 (mx_hi _) (by decide +kernel) (by decide +kernel)) (by decide +kernel) ?_
  refine mx_S (.iconst 0) 1 [] 16 [(0, .ref 30), (1, .int (xs 1))] [.int 0] (by decide +kernel) rfl ?_
  refine mx_S (.goto 11) 3 [] 27 [(0, .ref 30), (1, .int (xs 1))] [.int 0] (by decide +kernel) rfl ?_
  exact mx_ret (some (.int 0)) (by decide +kernel) ⟨rfl, rfl⟩
theorem iv_a858 (L : Nat) (xs : Nat → Int32) (zf : Value) (hz : zf.category = 1) (hk : xs 0 &&& 15 = 13) (l1 : 0 ≤ (xs 1).toInt) : mx_R L xs zf ah_M282 0 [(0, .ref 21), (1, .int (xs 1))] [] hh_a203 0 0 3 61 (fun v h' => v = some (.int 0) ∧ h' = hh_a203) := by
  refine mx_S (.aload_n 0) 1 [] 1 [(0, .ref 21), (1, .int (xs 1))] [.ref 21] (by decide +kernel) rfl ?_
  refine mx_S (.getfield 26) 3 [2, 0] 4 [(0, .ref 21), (1, .int (xs 1))] [.ref 30] (by decide +kernel) rfl ?_
  refine mx_S (.iload_n 1) 1 [] 5 [(0, .ref 21), (1, .int (xs 1))] [.int (xs 1), .ref 30] (by decide +kernel) rfl ?_
  refine mx_calls (.invokevirtual 214) [283, 5, 1, 3] 283 3 [.ref 30, .int (xs 1)] [] [(0, .ref 30), (1, .int (xs 1))] (some (.int 0)) hh_a203 0 0 2 40 0 0 8 [.int 0] ap_283 (by decide +kernel) rfl ⟨by decide +kernel, rfl, rfl, rfl, rfl⟩ (iv_a857 L xs zf hz hk l1) ?_
  exact mx_ret (some (.int 0)) (by decide +kernel) ⟨rfl, rfl⟩
theorem iv_a859 (L : Nat) (xs : Nat → Int32) (zf : Value) (hz : zf.category = 1) (hk : xs 0 &&& 15 = 13) (l1 : 0 ≤ (xs 1).toInt) : mx_R L xs zf ah_M413 0 [(0, .ref 36), (1, .int (xs 1))] [] hh_a203 0 0 0 0 (fun v h' => v = some (.int 0) ∧ h' = hh_a203) := by
  refine mx_S (.iload_n 1) 1 [] 1 [(0, .ref 36), (1, .int (xs 1))] [.int (xs 1)] (by decide +kernel) rfl ?_
  refine mx_1 .lt 18 false 4 (mx_v1 .lt (x := (xs 1)) 0 2147483647  l1 (mx_hi _) (by decide +kernel)) (by decide +kernel) ?_
  refine mx_S (.iload_n 1) 1 [] 5 [(0, .ref 36), (1, .int (xs 1))] [.int (xs 1)] (by decide +kernel) rfl ?_
  refine mx_S (.aload_n 0) 1 [] 6 [(0, .ref 36), (1, .int (xs 1))] [.ref 36, .int (xs 1)] (by decide +kernel) rfl ?_
  refine mx_S (.getfield 572) 3 [111, 15] 9 [(0, .ref 36), (1, .int (xs 1))] [.int 0, .int (xs 1)] (by decide +kernel) rfl ?_
  refine mx_2 .ge 10 true 19 (mx_v2 .ge (x := (xs 1)) (y := 0) 0 2147483647 0  l1 (mx_hi _) (by decide +kernel) (by decide +kernel)) (by decide +kernel) ?_
  refine mx_S (.iconst 0) 1 [] 20 [(0, .ref 36), (1, .int (xs 1))] [.int 0] (by decide +kernel) rfl ?_
  refine mx_S (.goto 9) 3 [] 29 [(0, .ref 36), (1, .int (xs 1))] [.int 0] (by decide +kernel) rfl ?_
  exact mx_ret (some (.int 0)) (by decide +kernel) ⟨rfl, rfl⟩
theorem iv_a860 (xs : Nat → Int32) (zf : Value) (hz : zf.category = 1) (hk : xs 0 &&& 15 = 13) (l1 : 0 ≤ (xs 1).toInt) : mx_R 6 xs zf ah_M0 18 [(3, .int 0), (2, .ref 36), (1, .ref 21), (0, .ref 0)] [] hh_a203 0 0 4 82 (fun v h' => v = some (.int 1) ∧ h' = hh_a203) := by
  refine mx_B 2 20 [(3, .int 0), (2, .ref 36), (1, .ref 21), (0, .ref 0)] [.ref 0, .int 0] (by decide +kernel) ?_
  refine mx_S (.arraylength) 1 [] 21 [(3, .int 0), (2, .ref 36), (1, .ref 21), (0, .ref 0)] [.int 6, .int 0] (by decide +kernel) rfl ?_
  refine mx_B 5 29 [(3, .int 0), (2, .ref 36), (1, .ref 21), (0, .ref 0)] [.int 0, .ref 0] (by decide +kernel) ?_
  refine mx_scr 6 0 30 (by decide +kernel) (by decide +kernel) (by decide +kernel) ?_
  refine mx_S (.bipush 15) 2 [] 32 [(3, .int 0), (2, .ref 36), (1, .ref 21), (0, .ref 0)] [.int 15, .int (xs 0)] (by decide +kernel) rfl ?_
  refine mx_S (.iand) 1 [] 33 [(3, .int 0), (2, .ref 36), (1, .ref 21), (0, .ref 0)] [.int ((xs 0) &&& 15)] (by decide +kernel) rfl ?_
  refine mx_eq 13 hk ?_
  refine mx_B 6 518 [(3, .int 0), (2, .ref 36), (1, .ref 21), (0, .ref 0)] [.int 1, .ref 0, .ref 21] (by decide +kernel) ?_
  refine mx_scr 6 1 519 (by decide +kernel) (by decide +kernel) (by decide +kernel) ?_
  refine mx_calls (.invokevirtual 71) [282, 5, 1, 0] 282 3 [.ref 21, .int (xs 1)] [] [(0, .ref 21), (1, .int (xs 1))] (some (.int 0)) hh_a203 0 0 3 61 0 0 522 [.int 0] ap_282 (by decide +kernel) rfl ⟨by decide +kernel, rfl, rfl, rfl, rfl⟩ (iv_a858 6 xs zf hz hk l1) ?_
  refine mx_B 5 527 [(3, .int 0), (2, .ref 36), (1, .ref 21), (0, .ref 0)] [.int 1, .ref 0, .ref 36, .int 0] (by decide +kernel) ?_
  refine mx_scr 6 1 528 (by decide +kernel) (by decide +kernel) (by decide +kernel) ?_
  refine mx_calls (.invokevirtual 74) [413, 5, 1, 15] 413 3 [.ref 36, .int (xs 1)] [.int 0] [(0, .ref 36), (1, .int (xs 1))] (some (.int 0)) hh_a203 0 0 0 0 0 0 531 [.int 0, .int 0] ap_413 (by decide +kernel) rfl ⟨by decide +kernel, rfl, rfl, rfl, rfl⟩ (iv_a859 6 xs zf hz hk l1) ?_
  refine mx_B 5 20 [(3, .int 6), (2, .ref 36), (1, .ref 21), (0, .ref 0)] [.ref 0, .int 6] (by decide +kernel) ?_
  refine mx_S (.arraylength) 1 [] 21 [(3, .int 6), (2, .ref 36), (1, .ref 21), (0, .ref 0)] [.int 6, .int 6] (by decide +kernel) rfl ?_
  refine mx_B 4 543 [(3, .int 6), (2, .ref 36), (1, .ref 21), (0, .ref 0)] [.int 1] (by decide +kernel) ?_
  exact mx_ret (some (.int 1)) (by decide +kernel) ⟨rfl, rfl⟩
theorem lw_case13 (xs : Nat → Int32) (zf : Value) (hz : zf.category = 1) (hk : xs 0 &&& 15 = 13) : mx_R 6 xs zf ah_M0 18 [(3, .int 0), (2, .ref 36), (1, .ref 21), (0, .ref 0)] [] hh_a203 599906 7021181 2048 84000 (fun v _ => v = some (.int 1)) := by
  rcases mx_cut (xs 1).toInt (-1) 0 rfl with u1 | l1
  · exact mx_end (iv_a854 xs zf hz hk u1) (by decide +kernel)
  exact mx_end (iv_a860 xs zf hz hk l1) (by decide +kernel)
