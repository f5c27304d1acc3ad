/-! THE FIRST CALL, sort 5; printed by wip/whole/gen_p1.py. -/
theorem iv_a206 (L : Nat) (xs : Nat → Int32) (zf : Value) (hz : zf.category = 1) (hk : xs 0 &&& 15 = 5) (u2 : (xs 2).toInt ≤ (-1)) : mx_R L xs zf ah_M221 0 [(0, .ref 21), (1, .int (xs 1)), (2, .int (xs 2)), (3, .int (xs 3))] [] hh_a203 0 0 0 0 (fun v h' => v = some (.int (-1)) ∧ h' = hh_a203) := by
  refine mx_S (.iload_n 2) 1 [] 1 [(0, .ref 21), (1, .int (xs 1)), (2, .int (xs 2)), (3, .int (xs 3))] [.int (xs 2)] (by decide +kernel) rfl ?_
  refine mx_1 .lt 17 true 18 (mx_v1 .lt (x := (xs 2)) (-2147483648) (-1)  (mx_lo _) u2 (by decide +kernel)) (by decide +kernel) ?_
  refine mx_S (.iconst (-1)) 1 [] 19 [(0, .ref 21), (1, .int (xs 1)), (2, .int (xs 2)), (3, .int (xs 3))] [.int (-1)] (by decide +kernel) rfl ?_
  exact mx_ret (some (.int (-1))) (by decide +kernel) ⟨rfl, rfl⟩
theorem iv_a207 (L : Nat) (xs : Nat → Int32) (zf : Value) (hz : zf.category = 1) (hk : xs 0 &&& 15 = 5) (u1 : (xs 1).toInt ≤ (-1)) (u2 : (xs 2).toInt ≤ (-1)) : mx_R L xs zf ah_M221 0 [(0, .ref 21), (1, .int (xs 1)), (2, .int (xs 2)), (3, .int (xs 3))] [] hh_a203 0 0 0 0 (fun v h' => v = some (.int (-1)) ∧ h' = hh_a203) := by
  refine mx_S (.iload_n 2) 1 [] 1 [(0, .ref 21), (1, .int (xs 1)), (2, .int (xs 2)), (3, .int (xs 3))] [.int (xs 2)] (by decide +kernel) rfl ?_
  refine mx_1 .lt 17 true 18 (mx_v1 .lt (x := (xs 2)) (-2147483648) (-1)  (mx_lo _) u2 (by decide +kernel)) (by decide +kernel) ?_
  refine mx_S (.iconst (-1)) 1 [] 19 [(0, .ref 21), (1, .int (xs 1)), (2, .int (xs 2)), (3, .int (xs 3))] [.int (-1)] (by decide +kernel) rfl ?_
  exact mx_ret (some (.int (-1))) (by decide +kernel) ⟨rfl, rfl⟩
theorem iv_a208 (L : Nat) (xs : Nat → Int32) (zf : Value) (hz : zf.category = 1) (hk : xs 0 &&& 15 = 5) (u1 : (xs 1).toInt ≤ (-1)) (u2 : (xs 2).toInt ≤ (-1)) : mx_R L xs zf ah_M289 0 [(0, .ref 36), (1, .int (xs 1)), (2, .int (xs 2)), (3, .int (xs 3))] [] hh_a203 0 0 0 0 (fun v h' => v = some (.int (-1)) ∧ h' = hh_a203) := by
  refine mx_S (.iload_n 1) 1 [] 1 [(0, .ref 36), (1, .int (xs 1)), (2, .int (xs 2)), (3, .int (xs 3))] [.int (xs 1)] (by decide +kernel) rfl ?_
  refine mx_1 .lt 26 true 27 (mx_v1 .lt (x := (xs 1)) (-2147483648) (-1)  (mx_lo _) u1 (by decide +kernel)) (by decide +kernel) ?_
  refine mx_S (.iconst (-1)) 1 [] 28 [(0, .ref 36), (1, .int (xs 1)), (2, .int (xs 2)), (3, .int (xs 3))] [.int (-1)] (by decide +kernel) rfl ?_
  exact mx_ret (some (.int (-1))) (by decide +kernel) ⟨rfl, rfl⟩
theorem iv_a209 (xs : Nat → Int32) (zf : Value) (hz : zf.category = 1) (hk : xs 0 &&& 15 = 5) (u1 : (xs 1).toInt ≤ (-1)) (u2 : (xs 2).toInt ≤ (-1)) : mx_R 6 xs zf ah_M0 18 [(3, .int 0), (2, .ref 36), (1, .ref 21), (0, .ref 0)] [] hh_a203 0 0 1 23 (fun v h' => v = some (.int 1) ∧ h' = hh_a203) := by
  refine mx_B 2 20 [(3, .int 0), (2, .ref 36), (1, .ref 21), (0, .ref 0)] [.ref 0, .int 0] (by decide +kernel) ?_
  refine mx_S (.arraylength) 1 [] 21 [(3, .int 0), (2, .ref 36), (1, .ref 21), (0, .ref 0)] [.int 6, .int 0] (by decide +kernel) rfl ?_
  refine mx_B 5 29 [(3, .int 0), (2, .ref 36), (1, .ref 21), (0, .ref 0)] [.int 0, .ref 0] (by decide +kernel) ?_
  refine mx_scr 6 0 30 (by decide +kernel) (by decide +kernel) (by decide +kernel) ?_
  refine mx_S (.bipush 15) 2 [] 32 [(3, .int 0), (2, .ref 36), (1, .ref 21), (0, .ref 0)] [.int 15, .int (xs 0)] (by decide +kernel) rfl ?_
  refine mx_S (.iand) 1 [] 33 [(3, .int 0), (2, .ref 36), (1, .ref 21), (0, .ref 0)] [.int ((xs 0) &&& 15)] (by decide +kernel) rfl ?_
  refine mx_eq 5 hk ?_
  refine mx_B 6 254 [(3, .int 0), (2, .ref 36), (1, .ref 21), (0, .ref 0)] [.int 1, .ref 0, .ref 21] (by decide +kernel) ?_
  refine mx_scr 6 1 255 (by decide +kernel) (by decide +kernel) (by decide +kernel) ?_
  refine mx_S (.aload_n 0) 1 [] 256 [(3, .int 0), (2, .ref 36), (1, .ref 21), (0, .ref 0)] [.ref 0, .int (xs 1), .ref 21] (by decide +kernel) rfl ?_
  refine mx_S (.iload_n 3) 1 [] 257 [(3, .int 0), (2, .ref 36), (1, .ref 21), (0, .ref 0)] [.int 0, .ref 0, .int (xs 1), .ref 21] (by decide +kernel) rfl ?_
  refine mx_S (.iconst 2) 1 [] 258 [(3, .int 0), (2, .ref 36), (1, .ref 21), (0, .ref 0)] [.int 2, .int 0, .ref 0, .int (xs 1), .ref 21] (by decide +kernel) rfl ?_
  refine mx_S (.iadd) 1 [] 259 [(3, .int 0), (2, .ref 36), (1, .ref 21), (0, .ref 0)] [.int 2, .ref 0, .int (xs 1), .ref 21] (by decide +kernel) rfl ?_
  refine mx_scr 6 2 260 (by decide +kernel) (by decide +kernel) (by decide +kernel) ?_
  refine mx_S (.aload_n 0) 1 [] 261 [(3, .int 0), (2, .ref 36), (1, .ref 21), (0, .ref 0)] [.ref 0, .int (xs 2), .int (xs 1), .ref 21] (by decide +kernel) rfl ?_
  refine mx_S (.iload_n 3) 1 [] 262 [(3, .int 0), (2, .ref 36), (1, .ref 21), (0, .ref 0)] [.int 0, .ref 0, .int (xs 2), .int (xs 1), .ref 21] (by decide +kernel) rfl ?_
  refine mx_S (.iconst 3) 1 [] 263 [(3, .int 0), (2, .ref 36), (1, .ref 21), (0, .ref 0)] [.int 3, .int 0, .ref 0, .int (xs 2), .int (xs 1), .ref 21] (by decide +kernel) rfl ?_
  refine mx_S (.iadd) 1 [] 264 [(3, .int 0), (2, .ref 36), (1, .ref 21), (0, .ref 0)] [.int 3, .ref 0, .int (xs 2), .int (xs 1), .ref 21] (by decide +kernel) rfl ?_
  refine mx_scr 6 3 265 (by decide +kernel) (by decide +kernel) (by decide +kernel) ?_
  refine mx_calls (.invokevirtual 36) [221, 5, 3, 0] 221 3 [.ref 21, .int (xs 1), .int (xs 2), .int (xs 3)] [] [(0, .ref 21), (1, .int (xs 1)), (2, .int (xs 2)), (3, .int (xs 3))] (some (.int (-1))) hh_a203 0 0 0 0 0 0 268 [.int (-1)] ap_221 (by decide +kernel) rfl ⟨by decide +kernel, rfl, rfl, rfl, rfl⟩ (iv_a207 6 xs zf hz hk u1 u2) ?_
  refine mx_B 5 273 [(3, .int 0), (2, .ref 36), (1, .ref 21), (0, .ref 0)] [.int 1, .ref 0, .ref 36, .int (-1)] (by decide +kernel) ?_
  refine mx_scr 6 1 274 (by decide +kernel) (by decide +kernel) (by decide +kernel) ?_
  refine mx_S (.aload_n 0) 1 [] 275 [(3, .int 0), (2, .ref 36), (1, .ref 21), (0, .ref 0)] [.ref 0, .int (xs 1), .ref 36, .int (-1)] (by decide +kernel) rfl ?_
  refine mx_S (.iload_n 3) 1 [] 276 [(3, .int 0), (2, .ref 36), (1, .ref 21), (0, .ref 0)] [.int 0, .ref 0, .int (xs 1), .ref 36, .int (-1)] (by decide +kernel) rfl ?_
  refine mx_S (.iconst 2) 1 [] 277 [(3, .int 0), (2, .ref 36), (1, .ref 21), (0, .ref 0)] [.int 2, .int 0, .ref 0, .int (xs 1), .ref 36, .int (-1)] (by decide +kernel) rfl ?_
  refine mx_S (.iadd) 1 [] 278 [(3, .int 0), (2, .ref 36), (1, .ref 21), (0, .ref 0)] [.int 2, .ref 0, .int (xs 1), .ref 36, .int (-1)] (by decide +kernel) rfl ?_
  refine mx_scr 6 2 279 (by decide +kernel) (by decide +kernel) (by decide +kernel) ?_
  refine mx_S (.aload_n 0) 1 [] 280 [(3, .int 0), (2, .ref 36), (1, .ref 21), (0, .ref 0)] [.ref 0, .int (xs 2), .int (xs 1), .ref 36, .int (-1)] (by decide +kernel) rfl ?_
  refine mx_S (.iload_n 3) 1 [] 281 [(3, .int 0), (2, .ref 36), (1, .ref 21), (0, .ref 0)] [.int 0, .ref 0, .int (xs 2), .int (xs 1), .ref 36, .int (-1)] (by decide +kernel) rfl ?_
  refine mx_S (.iconst 3) 1 [] 282 [(3, .int 0), (2, .ref 36), (1, .ref 21), (0, .ref 0)] [.int 3, .int 0, .ref 0, .int (xs 2), .int (xs 1), .ref 36, .int (-1)] (by decide +kernel) rfl ?_
  refine mx_S (.iadd) 1 [] 283 [(3, .int 0), (2, .ref 36), (1, .ref 21), (0, .ref 0)] [.int 3, .ref 0, .int (xs 2), .int (xs 1), .ref 36, .int (-1)] (by decide +kernel) rfl ?_
  refine mx_scr 6 3 284 (by decide +kernel) (by decide +kernel) (by decide +kernel) ?_
  refine mx_calls (.invokevirtual 40) [289, 5, 3, 15] 289 3 [.ref 36, .int (xs 1), .int (xs 2), .int (xs 3)] [.int (-1)] [(0, .ref 36), (1, .int (xs 1)), (2, .int (xs 2)), (3, .int (xs 3))] (some (.int (-1))) hh_a203 0 0 0 0 0 0 287 [.int (-1), .int (-1)] ap_289 (by decide +kernel) rfl ⟨by decide +kernel, rfl, rfl, rfl, rfl⟩ (iv_a208 6 xs zf hz hk u1 u2) ?_
  refine mx_B 5 20 [(3, .int 6), (2, .ref 36), (1, .ref 21), (0, .ref 0)] [.ref 0, .int 6] (by decide +kernel) ?_
  refine mx_S (.arraylength) 1 [] 21 [(3, .int 6), (2, .ref 36), (1, .ref 21), (0, .ref 0)] [.int 6, .int 6] (by decide +kernel) rfl ?_
  refine mx_B 4 543 [(3, .int 6), (2, .ref 36), (1, .ref 21), (0, .ref 0)] [.int 1] (by decide +kernel) ?_
  exact mx_ret (some (.int 1)) (by decide +kernel) ⟨rfl, rfl⟩
theorem iv_a210 (L : Nat) (xs : Nat → Int32) (zf : Value) (hz : zf.category = 1) (hk : xs 0 &&& 15 = 5) (l1 : 0 ≤ (xs 1).toInt) (u2 : (xs 2).toInt ≤ (-1)) : mx_R L xs zf ah_M221 0 [(0, .ref 21), (1, .int (xs 1)), (2, .int (xs 2)), (3, .int (xs 3))] [] hh_a203 0 0 0 0 (fun v h' => v = some (.int (-1)) ∧ h' = hh_a203) := by
  refine mx_S (.iload_n 2) 1 [] 1 [(0, .ref 21), (1, .int (xs 1)), (2, .int (xs 2)), (3, .int (xs 3))] [.int (xs 2)] (by decide +kernel) rfl ?_
  refine mx_1 .lt 17 true 18 (mx_v1 .lt (x := (xs 2)) (-2147483648) (-1)  (mx_lo _) u2 (by decide +kernel)) (by decide +kernel) ?_
  refine mx_S (.iconst (-1)) 1 [] 19 [(0, .ref 21), (1, .int (xs 1)), (2, .int (xs 2)), (3, .int (xs 3))] [.int (-1)] (by decide +kernel) rfl ?_
  exact mx_ret (some (.int (-1))) (by decide +kernel) ⟨rfl, rfl⟩
theorem iv_a211 (L : Nat) (xs : Nat → Int32) (zf : Value) (hz : zf.category = 1) (hk : xs 0 &&& 15 = 5) (l1 : 0 ≤ (xs 1).toInt) (u1 : (xs 1).toInt ≤ 3) (u2 : (xs 2).toInt ≤ (-1)) : mx_R L xs zf ah_M221 0 [(0, .ref 21), (1, .int (xs 1)), (2, .int (xs 2)), (3, .int (xs 3))] [] hh_a203 0 0 0 0 (fun v h' => v = some (.int (-1)) ∧ h' = hh_a203) := by
  refine mx_S (.iload_n 2) 1 [] 1 [(0, .ref 21), (1, .int (xs 1)), (2, .int (xs 2)), (3, .int (xs 3))] [.int (xs 2)] (by decide +kernel) rfl ?_
  refine mx_1 .lt 17 true 18 (mx_v1 .lt (x := (xs 2)) (-2147483648) (-1)  (mx_lo _) u2 (by decide +kernel)) (by decide +kernel) ?_
  refine mx_S (.iconst (-1)) 1 [] 19 [(0, .ref 21), (1, .int (xs 1)), (2, .int (xs 2)), (3, .int (xs 3))] [.int (-1)] (by decide +kernel) rfl ?_
  exact mx_ret (some (.int (-1))) (by decide +kernel) ⟨rfl, rfl⟩
theorem iv_a212 (L : Nat) (xs : Nat → Int32) (zf : Value) (hz : zf.category = 1) (hk : xs 0 &&& 15 = 5) (l1 : 0 ≤ (xs 1).toInt) (u1 : (xs 1).toInt ≤ 3) (u2 : (xs 2).toInt ≤ (-1)) : mx_R L xs zf ah_M289 0 [(0, .ref 36), (1, .int (xs 1)), (2, .int (xs 2)), (3, .int (xs 3))] [] hh_a203 0 0 0 0 (fun v h' => v = some (.int (-1)) ∧ h' = hh_a203) := by
  refine mx_S (.iload_n 1) 1 [] 1 [(0, .ref 36), (1, .int (xs 1)), (2, .int (xs 2)), (3, .int (xs 3))] [.int (xs 1)] (by decide +kernel) rfl ?_
  refine mx_1 .lt 26 false 4 (mx_v1 .lt (x := (xs 1)) 0 3  l1 u1 (by decide +kernel)) (by decide +kernel) ?_
  refine mx_S (.iload_n 1) 1 [] 5 [(0, .ref 36), (1, .int (xs 1)), (2, .int (xs 2)), (3, .int (xs 3))] [.int (xs 1)] (by decide +kernel) rfl ?_
  refine mx_S (.iconst 3) 1 [] 6 [(0, .ref 36), (1, .int (xs 1)), (2, .int (xs 2)), (3, .int (xs 3))] [.int 3, .int (xs 1)] (by decide +kernel) rfl ?_
  refine mx_2 .gt 21 false 9 (mx_v2 .gt (x := (xs 1)) (y := 3) 0 3 3  l1 u1 (by decide +kernel) (by decide +kernel)) (by decide +kernel) ?_
  refine mx_S (.iload_n 2) 1 [] 10 [(0, .ref 36), (1, .int (xs 1)), (2, .int (xs 2)), (3, .int (xs 3))] [.int (xs 2)] (by decide +kernel) rfl ?_
  refine mx_1 .lt 17 true 27 (mx_v1 .lt (x := (xs 2)) (-2147483648) (-1)  (mx_lo _) u2 (by decide +kernel)) (by decide +kernel) ?_
  refine mx_S (.iconst (-1)) 1 [] 28 [(0, .ref 36), (1, .int (xs 1)), (2, .int (xs 2)), (3, .int (xs 3))] [.int (-1)] (by decide +kernel) rfl ?_
  exact mx_ret (some (.int (-1))) (by decide +kernel) ⟨rfl, rfl⟩
theorem iv_a213 (xs : Nat → Int32) (zf : Value) (hz : zf.category = 1) (hk : xs 0 &&& 15 = 5) (l1 : 0 ≤ (xs 1).toInt) (u1 : (xs 1).toInt ≤ 3) (u2 : (xs 2).toInt ≤ (-1)) : mx_R 6 xs zf ah_M0 18 [(3, .int 0), (2, .ref 36), (1, .ref 21), (0, .ref 0)] [] hh_a203 0 0 1 23 (fun v h' => v = some (.int 1) ∧ h' = hh_a203) := by
  refine mx_B 2 20 [(3, .int 0), (2, .ref 36), (1, .ref 21), (0, .ref 0)] [.ref 0, .int 0] (by decide +kernel) ?_
  refine mx_S (.arraylength) 1 [] 21 [(3, .int 0), (2, .ref 36), (1, .ref 21), (0, .ref 0)] [.int 6, .int 0] (by decide +kernel) rfl ?_
  refine mx_B 5 29 [(3, .int 0), (2, .ref 36), (1, .ref 21), (0, .ref 0)] [.int 0, .ref 0] (by decide +kernel) ?_
  refine mx_scr 6 0 30 (by decide +kernel) (by decide +kernel) (by decide +kernel) ?_
  refine mx_S (.bipush 15) 2 [] 32 [(3, .int 0), (2, .ref 36), (1, .ref 21), (0, .ref 0)] [.int 15, .int (xs 0)] (by decide +kernel) rfl ?_
  refine mx_S (.iand) 1 [] 33 [(3, .int 0), (2, .ref 36), (1, .ref 21), (0, .ref 0)] [.int ((xs 0) &&& 15)] (by decide +kernel) rfl ?_
  refine mx_eq 5 hk ?_
  refine mx_B 6 254 [(3, .int 0), (2, .ref 36), (1, .ref 21), (0, .ref 0)] [.int 1, .ref 0, .ref 21] (by decide +kernel) ?_
  refine mx_scr 6 1 255 (by decide +kernel) (by decide +kernel) (by decide +kernel) ?_
  refine mx_S (.aload_n 0) 1 [] 256 [(3, .int 0), (2, .ref 36), (1, .ref 21), (0, .ref 0)] [.ref 0, .int (xs 1), .ref 21] (by decide +kernel) rfl ?_
  refine mx_S (.iload_n 3) 1 [] 257 [(3, .int 0), (2, .ref 36), (1, .ref 21), (0, .ref 0)] [.int 0, .ref 0, .int (xs 1), .ref 21] (by decide +kernel) rfl ?_
  refine mx_S (.iconst 2) 1 [] 258 [(3, .int 0), (2, .ref 36), (1, .ref 21), (0, .ref 0)] [.int 2, .int 0, .ref 0, .int (xs 1), .ref 21] (by decide +kernel) rfl ?_
  refine mx_S (.iadd) 1 [] 259 [(3, .int 0), (2, .ref 36), (1, .ref 21), (0, .ref 0)] [.int 2, .ref 0, .int (xs 1), .ref 21] (by decide +kernel) rfl ?_
  refine mx_scr 6 2 260 (by decide +kernel) (by decide +kernel) (by decide +kernel) ?_
  refine mx_S (.aload_n 0) 1 [] 261 [(3, .int 0), (2, .ref 36), (1, .ref 21), (0, .ref 0)] [.ref 0, .int (xs 2), .int (xs 1), .ref 21] (by decide +kernel) rfl ?_
  refine mx_S (.iload_n 3) 1 [] 262 [(3, .int 0), (2, .ref 36), (1, .ref 21), (0, .ref 0)] [.int 0, .ref 0, .int (xs 2), .int (xs 1), .ref 21] (by decide +kernel) rfl ?_
  refine mx_S (.iconst 3) 1 [] 263 [(3, .int 0), (2, .ref 36), (1, .ref 21), (0, .ref 0)] [.int 3, .int 0, .ref 0, .int (xs 2), .int (xs 1), .ref 21] (by decide +kernel) rfl ?_
  refine mx_S (.iadd) 1 [] 264 [(3, .int 0), (2, .ref 36), (1, .ref 21), (0, .ref 0)] [.int 3, .ref 0, .int (xs 2), .int (xs 1), .ref 21] (by decide +kernel) rfl ?_
  refine mx_scr 6 3 265 (by decide +kernel) (by decide +kernel) (by decide +kernel) ?_
  refine mx_calls (.invokevirtual 36) [221, 5, 3, 0] 221 3 [.ref 21, .int (xs 1), .int (xs 2), .int (xs 3)] [] [(0, .ref 21), (1, .int (xs 1)), (2, .int (xs 2)), (3, .int (xs 3))] (some (.int (-1))) hh_a203 0 0 0 0 0 0 268 [.int (-1)] ap_221 (by decide +kernel) rfl ⟨by decide +kernel, rfl, rfl, rfl, rfl⟩ (iv_a211 6 xs zf hz hk l1 u1 u2) ?_
  refine mx_B 5 273 [(3, .int 0), (2, .ref 36), (1, .ref 21), (0, .ref 0)] [.int 1, .ref 0, .ref 36, .int (-1)] (by decide +kernel) ?_
  refine mx_scr 6 1 274 (by decide +kernel) (by decide +kernel) (by decide +kernel) ?_
  refine mx_S (.aload_n 0) 1 [] 275 [(3, .int 0), (2, .ref 36), (1, .ref 21), (0, .ref 0)] [.ref 0, .int (xs 1), .ref 36, .int (-1)] (by decide +kernel) rfl ?_
  refine mx_S (.iload_n 3) 1 [] 276 [(3, .int 0), (2, .ref 36), (1, .ref 21), (0, .ref 0)] [.int 0, .ref 0, .int (xs 1), .ref 36, .int (-1)] (by decide +kernel) rfl ?_
  refine mx_S (.iconst 2) 1 [] 277 [(3, .int 0), (2, .ref 36), (1, .ref 21), (0, .ref 0)] [.int 2, .int 0, .ref 0, .int (xs 1), .ref 36, .int (-1)] (by decide +kernel) rfl ?_
  refine mx_S (.iadd) 1 [] 278 [(3, .int 0), (2, .ref 36), (1, .ref 21), (0, .ref 0)] [.int 2, .ref 0, .int (xs 1), .ref 36, .int (-1)] (by decide +kernel) rfl ?_
  refine mx_scr 6 2 279 (by decide +kernel) (by decide +kernel) (by decide +kernel) ?_
  refine mx_S (.aload_n 0) 1 [] 280 [(3, .int 0), (2, .ref 36), (1, .ref 21), (0, .ref 0)] [.ref 0, .int (xs 2), .int (xs 1), .ref 36, .int (-1)] (by decide +kernel) rfl ?_
  refine mx_S (.iload_n 3) 1 [] 281 [(3, .int 0), (2, .ref 36), (1, .ref 21), (0, .ref 0)] [.int 0, .ref 0, .int (xs 2), .int (xs 1), .ref 36, .int (-1)] (by decide +kernel) rfl ?_
  refine mx_S (.iconst 3) 1 [] 282 [(3, .int 0), (2, .ref 36), (1, .ref 21), (0, .ref 0)] [.int 3, .int 0, .ref 0, .int (xs 2), .int (xs 1), .ref 36, .int (-1)] (by decide +kernel) rfl ?_
  refine mx_S (.iadd) 1 [] 283 [(3, .int 0), (2, .ref 36), (1, .ref 21), (0, .ref 0)] [.int 3, .ref 0, .int (xs 2), .int (xs 1), .ref 36, .int (-1)] (by decide +kernel) rfl ?_
  refine mx_scr 6 3 284 (by decide +kernel) (by decide +kernel) (by decide +kernel) ?_
  refine mx_calls (.invokevirtual 40) [289, 5, 3, 15] 289 3 [.ref 36, .int (xs 1), .int (xs 2), .int (xs 3)] [.int (-1)] [(0, .ref 36), (1, .int (xs 1)), (2, .int (xs 2)), (3, .int (xs 3))] (some (.int (-1))) hh_a203 0 0 0 0 0 0 287 [.int (-1), .int (-1)] ap_289 (by decide +kernel) rfl ⟨by decide +kernel, rfl, rfl, rfl, rfl⟩ (iv_a212 6 xs zf hz hk l1 u1 u2) ?_
  refine mx_B 5 20 [(3, .int 6), (2, .ref 36), (1, .ref 21), (0, .ref 0)] [.ref 0, .int 6] (by decide +kernel) ?_
  refine mx_S (.arraylength) 1 [] 21 [(3, .int 6), (2, .ref 36), (1, .ref 21), (0, .ref 0)] [.int 6, .int 6] (by decide +kernel) rfl ?_
  refine mx_B 4 543 [(3, .int 6), (2, .ref 36), (1, .ref 21), (0, .ref 0)] [.int 1] (by decide +kernel) ?_
  exact mx_ret (some (.int 1)) (by decide +kernel) ⟨rfl, rfl⟩
theorem iv_a214 (L : Nat) (xs : Nat → Int32) (zf : Value) (hz : zf.category = 1) (hk : xs 0 &&& 15 = 5) (l1 : 4 ≤ (xs 1).toInt) (u2 : (xs 2).toInt ≤ (-1)) : mx_R L xs zf ah_M221 0 [(0, .ref 21), (1, .int (xs 1)), (2, .int (xs 2)), (3, .int (xs 3))] [] hh_a203 0 0 0 0 (fun v h' => v = some (.int (-1)) ∧ h' = hh_a203) := by
  refine mx_S (.iload_n 2) 1 [] 1 [(0, .ref 21), (1, .int (xs 1)), (2, .int (xs 2)), (3, .int (xs 3))] [.int (xs 2)] (by decide +kernel) rfl ?_
  refine mx_1 .lt 17 true 18 (mx_v1 .lt (x := (xs 2)) (-2147483648) (-1)  (mx_lo _) u2 (by decide +kernel)) (by decide +kernel) ?_
  refine mx_S (.iconst (-1)) 1 [] 19 [(0, .ref 21), (1, .int (xs 1)), (2, .int (xs 2)), (3, .int (xs 3))] [.int (-1)] (by decide +kernel) rfl ?_
  exact mx_ret (some (.int (-1))) (by decide +kernel) ⟨rfl, rfl⟩
theorem iv_a215 (L : Nat) (xs : Nat → Int32) (zf : Value) (hz : zf.category = 1) (hk : xs 0 &&& 15 = 5) (l1 : 4 ≤ (xs 1).toInt) (u2 : (xs 2).toInt ≤ (-1)) : mx_R L xs zf ah_M289 0 [(0, .ref 36), (1, .int (xs 1)), (2, .int (xs 2)), (3, .int (xs 3))] [] hh_a203 0 0 0 0 (fun v h' => v = some (.int (-1)) ∧ h' = hh_a203) := by
  refine mx_S (.iload_n 1) 1 [] 1 [(0, .ref 36), (1, .int (xs 1)), (2, .int (xs 2)), (3, .int (xs 3))] [.int (xs 1)] (by decide +kernel) rfl ?_
  refine mx_1 .lt 26 false 4 (mx_v1 .lt (x := (xs 1)) 4 2147483647  l1 (mx_hi _) (by decide +kernel)) (by decide +kernel) ?_
  refine mx_S (.iload_n 1) 1 [] 5 [(0, .ref 36), (1, .int (xs 1)), (2, .int (xs 2)), (3, .int (xs 3))] [.int (xs 1)] (by decide +kernel) rfl ?_
  refine mx_S (.iconst 3) 1 [] 6 [(0, .ref 36), (1, .int (xs 1)), (2, .int (xs 2)), (3, .int (xs 3))] [.int 3, .int (xs 1)] (by decide +kernel) rfl ?_
  refine mx_2 .gt 21 true 27 (mx_v2 .gt (x := (xs 1)) (y := 3) 4 2147483647 3  l1 (mx_hi _) (by decide +kernel) (by decide +kernel)) (by decide +kernel) ?_
  refine mx_S (.iconst (-1)) 1 [] 28 [(0, .ref 36), (1, .int (xs 1)), (2, .int (xs 2)), (3, .int (xs 3))] [.int (-1)] (by decide +kernel) rfl ?_
  exact mx_ret (some (.int (-1))) (by decide +kernel) ⟨rfl, rfl⟩
theorem iv_a216 (xs : Nat → Int32) (zf : Value) (hz : zf.category = 1) (hk : xs 0 &&& 15 = 5) (l1 : 4 ≤ (xs 1).toInt) (u2 : (xs 2).toInt ≤ (-1)) : mx_R 6 xs zf ah_M0 18 [(3, .int 0), (2, .ref 36), (1, .ref 21), (0, .ref 0)] [] hh_a203 0 0 1 23 (fun v h' => v = some (.int 1) ∧ h' = hh_a203) := by
  refine mx_B 2 20 [(3, .int 0), (2, .ref 36), (1, .ref 21), (0, .ref 0)] [.ref 0, .int 0] (by decide +kernel) ?_
  refine mx_S (.arraylength) 1 [] 21 [(3, .int 0), (2, .ref 36), (1, .ref 21), (0, .ref 0)] [.int 6, .int 0] (by decide +kernel) rfl ?_
  refine mx_B 5 29 [(3, .int 0), (2, .ref 36), (1, .ref 21), (0, .ref 0)] [.int 0, .ref 0] (by decide +kernel) ?_
  refine mx_scr 6 0 30 (by decide +kernel) (by decide +kernel) (by decide +kernel) ?_
  refine mx_S (.bipush 15) 2 [] 32 [(3, .int 0), (2, .ref 36), (1, .ref 21), (0, .ref 0)] [.int 15, .int (xs 0)] (by decide +kernel) rfl ?_
  refine mx_S (.iand) 1 [] 33 [(3, .int 0), (2, .ref 36), (1, .ref 21), (0, .ref 0)] [.int ((xs 0) &&& 15)] (by decide +kernel) rfl ?_
  refine mx_eq 5 hk ?_
  refine mx_B 6 254 [(3, .int 0), (2, .ref 36), (1, .ref 21), (0, .ref 0)] [.int 1, .ref 0, .ref 21] (by decide +kernel) ?_
  refine mx_scr 6 1 255 (by decide +kernel) (by decide +kernel) (by decide +kernel) ?_
  refine mx_S (.aload_n 0) 1 [] 256 [(3, .int 0), (2, .ref 36), (1, .ref 21), (0, .ref 0)] [.ref 0, .int (xs 1), .ref 21] (by decide +kernel) rfl ?_
  refine mx_S (.iload_n 3) 1 [] 257 [(3, .int 0), (2, .ref 36), (1, .ref 21), (0, .ref 0)] [.int 0, .ref 0, .int (xs 1), .ref 21] (by decide +kernel) rfl ?_
  refine mx_S (.iconst 2) 1 [] 258 [(3, .int 0), (2, .ref 36), (1, .ref 21), (0, .ref 0)] [.int 2, .int 0, .ref 0, .int (xs 1), .ref 21] (by decide +kernel) rfl ?_
  refine mx_S (.iadd) 1 [] 259 [(3, .int 0), (2, .ref 36), (1, .ref 21), (0, .ref 0)] [.int 2, .ref 0, .int (xs 1), .ref 21] (by decide +kernel) rfl ?_
  refine mx_scr 6 2 260 (by decide +kernel) (by decide +kernel) (by decide +kernel) ?_
  refine mx_S (.aload_n 0) 1 [] 261 [(3, .int 0), (2, .ref 36), (1, .ref 21), (0, .ref 0)] [.ref 0, .int (xs 2), .int (xs 1), .ref 21] (by decide +kernel) rfl ?_
  refine mx_S (.iload_n 3) 1 [] 262 [(3, .int 0), (2, .ref 36), (1, .ref 21), (0, .ref 0)] [.int 0, .ref 0, .int (xs 2), .int (xs 1), .ref 21] (by decide +kernel) rfl ?_
  refine mx_S (.iconst 3) 1 [] 263 [(3, .int 0), (2, .ref 36), (1, .ref 21), (0, .ref 0)] [.int 3, .int 0, .ref 0, .int (xs 2), .int (xs 1), .ref 21] (by decide +kernel) rfl ?_
  refine mx_S (.iadd) 1 [] 264 [(3, .int 0), (2, .ref 36), (1, .ref 21), (0, .ref 0)] [.int 3, .ref 0, .int (xs 2), .int (xs 1), .ref 21] (by decide +kernel) rfl ?_
  refine mx_scr 6 3 265 (by decide +kernel) (by decide +kernel) (by decide +kernel) ?_
  refine mx_calls (.invokevirtual 36) [221, 5, 3, 0] 221 3 [.ref 21, .int (xs 1), .int (xs 2), .int (xs 3)] [] [(0, .ref 21), (1, .int (xs 1)), (2, .int (xs 2)), (3, .int (xs 3))] (some (.int (-1))) hh_a203 0 0 0 0 0 0 268 [.int (-1)] ap_221 (by decide +kernel) rfl ⟨by decide +kernel, rfl, rfl, rfl, rfl⟩ (iv_a214 6 xs zf hz hk l1 u2) ?_
  refine mx_B 5 273 [(3, .int 0), (2, .ref 36), (1, .ref 21), (0, .ref 0)] [.int 1, .ref 0, .ref 36, .int (-1)] (by decide +kernel) ?_
  refine mx_scr 6 1 274 (by decide +kernel) (by decide +kernel) (by decide +kernel) ?_
  refine mx_S (.aload_n 0) 1 [] 275 [(3, .int 0), (2, .ref 36), (1, .ref 21), (0, .ref 0)] [.ref 0, .int (xs 1), .ref 36, .int (-1)] (by decide +kernel) rfl ?_
  refine mx_S (.iload_n 3) 1 [] 276 [(3, .int 0), (2, .ref 36), (1, .ref 21), (0, .ref 0)] [.int 0, .ref 0, .int (xs 1), .ref 36, .int (-1)] (by decide +kernel) rfl ?_
  refine mx_S (.iconst 2) 1 [] 277 [(3, .int 0), (2, .ref 36), (1, .ref 21), (0, .ref 0)] [.int 2, .int 0, .ref 0, .int (xs 1), .ref 36, .int (-1)] (by decide +kernel) rfl ?_
  refine mx_S (.iadd) 1 [] 278 [(3, .int 0), (2, .ref 36), (1, .ref 21), (0, .ref 0)] [.int 2, .ref 0, .int (xs 1), .ref 36, .int (-1)] (by decide +kernel) rfl ?_
  refine mx_scr 6 2 279 (by decide +kernel) (by decide +kernel) (by decide +kernel) ?_
  refine mx_S (.aload_n 0) 1 [] 280 [(3, .int 0), (2, .ref 36), (1, .ref 21), (0, .ref 0)] [.ref 0, .int (xs 2), .int (xs 1), .ref 36, .int (-1)] (by decide +kernel) rfl ?_
  refine mx_S (.iload_n 3) 1 [] 281 [(3, .int 0), (2, .ref 36), (1, .ref 21), (0, .ref 0)] [.int 0, .ref 0, .int (xs 2), .int (xs 1), .ref 36, .int (-1)] (by decide +kernel) rfl ?_
  refine mx_S (.iconst 3) 1 [] 282 [(3, .int 0), (2, .ref 36), (1, .ref 21), (0, .ref 0)] [.int 3, .int 0, .ref 0, .int (xs 2), .int (xs 1), .ref 36, .int (-1)] (by decide +kernel) rfl ?_
  refine mx_S (.iadd) 1 [] 283 [(3, .int 0), (2, .ref 36), (1, .ref 21), (0, .ref 0)] [.int 3, .ref 0, .int (xs 2), .int (xs 1), .ref 36, .int (-1)] (by decide +kernel) rfl ?_
  refine mx_scr 6 3 284 (by decide +kernel) (by decide +kernel) (by decide +kernel) ?_
  refine mx_calls (.invokevirtual 40) [289, 5, 3, 15] 289 3 [.ref 36, .int (xs 1), .int (xs 2), .int (xs 3)] [.int (-1)] [(0, .ref 36), (1, .int (xs 1)), (2, .int (xs 2)), (3, .int (xs 3))] (some (.int (-1))) hh_a203 0 0 0 0 0 0 287 [.int (-1), .int (-1)] ap_289 (by decide +kernel) rfl ⟨by decide +kernel, rfl, rfl, rfl, rfl⟩ (iv_a215 6 xs zf hz hk l1 u2) ?_
  refine mx_B 5 20 [(3, .int 6), (2, .ref 36), (1, .ref 21), (0, .ref 0)] [.ref 0, .int 6] (by decide +kernel) ?_
  refine mx_S (.arraylength) 1 [] 21 [(3, .int 6), (2, .ref 36), (1, .ref 21), (0, .ref 0)] [.int 6, .int 6] (by decide +kernel) rfl ?_
  refine mx_B 4 543 [(3, .int 6), (2, .ref 36), (1, .ref 21), (0, .ref 0)] [.int 1] (by decide +kernel) ?_
  exact mx_ret (some (.int 1)) (by decide +kernel) ⟨rfl, rfl⟩
theorem iv_a217 (L : Nat) (xs : Nat → Int32) (zf : Value) (hz : zf.category = 1) (hk : xs 0 &&& 15 = 5) (l2 : 0 ≤ (xs 2).toInt) (u2 : (xs 2).toInt ≤ 4) (u3 : (xs 3).toInt ≤ (-1)) : mx_R L xs zf ah_M221 0 [(0, .ref 21), (1, .int (xs 1)), (2, .int (xs 2)), (3, .int (xs 3))] [] hh_a203 0 0 0 0 (fun v h' => v = some (.int (-1)) ∧ h' = hh_a203) := by
  refine mx_S (.iload_n 2) 1 [] 1 [(0, .ref 21), (1, .int (xs 1)), (2, .int (xs 2)), (3, .int (xs 3))] [.int (xs 2)] (by decide +kernel) rfl ?_
  refine mx_1 .lt 17 false 4 (mx_v1 .lt (x := (xs 2)) 0 4  l2 u2 (by decide +kernel)) (by decide +kernel) ?_
  refine mx_S (.iload_n 2) 1 [] 5 [(0, .ref 21), (1, .int (xs 1)), (2, .int (xs 2)), (3, .int (xs 3))] [.int (xs 2)] (by decide +kernel) rfl ?_
  refine mx_S (.iconst 5) 1 [] 6 [(0, .ref 21), (1, .int (xs 1)), (2, .int (xs 2)), (3, .int (xs 3))] [.int 5, .int (xs 2)] (by decide +kernel) rfl ?_
  refine mx_2 .ge 12 false 9 (mx_v2 .ge (x := (xs 2)) (y := 5) 0 4 5  l2 u2 (by decide +kernel) (by decide +kernel)) (by decide +kernel) ?_
  refine mx_S (.iload_n 3) 1 [] 10 [(0, .ref 21), (1, .int (xs 1)), (2, .int (xs 2)), (3, .int (xs 3))] [.int (xs 3)] (by decide +kernel) rfl ?_
  refine mx_1 .lt 8 true 18 (mx_v1 .lt (x := (xs 3)) (-2147483648) (-1)  (mx_lo _) u3 (by decide +kernel)) (by decide +kernel) ?_
  refine mx_S (.iconst (-1)) 1 [] 19 [(0, .ref 21), (1, .int (xs 1)), (2, .int (xs 2)), (3, .int (xs 3))] [.int (-1)] (by decide +kernel) rfl ?_
  exact mx_ret (some (.int (-1))) (by decide +kernel) ⟨rfl, rfl⟩
theorem iv_a218 (L : Nat) (xs : Nat → Int32) (zf : Value) (hz : zf.category = 1) (hk : xs 0 &&& 15 = 5) (u1 : (xs 1).toInt ≤ (-1)) (l2 : 0 ≤ (xs 2).toInt) (u2 : (xs 2).toInt ≤ 4) (u3 : (xs 3).toInt ≤ (-1)) : mx_R L xs zf ah_M221 0 [(0, .ref 21), (1, .int (xs 1)), (2, .int (xs 2)), (3, .int (xs 3))] [] hh_a203 0 0 0 0 (fun v h' => v = some (.int (-1)) ∧ h' = hh_a203) := by
  refine mx_S (.iload_n 2) 1 [] 1 [(0, .ref 21), (1, .int (xs 1)), (2, .int (xs 2)), (3, .int (xs 3))] [.int (xs 2)] (by decide +kernel) rfl ?_
  refine mx_1 .lt 17 false 4 (mx_v1 .lt (x := (xs 2)) 0 4  l2 u2 (by decide +kernel)) (by decide +kernel) ?_
  refine mx_S (.iload_n 2) 1 [] 5 [(0, .ref 21), (1, .int (xs 1)), (2, .int (xs 2)), (3, .int (xs 3))] [.int (xs 2)] (by decide +kernel) rfl ?_
  refine mx_S (.iconst 5) 1 [] 6 [(0, .ref 21), (1, .int (xs 1)), (2, .int (xs 2)), (3, .int (xs 3))] [.int 5, .int (xs 2)] (by decide +kernel) rfl ?_
  refine mx_2 .ge 12 false 9 (mx_v2 .ge (x := (xs 2)) (y := 5) 0 4 5  l2 u2 (by decide +kernel) (by decide +kernel)) (by decide +kernel) ?_
  refine mx_S (.iload_n 3) 1 [] 10 [(0, .ref 21), (1, .int (xs 1)), (2, .int (xs 2)), (3, .int (xs 3))] [.int (xs 3)] (by decide +kernel) rfl ?_
  refine mx_1 .lt 8 true 18 (mx_v1 .lt (x := (xs 3)) (-2147483648) (-1)  (mx_lo _) u3 (by decide +kernel)) (by decide +kernel) ?_
  refine mx_S (.iconst (-1)) 1 [] 19 [(0, .ref 21), (1, .int (xs 1)), (2, .int (xs 2)), (3, .int (xs 3))] [.int (-1)] (by decide +kernel) rfl ?_
  exact mx_ret (some (.int (-1))) (by decide +kernel) ⟨rfl, rfl⟩
theorem iv_a219 (L : Nat) (xs : Nat → Int32) (zf : Value) (hz : zf.category = 1) (hk : xs 0 &&& 15 = 5) (u1 : (xs 1).toInt ≤ (-1)) (l2 : 0 ≤ (xs 2).toInt) (u2 : (xs 2).toInt ≤ 4) (u3 : (xs 3).toInt ≤ (-1)) : mx_R L xs zf ah_M289 0 [(0, .ref 36), (1, .int (xs 1)), (2, .int (xs 2)), (3, .int (xs 3))] [] hh_a203 0 0 0 0 (fun v h' => v = some (.int (-1)) ∧ h' = hh_a203) := by
  refine mx_S (.iload_n 1) 1 [] 1 [(0, .ref 36), (1, .int (xs 1)), (2, .int (xs 2)), (3, .int (xs 3))] [.int (xs 1)] (by decide +kernel) rfl ?_
  refine mx_1 .lt 26 true 27 (mx_v1 .lt (x := (xs 1)) (-2147483648) (-1)  (mx_lo _) u1 (by decide +kernel)) (by decide +kernel) ?_
  refine mx_S (.iconst (-1)) 1 [] 28 [(0, .ref 36), (1, .int (xs 1)), (2, .int (xs 2)), (3, .int (xs 3))] [.int (-1)] (by decide +kernel) rfl ?_
  exact mx_ret (some (.int (-1))) (by decide +kernel) ⟨rfl, rfl⟩
theorem iv_a220 (xs : Nat → Int32) (zf : Value) (hz : zf.category = 1) (hk : xs 0 &&& 15 = 5) (u1 : (xs 1).toInt ≤ (-1)) (l2 : 0 ≤ (xs 2).toInt) (u2 : (xs 2).toInt ≤ 4) (u3 : (xs 3).toInt ≤ (-1)) : mx_R 6 xs zf ah_M0 18 [(3, .int 0), (2, .ref 36), (1, .ref 21), (0, .ref 0)] [] hh_a203 0 0 1 23 (fun v h' => v = some (.int 1) ∧ h' = hh_a203) := by
  refine mx_B 2 20 [(3, .int 0), (2, .ref 36), (1, .ref 21), (0, .ref 0)] [.ref 0, .int 0] (by decide +kernel) ?_
  refine mx_S (.arraylength) 1 [] 21 [(3, .int 0), (2, .ref 36), (1, .ref 21), (0, .ref 0)] [.int 6, .int 0] (by decide +kernel) rfl ?_
  refine mx_B 5 29 [(3, .int 0), (2, .ref 36), (1, .ref 21), (0, .ref 0)] [.int 0, .ref 0] (by decide +kernel) ?_
  refine mx_scr 6 0 30 (by decide +kernel) (by decide +kernel) (by decide +kernel) ?_
  refine mx_S (.bipush 15) 2 [] 32 [(3, .int 0), (2, .ref 36), (1, .ref 21), (0, .ref 0)] [.int 15, .int (xs 0)] (by decide +kernel) rfl ?_
  refine mx_S (.iand) 1 [] 33 [(3, .int 0), (2, .ref 36), (1, .ref 21), (0, .ref 0)] [.int ((xs 0) &&& 15)] (by decide +kernel) rfl ?_
  refine mx_eq 5 hk ?_
  refine mx_B 6 254 [(3, .int 0), (2, .ref 36), (1, .ref 21), (0, .ref 0)] [.int 1, .ref 0, .ref 21] (by decide +kernel) ?_
  refine mx_scr 6 1 255 (by decide +kernel) (by decide +kernel) (by decide +kernel) ?_
  refine mx_S (.aload_n 0) 1 [] 256 [(3, .int 0), (2, .ref 36), (1, .ref 21), (0, .ref 0)] [.ref 0, .int (xs 1), .ref 21] (by decide +kernel) rfl ?_
  refine mx_S (.iload_n 3) 1 [] 257 [(3, .int 0), (2, .ref 36), (1, .ref 21), (0, .ref 0)] [.int 0, .ref 0, .int (xs 1), .ref 21] (by decide +kernel) rfl ?_
  refine mx_S (.iconst 2) 1 [] 258 [(3, .int 0), (2, .ref 36), (1, .ref 21), (0, .ref 0)] [.int 2, .int 0, .ref 0, .int (xs 1), .ref 21] (by decide +kernel) rfl ?_
  refine mx_S (.iadd) 1 [] 259 [(3, .int 0), (2, .ref 36), (1, .ref 21), (0, .ref 0)] [.int 2, .ref 0, .int (xs 1), .ref 21] (by decide +kernel) rfl ?_
  refine mx_scr 6 2 260 (by decide +kernel) (by decide +kernel) (by decide +kernel) ?_
  refine mx_S (.aload_n 0) 1 [] 261 [(3, .int 0), (2, .ref 36), (1, .ref 21), (0, .ref 0)] [.ref 0, .int (xs 2), .int (xs 1), .ref 21] (by decide +kernel) rfl ?_
  refine mx_S (.iload_n 3) 1 [] 262 [(3, .int 0), (2, .ref 36), (1, .ref 21), (0, .ref 0)] [.int 0, .ref 0, .int (xs 2), .int (xs 1), .ref 21] (by decide +kernel) rfl ?_
  refine mx_S (.iconst 3) 1 [] 263 [(3, .int 0), (2, .ref 36), (1, .ref 21), (0, .ref 0)] [.int 3, .int 0, .ref 0, .int (xs 2), .int (xs 1), .ref 21] (by decide +kernel) rfl ?_
  refine mx_S (.iadd) 1 [] 264 [(3, .int 0), (2, .ref 36), (1, .ref 21), (0, .ref 0)] [.int 3, .ref 0, .int (xs 2), .int (xs 1), .ref 21] (by decide +kernel) rfl ?_
  refine mx_scr 6 3 265 (by decide +kernel) (by decide +kernel) (by decide +kernel) ?_
  refine mx_calls (.invokevirtual 36) [221, 5, 3, 0] 221 3 [.ref 21, .int (xs 1), .int (xs 2), .int (xs 3)] [] [(0, .ref 21), (1, .int (xs 1)), (2, .int (xs 2)), (3, .int (xs 3))] (some (.int (-1))) hh_a203 0 0 0 0 0 0 268 [.int (-1)] ap_221 (by decide +kernel) rfl ⟨by decide +kernel, rfl, rfl, rfl, rfl⟩ (iv_a218 6 xs zf hz hk u1 l2 u2 u3) ?_
  refine mx_B 5 273 [(3, .int 0), (2, .ref 36), (1, .ref 21), (0, .ref 0)] [.int 1, .ref 0, .ref 36, .int (-1)] (by decide +kernel) ?_
  refine mx_scr 6 1 274 (by decide +kernel) (by decide +kernel) (by decide +kernel) ?_
  refine mx_S (.aload_n 0) 1 [] 275 [(3, .int 0), (2, .ref 36), (1, .ref 21), (0, .ref 0)] [.ref 0, .int (xs 1), .ref 36, .int (-1)] (by decide +kernel) rfl ?_
  refine mx_S (.iload_n 3) 1 [] 276 [(3, .int 0), (2, .ref 36), (1, .ref 21), (0, .ref 0)] [.int 0, .ref 0, .int (xs 1), .ref 36, .int (-1)] (by decide +kernel) rfl ?_
  refine mx_S (.iconst 2) 1 [] 277 [(3, .int 0), (2, .ref 36), (1, .ref 21), (0, .ref 0)] [.int 2, .int 0, .ref 0, .int (xs 1), .ref 36, .int (-1)] (by decide +kernel) rfl ?_
  refine mx_S (.iadd) 1 [] 278 [(3, .int 0), (2, .ref 36), (1, .ref 21), (0, .ref 0)] [.int 2, .ref 0, .int (xs 1), .ref 36, .int (-1)] (by decide +kernel) rfl ?_
  refine mx_scr 6 2 279 (by decide +kernel) (by decide +kernel) (by decide +kernel) ?_
  refine mx_S (.aload_n 0) 1 [] 280 [(3, .int 0), (2, .ref 36), (1, .ref 21), (0, .ref 0)] [.ref 0, .int (xs 2), .int (xs 1), .ref 36, .int (-1)] (by decide +kernel) rfl ?_
  refine mx_S (.iload_n 3) 1 [] 281 [(3, .int 0), (2, .ref 36), (1, .ref 21), (0, .ref 0)] [.int 0, .ref 0, .int (xs 2), .int (xs 1), .ref 36, .int (-1)] (by decide +kernel) rfl ?_
  refine mx_S (.iconst 3) 1 [] 282 [(3, .int 0), (2, .ref 36), (1, .ref 21), (0, .ref 0)] [.int 3, .int 0, .ref 0, .int (xs 2), .int (xs 1), .ref 36, .int (-1)] (by decide +kernel) rfl ?_
  refine mx_S (.iadd) 1 [] 283 [(3, .int 0), (2, .ref 36), (1, .ref 21), (0, .ref 0)] [.int 3, .ref 0, .int (xs 2), .int (xs 1), .ref 36, .int (-1)] (by decide +kernel) rfl ?_
  refine mx_scr 6 3 284 (by decide +kernel) (by decide +kernel) (by decide +kernel) ?_
  refine mx_calls (.invokevirtual 40) [289, 5, 3, 15] 289 3 [.ref 36, .int (xs 1), .int (xs 2), .int (xs 3)] [.int (-1)] [(0, .ref 36), (1, .int (xs 1)), (2, .int (xs 2)), (3, .int (xs 3))] (some (.int (-1))) hh_a203 0 0 0 0 0 0 287 [.int (-1), .int (-1)] ap_289 (by decide +kernel) rfl ⟨by decide +kernel, rfl, rfl, rfl, rfl⟩ (iv_a219 6 xs zf hz hk u1 l2 u2 u3) ?_
  refine mx_B 5 20 [(3, .int 6), (2, .ref 36), (1, .ref 21), (0, .ref 0)] [.ref 0, .int 6] (by decide +kernel) ?_
  refine mx_S (.arraylength) 1 [] 21 [(3, .int 6), (2, .ref 36), (1, .ref 21), (0, .ref 0)] [.int 6, .int 6] (by decide +kernel) rfl ?_
  refine mx_B 4 543 [(3, .int 6), (2, .ref 36), (1, .ref 21), (0, .ref 0)] [.int 1] (by decide +kernel) ?_
  exact mx_ret (some (.int 1)) (by decide +kernel) ⟨rfl, rfl⟩
theorem iv_a221 (L : Nat) (xs : Nat → Int32) (zf : Value) (hz : zf.category = 1) (hk : xs 0 &&& 15 = 5) (l1 : 0 ≤ (xs 1).toInt) (l2 : 0 ≤ (xs 2).toInt) (u2 : (xs 2).toInt ≤ 4) (u3 : (xs 3).toInt ≤ (-1)) : mx_R L xs zf ah_M221 0 [(0, .ref 21), (1, .int (xs 1)), (2, .int (xs 2)), (3, .int (xs 3))] [] hh_a203 0 0 0 0 (fun v h' => v = some (.int (-1)) ∧ h' = hh_a203) := by
  refine mx_S (.iload_n 2) 1 [] 1 [(0, .ref 21), (1, .int (xs 1)), (2, .int (xs 2)), (3, .int (xs 3))] [.int (xs 2)] (by decide +kernel) rfl ?_
  refine mx_1 .lt 17 false 4 (mx_v1 .lt (x := (xs 2)) 0 4  l2 u2 (by decide +kernel)) (by decide +kernel) ?_
  refine mx_S (.iload_n 2) 1 [] 5 [(0, .ref 21), (1, .int (xs 1)), (2, .int (xs 2)), (3, .int (xs 3))] [.int (xs 2)] (by decide +kernel) rfl ?_
  refine mx_S (.iconst 5) 1 [] 6 [(0, .ref 21), (1, .int (xs 1)), (2, .int (xs 2)), (3, .int (xs 3))] [.int 5, .int (xs 2)] (by decide +kernel) rfl ?_
  refine mx_2 .ge 12 false 9 (mx_v2 .ge (x := (xs 2)) (y := 5) 0 4 5  l2 u2 (by decide +kernel) (by decide +kernel)) (by decide +kernel) ?_
  refine mx_S (.iload_n 3) 1 [] 10 [(0, .ref 21), (1, .int (xs 1)), (2, .int (xs 2)), (3, .int (xs 3))] [.int (xs 3)] (by decide +kernel) rfl ?_
  refine mx_1 .lt 8 true 18 (mx_v1 .lt (x := (xs 3)) (-2147483648) (-1)  (mx_lo _) u3 (by decide +kernel)) (by decide +kernel) ?_
  refine mx_S (.iconst (-1)) 1 [] 19 [(0, .ref 21), (1, .int (xs 1)), (2, .int (xs 2)), (3, .int (xs 3))] [.int (-1)] (by decide +kernel) rfl ?_
  exact mx_ret (some (.int (-1))) (by decide +kernel) ⟨rfl, rfl⟩
theorem iv_a222 (L : Nat) (xs : Nat → Int32) (zf : Value) (hz : zf.category = 1) (hk : xs 0 &&& 15 = 5) (l1 : 0 ≤ (xs 1).toInt) (u1 : (xs 1).toInt ≤ 3) (l2 : 0 ≤ (xs 2).toInt) (u2 : (xs 2).toInt ≤ 4) (u3 : (xs 3).toInt ≤ (-1)) : mx_R L xs zf ah_M221 0 [(0, .ref 21), (1, .int (xs 1)), (2, .int (xs 2)), (3, .int (xs 3))] [] hh_a203 0 0 0 0 (fun v h' => v = some (.int (-1)) ∧ h' = hh_a203) := by
  refine mx_S (.iload_n 2) 1 [] 1 [(0, .ref 21), (1, .int (xs 1)), (2, .int (xs 2)), (3, .int (xs 3))] [.int (xs 2)] (by decide +kernel) rfl ?_
  refine mx_1 .lt 17 false 4 (mx_v1 .lt (x := (xs 2)) 0 4  l2 u2 (by decide +kernel)) (by decide +kernel) ?_
  refine mx_S (.iload_n 2) 1 [] 5 [(0, .ref 21), (1, .int (xs 1)), (2, .int (xs 2)), (3, .int (xs 3))] [.int (xs 2)] (by decide +kernel) rfl ?_
  refine mx_S (.iconst 5) 1 [] 6 [(0, .ref 21), (1, .int (xs 1)), (2, .int (xs 2)), (3, .int (xs 3))] [.int 5, .int (xs 2)] (by decide +kernel) rfl ?_
  refine mx_2 .ge 12 false 9 (mx_v2 .ge (x := (xs 2)) (y := 5) 0 4 5  l2 u2 (by decide +kernel) (by decide +kernel)) (by decide +kernel) ?_
  refine mx_S (.iload_n 3) 1 [] 10 [(0, .ref 21), (1, .int (xs 1)), (2, .int (xs 2)), (3, .int (xs 3))] [.int (xs 3)] (by decide +kernel) rfl ?_
  refine mx_1 .lt 8 true 18 (mx_v1 .lt (x := (xs 3)) (-2147483648) (-1)  (mx_lo _) u3 (by decide +kernel)) (by decide +kernel) ?_
  refine mx_S (.iconst (-1)) 1 [] 19 [(0, .ref 21), (1, .int (xs 1)), (2, .int (xs 2)), (3, .int (xs 3))] [.int (-1)] (by decide +kernel) rfl ?_
  exact mx_ret (some (.int (-1))) (by decide +kernel) ⟨rfl, rfl⟩
theorem iv_a223 (L : Nat) (xs : Nat → Int32) (zf : Value) (hz : zf.category = 1) (hk : xs 0 &&& 15 = 5) (l1 : 0 ≤ (xs 1).toInt) (u1 : (xs 1).toInt ≤ 3) (l2 : 0 ≤ (xs 2).toInt) (u2 : (xs 2).toInt ≤ 4) (u3 : (xs 3).toInt ≤ (-1)) : mx_R L xs zf ah_M289 0 [(0, .ref 36), (1, .int (xs 1)), (2, .int (xs 2)), (3, .int (xs 3))] [] hh_a203 0 0 0 0 (fun v h' => v = some (.int (-1)) ∧ h' = hh_a203) := by
  refine mx_S (.iload_n 1) 1 [] 1 [(0, .ref 36), (1, .int (xs 1)), (2, .int (xs 2)), (3, .int (xs 3))] [.int (xs 1)] (by decide +kernel) rfl ?_
  refine mx_1 .lt 26 false 4 (mx_v1 .lt (x := (xs 1)) 0 3  l1 u1 (by decide +kernel)) (by decide +kernel) ?_
  refine mx_S (.iload_n 1) 1 [] 5 [(0, .ref 36), (1, .int (xs 1)), (2, .int (xs 2)), (3, .int (xs 3))] [.int (xs 1)] (by decide +kernel) rfl ?_
  refine mx_S (.iconst 3) 1 [] 6 [(0, .ref 36), (1, .int (xs 1)), (2, .int (xs 2)), (3, .int (xs 3))] [.int 3, .int (xs 1)] (by decide +kernel) rfl ?_
  refine mx_2 .gt 21 false 9 (mx_v2 .gt (x := (xs 1)) (y := 3) 0 3 3  l1 u1 (by decide +kernel) (by decide +kernel)) (by decide +kernel) ?_
  refine mx_S (.iload_n 2) 1 [] 10 [(0, .ref 36), (1, .int (xs 1)), (2, .int (xs 2)), (3, .int (xs 3))] [.int (xs 2)] (by decide +kernel) rfl ?_
  refine mx_1 .lt 17 false 13 (mx_v1 .lt (x := (xs 2)) 0 4  l2 u2 (by decide +kernel)) (by decide +kernel) ?_
  refine mx_S (.iload_n 2) 1 [] 14 [(0, .ref 36), (1, .int (xs 1)), (2, .int (xs 2)), (3, .int (xs 3))] [.int (xs 2)] (by decide +kernel) rfl ?_
  refine mx_S (.iconst 4) 1 [] 15 [(0, .ref 36), (1, .int (xs 1)), (2, .int (xs 2)), (3, .int (xs 3))] [.int 4, .int (xs 2)] (by decide +kernel) rfl ?_
  refine mx_2 .gt 12 false 18 (mx_v2 .gt (x := (xs 2)) (y := 4) 0 4 4  l2 u2 (by decide +kernel) (by decide +kernel)) (by decide +kernel) ?_
  refine mx_S (.iload_n 3) 1 [] 19 [(0, .ref 36), (1, .int (xs 1)), (2, .int (xs 2)), (3, .int (xs 3))] [.int (xs 3)] (by decide +kernel) rfl ?_
  refine mx_1 .lt 8 true 27 (mx_v1 .lt (x := (xs 3)) (-2147483648) (-1)  (mx_lo _) u3 (by decide +kernel)) (by decide +kernel) ?_
  refine mx_S (.iconst (-1)) 1 [] 28 [(0, .ref 36), (1, .int (xs 1)), (2, .int (xs 2)), (3, .int (xs 3))] [.int (-1)] (by decide +kernel) rfl ?_
  exact mx_ret (some (.int (-1))) (by decide +kernel) ⟨rfl, rfl⟩
theorem iv_a224 (xs : Nat → Int32) (zf : Value) (hz : zf.category = 1) (hk : xs 0 &&& 15 = 5) (l1 : 0 ≤ (xs 1).toInt) (u1 : (xs 1).toInt ≤ 3) (l2 : 0 ≤ (xs 2).toInt) (u2 : (xs 2).toInt ≤ 4) (u3 : (xs 3).toInt ≤ (-1)) : mx_R 6 xs zf ah_M0 18 [(3, .int 0), (2, .ref 36), (1, .ref 21), (0, .ref 0)] [] hh_a203 0 0 1 23 (fun v h' => v = some (.int 1) ∧ h' = hh_a203) := by
  refine mx_B 2 20 [(3, .int 0), (2, .ref 36), (1, .ref 21), (0, .ref 0)] [.ref 0, .int 0] (by decide +kernel) ?_
  refine mx_S (.arraylength) 1 [] 21 [(3, .int 0), (2, .ref 36), (1, .ref 21), (0, .ref 0)] [.int 6, .int 0] (by decide +kernel) rfl ?_
  refine mx_B 5 29 [(3, .int 0), (2, .ref 36), (1, .ref 21), (0, .ref 0)] [.int 0, .ref 0] (by decide +kernel) ?_
  refine mx_scr 6 0 30 (by decide +kernel) (by decide +kernel) (by decide +kernel) ?_
  refine mx_S (.bipush 15) 2 [] 32 [(3, .int 0), (2, .ref 36), (1, .ref 21), (0, .ref 0)] [.int 15, .int (xs 0)] (by decide +kernel) rfl ?_
  refine mx_S (.iand) 1 [] 33 [(3, .int 0), (2, .ref 36), (1, .ref 21), (0, .ref 0)] [.int ((xs 0) &&& 15)] (by decide +kernel) rfl ?_
  refine mx_eq 5 hk ?_
  refine mx_B 6 254 [(3, .int 0), (2, .ref 36), (1, .ref 21), (0, .ref 0)] [.int 1, .ref 0, .ref 21] (by decide +kernel) ?_
  refine mx_scr 6 1 255 (by decide +kernel) (by decide +kernel) (by decide +kernel) ?_
  refine mx_S (.aload_n 0) 1 [] 256 [(3, .int 0), (2, .ref 36), (1, .ref 21), (0, .ref 0)] [.ref 0, .int (xs 1), .ref 21] (by decide +kernel) rfl ?_
  refine mx_S (.iload_n 3) 1 [] 257 [(3, .int 0), (2, .ref 36), (1, .ref 21), (0, .ref 0)] [.int 0, .ref 0, .int (xs 1), .ref 21] (by decide +kernel) rfl ?_
  refine mx_S (.iconst 2) 1 [] 258 [(3, .int 0), (2, .ref 36), (1, .ref 21), (0, .ref 0)] [.int 2, .int 0, .ref 0, .int (xs 1), .ref 21] (by decide +kernel) rfl ?_
  refine mx_S (.iadd) 1 [] 259 [(3, .int 0), (2, .ref 36), (1, .ref 21), (0, .ref 0)] [.int 2, .ref 0, .int (xs 1), .ref 21] (by decide +kernel) rfl ?_
  refine mx_scr 6 2 260 (by decide +kernel) (by decide +kernel) (by decide +kernel) ?_
  refine mx_S (.aload_n 0) 1 [] 261 [(3, .int 0), (2, .ref 36), (1, .ref 21), (0, .ref 0)] [.ref 0, .int (xs 2), .int (xs 1), .ref 21] (by decide +kernel) rfl ?_
  refine mx_S (.iload_n 3) 1 [] 262 [(3, .int 0), (2, .ref 36), (1, .ref 21), (0, .ref 0)] [.int 0, .ref 0, .int (xs 2), .int (xs 1), .ref 21] (by decide +kernel) rfl ?_
  refine mx_S (.iconst 3) 1 [] 263 [(3, .int 0), (2, .ref 36), (1, .ref 21), (0, .ref 0)] [.int 3, .int 0, .ref 0, .int (xs 2), .int (xs 1), .ref 21] (by decide +kernel) rfl ?_
  refine mx_S (.iadd) 1 [] 264 [(3, .int 0), (2, .ref 36), (1, .ref 21), (0, .ref 0)] [.int 3, .ref 0, .int (xs 2), .int (xs 1), .ref 21] (by decide +kernel) rfl ?_
  refine mx_scr 6 3 265 (by decide +kernel) (by decide +kernel) (by decide +kernel) ?_
  refine mx_calls (.invokevirtual 36) [221, 5, 3, 0] 221 3 [.ref 21, .int (xs 1), .int (xs 2), .int (xs 3)] [] [(0, .ref 21), (1, .int (xs 1)), (2, .int (xs 2)), (3, .int (xs 3))] (some (.int (-1))) hh_a203 0 0 0 0 0 0 268 [.int (-1)] ap_221 (by decide +kernel) rfl ⟨by decide +kernel, rfl, rfl, rfl, rfl⟩ (iv_a222 6 xs zf hz hk l1 u1 l2 u2 u3) ?_
  refine mx_B 5 273 [(3, .int 0), (2, .ref 36), (1, .ref 21), (0, .ref 0)] [.int 1, .ref 0, .ref 36, .int (-1)] (by decide +kernel) ?_
  refine mx_scr 6 1 274 (by decide +kernel) (by decide +kernel) (by decide +kernel) ?_
  refine mx_S (.aload_n 0) 1 [] 275 [(3, .int 0), (2, .ref 36), (1, .ref 21), (0, .ref 0)] [.ref 0, .int (xs 1), .ref 36, .int (-1)] (by decide +kernel) rfl ?_
  refine mx_S (.iload_n 3) 1 [] 276 [(3, .int 0), (2, .ref 36), (1, .ref 21), (0, .ref 0)] [.int 0, .ref 0, .int (xs 1), .ref 36, .int (-1)] (by decide +kernel) rfl ?_
  refine mx_S (.iconst 2) 1 [] 277 [(3, .int 0), (2, .ref 36), (1, .ref 21), (0, .ref 0)] [.int 2, .int 0, .ref 0, .int (xs 1), .ref 36, .int (-1)] (by decide +kernel) rfl ?_
  refine mx_S (.iadd) 1 [] 278 [(3, .int 0), (2, .ref 36), (1, .ref 21), (0, .ref 0)] [.int 2, .ref 0, .int (xs 1), .ref 36, .int (-1)] (by decide +kernel) rfl ?_
  refine mx_scr 6 2 279 (by decide +kernel) (by decide +kernel) (by decide +kernel) ?_
  refine mx_S (.aload_n 0) 1 [] 280 [(3, .int 0), (2, .ref 36), (1, .ref 21), (0, .ref 0)] [.ref 0, .int (xs 2), .int (xs 1), .ref 36, .int (-1)] (by decide +kernel) rfl ?_
  refine mx_S (.iload_n 3) 1 [] 281 [(3, .int 0), (2, .ref 36), (1, .ref 21), (0, .ref 0)] [.int 0, .ref 0, .int (xs 2), .int (xs 1), .ref 36, .int (-1)] (by decide +kernel) rfl ?_
  refine mx_S (.iconst 3) 1 [] 282 [(3, .int 0), (2, .ref 36), (1, .ref 21), (0, .ref 0)] [.int 3, .int 0, .ref 0, .int (xs 2), .int (xs 1), .ref 36, .int (-1)] (by decide +kernel) rfl ?_
  refine mx_S (.iadd) 1 [] 283 [(3, .int 0), (2, .ref 36), (1, .ref 21), (0, .ref 0)] [.int 3, .ref 0, .int (xs 2), .int (xs 1), .ref 36, .int (-1)] (by decide +kernel) rfl ?_
  refine mx_scr 6 3 284 (by decide +kernel) (by decide +kernel) (by decide +kernel) ?_
  refine mx_calls (.invokevirtual 40) [289, 5, 3, 15] 289 3 [.ref 36, .int (xs 1), .int (xs 2), .int (xs 3)] [.int (-1)] [(0, .ref 36), (1, .int (xs 1)), (2, .int (xs 2)), (3, .int (xs 3))] (some (.int (-1))) hh_a203 0 0 0 0 0 0 287 [.int (-1), .int (-1)] ap_289 (by decide +kernel) rfl ⟨by decide +kernel, rfl, rfl, rfl, rfl⟩ (iv_a223 6 xs zf hz hk l1 u1 l2 u2 u3) ?_
  refine mx_B 5 20 [(3, .int 6), (2, .ref 36), (1, .ref 21), (0, .ref 0)] [.ref 0, .int 6] (by decide +kernel) ?_
  refine mx_S (.arraylength) 1 [] 21 [(3, .int 6), (2, .ref 36), (1, .ref 21), (0, .ref 0)] [.int 6, .int 6] (by decide +kernel) rfl ?_
  refine mx_B 4 543 [(3, .int 6), (2, .ref 36), (1, .ref 21), (0, .ref 0)] [.int 1] (by decide +kernel) ?_
  exact mx_ret (some (.int 1)) (by decide +kernel) ⟨rfl, rfl⟩
theorem iv_a225 (L : Nat) (xs : Nat → Int32) (zf : Value) (hz : zf.category = 1) (hk : xs 0 &&& 15 = 5) (l1 : 4 ≤ (xs 1).toInt) (l2 : 0 ≤ (xs 2).toInt) (u2 : (xs 2).toInt ≤ 4) (u3 : (xs 3).toInt ≤ (-1)) : mx_R L xs zf ah_M221 0 [(0, .ref 21), (1, .int (xs 1)), (2, .int (xs 2)), (3, .int (xs 3))] [] hh_a203 0 0 0 0 (fun v h' => v = some (.int (-1)) ∧ h' = hh_a203) := by
  refine mx_S (.iload_n 2) 1 [] 1 [(0, .ref 21), (1, .int (xs 1)), (2, .int (xs 2)), (3, .int (xs 3))] [.int (xs 2)] (by decide +kernel) rfl ?_
  refine mx_1 .lt 17 false 4 (mx_v1 .lt (x := (xs 2)) 0 4  l2 u2 (by decide +kernel)) (by decide +kernel) ?_
  refine mx_S (.iload_n 2) 1 [] 5 [(0, .ref 21), (1, .int (xs 1)), (2, .int (xs 2)), (3, .int (xs 3))] [.int (xs 2)] (by decide +kernel) rfl ?_
  refine mx_S (.iconst 5) 1 [] 6 [(0, .ref 21), (1, .int (xs 1)), (2, .int (xs 2)), (3, .int (xs 3))] [.int 5, .int (xs 2)] (by decide +kernel) rfl ?_
  refine mx_2 .ge 12 false 9 (mx_v2 .ge (x := (xs 2)) (y := 5) 0 4 5  l2 u2 (by decide +kernel) (by decide +kernel)) (by decide +kernel) ?_
  refine mx_S (.iload_n 3) 1 [] 10 [(0, .ref 21), (1, .int (xs 1)), (2, .int (xs 2)), (3, .int (xs 3))] [.int (xs 3)] (by decide +kernel) rfl ?_
  refine mx_1 .lt 8 true 18 (mx_v1 .lt (x := (xs 3)) (-2147483648) (-1)  (mx_lo _) u3 (by decide +kernel)) (by decide +kernel) ?_
  refine mx_S (.iconst (-1)) 1 [] 19 [(0, .ref 21), (1, .int (xs 1)), (2, .int (xs 2)), (3, .int (xs 3))] [.int (-1)] (by decide +kernel) rfl ?_
  exact mx_ret (some (.int (-1))) (by decide +kernel) ⟨rfl, rfl⟩
theorem iv_a226 (L : Nat) (xs : Nat → Int32) (zf : Value) (hz : zf.category = 1) (hk : xs 0 &&& 15 = 5) (l1 : 4 ≤ (xs 1).toInt) (l2 : 0 ≤ (xs 2).toInt) (u2 : (xs 2).toInt ≤ 4) (u3 : (xs 3).toInt ≤ (-1)) : mx_R L xs zf ah_M289 0 [(0, .ref 36), (1, .int (xs 1)), (2, .int (xs 2)), (3, .int (xs 3))] [] hh_a203 0 0 0 0 (fun v h' => v = some (.int (-1)) ∧ h' = hh_a203) := by
  refine mx_S (.iload_n 1) 1 [] 1 [(0, .ref 36), (1, .int (xs 1)), (2, .int (xs 2)), (3, .int (xs 3))] [.int (xs 1)] (by decide +kernel) rfl ?_
  refine mx_1 .lt 26 false 4 (mx_v1 .lt (x := (xs 1)) 4 2147483647  l1 (mx_hi _) (by decide +kernel)) (by decide +kernel) ?_
  refine mx_S (.iload_n 1) 1 [] 5 [(0, .ref 36), (1, .int (xs 1)), (2, .int (xs 2)), (3, .int (xs 3))] [.int (xs 1)] (by decide +kernel) rfl ?_
  refine mx_S (.iconst 3) 1 [] 6 [(0, .ref 36), (1, .int (xs 1)), (2, .int (xs 2)), (3, .int (xs 3))] [.int 3, .int (xs 1)] (by decide +kernel) rfl ?_
  refine mx_2 .gt 21 true 27 (mx_v2 .gt (x := (xs 1)) (y := 3) 4 2147483647 3  l1 (mx_hi _) (by decide +kernel) (by decide +kernel)) (by decide +kernel) ?_
  refine mx_S (.iconst (-1)) 1 [] 28 [(0, .ref 36), (1, .int (xs 1)), (2, .int (xs 2)), (3, .int (xs 3))] [.int (-1)] (by decide +kernel) rfl ?_
  exact mx_ret (some (.int (-1))) (by decide +kernel) ⟨rfl, rfl⟩
theorem iv_a227 (xs : Nat → Int32) (zf : Value) (hz : zf.category = 1) (hk : xs 0 &&& 15 = 5) (l1 : 4 ≤ (xs 1).toInt) (l2 : 0 ≤ (xs 2).toInt) (u2 : (xs 2).toInt ≤ 4) (u3 : (xs 3).toInt ≤ (-1)) : mx_R 6 xs zf ah_M0 18 [(3, .int 0), (2, .ref 36), (1, .ref 21), (0, .ref 0)] [] hh_a203 0 0 1 23 (fun v h' => v = some (.int 1) ∧ h' = hh_a203) := by
  refine mx_B 2 20 [(3, .int 0), (2, .ref 36), (1, .ref 21), (0, .ref 0)] [.ref 0, .int 0] (by decide +kernel) ?_
  refine mx_S (.arraylength) 1 [] 21 [(3, .int 0), (2, .ref 36), (1, .ref 21), (0, .ref 0)] [.int 6, .int 0] (by decide +kernel) rfl ?_
  refine mx_B 5 29 [(3, .int 0), (2, .ref 36), (1, .ref 21), (0, .ref 0)] [.int 0, .ref 0] (by decide +kernel) ?_
  refine mx_scr 6 0 30 (by decide +kernel) (by decide +kernel) (by decide +kernel) ?_
  refine mx_S (.bipush 15) 2 [] 32 [(3, .int 0), (2, .ref 36), (1, .ref 21), (0, .ref 0)] [.int 15, .int (xs 0)] (by decide +kernel) rfl ?_
  refine mx_S (.iand) 1 [] 33 [(3, .int 0), (2, .ref 36), (1, .ref 21), (0, .ref 0)] [.int ((xs 0) &&& 15)] (by decide +kernel) rfl ?_
  refine mx_eq 5 hk ?_
  refine mx_B 6 254 [(3, .int 0), (2, .ref 36), (1, .ref 21), (0, .ref 0)] [.int 1, .ref 0, .ref 21] (by decide +kernel) ?_
  refine mx_scr 6 1 255 (by decide +kernel) (by decide +kernel) (by decide +kernel) ?_
  refine mx_S (.aload_n 0) 1 [] 256 [(3, .int 0), (2, .ref 36), (1, .ref 21), (0, .ref 0)] [.ref 0, .int (xs 1), .ref 21] (by decide +kernel) rfl ?_
  refine mx_S (.iload_n 3) 1 [] 257 [(3, .int 0), (2, .ref 36), (1, .ref 21), (0, .ref 0)] [.int 0, .ref 0, .int (xs 1), .ref 21] (by decide +kernel) rfl ?_
  refine mx_S (.iconst 2) 1 [] 258 [(3, .int 0), (2, .ref 36), (1, .ref 21), (0, .ref 0)] [.int 2, .int 0, .ref 0, .int (xs 1), .ref 21] (by decide +kernel) rfl ?_
  refine mx_S (.iadd) 1 [] 259 [(3, .int 0), (2, .ref 36), (1, .ref 21), (0, .ref 0)] [.int 2, .ref 0, .int (xs 1), .ref 21] (by decide +kernel) rfl ?_
  refine mx_scr 6 2 260 (by decide +kernel) (by decide +kernel) (by decide +kernel) ?_
  refine mx_S (.aload_n 0) 1 [] 261 [(3, .int 0), (2, .ref 36), (1, .ref 21), (0, .ref 0)] [.ref 0, .int (xs 2), .int (xs 1), .ref 21] (by decide +kernel) rfl ?_
  refine mx_S (.iload_n 3) 1 [] 262 [(3, .int 0), (2, .ref 36), (1, .ref 21), (0, .ref 0)] [.int 0, .ref 0, .int (xs 2), .int (xs 1), .ref 21] (by decide +kernel) rfl ?_
  refine mx_S (.iconst 3) 1 [] 263 [(3, .int 0), (2, .ref 36), (1, .ref 21), (0, .ref 0)] [.int 3, .int 0, .ref 0, .int (xs 2), .int (xs 1), .ref 21] (by decide +kernel) rfl ?_
  refine mx_S (.iadd) 1 [] 264 [(3, .int 0), (2, .ref 36), (1, .ref 21), (0, .ref 0)] [.int 3, .ref 0, .int (xs 2), .int (xs 1), .ref 21] (by decide +kernel) rfl ?_
  refine mx_scr 6 3 265 (by decide +kernel) (by decide +kernel) (by decide +kernel) ?_
  refine mx_calls (.invokevirtual 36) [221, 5, 3, 0] 221 3 [.ref 21, .int (xs 1), .int (xs 2), .int (xs 3)] [] [(0, .ref 21), (1, .int (xs 1)), (2, .int (xs 2)), (3, .int (xs 3))] (some (.int (-1))) hh_a203 0 0 0 0 0 0 268 [.int (-1)] ap_221 (by decide +kernel) rfl ⟨by decide +kernel, rfl, rfl, rfl, rfl⟩ (iv_a225 6 xs zf hz hk l1 l2 u2 u3) ?_
  refine mx_B 5 273 [(3, .int 0), (2, .ref 36), (1, .ref 21), (0, .ref 0)] [.int 1, .ref 0, .ref 36, .int (-1)] (by decide +kernel) ?_
  refine mx_scr 6 1 274 (by decide +kernel) (by decide +kernel) (by decide +kernel) ?_
  refine mx_S (.aload_n 0) 1 [] 275 [(3, .int 0), (2, .ref 36), (1, .ref 21), (0, .ref 0)] [.ref 0, .int (xs 1), .ref 36, .int (-1)] (by decide +kernel) rfl ?_
  refine mx_S (.iload_n 3) 1 [] 276 [(3, .int 0), (2, .ref 36), (1, .ref 21), (0, .ref 0)] [.int 0, .ref 0, .int (xs 1), .ref 36, .int (-1)] (by decide +kernel) rfl ?_
  refine mx_S (.iconst 2) 1 [] 277 [(3, .int 0), (2, .ref 36), (1, .ref 21), (0, .ref 0)] [.int 2, .int 0, .ref 0, .int (xs 1), .ref 36, .int (-1)] (by decide +kernel) rfl ?_
  refine mx_S (.iadd) 1 [] 278 [(3, .int 0), (2, .ref 36), (1, .ref 21), (0, .ref 0)] [.int 2, .ref 0, .int (xs 1), .ref 36, .int (-1)] (by decide +kernel) rfl ?_
  refine mx_scr 6 2 279 (by decide +kernel) (by decide +kernel) (by decide +kernel) ?_
  refine mx_S (.aload_n 0) 1 [] 280 [(3, .int 0), (2, .ref 36), (1, .ref 21), (0, .ref 0)] [.ref 0, .int (xs 2), .int (xs 1), .ref 36, .int (-1)] (by decide +kernel) rfl ?_
  refine mx_S (.iload_n 3) 1 [] 281 [(3, .int 0), (2, .ref 36), (1, .ref 21), (0, .ref 0)] [.int 0, .ref 0, .int (xs 2), .int (xs 1), .ref 36, .int (-1)] (by decide +kernel) rfl ?_
  refine mx_S (.iconst 3) 1 [] 282 [(3, .int 0), (2, .ref 36), (1, .ref 21), (0, .ref 0)] [.int 3, .int 0, .ref 0, .int (xs 2), .int (xs 1), .ref 36, .int (-1)] (by decide +kernel) rfl ?_
  refine mx_S (.iadd) 1 [] 283 [(3, .int 0), (2, .ref 36), (1, .ref 21), (0, .ref 0)] [.int 3, .ref 0, .int (xs 2), .int (xs 1), .ref 36, .int (-1)] (by decide +kernel) rfl ?_
  refine mx_scr 6 3 284 (by decide +kernel) (by decide +kernel) (by decide +kernel) ?_
  refine mx_calls (.invokevirtual 40) [289, 5, 3, 15] 289 3 [.ref 36, .int (xs 1), .int (xs 2), .int (xs 3)] [.int (-1)] [(0, .ref 36), (1, .int (xs 1)), (2, .int (xs 2)), (3, .int (xs 3))] (some (.int (-1))) hh_a203 0 0 0 0 0 0 287 [.int (-1), .int (-1)] ap_289 (by decide +kernel) rfl ⟨by decide +kernel, rfl, rfl, rfl, rfl⟩ (iv_a226 6 xs zf hz hk l1 l2 u2 u3) ?_
  refine mx_B 5 20 [(3, .int 6), (2, .ref 36), (1, .ref 21), (0, .ref 0)] [.ref 0, .int 6] (by decide +kernel) ?_
  refine mx_S (.arraylength) 1 [] 21 [(3, .int 6), (2, .ref 36), (1, .ref 21), (0, .ref 0)] [.int 6, .int 6] (by decide +kernel) rfl ?_
  refine mx_B 4 543 [(3, .int 6), (2, .ref 36), (1, .ref 21), (0, .ref 0)] [.int 1] (by decide +kernel) ?_
  exact mx_ret (some (.int 1)) (by decide +kernel) ⟨rfl, rfl⟩
theorem iv_a228 (L : Nat) (xs : Nat → Int32) (zf : Value) (hz : zf.category = 1) (hk : xs 0 &&& 15 = 5) (u1 : (xs 1).toInt ≤ (-1)) (l2 : 0 ≤ (xs 2).toInt) (u2 : (xs 2).toInt ≤ 4) (l3 : 0 ≤ (xs 3).toInt) (u3 : (xs 3).toInt ≤ 4) : mx_R L xs zf ah_M221 0 [(0, .ref 21), (1, .int (xs 1)), (2, .int (xs 2)), (3, .int (xs 3))] [] hh_a203 0 0 0 0 (fun v h' => v = some (.int (-1)) ∧ h' = hh_a203) := by
  refine mx_S (.iload_n 2) 1 [] 1 [(0, .ref 21), (1, .int (xs 1)), (2, .int (xs 2)), (3, .int (xs 3))] [.int (xs 2)] (by decide +kernel) rfl ?_
  refine mx_1 .lt 17 false 4 (mx_v1 .lt (x := (xs 2)) 0 4  l2 u2 (by decide +kernel)) (by decide +kernel) ?_
  refine mx_S (.iload_n 2) 1 [] 5 [(0, .ref 21), (1, .int (xs 1)), (2, .int (xs 2)), (3, .int (xs 3))] [.int (xs 2)] (by decide +kernel) rfl ?_
  refine mx_S (.iconst 5) 1 [] 6 [(0, .ref 21), (1, .int (xs 1)), (2, .int (xs 2)), (3, .int (xs 3))] [.int 5, .int (xs 2)] (by decide +kernel) rfl ?_
  refine mx_2 .ge 12 false 9 (mx_v2 .ge (x := (xs 2)) (y := 5) 0 4 5  l2 u2 (by decide +kernel) (by decide +kernel)) (by decide +kernel) ?_
  refine mx_S (.iload_n 3) 1 [] 10 [(0, .ref 21), (1, .int (xs 1)), (2, .int (xs 2)), (3, .int (xs 3))] [.int (xs 3)] (by decide +kernel) rfl ?_
  refine mx_1 .lt 8 false 13 (mx_v1 .lt (x := (xs 3)) 0 4  l3 u3 (by decide +kernel)) (by decide +kernel) ?_
  refine mx_S (.iload_n 3) 1 [] 14 [(0, .ref 21), (1, .int (xs 1)), (2, .int (xs 2)), (3, .int (xs 3))] [.int (xs 3)] (by decide +kernel) rfl ?_
  refine mx_S (.iconst 5) 1 [] 15 [(0, .ref 21), (1, .int (xs 1)), (2, .int (xs 2)), (3, .int (xs 3))] [.int 5, .int (xs 3)] (by decide +kernel) rfl ?_
  refine mx_2 .lt 5 true 20 (mx_v2 .lt (x := (xs 3)) (y := 5) 0 4 5  l3 u3 (by decide +kernel) (by decide +kernel)) (by decide +kernel) ?_
  refine mx_S (.iload_n 1) 1 [] 21 [(0, .ref 21), (1, .int (xs 1)), (2, .int (xs 2)), (3, .int (xs 3))] [.int (xs 1)] (by decide +kernel) rfl ?_
  refine mx_sd 67 0 3 #[31, 40, 49, 58] 31 88 (by decide +kernel) (by decide +kernel) (mx_swd (x := (xs 1)) 0 3 (-2147483648) (-1) (mx_lo _) u1 (by decide +kernel)) ?_
  refine mx_S (.iconst (-1)) 1 [] 89 [(0, .ref 21), (1, .int (xs 1)), (2, .int (xs 2)), (3, .int (xs 3))] [.int (-1)] (by decide +kernel) rfl ?_
  exact mx_ret (some (.int (-1))) (by decide +kernel) ⟨rfl, rfl⟩
theorem iv_a229 (L : Nat) (xs : Nat → Int32) (zf : Value) (hz : zf.category = 1) (hk : xs 0 &&& 15 = 5) (u1 : (xs 1).toInt ≤ (-1)) (l2 : 0 ≤ (xs 2).toInt) (u2 : (xs 2).toInt ≤ 4) (l3 : 0 ≤ (xs 3).toInt) (u3 : (xs 3).toInt ≤ 4) : mx_R L xs zf ah_M289 0 [(0, .ref 36), (1, .int (xs 1)), (2, .int (xs 2)), (3, .int (xs 3))] [] hh_a203 0 0 0 0 (fun v h' => v = some (.int (-1)) ∧ h' = hh_a203) := by
  refine mx_S (.iload_n 1) 1 [] 1 [(0, .ref 36), (1, .int (xs 1)), (2, .int (xs 2)), (3, .int (xs 3))] [.int (xs 1)] (by decide +kernel) rfl ?_
  refine mx_1 .lt 26 true 27 (mx_v1 .lt (x := (xs 1)) (-2147483648) (-1)  (mx_lo _) u1 (by decide +kernel)) (by decide +kernel) ?_
  refine mx_S (.iconst (-1)) 1 [] 28 [(0, .ref 36), (1, .int (xs 1)), (2, .int (xs 2)), (3, .int (xs 3))] [.int (-1)] (by decide +kernel) rfl ?_
  exact mx_ret (some (.int (-1))) (by decide +kernel) ⟨rfl, rfl⟩
theorem iv_a230 (xs : Nat → Int32) (zf : Value) (hz : zf.category = 1) (hk : xs 0 &&& 15 = 5) (u1 : (xs 1).toInt ≤ (-1)) (l2 : 0 ≤ (xs 2).toInt) (u2 : (xs 2).toInt ≤ 4) (l3 : 0 ≤ (xs 3).toInt) (u3 : (xs 3).toInt ≤ 4) : mx_R 6 xs zf ah_M0 18 [(3, .int 0), (2, .ref 36), (1, .ref 21), (0, .ref 0)] [] hh_a203 0 0 1 23 (fun v h' => v = some (.int 1) ∧ h' = hh_a203) := by
  refine mx_B 2 20 [(3, .int 0), (2, .ref 36), (1, .ref 21), (0, .ref 0)] [.ref 0, .int 0] (by decide +kernel) ?_
  refine mx_S (.arraylength) 1 [] 21 [(3, .int 0), (2, .ref 36), (1, .ref 21), (0, .ref 0)] [.int 6, .int 0] (by decide +kernel) rfl ?_
  refine mx_B 5 29 [(3, .int 0), (2, .ref 36), (1, .ref 21), (0, .ref 0)] [.int 0, .ref 0] (by decide +kernel) ?_
  refine mx_scr 6 0 30 (by decide +kernel) (by decide +kernel) (by decide +kernel) ?_
  refine mx_S (.bipush 15) 2 [] 32 [(3, .int 0), (2, .ref 36), (1, .ref 21), (0, .ref 0)] [.int 15, .int (xs 0)] (by decide +kernel) rfl ?_
  refine mx_S (.iand) 1 [] 33 [(3, .int 0), (2, .ref 36), (1, .ref 21), (0, .ref 0)] [.int ((xs 0) &&& 15)] (by decide +kernel) rfl ?_
  refine mx_eq 5 hk ?_
  refine mx_B 6 254 [(3, .int 0), (2, .ref 36), (1, .ref 21), (0, .ref 0)] [.int 1, .ref 0, .ref 21] (by decide +kernel) ?_
  refine mx_scr 6 1 255 (by decide +kernel) (by decide +kernel) (by decide +kernel) ?_
  refine mx_S (.aload_n 0) 1 [] 256 [(3, .int 0), (2, .ref 36), (1, .ref 21), (0, .ref 0)] [.ref 0, .int (xs 1), .ref 21] (by decide +kernel) rfl ?_
  refine mx_S (.iload_n 3) 1 [] 257 [(3, .int 0), (2, .ref 36), (1, .ref 21), (0, .ref 0)] [.int 0, .ref 0, .int (xs 1), .ref 21] (by decide +kernel) rfl ?_
  refine mx_S (.iconst 2) 1 [] 258 [(3, .int 0), (2, .ref 36), (1, .ref 21), (0, .ref 0)] [.int 2, .int 0, .ref 0, .int (xs 1), .ref 21] (by decide +kernel) rfl ?_
  refine mx_S (.iadd) 1 [] 259 [(3, .int 0), (2, .ref 36), (1, .ref 21), (0, .ref 0)] [.int 2, .ref 0, .int (xs 1), .ref 21] (by decide +kernel) rfl ?_
  refine mx_scr 6 2 260 (by decide +kernel) (by decide +kernel) (by decide +kernel) ?_
  refine mx_S (.aload_n 0) 1 [] 261 [(3, .int 0), (2, .ref 36), (1, .ref 21), (0, .ref 0)] [.ref 0, .int (xs 2), .int (xs 1), .ref 21] (by decide +kernel) rfl ?_
  refine mx_S (.iload_n 3) 1 [] 262 [(3, .int 0), (2, .ref 36), (1, .ref 21), (0, .ref 0)] [.int 0, .ref 0, .int (xs 2), .int (xs 1), .ref 21] (by decide +kernel) rfl ?_
  refine mx_S (.iconst 3) 1 [] 263 [(3, .int 0), (2, .ref 36), (1, .ref 21), (0, .ref 0)] [.int 3, .int 0, .ref 0, .int (xs 2), .int (xs 1), .ref 21] (by decide +kernel) rfl ?_
  refine mx_S (.iadd) 1 [] 264 [(3, .int 0), (2, .ref 36), (1, .ref 21), (0, .ref 0)] [.int 3, .ref 0, .int (xs 2), .int (xs 1), .ref 21] (by decide +kernel) rfl ?_
  refine mx_scr 6 3 265 (by decide +kernel) (by decide +kernel) (by decide +kernel) ?_
  refine mx_calls (.invokevirtual 36) [221, 5, 3, 0] 221 3 [.ref 21, .int (xs 1), .int (xs 2), .int (xs 3)] [] [(0, .ref 21), (1, .int (xs 1)), (2, .int (xs 2)), (3, .int (xs 3))] (some (.int (-1))) hh_a203 0 0 0 0 0 0 268 [.int (-1)] ap_221 (by decide +kernel) rfl ⟨by decide +kernel, rfl, rfl, rfl, rfl⟩ (iv_a228 6 xs zf hz hk u1 l2 u2 l3 u3) ?_
  refine mx_B 5 273 [(3, .int 0), (2, .ref 36), (1, .ref 21), (0, .ref 0)] [.int 1, .ref 0, .ref 36, .int (-1)] (by decide +kernel) ?_
  refine mx_scr 6 1 274 (by decide +kernel) (by decide +kernel) (by decide +kernel) ?_
  refine mx_S (.aload_n 0) 1 [] 275 [(3, .int 0), (2, .ref 36), (1, .ref 21), (0, .ref 0)] [.ref 0, .int (xs 1), .ref 36, .int (-1)] (by decide +kernel) rfl ?_
  refine mx_S (.iload_n 3) 1 [] 276 [(3, .int 0), (2, .ref 36), (1, .ref 21), (0, .ref 0)] [.int 0, .ref 0, .int (xs 1), .ref 36, .int (-1)] (by decide +kernel) rfl ?_
  refine mx_S (.iconst 2) 1 [] 277 [(3, .int 0), (2, .ref 36), (1, .ref 21), (0, .ref 0)] [.int 2, .int 0, .ref 0, .int (xs 1), .ref 36, .int (-1)] (by decide +kernel) rfl ?_
  refine mx_S (.iadd) 1 [] 278 [(3, .int 0), (2, .ref 36), (1, .ref 21), (0, .ref 0)] [.int 2, .ref 0, .int (xs 1), .ref 36, .int (-1)] (by decide +kernel) rfl ?_
  refine mx_scr 6 2 279 (by decide +kernel) (by decide +kernel) (by decide +kernel) ?_
  refine mx_S (.aload_n 0) 1 [] 280 [(3, .int 0), (2, .ref 36), (1, .ref 21), (0, .ref 0)] [.ref 0, .int (xs 2), .int (xs 1), .ref 36, .int (-1)] (by decide +kernel) rfl ?_
  refine mx_S (.iload_n 3) 1 [] 281 [(3, .int 0), (2, .ref 36), (1, .ref 21), (0, .ref 0)] [.int 0, .ref 0, .int (xs 2), .int (xs 1), .ref 36, .int (-1)] (by decide +kernel) rfl ?_
  refine mx_S (.iconst 3) 1 [] 282 [(3, .int 0), (2, .ref 36), (1, .ref 21), (0, .ref 0)] [.int 3, .int 0, .ref 0, .int (xs 2), .int (xs 1), .ref 36, .int (-1)] (by decide +kernel) rfl ?_
  refine mx_S (.iadd) 1 [] 283 [(3, .int 0), (2, .ref 36), (1, .ref 21), (0, .ref 0)] [.int 3, .ref 0, .int (xs 2), .int (xs 1), .ref 36, .int (-1)] (by decide +kernel) rfl ?_
  refine mx_scr 6 3 284 (by decide +kernel) (by decide +kernel) (by decide +kernel) ?_
  refine mx_calls (.invokevirtual 40) [289, 5, 3, 15] 289 3 [.ref 36, .int (xs 1), .int (xs 2), .int (xs 3)] [.int (-1)] [(0, .ref 36), (1, .int (xs 1)), (2, .int (xs 2)), (3, .int (xs 3))] (some (.int (-1))) hh_a203 0 0 0 0 0 0 287 [.int (-1), .int (-1)] ap_289 (by decide +kernel) rfl ⟨by decide +kernel, rfl, rfl, rfl, rfl⟩ (iv_a229 6 xs zf hz hk u1 l2 u2 l3 u3) ?_
  refine mx_B 5 20 [(3, .int 6), (2, .ref 36), (1, .ref 21), (0, .ref 0)] [.ref 0, .int 6] (by decide +kernel) ?_
  refine mx_S (.arraylength) 1 [] 21 [(3, .int 6), (2, .ref 36), (1, .ref 21), (0, .ref 0)] [.int 6, .int 6] (by decide +kernel) rfl ?_
  refine mx_B 4 543 [(3, .int 6), (2, .ref 36), (1, .ref 21), (0, .ref 0)] [.int 1] (by decide +kernel) ?_
  exact mx_ret (some (.int 1)) (by decide +kernel) ⟨rfl, rfl⟩
theorem iv_a231 (L : Nat) (xs : Nat → Int32) (zf : Value) (hz : zf.category = 1) : mx_R L xs zf ah_M190 0 [(0, .ref 1), (1, .int 0), (2, .int 0)] [] hh_a203 0 0 0 0 (fun v h' => v = some (.int 1) ∧ h' = hh_a203) := by
  refine mx_B 12 22 [(0, .ref 1), (1, .int 0), (2, .int 0)] [.int 0, .ref 1] (by decide +kernel) ?_
  refine mx_B 5 27 [(0, .ref 1), (1, .int 0), (2, .int 0)] [.int 1] (by decide +kernel) ?_
  exact mx_ret (some (.int 1)) (by decide +kernel) ⟨rfl, rfl⟩
theorem iv_a232 (L : Nat) (xs : Nat → Int32) (zf : Value) (hz : zf.category = 1) : mx_R L xs zf ah_M221 0 [(0, .ref 21), (1, .int 0), (2, .int 0), (3, .int 0)] [] hh_a203 0 0 1 22 (fun v h' => v = some (.int 1) ∧ h' = hh_a203) := by
  refine mx_B 12 52 [(0, .ref 21), (1, .int 0), (2, .int 0), (3, .int 0)] [] (by decide +kernel) ?_
  refine mx_B 3 57 [(0, .ref 21), (1, .int 0), (2, .int 0), (3, .int 0)] [.int 0, .int 0, .ref 1] (by decide +kernel) ?_
  refine mx_call 190 3 [.ref 1, .int 0, .int 0] [] [(0, .ref 1), (1, .int 0), (2, .int 0)] (some (.int 1)) hh_a203 0 0 0 0 0 0 60 [.int 1] ap_190 (by decide +kernel) (by decide +kernel) (iv_a231 L xs zf hz) ?_
  exact mx_ret (some (.int 1)) (by decide +kernel) ⟨rfl, rfl⟩
theorem iv_a233 (L : Nat) (xs : Nat → Int32) (zf : Value) (hz : zf.category = 1) : mx_R L xs zf ah_M290 0 [(0, .int 0), (1, .int 0)] [] hh_a203 0 0 0 0 (fun v h' => v = some (.int 1) ∧ h' = hh_a203) := by
  refine mx_B 3 33 [(0, .int 0), (1, .int 0)] [.int 1] (by decide +kernel) ?_
  exact mx_ret (some (.int 1)) (by decide +kernel) ⟨rfl, rfl⟩
theorem iv_a234 (L : Nat) (xs : Nat → Int32) (zf : Value) (hz : zf.category = 1) : mx_R L xs zf ah_M289 0 [(0, .ref 36), (1, .int 0), (2, .int 0), (3, .int 0)] [] hh_a203 0 0 1 21 (fun v h' => v = some (.int 1) ∧ h' = hh_a203) := by
  refine mx_B 12 22 [(0, .ref 36), (1, .int 0), (2, .int 0), (3, .int 0)] [] (by decide +kernel) ?_
  refine mx_B 7 35 [(0, .ref 36), (1, .int 0), (2, .int 0), (3, .int 0)] [.int 0, .int 0] (by decide +kernel) ?_
  refine mx_call 290 3 [.int 0, .int 0] [] [(0, .int 0), (1, .int 0)] (some (.int 1)) hh_a203 0 0 0 0 0 0 38 [.int 1] ap_290 (by decide +kernel) (by decide +kernel) (iv_a233 L xs zf hz) ?_
  refine mx_B 3 46 [(0, .ref 36), (1, .int 0), (2, .int 0), (3, .int 0)] [.int 1] (by decide +kernel) ?_
  exact mx_ret (some (.int 1)) (by decide +kernel) ⟨rfl, rfl⟩
theorem iv_a235 (xs : Nat → Int32) (zf : Value) (hz : zf.category = 1) (hk : xs 0 &&& 15 = 5) (l1 : 0 ≤ (xs 1).toInt) (u1 : (xs 1).toInt ≤ 0) (l2 : 0 ≤ (xs 2).toInt) (u2 : (xs 2).toInt ≤ 0) (l3 : 0 ≤ (xs 3).toInt) (u3 : (xs 3).toInt ≤ 0) : mx_R 6 xs zf ah_M0 18 [(3, .int 0), (2, .ref 36), (1, .ref 21), (0, .ref 0)] [] hh_a203 0 0 2 45 (fun v h' => v = some (.int 1) ∧ h' = hh_a203) := by
  refine mx_B 2 20 [(3, .int 0), (2, .ref 36), (1, .ref 21), (0, .ref 0)] [.ref 0, .int 0] (by decide +kernel) ?_
  refine mx_S (.arraylength) 1 [] 21 [(3, .int 0), (2, .ref 36), (1, .ref 21), (0, .ref 0)] [.int 6, .int 0] (by decide +kernel) rfl ?_
  refine mx_B 5 29 [(3, .int 0), (2, .ref 36), (1, .ref 21), (0, .ref 0)] [.int 0, .ref 0] (by decide +kernel) ?_
  refine mx_scr 6 0 30 (by decide +kernel) (by decide +kernel) (by decide +kernel) ?_
  refine mx_S (.bipush 15) 2 [] 32 [(3, .int 0), (2, .ref 36), (1, .ref 21), (0, .ref 0)] [.int 15, .int (xs 0)] (by decide +kernel) rfl ?_
  refine mx_S (.iand) 1 [] 33 [(3, .int 0), (2, .ref 36), (1, .ref 21), (0, .ref 0)] [.int ((xs 0) &&& 15)] (by decide +kernel) rfl ?_
  refine mx_eq 5 hk ?_
  refine mx_B 6 254 [(3, .int 0), (2, .ref 36), (1, .ref 21), (0, .ref 0)] [.int 1, .ref 0, .ref 21] (by decide +kernel) ?_
  refine mx_scr 6 1 255 (by decide +kernel) (by decide +kernel) (by decide +kernel) ?_
  refine mx_eq 0 (mx_pt l1 u1 (by decide +kernel)) ?_
  refine mx_B 4 259 [(3, .int 0), (2, .ref 36), (1, .ref 21), (0, .ref 0)] [.int 2, .ref 0, .int 0, .ref 21] (by decide +kernel) ?_
  refine mx_scr 6 2 260 (by decide +kernel) (by decide +kernel) (by decide +kernel) ?_
  refine mx_eq 0 (mx_pt l2 u2 (by decide +kernel)) ?_
  refine mx_B 4 264 [(3, .int 0), (2, .ref 36), (1, .ref 21), (0, .ref 0)] [.int 3, .ref 0, .int 0, .int 0, .ref 21] (by decide +kernel) ?_
  refine mx_scr 6 3 265 (by decide +kernel) (by decide +kernel) (by decide +kernel) ?_
  refine mx_eq 0 (mx_pt l3 u3 (by decide +kernel)) ?_
  refine mx_call 221 3 [.ref 21, .int 0, .int 0, .int 0] [] [(0, .ref 21), (1, .int 0), (2, .int 0), (3, .int 0)] (some (.int 1)) hh_a203 0 0 1 22 0 0 268 [.int 1] ap_221 (by decide +kernel) (by decide +kernel) (iv_a232 6 xs zf hz) ?_
  refine mx_B 5 273 [(3, .int 0), (2, .ref 36), (1, .ref 21), (0, .ref 0)] [.int 1, .ref 0, .ref 36, .int 1] (by decide +kernel) ?_
  refine mx_scr 6 1 274 (by decide +kernel) (by decide +kernel) (by decide +kernel) ?_
  refine mx_eq 0 (mx_pt l1 u1 (by decide +kernel)) ?_
  refine mx_B 4 278 [(3, .int 0), (2, .ref 36), (1, .ref 21), (0, .ref 0)] [.int 2, .ref 0, .int 0, .ref 36, .int 1] (by decide +kernel) ?_
  refine mx_scr 6 2 279 (by decide +kernel) (by decide +kernel) (by decide +kernel) ?_
  refine mx_eq 0 (mx_pt l2 u2 (by decide +kernel)) ?_
  refine mx_B 4 283 [(3, .int 0), (2, .ref 36), (1, .ref 21), (0, .ref 0)] [.int 3, .ref 0, .int 0, .int 0, .ref 36, .int 1] (by decide +kernel) ?_
  refine mx_scr 6 3 284 (by decide +kernel) (by decide +kernel) (by decide +kernel) ?_
  refine mx_eq 0 (mx_pt l3 u3 (by decide +kernel)) ?_
  refine mx_call 289 3 [.ref 36, .int 0, .int 0, .int 0] [.int 1] [(0, .ref 36), (1, .int 0), (2, .int 0), (3, .int 0)] (some (.int 1)) hh_a203 0 0 1 21 0 0 287 [.int 1, .int 1] ap_289 (by decide +kernel) (by decide +kernel) (iv_a234 6 xs zf hz) ?_
  refine mx_B 5 20 [(3, .int 6), (2, .ref 36), (1, .ref 21), (0, .ref 0)] [.ref 0, .int 6] (by decide +kernel) ?_
  refine mx_S (.arraylength) 1 [] 21 [(3, .int 6), (2, .ref 36), (1, .ref 21), (0, .ref 0)] [.int 6, .int 6] (by decide +kernel) rfl ?_
  refine mx_B 4 543 [(3, .int 6), (2, .ref 36), (1, .ref 21), (0, .ref 0)] [.int 1] (by decide +kernel) ?_
  exact mx_ret (some (.int 1)) (by decide +kernel) ⟨rfl, rfl⟩
theorem iv_a236 (L : Nat) (xs : Nat → Int32) (zf : Value) (hz : zf.category = 1) : mx_R L xs zf ah_M190 0 [(0, .ref 1), (1, .int 0), (2, .int 1)] [] hh_a203 0 0 0 0 (fun v h' => v = some (.int 1) ∧ h' = hh_a203) := by
  refine mx_B 12 22 [(0, .ref 1), (1, .int 0), (2, .int 1)] [.int 0, .ref 1] (by decide +kernel) ?_
  refine mx_B 5 27 [(0, .ref 1), (1, .int 0), (2, .int 1)] [.int 1] (by decide +kernel) ?_
  exact mx_ret (some (.int 1)) (by decide +kernel) ⟨rfl, rfl⟩
theorem iv_a237 (L : Nat) (xs : Nat → Int32) (zf : Value) (hz : zf.category = 1) : mx_R L xs zf ah_M221 0 [(0, .ref 21), (1, .int 0), (2, .int 0), (3, .int 1)] [] hh_a203 0 0 1 22 (fun v h' => v = some (.int 1) ∧ h' = hh_a203) := by
  refine mx_B 12 52 [(0, .ref 21), (1, .int 0), (2, .int 0), (3, .int 1)] [] (by decide +kernel) ?_
  refine mx_B 3 57 [(0, .ref 21), (1, .int 0), (2, .int 0), (3, .int 1)] [.int 1, .int 0, .ref 1] (by decide +kernel) ?_
  refine mx_call 190 3 [.ref 1, .int 0, .int 1] [] [(0, .ref 1), (1, .int 0), (2, .int 1)] (some (.int 1)) hh_a203 0 0 0 0 0 0 60 [.int 1] ap_190 (by decide +kernel) (by decide +kernel) (iv_a236 L xs zf hz) ?_
  exact mx_ret (some (.int 1)) (by decide +kernel) ⟨rfl, rfl⟩
theorem iv_a238 (L : Nat) (xs : Nat → Int32) (zf : Value) (hz : zf.category = 1) : mx_R L xs zf ah_M290 0 [(0, .int 0), (1, .int 1)] [] hh_a203 0 0 0 0 (fun v h' => v = some (.int 1) ∧ h' = hh_a203) := by
  refine mx_B 3 33 [(0, .int 0), (1, .int 1)] [.int 1] (by decide +kernel) ?_
  exact mx_ret (some (.int 1)) (by decide +kernel) ⟨rfl, rfl⟩
theorem iv_a239 (L : Nat) (xs : Nat → Int32) (zf : Value) (hz : zf.category = 1) : mx_R L xs zf ah_M289 0 [(0, .ref 36), (1, .int 0), (2, .int 0), (3, .int 1)] [] hh_a203 0 0 1 21 (fun v h' => v = some (.int 1) ∧ h' = hh_a203) := by
  refine mx_B 12 22 [(0, .ref 36), (1, .int 0), (2, .int 0), (3, .int 1)] [] (by decide +kernel) ?_
  refine mx_B 7 35 [(0, .ref 36), (1, .int 0), (2, .int 0), (3, .int 1)] [.int 1, .int 0] (by decide +kernel) ?_
  refine mx_call 290 3 [.int 0, .int 1] [] [(0, .int 0), (1, .int 1)] (some (.int 1)) hh_a203 0 0 0 0 0 0 38 [.int 1] ap_290 (by decide +kernel) (by decide +kernel) (iv_a238 L xs zf hz) ?_
  refine mx_B 3 46 [(0, .ref 36), (1, .int 0), (2, .int 0), (3, .int 1)] [.int 1] (by decide +kernel) ?_
  exact mx_ret (some (.int 1)) (by decide +kernel) ⟨rfl, rfl⟩
theorem iv_a240 (xs : Nat → Int32) (zf : Value) (hz : zf.category = 1) (hk : xs 0 &&& 15 = 5) (l1 : 0 ≤ (xs 1).toInt) (u1 : (xs 1).toInt ≤ 0) (l2 : 0 ≤ (xs 2).toInt) (u2 : (xs 2).toInt ≤ 0) (l3 : 1 ≤ (xs 3).toInt) (u3 : (xs 3).toInt ≤ 1) : mx_R 6 xs zf ah_M0 18 [(3, .int 0), (2, .ref 36), (1, .ref 21), (0, .ref 0)] [] hh_a203 0 0 2 45 (fun v h' => v = some (.int 1) ∧ h' = hh_a203) := by
  refine mx_B 2 20 [(3, .int 0), (2, .ref 36), (1, .ref 21), (0, .ref 0)] [.ref 0, .int 0] (by decide +kernel) ?_
  refine mx_S (.arraylength) 1 [] 21 [(3, .int 0), (2, .ref 36), (1, .ref 21), (0, .ref 0)] [.int 6, .int 0] (by decide +kernel) rfl ?_
  refine mx_B 5 29 [(3, .int 0), (2, .ref 36), (1, .ref 21), (0, .ref 0)] [.int 0, .ref 0] (by decide +kernel) ?_
  refine mx_scr 6 0 30 (by decide +kernel) (by decide +kernel) (by decide +kernel) ?_
  refine mx_S (.bipush 15) 2 [] 32 [(3, .int 0), (2, .ref 36), (1, .ref 21), (0, .ref 0)] [.int 15, .int (xs 0)] (by decide +kernel) rfl ?_
  refine mx_S (.iand) 1 [] 33 [(3, .int 0), (2, .ref 36), (1, .ref 21), (0, .ref 0)] [.int ((xs 0) &&& 15)] (by decide +kernel) rfl ?_
  refine mx_eq 5 hk ?_
  refine mx_B 6 254 [(3, .int 0), (2, .ref 36), (1, .ref 21), (0, .ref 0)] [.int 1, .ref 0, .ref 21] (by decide +kernel) ?_
  refine mx_scr 6 1 255 (by decide +kernel) (by decide +kernel) (by decide +kernel) ?_
  refine mx_eq 0 (mx_pt l1 u1 (by decide +kernel)) ?_
  refine mx_B 4 259 [(3, .int 0), (2, .ref 36), (1, .ref 21), (0, .ref 0)] [.int 2, .ref 0, .int 0, .ref 21] (by decide +kernel) ?_
  refine mx_scr 6 2 260 (by decide +kernel) (by decide +kernel) (by decide +kernel) ?_
  refine mx_eq 0 (mx_pt l2 u2 (by decide +kernel)) ?_
  refine mx_B 4 264 [(3, .int 0), (2, .ref 36), (1, .ref 21), (0, .ref 0)] [.int 3, .ref 0, .int 0, .int 0, .ref 21] (by decide +kernel) ?_
  refine mx_scr 6 3 265 (by decide +kernel) (by decide +kernel) (by decide +kernel) ?_
  refine mx_eq 1 (mx_pt l3 u3 (by decide +kernel)) ?_
  refine mx_call 221 3 [.ref 21, .int 0, .int 0, .int 1] [] [(0, .ref 21), (1, .int 0), (2, .int 0), (3, .int 1)] (some (.int 1)) hh_a203 0 0 1 22 0 0 268 [.int 1] ap_221 (by decide +kernel) (by decide +kernel) (iv_a237 6 xs zf hz) ?_
  refine mx_B 5 273 [(3, .int 0), (2, .ref 36), (1, .ref 21), (0, .ref 0)] [.int 1, .ref 0, .ref 36, .int 1] (by decide +kernel) ?_
  refine mx_scr 6 1 274 (by decide +kernel) (by decide +kernel) (by decide +kernel) ?_
  refine mx_eq 0 (mx_pt l1 u1 (by decide +kernel)) ?_
  refine mx_B 4 278 [(3, .int 0), (2, .ref 36), (1, .ref 21), (0, .ref 0)] [.int 2, .ref 0, .int 0, .ref 36, .int 1] (by decide +kernel) ?_
  refine mx_scr 6 2 279 (by decide +kernel) (by decide +kernel) (by decide +kernel) ?_
  refine mx_eq 0 (mx_pt l2 u2 (by decide +kernel)) ?_
  refine mx_B 4 283 [(3, .int 0), (2, .ref 36), (1, .ref 21), (0, .ref 0)] [.int 3, .ref 0, .int 0, .int 0, .ref 36, .int 1] (by decide +kernel) ?_
  refine mx_scr 6 3 284 (by decide +kernel) (by decide +kernel) (by decide +kernel) ?_
  refine mx_eq 1 (mx_pt l3 u3 (by decide +kernel)) ?_
  refine mx_call 289 3 [.ref 36, .int 0, .int 0, .int 1] [.int 1] [(0, .ref 36), (1, .int 0), (2, .int 0), (3, .int 1)] (some (.int 1)) hh_a203 0 0 1 21 0 0 287 [.int 1, .int 1] ap_289 (by decide +kernel) (by decide +kernel) (iv_a239 6 xs zf hz) ?_
  refine mx_B 5 20 [(3, .int 6), (2, .ref 36), (1, .ref 21), (0, .ref 0)] [.ref 0, .int 6] (by decide +kernel) ?_
  refine mx_S (.arraylength) 1 [] 21 [(3, .int 6), (2, .ref 36), (1, .ref 21), (0, .ref 0)] [.int 6, .int 6] (by decide +kernel) rfl ?_
  refine mx_B 4 543 [(3, .int 6), (2, .ref 36), (1, .ref 21), (0, .ref 0)] [.int 1] (by decide +kernel) ?_
  exact mx_ret (some (.int 1)) (by decide +kernel) ⟨rfl, rfl⟩
theorem iv_a241 (L : Nat) (xs : Nat → Int32) (zf : Value) (hz : zf.category = 1) : mx_R L xs zf ah_M190 0 [(0, .ref 1), (1, .int 0), (2, .int 2)] [] hh_a203 0 0 0 0 (fun v h' => v = some (.int 1) ∧ h' = hh_a203) := by
  refine mx_B 12 22 [(0, .ref 1), (1, .int 0), (2, .int 2)] [.int 0, .ref 1] (by decide +kernel) ?_
  refine mx_B 5 27 [(0, .ref 1), (1, .int 0), (2, .int 2)] [.int 1] (by decide +kernel) ?_
  exact mx_ret (some (.int 1)) (by decide +kernel) ⟨rfl, rfl⟩
theorem iv_a242 (L : Nat) (xs : Nat → Int32) (zf : Value) (hz : zf.category = 1) : mx_R L xs zf ah_M221 0 [(0, .ref 21), (1, .int 0), (2, .int 0), (3, .int 2)] [] hh_a203 0 0 1 22 (fun v h' => v = some (.int 1) ∧ h' = hh_a203) := by
  refine mx_B 12 52 [(0, .ref 21), (1, .int 0), (2, .int 0), (3, .int 2)] [] (by decide +kernel) ?_
  refine mx_B 3 57 [(0, .ref 21), (1, .int 0), (2, .int 0), (3, .int 2)] [.int 2, .int 0, .ref 1] (by decide +kernel) ?_
  refine mx_call 190 3 [.ref 1, .int 0, .int 2] [] [(0, .ref 1), (1, .int 0), (2, .int 2)] (some (.int 1)) hh_a203 0 0 0 0 0 0 60 [.int 1] ap_190 (by decide +kernel) (by decide +kernel) (iv_a241 L xs zf hz) ?_
  exact mx_ret (some (.int 1)) (by decide +kernel) ⟨rfl, rfl⟩
theorem iv_a243 (L : Nat) (xs : Nat → Int32) (zf : Value) (hz : zf.category = 1) : mx_R L xs zf ah_M290 0 [(0, .int 0), (1, .int 2)] [] hh_a203 0 0 0 0 (fun v h' => v = some (.int 1) ∧ h' = hh_a203) := by
  refine mx_B 3 33 [(0, .int 0), (1, .int 2)] [.int 1] (by decide +kernel) ?_
  exact mx_ret (some (.int 1)) (by decide +kernel) ⟨rfl, rfl⟩
theorem iv_a244 (L : Nat) (xs : Nat → Int32) (zf : Value) (hz : zf.category = 1) : mx_R L xs zf ah_M289 0 [(0, .ref 36), (1, .int 0), (2, .int 0), (3, .int 2)] [] hh_a203 0 0 1 21 (fun v h' => v = some (.int 1) ∧ h' = hh_a203) := by
  refine mx_B 12 22 [(0, .ref 36), (1, .int 0), (2, .int 0), (3, .int 2)] [] (by decide +kernel) ?_
  refine mx_B 7 35 [(0, .ref 36), (1, .int 0), (2, .int 0), (3, .int 2)] [.int 2, .int 0] (by decide +kernel) ?_
  refine mx_call 290 3 [.int 0, .int 2] [] [(0, .int 0), (1, .int 2)] (some (.int 1)) hh_a203 0 0 0 0 0 0 38 [.int 1] ap_290 (by decide +kernel) (by decide +kernel) (iv_a243 L xs zf hz) ?_
  refine mx_B 3 46 [(0, .ref 36), (1, .int 0), (2, .int 0), (3, .int 2)] [.int 1] (by decide +kernel) ?_
  exact mx_ret (some (.int 1)) (by decide +kernel) ⟨rfl, rfl⟩
theorem iv_a245 (xs : Nat → Int32) (zf : Value) (hz : zf.category = 1) (hk : xs 0 &&& 15 = 5) (l1 : 0 ≤ (xs 1).toInt) (u1 : (xs 1).toInt ≤ 0) (l2 : 0 ≤ (xs 2).toInt) (u2 : (xs 2).toInt ≤ 0) (l3 : 2 ≤ (xs 3).toInt) (u3 : (xs 3).toInt ≤ 2) : mx_R 6 xs zf ah_M0 18 [(3, .int 0), (2, .ref 36), (1, .ref 21), (0, .ref 0)] [] hh_a203 0 0 2 45 (fun v h' => v = some (.int 1) ∧ h' = hh_a203) := by
  refine mx_B 2 20 [(3, .int 0), (2, .ref 36), (1, .ref 21), (0, .ref 0)] [.ref 0, .int 0] (by decide +kernel) ?_
  refine mx_S (.arraylength) 1 [] 21 [(3, .int 0), (2, .ref 36), (1, .ref 21), (0, .ref 0)] [.int 6, .int 0] (by decide +kernel) rfl ?_
  refine mx_B 5 29 [(3, .int 0), (2, .ref 36), (1, .ref 21), (0, .ref 0)] [.int 0, .ref 0] (by decide +kernel) ?_
  refine mx_scr 6 0 30 (by decide +kernel) (by decide +kernel) (by decide +kernel) ?_
  refine mx_S (.bipush 15) 2 [] 32 [(3, .int 0), (2, .ref 36), (1, .ref 21), (0, .ref 0)] [.int 15, .int (xs 0)] (by decide +kernel) rfl ?_
  refine mx_S (.iand) 1 [] 33 [(3, .int 0), (2, .ref 36), (1, .ref 21), (0, .ref 0)] [.int ((xs 0) &&& 15)] (by decide +kernel) rfl ?_
  refine mx_eq 5 hk ?_
  refine mx_B 6 254 [(3, .int 0), (2, .ref 36), (1, .ref 21), (0, .ref 0)] [.int 1, .ref 0, .ref 21] (by decide +kernel) ?_
  refine mx_scr 6 1 255 (by decide +kernel) (by decide +kernel) (by decide +kernel) ?_
  refine mx_eq 0 (mx_pt l1 u1 (by decide +kernel)) ?_
  refine mx_B 4 259 [(3, .int 0), (2, .ref 36), (1, .ref 21), (0, .ref 0)] [.int 2, .ref 0, .int 0, .ref 21] (by decide +kernel) ?_
  refine mx_scr 6 2 260 (by decide +kernel) (by decide +kernel) (by decide +kernel) ?_
  refine mx_eq 0 (mx_pt l2 u2 (by decide +kernel)) ?_
  refine mx_B 4 264 [(3, .int 0), (2, .ref 36), (1, .ref 21), (0, .ref 0)] [.int 3, .ref 0, .int 0, .int 0, .ref 21] (by decide +kernel) ?_
  refine mx_scr 6 3 265 (by decide +kernel) (by decide +kernel) (by decide +kernel) ?_
  refine mx_eq 2 (mx_pt l3 u3 (by decide +kernel)) ?_
  refine mx_call 221 3 [.ref 21, .int 0, .int 0, .int 2] [] [(0, .ref 21), (1, .int 0), (2, .int 0), (3, .int 2)] (some (.int 1)) hh_a203 0 0 1 22 0 0 268 [.int 1] ap_221 (by decide +kernel) (by decide +kernel) (iv_a242 6 xs zf hz) ?_
  refine mx_B 5 273 [(3, .int 0), (2, .ref 36), (1, .ref 21), (0, .ref 0)] [.int 1, .ref 0, .ref 36, .int 1] (by decide +kernel) ?_
  refine mx_scr 6 1 274 (by decide +kernel) (by decide +kernel) (by decide +kernel) ?_
  refine mx_eq 0 (mx_pt l1 u1 (by decide +kernel)) ?_
  refine mx_B 4 278 [(3, .int 0), (2, .ref 36), (1, .ref 21), (0, .ref 0)] [.int 2, .ref 0, .int 0, .ref 36, .int 1] (by decide +kernel) ?_
  refine mx_scr 6 2 279 (by decide +kernel) (by decide +kernel) (by decide +kernel) ?_
  refine mx_eq 0 (mx_pt l2 u2 (by decide +kernel)) ?_
  refine mx_B 4 283 [(3, .int 0), (2, .ref 36), (1, .ref 21), (0, .ref 0)] [.int 3, .ref 0, .int 0, .int 0, .ref 36, .int 1] (by decide +kernel) ?_
  refine mx_scr 6 3 284 (by decide +kernel) (by decide +kernel) (by decide +kernel) ?_
  refine mx_eq 2 (mx_pt l3 u3 (by decide +kernel)) ?_
  refine mx_call 289 3 [.ref 36, .int 0, .int 0, .int 2] [.int 1] [(0, .ref 36), (1, .int 0), (2, .int 0), (3, .int 2)] (some (.int 1)) hh_a203 0 0 1 21 0 0 287 [.int 1, .int 1] ap_289 (by decide +kernel) (by decide +kernel) (iv_a244 6 xs zf hz) ?_
  refine mx_B 5 20 [(3, .int 6), (2, .ref 36), (1, .ref 21), (0, .ref 0)] [.ref 0, .int 6] (by decide +kernel) ?_
  refine mx_S (.arraylength) 1 [] 21 [(3, .int 6), (2, .ref 36), (1, .ref 21), (0, .ref 0)] [.int 6, .int 6] (by decide +kernel) rfl ?_
  refine mx_B 4 543 [(3, .int 6), (2, .ref 36), (1, .ref 21), (0, .ref 0)] [.int 1] (by decide +kernel) ?_
  exact mx_ret (some (.int 1)) (by decide +kernel) ⟨rfl, rfl⟩
theorem iv_a246 (L : Nat) (xs : Nat → Int32) (zf : Value) (hz : zf.category = 1) : mx_R L xs zf ah_M190 0 [(0, .ref 1), (1, .int 0), (2, .int 3)] [] hh_a203 0 0 0 0 (fun v h' => v = some (.int 1) ∧ h' = hh_a203) := by
  refine mx_B 12 22 [(0, .ref 1), (1, .int 0), (2, .int 3)] [.int 0, .ref 1] (by decide +kernel) ?_
  refine mx_B 5 27 [(0, .ref 1), (1, .int 0), (2, .int 3)] [.int 1] (by decide +kernel) ?_
  exact mx_ret (some (.int 1)) (by decide +kernel) ⟨rfl, rfl⟩
theorem iv_a247 (L : Nat) (xs : Nat → Int32) (zf : Value) (hz : zf.category = 1) : mx_R L xs zf ah_M221 0 [(0, .ref 21), (1, .int 0), (2, .int 0), (3, .int 3)] [] hh_a203 0 0 1 22 (fun v h' => v = some (.int 1) ∧ h' = hh_a203) := by
  refine mx_B 12 52 [(0, .ref 21), (1, .int 0), (2, .int 0), (3, .int 3)] [] (by decide +kernel) ?_
  refine mx_B 3 57 [(0, .ref 21), (1, .int 0), (2, .int 0), (3, .int 3)] [.int 3, .int 0, .ref 1] (by decide +kernel) ?_
  refine mx_call 190 3 [.ref 1, .int 0, .int 3] [] [(0, .ref 1), (1, .int 0), (2, .int 3)] (some (.int 1)) hh_a203 0 0 0 0 0 0 60 [.int 1] ap_190 (by decide +kernel) (by decide +kernel) (iv_a246 L xs zf hz) ?_
  exact mx_ret (some (.int 1)) (by decide +kernel) ⟨rfl, rfl⟩
theorem iv_a248 (L : Nat) (xs : Nat → Int32) (zf : Value) (hz : zf.category = 1) : mx_R L xs zf ah_M290 0 [(0, .int 0), (1, .int 3)] [] hh_a203 0 0 0 0 (fun v h' => v = some (.int 1) ∧ h' = hh_a203) := by
  refine mx_B 3 33 [(0, .int 0), (1, .int 3)] [.int 1] (by decide +kernel) ?_
  exact mx_ret (some (.int 1)) (by decide +kernel) ⟨rfl, rfl⟩
theorem iv_a249 (L : Nat) (xs : Nat → Int32) (zf : Value) (hz : zf.category = 1) : mx_R L xs zf ah_M289 0 [(0, .ref 36), (1, .int 0), (2, .int 0), (3, .int 3)] [] hh_a203 0 0 1 21 (fun v h' => v = some (.int 1) ∧ h' = hh_a203) := by
  refine mx_B 12 22 [(0, .ref 36), (1, .int 0), (2, .int 0), (3, .int 3)] [] (by decide +kernel) ?_
  refine mx_B 7 35 [(0, .ref 36), (1, .int 0), (2, .int 0), (3, .int 3)] [.int 3, .int 0] (by decide +kernel) ?_
  refine mx_call 290 3 [.int 0, .int 3] [] [(0, .int 0), (1, .int 3)] (some (.int 1)) hh_a203 0 0 0 0 0 0 38 [.int 1] ap_290 (by decide +kernel) (by decide +kernel) (iv_a248 L xs zf hz) ?_
  refine mx_B 3 46 [(0, .ref 36), (1, .int 0), (2, .int 0), (3, .int 3)] [.int 1] (by decide +kernel) ?_
  exact mx_ret (some (.int 1)) (by decide +kernel) ⟨rfl, rfl⟩
theorem iv_a250 (xs : Nat → Int32) (zf : Value) (hz : zf.category = 1) (hk : xs 0 &&& 15 = 5) (l1 : 0 ≤ (xs 1).toInt) (u1 : (xs 1).toInt ≤ 0) (l2 : 0 ≤ (xs 2).toInt) (u2 : (xs 2).toInt ≤ 0) (l3 : 3 ≤ (xs 3).toInt) (u3 : (xs 3).toInt ≤ 3) : mx_R 6 xs zf ah_M0 18 [(3, .int 0), (2, .ref 36), (1, .ref 21), (0, .ref 0)] [] hh_a203 0 0 2 45 (fun v h' => v = some (.int 1) ∧ h' = hh_a203) := by
  refine mx_B 2 20 [(3, .int 0), (2, .ref 36), (1, .ref 21), (0, .ref 0)] [.ref 0, .int 0] (by decide +kernel) ?_
  refine mx_S (.arraylength) 1 [] 21 [(3, .int 0), (2, .ref 36), (1, .ref 21), (0, .ref 0)] [.int 6, .int 0] (by decide +kernel) rfl ?_
  refine mx_B 5 29 [(3, .int 0), (2, .ref 36), (1, .ref 21), (0, .ref 0)] [.int 0, .ref 0] (by decide +kernel) ?_
  refine mx_scr 6 0 30 (by decide +kernel) (by decide +kernel) (by decide +kernel) ?_
  refine mx_S (.bipush 15) 2 [] 32 [(3, .int 0), (2, .ref 36), (1, .ref 21), (0, .ref 0)] [.int 15, .int (xs 0)] (by decide +kernel) rfl ?_
  refine mx_S (.iand) 1 [] 33 [(3, .int 0), (2, .ref 36), (1, .ref 21), (0, .ref 0)] [.int ((xs 0) &&& 15)] (by decide +kernel) rfl ?_
  refine mx_eq 5 hk ?_
  refine mx_B 6 254 [(3, .int 0), (2, .ref 36), (1, .ref 21), (0, .ref 0)] [.int 1, .ref 0, .ref 21] (by decide +kernel) ?_
  refine mx_scr 6 1 255 (by decide +kernel) (by decide +kernel) (by decide +kernel) ?_
  refine mx_eq 0 (mx_pt l1 u1 (by decide +kernel)) ?_
  refine mx_B 4 259 [(3, .int 0), (2, .ref 36), (1, .ref 21), (0, .ref 0)] [.int 2, .ref 0, .int 0, .ref 21] (by decide +kernel) ?_
  refine mx_scr 6 2 260 (by decide +kernel) (by decide +kernel) (by decide +kernel) ?_
  refine mx_eq 0 (mx_pt l2 u2 (by decide +kernel)) ?_
  refine mx_B 4 264 [(3, .int 0), (2, .ref 36), (1, .ref 21), (0, .ref 0)] [.int 3, .ref 0, .int 0, .int 0, .ref 21] (by decide +kernel) ?_
  refine mx_scr 6 3 265 (by decide +kernel) (by decide +kernel) (by decide +kernel) ?_
  refine mx_eq 3 (mx_pt l3 u3 (by decide +kernel)) ?_
  refine mx_call 221 3 [.ref 21, .int 0, .int 0, .int 3] [] [(0, .ref 21), (1, .int 0), (2, .int 0), (3, .int 3)] (some (.int 1)) hh_a203 0 0 1 22 0 0 268 [.int 1] ap_221 (by decide +kernel) (by decide +kernel) (iv_a247 6 xs zf hz) ?_
  refine mx_B 5 273 [(3, .int 0), (2, .ref 36), (1, .ref 21), (0, .ref 0)] [.int 1, .ref 0, .ref 36, .int 1] (by decide +kernel) ?_
  refine mx_scr 6 1 274 (by decide +kernel) (by decide +kernel) (by decide +kernel) ?_
  refine mx_eq 0 (mx_pt l1 u1 (by decide +kernel)) ?_
  refine mx_B 4 278 [(3, .int 0), (2, .ref 36), (1, .ref 21), (0, .ref 0)] [.int 2, .ref 0, .int 0, .ref 36, .int 1] (by decide +kernel) ?_
  refine mx_scr 6 2 279 (by decide +kernel) (by decide +kernel) (by decide +kernel) ?_
  refine mx_eq 0 (mx_pt l2 u2 (by decide +kernel)) ?_
  refine mx_B 4 283 [(3, .int 0), (2, .ref 36), (1, .ref 21), (0, .ref 0)] [.int 3, .ref 0, .int 0, .int 0, .ref 36, .int 1] (by decide +kernel) ?_
  refine mx_scr 6 3 284 (by decide +kernel) (by decide +kernel) (by decide +kernel) ?_
  refine mx_eq 3 (mx_pt l3 u3 (by decide +kernel)) ?_
  refine mx_call 289 3 [.ref 36, .int 0, .int 0, .int 3] [.int 1] [(0, .ref 36), (1, .int 0), (2, .int 0), (3, .int 3)] (some (.int 1)) hh_a203 0 0 1 21 0 0 287 [.int 1, .int 1] ap_289 (by decide +kernel) (by decide +kernel) (iv_a249 6 xs zf hz) ?_
  refine mx_B 5 20 [(3, .int 6), (2, .ref 36), (1, .ref 21), (0, .ref 0)] [.ref 0, .int 6] (by decide +kernel) ?_
  refine mx_S (.arraylength) 1 [] 21 [(3, .int 6), (2, .ref 36), (1, .ref 21), (0, .ref 0)] [.int 6, .int 6] (by decide +kernel) rfl ?_
  refine mx_B 4 543 [(3, .int 6), (2, .ref 36), (1, .ref 21), (0, .ref 0)] [.int 1] (by decide +kernel) ?_
  exact mx_ret (some (.int 1)) (by decide +kernel) ⟨rfl, rfl⟩
theorem iv_a251 (L : Nat) (xs : Nat → Int32) (zf : Value) (hz : zf.category = 1) : mx_R L xs zf ah_M190 0 [(0, .ref 1), (1, .int 0), (2, .int 4)] [] hh_a203 0 0 0 0 (fun v h' => v = some (.int 1) ∧ h' = hh_a203) := by
  refine mx_B 12 22 [(0, .ref 1), (1, .int 0), (2, .int 4)] [.int 0, .ref 1] (by decide +kernel) ?_
  refine mx_B 5 27 [(0, .ref 1), (1, .int 0), (2, .int 4)] [.int 1] (by decide +kernel) ?_
  exact mx_ret (some (.int 1)) (by decide +kernel) ⟨rfl, rfl⟩
theorem iv_a252 (L : Nat) (xs : Nat → Int32) (zf : Value) (hz : zf.category = 1) : mx_R L xs zf ah_M221 0 [(0, .ref 21), (1, .int 0), (2, .int 0), (3, .int 4)] [] hh_a203 0 0 1 22 (fun v h' => v = some (.int 1) ∧ h' = hh_a203) := by
  refine mx_B 12 52 [(0, .ref 21), (1, .int 0), (2, .int 0), (3, .int 4)] [] (by decide +kernel) ?_
  refine mx_B 3 57 [(0, .ref 21), (1, .int 0), (2, .int 0), (3, .int 4)] [.int 4, .int 0, .ref 1] (by decide +kernel) ?_
  refine mx_call 190 3 [.ref 1, .int 0, .int 4] [] [(0, .ref 1), (1, .int 0), (2, .int 4)] (some (.int 1)) hh_a203 0 0 0 0 0 0 60 [.int 1] ap_190 (by decide +kernel) (by decide +kernel) (iv_a251 L xs zf hz) ?_
  exact mx_ret (some (.int 1)) (by decide +kernel) ⟨rfl, rfl⟩
theorem iv_a253 (L : Nat) (xs : Nat → Int32) (zf : Value) (hz : zf.category = 1) : mx_R L xs zf ah_M290 0 [(0, .int 0), (1, .int 4)] [] hh_a203 0 0 0 0 (fun v h' => v = some (.int 1) ∧ h' = hh_a203) := by
  refine mx_B 3 33 [(0, .int 0), (1, .int 4)] [.int 1] (by decide +kernel) ?_
  exact mx_ret (some (.int 1)) (by decide +kernel) ⟨rfl, rfl⟩
theorem iv_a254 (L : Nat) (xs : Nat → Int32) (zf : Value) (hz : zf.category = 1) : mx_R L xs zf ah_M289 0 [(0, .ref 36), (1, .int 0), (2, .int 0), (3, .int 4)] [] hh_a203 0 0 1 21 (fun v h' => v = some (.int 1) ∧ h' = hh_a203) := by
  refine mx_B 12 22 [(0, .ref 36), (1, .int 0), (2, .int 0), (3, .int 4)] [] (by decide +kernel) ?_
  refine mx_B 7 35 [(0, .ref 36), (1, .int 0), (2, .int 0), (3, .int 4)] [.int 4, .int 0] (by decide +kernel) ?_
  refine mx_call 290 3 [.int 0, .int 4] [] [(0, .int 0), (1, .int 4)] (some (.int 1)) hh_a203 0 0 0 0 0 0 38 [.int 1] ap_290 (by decide +kernel) (by decide +kernel) (iv_a253 L xs zf hz) ?_
  refine mx_B 3 46 [(0, .ref 36), (1, .int 0), (2, .int 0), (3, .int 4)] [.int 1] (by decide +kernel) ?_
  exact mx_ret (some (.int 1)) (by decide +kernel) ⟨rfl, rfl⟩
theorem iv_a255 (xs : Nat → Int32) (zf : Value) (hz : zf.category = 1) (hk : xs 0 &&& 15 = 5) (l1 : 0 ≤ (xs 1).toInt) (u1 : (xs 1).toInt ≤ 0) (l2 : 0 ≤ (xs 2).toInt) (u2 : (xs 2).toInt ≤ 0) (l3 : 4 ≤ (xs 3).toInt) (u3 : (xs 3).toInt ≤ 4) : mx_R 6 xs zf ah_M0 18 [(3, .int 0), (2, .ref 36), (1, .ref 21), (0, .ref 0)] [] hh_a203 0 0 2 45 (fun v h' => v = some (.int 1) ∧ h' = hh_a203) := by
  refine mx_B 2 20 [(3, .int 0), (2, .ref 36), (1, .ref 21), (0, .ref 0)] [.ref 0, .int 0] (by decide +kernel) ?_
  refine mx_S (.arraylength) 1 [] 21 [(3, .int 0), (2, .ref 36), (1, .ref 21), (0, .ref 0)] [.int 6, .int 0] (by decide +kernel) rfl ?_
  refine mx_B 5 29 [(3, .int 0), (2, .ref 36), (1, .ref 21), (0, .ref 0)] [.int 0, .ref 0] (by decide +kernel) ?_
  refine mx_scr 6 0 30 (by decide +kernel) (by decide +kernel) (by decide +kernel) ?_
  refine mx_S (.bipush 15) 2 [] 32 [(3, .int 0), (2, .ref 36), (1, .ref 21), (0, .ref 0)] [.int 15, .int (xs 0)] (by decide +kernel) rfl ?_
  refine mx_S (.iand) 1 [] 33 [(3, .int 0), (2, .ref 36), (1, .ref 21), (0, .ref 0)] [.int ((xs 0) &&& 15)] (by decide +kernel) rfl ?_
  refine mx_eq 5 hk ?_
  refine mx_B 6 254 [(3, .int 0), (2, .ref 36), (1, .ref 21), (0, .ref 0)] [.int 1, .ref 0, .ref 21] (by decide +kernel) ?_
  refine mx_scr 6 1 255 (by decide +kernel) (by decide +kernel) (by decide +kernel) ?_
  refine mx_eq 0 (mx_pt l1 u1 (by decide +kernel)) ?_
  refine mx_B 4 259 [(3, .int 0), (2, .ref 36), (1, .ref 21), (0, .ref 0)] [.int 2, .ref 0, .int 0, .ref 21] (by decide +kernel) ?_
  refine mx_scr 6 2 260 (by decide +kernel) (by decide +kernel) (by decide +kernel) ?_
  refine mx_eq 0 (mx_pt l2 u2 (by decide +kernel)) ?_
  refine mx_B 4 264 [(3, .int 0), (2, .ref 36), (1, .ref 21), (0, .ref 0)] [.int 3, .ref 0, .int 0, .int 0, .ref 21] (by decide +kernel) ?_
  refine mx_scr 6 3 265 (by decide +kernel) (by decide +kernel) (by decide +kernel) ?_
  refine mx_eq 4 (mx_pt l3 u3 (by decide +kernel)) ?_
  refine mx_call 221 3 [.ref 21, .int 0, .int 0, .int 4] [] [(0, .ref 21), (1, .int 0), (2, .int 0), (3, .int 4)] (some (.int 1)) hh_a203 0 0 1 22 0 0 268 [.int 1] ap_221 (by decide +kernel) (by decide +kernel) (iv_a252 6 xs zf hz) ?_
  refine mx_B 5 273 [(3, .int 0), (2, .ref 36), (1, .ref 21), (0, .ref 0)] [.int 1, .ref 0, .ref 36, .int 1] (by decide +kernel) ?_
  refine mx_scr 6 1 274 (by decide +kernel) (by decide +kernel) (by decide +kernel) ?_
  refine mx_eq 0 (mx_pt l1 u1 (by decide +kernel)) ?_
  refine mx_B 4 278 [(3, .int 0), (2, .ref 36), (1, .ref 21), (0, .ref 0)] [.int 2, .ref 0, .int 0, .ref 36, .int 1] (by decide +kernel) ?_
  refine mx_scr 6 2 279 (by decide +kernel) (by decide +kernel) (by decide +kernel) ?_
  refine mx_eq 0 (mx_pt l2 u2 (by decide +kernel)) ?_
  refine mx_B 4 283 [(3, .int 0), (2, .ref 36), (1, .ref 21), (0, .ref 0)] [.int 3, .ref 0, .int 0, .int 0, .ref 36, .int 1] (by decide +kernel) ?_
  refine mx_scr 6 3 284 (by decide +kernel) (by decide +kernel) (by decide +kernel) ?_
  refine mx_eq 4 (mx_pt l3 u3 (by decide +kernel)) ?_
  refine mx_call 289 3 [.ref 36, .int 0, .int 0, .int 4] [.int 1] [(0, .ref 36), (1, .int 0), (2, .int 0), (3, .int 4)] (some (.int 1)) hh_a203 0 0 1 21 0 0 287 [.int 1, .int 1] ap_289 (by decide +kernel) (by decide +kernel) (iv_a254 6 xs zf hz) ?_
  refine mx_B 5 20 [(3, .int 6), (2, .ref 36), (1, .ref 21), (0, .ref 0)] [.ref 0, .int 6] (by decide +kernel) ?_
  refine mx_S (.arraylength) 1 [] 21 [(3, .int 6), (2, .ref 36), (1, .ref 21), (0, .ref 0)] [.int 6, .int 6] (by decide +kernel) rfl ?_
  refine mx_B 4 543 [(3, .int 6), (2, .ref 36), (1, .ref 21), (0, .ref 0)] [.int 1] (by decide +kernel) ?_
  exact mx_ret (some (.int 1)) (by decide +kernel) ⟨rfl, rfl⟩
theorem iv_a256 (L : Nat) (xs : Nat → Int32) (zf : Value) (hz : zf.category = 1) : mx_R L xs zf ah_M190 0 [(0, .ref 1), (1, .int 1), (2, .int 0)] [] hh_a203 0 0 0 0 (fun v h' => v = some (.int 0) ∧ h' = hh_a203) := by
  refine mx_B 12 22 [(0, .ref 1), (1, .int 1), (2, .int 0)] [.int 1, .ref 1] (by decide +kernel) ?_
  refine mx_B 5 27 [(0, .ref 1), (1, .int 1), (2, .int 0)] [.int 0] (by decide +kernel) ?_
  exact mx_ret (some (.int 0)) (by decide +kernel) ⟨rfl, rfl⟩
theorem iv_a257 (L : Nat) (xs : Nat → Int32) (zf : Value) (hz : zf.category = 1) : mx_R L xs zf ah_M221 0 [(0, .ref 21), (1, .int 0), (2, .int 1), (3, .int 0)] [] hh_a203 0 0 1 22 (fun v h' => v = some (.int 0) ∧ h' = hh_a203) := by
  refine mx_B 12 52 [(0, .ref 21), (1, .int 0), (2, .int 1), (3, .int 0)] [] (by decide +kernel) ?_
  refine mx_B 3 57 [(0, .ref 21), (1, .int 0), (2, .int 1), (3, .int 0)] [.int 0, .int 1, .ref 1] (by decide +kernel) ?_
  refine mx_call 190 3 [.ref 1, .int 1, .int 0] [] [(0, .ref 1), (1, .int 1), (2, .int 0)] (some (.int 0)) hh_a203 0 0 0 0 0 0 60 [.int 0] ap_190 (by decide +kernel) (by decide +kernel) (iv_a256 L xs zf hz) ?_
  exact mx_ret (some (.int 0)) (by decide +kernel) ⟨rfl, rfl⟩
theorem iv_a258 (L : Nat) (xs : Nat → Int32) (zf : Value) (hz : zf.category = 1) : mx_R L xs zf ah_M290 0 [(0, .int 1), (1, .int 0)] [] hh_a203 0 0 0 0 (fun v h' => v = some (.int 0) ∧ h' = hh_a203) := by
  refine mx_B 5 43 [(0, .int 1), (1, .int 0)] [.int 0] (by decide +kernel) ?_
  exact mx_ret (some (.int 0)) (by decide +kernel) ⟨rfl, rfl⟩
theorem iv_a259 (L : Nat) (xs : Nat → Int32) (zf : Value) (hz : zf.category = 1) : mx_R L xs zf ah_M289 0 [(0, .ref 36), (1, .int 0), (2, .int 1), (3, .int 0)] [] hh_a203 0 0 1 21 (fun v h' => v = some (.int 0) ∧ h' = hh_a203) := by
  refine mx_B 12 22 [(0, .ref 36), (1, .int 0), (2, .int 1), (3, .int 0)] [] (by decide +kernel) ?_
  refine mx_B 7 35 [(0, .ref 36), (1, .int 0), (2, .int 1), (3, .int 0)] [.int 0, .int 1] (by decide +kernel) ?_
  refine mx_call 290 3 [.int 1, .int 0] [] [(0, .int 1), (1, .int 0)] (some (.int 0)) hh_a203 0 0 0 0 0 0 38 [.int 0] ap_290 (by decide +kernel) (by decide +kernel) (iv_a258 L xs zf hz) ?_
  refine mx_B 2 46 [(0, .ref 36), (1, .int 0), (2, .int 1), (3, .int 0)] [.int 0] (by decide +kernel) ?_
  exact mx_ret (some (.int 0)) (by decide +kernel) ⟨rfl, rfl⟩
theorem iv_a260 (xs : Nat → Int32) (zf : Value) (hz : zf.category = 1) (hk : xs 0 &&& 15 = 5) (l1 : 0 ≤ (xs 1).toInt) (u1 : (xs 1).toInt ≤ 0) (l2 : 1 ≤ (xs 2).toInt) (u2 : (xs 2).toInt ≤ 1) (l3 : 0 ≤ (xs 3).toInt) (u3 : (xs 3).toInt ≤ 0) : mx_R 6 xs zf ah_M0 18 [(3, .int 0), (2, .ref 36), (1, .ref 21), (0, .ref 0)] [] hh_a203 0 0 2 45 (fun v h' => v = some (.int 1) ∧ h' = hh_a203) := by
  refine mx_B 2 20 [(3, .int 0), (2, .ref 36), (1, .ref 21), (0, .ref 0)] [.ref 0, .int 0] (by decide +kernel) ?_
  refine mx_S (.arraylength) 1 [] 21 [(3, .int 0), (2, .ref 36), (1, .ref 21), (0, .ref 0)] [.int 6, .int 0] (by decide +kernel) rfl ?_
  refine mx_B 5 29 [(3, .int 0), (2, .ref 36), (1, .ref 21), (0, .ref 0)] [.int 0, .ref 0] (by decide +kernel) ?_
  refine mx_scr 6 0 30 (by decide +kernel) (by decide +kernel) (by decide +kernel) ?_
  refine mx_S (.bipush 15) 2 [] 32 [(3, .int 0), (2, .ref 36), (1, .ref 21), (0, .ref 0)] [.int 15, .int (xs 0)] (by decide +kernel) rfl ?_
  refine mx_S (.iand) 1 [] 33 [(3, .int 0), (2, .ref 36), (1, .ref 21), (0, .ref 0)] [.int ((xs 0) &&& 15)] (by decide +kernel) rfl ?_
  refine mx_eq 5 hk ?_
  refine mx_B 6 254 [(3, .int 0), (2, .ref 36), (1, .ref 21), (0, .ref 0)] [.int 1, .ref 0, .ref 21] (by decide +kernel) ?_
  refine mx_scr 6 1 255 (by decide +kernel) (by decide +kernel) (by decide +kernel) ?_
  refine mx_eq 0 (mx_pt l1 u1 (by decide +kernel)) ?_
  refine mx_B 4 259 [(3, .int 0), (2, .ref 36), (1, .ref 21), (0, .ref 0)] [.int 2, .ref 0, .int 0, .ref 21] (by decide +kernel) ?_
  refine mx_scr 6 2 260 (by decide +kernel) (by decide +kernel) (by decide +kernel) ?_
  refine mx_eq 1 (mx_pt l2 u2 (by decide +kernel)) ?_
  refine mx_B 4 264 [(3, .int 0), (2, .ref 36), (1, .ref 21), (0, .ref 0)] [.int 3, .ref 0, .int 1, .int 0, .ref 21] (by decide +kernel) ?_
  refine mx_scr 6 3 265 (by decide +kernel) (by decide +kernel) (by decide +kernel) ?_
  refine mx_eq 0 (mx_pt l3 u3 (by decide +kernel)) ?_
  refine mx_call 221 3 [.ref 21, .int 0, .int 1, .int 0] [] [(0, .ref 21), (1, .int 0), (2, .int 1), (3, .int 0)] (some (.int 0)) hh_a203 0 0 1 22 0 0 268 [.int 0] ap_221 (by decide +kernel) (by decide +kernel) (iv_a257 6 xs zf hz) ?_
  refine mx_B 5 273 [(3, .int 0), (2, .ref 36), (1, .ref 21), (0, .ref 0)] [.int 1, .ref 0, .ref 36, .int 0] (by decide +kernel) ?_
  refine mx_scr 6 1 274 (by decide +kernel) (by decide +kernel) (by decide +kernel) ?_
  refine mx_eq 0 (mx_pt l1 u1 (by decide +kernel)) ?_
  refine mx_B 4 278 [(3, .int 0), (2, .ref 36), (1, .ref 21), (0, .ref 0)] [.int 2, .ref 0, .int 0, .ref 36, .int 0] (by decide +kernel) ?_
  refine mx_scr 6 2 279 (by decide +kernel) (by decide +kernel) (by decide +kernel) ?_
  refine mx_eq 1 (mx_pt l2 u2 (by decide +kernel)) ?_
  refine mx_B 4 283 [(3, .int 0), (2, .ref 36), (1, .ref 21), (0, .ref 0)] [.int 3, .ref 0, .int 1, .int 0, .ref 36, .int 0] (by decide +kernel) ?_
  refine mx_scr 6 3 284 (by decide +kernel) (by decide +kernel) (by decide +kernel) ?_
  refine mx_eq 0 (mx_pt l3 u3 (by decide +kernel)) ?_
  refine mx_call 289 3 [.ref 36, .int 0, .int 1, .int 0] [.int 0] [(0, .ref 36), (1, .int 0), (2, .int 1), (3, .int 0)] (some (.int 0)) hh_a203 0 0 1 21 0 0 287 [.int 0, .int 0] ap_289 (by decide +kernel) (by decide +kernel) (iv_a259 6 xs zf hz) ?_
  refine mx_B 5 20 [(3, .int 6), (2, .ref 36), (1, .ref 21), (0, .ref 0)] [.ref 0, .int 6] (by decide +kernel) ?_
  refine mx_S (.arraylength) 1 [] 21 [(3, .int 6), (2, .ref 36), (1, .ref 21), (0, .ref 0)] [.int 6, .int 6] (by decide +kernel) rfl ?_
  refine mx_B 4 543 [(3, .int 6), (2, .ref 36), (1, .ref 21), (0, .ref 0)] [.int 1] (by decide +kernel) ?_
  exact mx_ret (some (.int 1)) (by decide +kernel) ⟨rfl, rfl⟩
theorem iv_a261 (L : Nat) (xs : Nat → Int32) (zf : Value) (hz : zf.category = 1) : mx_R L xs zf ah_M190 0 [(0, .ref 1), (1, .int 1), (2, .int 1)] [] hh_a203 0 0 0 0 (fun v h' => v = some (.int 1) ∧ h' = hh_a203) := by
  refine mx_B 12 22 [(0, .ref 1), (1, .int 1), (2, .int 1)] [.int 1, .ref 1] (by decide +kernel) ?_
  refine mx_B 5 27 [(0, .ref 1), (1, .int 1), (2, .int 1)] [.int 1] (by decide +kernel) ?_
  exact mx_ret (some (.int 1)) (by decide +kernel) ⟨rfl, rfl⟩
theorem iv_a262 (L : Nat) (xs : Nat → Int32) (zf : Value) (hz : zf.category = 1) : mx_R L xs zf ah_M221 0 [(0, .ref 21), (1, .int 0), (2, .int 1), (3, .int 1)] [] hh_a203 0 0 1 22 (fun v h' => v = some (.int 1) ∧ h' = hh_a203) := by
  refine mx_B 12 52 [(0, .ref 21), (1, .int 0), (2, .int 1), (3, .int 1)] [] (by decide +kernel) ?_
  refine mx_B 3 57 [(0, .ref 21), (1, .int 0), (2, .int 1), (3, .int 1)] [.int 1, .int 1, .ref 1] (by decide +kernel) ?_
  refine mx_call 190 3 [.ref 1, .int 1, .int 1] [] [(0, .ref 1), (1, .int 1), (2, .int 1)] (some (.int 1)) hh_a203 0 0 0 0 0 0 60 [.int 1] ap_190 (by decide +kernel) (by decide +kernel) (iv_a261 L xs zf hz) ?_
  exact mx_ret (some (.int 1)) (by decide +kernel) ⟨rfl, rfl⟩
theorem iv_a263 (L : Nat) (xs : Nat → Int32) (zf : Value) (hz : zf.category = 1) : mx_R L xs zf ah_M290 0 [(0, .int 1), (1, .int 1)] [] hh_a203 0 0 0 0 (fun v h' => v = some (.int 1) ∧ h' = hh_a203) := by
  refine mx_B 6 43 [(0, .int 1), (1, .int 1)] [.int 1] (by decide +kernel) ?_
  exact mx_ret (some (.int 1)) (by decide +kernel) ⟨rfl, rfl⟩
theorem iv_a264 (L : Nat) (xs : Nat → Int32) (zf : Value) (hz : zf.category = 1) : mx_R L xs zf ah_M289 0 [(0, .ref 36), (1, .int 0), (2, .int 1), (3, .int 1)] [] hh_a203 0 0 1 21 (fun v h' => v = some (.int 1) ∧ h' = hh_a203) := by
  refine mx_B 12 22 [(0, .ref 36), (1, .int 0), (2, .int 1), (3, .int 1)] [] (by decide +kernel) ?_
  refine mx_B 7 35 [(0, .ref 36), (1, .int 0), (2, .int 1), (3, .int 1)] [.int 1, .int 1] (by decide +kernel) ?_
  refine mx_call 290 3 [.int 1, .int 1] [] [(0, .int 1), (1, .int 1)] (some (.int 1)) hh_a203 0 0 0 0 0 0 38 [.int 1] ap_290 (by decide +kernel) (by decide +kernel) (iv_a263 L xs zf hz) ?_
  refine mx_B 3 46 [(0, .ref 36), (1, .int 0), (2, .int 1), (3, .int 1)] [.int 1] (by decide +kernel) ?_
  exact mx_ret (some (.int 1)) (by decide +kernel) ⟨rfl, rfl⟩
theorem iv_a265 (xs : Nat → Int32) (zf : Value) (hz : zf.category = 1) (hk : xs 0 &&& 15 = 5) (l1 : 0 ≤ (xs 1).toInt) (u1 : (xs 1).toInt ≤ 0) (l2 : 1 ≤ (xs 2).toInt) (u2 : (xs 2).toInt ≤ 1) (l3 : 1 ≤ (xs 3).toInt) (u3 : (xs 3).toInt ≤ 1) : mx_R 6 xs zf ah_M0 18 [(3, .int 0), (2, .ref 36), (1, .ref 21), (0, .ref 0)] [] hh_a203 0 0 2 45 (fun v h' => v = some (.int 1) ∧ h' = hh_a203) := by
  refine mx_B 2 20 [(3, .int 0), (2, .ref 36), (1, .ref 21), (0, .ref 0)] [.ref 0, .int 0] (by decide +kernel) ?_
  refine mx_S (.arraylength) 1 [] 21 [(3, .int 0), (2, .ref 36), (1, .ref 21), (0, .ref 0)] [.int 6, .int 0] (by decide +kernel) rfl ?_
  refine mx_B 5 29 [(3, .int 0), (2, .ref 36), (1, .ref 21), (0, .ref 0)] [.int 0, .ref 0] (by decide +kernel) ?_
  refine mx_scr 6 0 30 (by decide +kernel) (by decide +kernel) (by decide +kernel) ?_
  refine mx_S (.bipush 15) 2 [] 32 [(3, .int 0), (2, .ref 36), (1, .ref 21), (0, .ref 0)] [.int 15, .int (xs 0)] (by decide +kernel) rfl ?_
  refine mx_S (.iand) 1 [] 33 [(3, .int 0), (2, .ref 36), (1, .ref 21), (0, .ref 0)] [.int ((xs 0) &&& 15)] (by decide +kernel) rfl ?_
  refine mx_eq 5 hk ?_
  refine mx_B 6 254 [(3, .int 0), (2, .ref 36), (1, .ref 21), (0, .ref 0)] [.int 1, .ref 0, .ref 21] (by decide +kernel) ?_
  refine mx_scr 6 1 255 (by decide +kernel) (by decide +kernel) (by decide +kernel) ?_
  refine mx_eq 0 (mx_pt l1 u1 (by decide +kernel)) ?_
  refine mx_B 4 259 [(3, .int 0), (2, .ref 36), (1, .ref 21), (0, .ref 0)] [.int 2, .ref 0, .int 0, .ref 21] (by decide +kernel) ?_
  refine mx_scr 6 2 260 (by decide +kernel) (by decide +kernel) (by decide +kernel) ?_
  refine mx_eq 1 (mx_pt l2 u2 (by decide +kernel)) ?_
  refine mx_B 4 264 [(3, .int 0), (2, .ref 36), (1, .ref 21), (0, .ref 0)] [.int 3, .ref 0, .int 1, .int 0, .ref 21] (by decide +kernel) ?_
  refine mx_scr 6 3 265 (by decide +kernel) (by decide +kernel) (by decide +kernel) ?_
  refine mx_eq 1 (mx_pt l3 u3 (by decide +kernel)) ?_
  refine mx_call 221 3 [.ref 21, .int 0, .int 1, .int 1] [] [(0, .ref 21), (1, .int 0), (2, .int 1), (3, .int 1)] (some (.int 1)) hh_a203 0 0 1 22 0 0 268 [.int 1] ap_221 (by decide +kernel) (by decide +kernel) (iv_a262 6 xs zf hz) ?_
  refine mx_B 5 273 [(3, .int 0), (2, .ref 36), (1, .ref 21), (0, .ref 0)] [.int 1, .ref 0, .ref 36, .int 1] (by decide +kernel) ?_
  refine mx_scr 6 1 274 (by decide +kernel) (by decide +kernel) (by decide +kernel) ?_
  refine mx_eq 0 (mx_pt l1 u1 (by decide +kernel)) ?_
  refine mx_B 4 278 [(3, .int 0), (2, .ref 36), (1, .ref 21), (0, .ref 0)] [.int 2, .ref 0, .int 0, .ref 36, .int 1] (by decide +kernel) ?_
  refine mx_scr 6 2 279 (by decide +kernel) (by decide +kernel) (by decide +kernel) ?_
  refine mx_eq 1 (mx_pt l2 u2 (by decide +kernel)) ?_
  refine mx_B 4 283 [(3, .int 0), (2, .ref 36), (1, .ref 21), (0, .ref 0)] [.int 3, .ref 0, .int 1, .int 0, .ref 36, .int 1] (by decide +kernel) ?_
  refine mx_scr 6 3 284 (by decide +kernel) (by decide +kernel) (by decide +kernel) ?_
  refine mx_eq 1 (mx_pt l3 u3 (by decide +kernel)) ?_
  refine mx_call 289 3 [.ref 36, .int 0, .int 1, .int 1] [.int 1] [(0, .ref 36), (1, .int 0), (2, .int 1), (3, .int 1)] (some (.int 1)) hh_a203 0 0 1 21 0 0 287 [.int 1, .int 1] ap_289 (by decide +kernel) (by decide +kernel) (iv_a264 6 xs zf hz) ?_
  refine mx_B 5 20 [(3, .int 6), (2, .ref 36), (1, .ref 21), (0, .ref 0)] [.ref 0, .int 6] (by decide +kernel) ?_
  refine mx_S (.arraylength) 1 [] 21 [(3, .int 6), (2, .ref 36), (1, .ref 21), (0, .ref 0)] [.int 6, .int 6] (by decide +kernel) rfl ?_
  refine mx_B 4 543 [(3, .int 6), (2, .ref 36), (1, .ref 21), (0, .ref 0)] [.int 1] (by decide +kernel) ?_
  exact mx_ret (some (.int 1)) (by decide +kernel) ⟨rfl, rfl⟩
theorem iv_a266 (L : Nat) (xs : Nat → Int32) (zf : Value) (hz : zf.category = 1) : mx_R L xs zf ah_M190 0 [(0, .ref 1), (1, .int 1), (2, .int 2)] [] hh_a203 0 0 0 0 (fun v h' => v = some (.int 1) ∧ h' = hh_a203) := by
  refine mx_B 12 22 [(0, .ref 1), (1, .int 1), (2, .int 2)] [.int 1, .ref 1] (by decide +kernel) ?_
  refine mx_B 5 27 [(0, .ref 1), (1, .int 1), (2, .int 2)] [.int 1] (by decide +kernel) ?_
  exact mx_ret (some (.int 1)) (by decide +kernel) ⟨rfl, rfl⟩
theorem iv_a267 (L : Nat) (xs : Nat → Int32) (zf : Value) (hz : zf.category = 1) : mx_R L xs zf ah_M221 0 [(0, .ref 21), (1, .int 0), (2, .int 1), (3, .int 2)] [] hh_a203 0 0 1 22 (fun v h' => v = some (.int 1) ∧ h' = hh_a203) := by
  refine mx_B 12 52 [(0, .ref 21), (1, .int 0), (2, .int 1), (3, .int 2)] [] (by decide +kernel) ?_
  refine mx_B 3 57 [(0, .ref 21), (1, .int 0), (2, .int 1), (3, .int 2)] [.int 2, .int 1, .ref 1] (by decide +kernel) ?_
  refine mx_call 190 3 [.ref 1, .int 1, .int 2] [] [(0, .ref 1), (1, .int 1), (2, .int 2)] (some (.int 1)) hh_a203 0 0 0 0 0 0 60 [.int 1] ap_190 (by decide +kernel) (by decide +kernel) (iv_a266 L xs zf hz) ?_
  exact mx_ret (some (.int 1)) (by decide +kernel) ⟨rfl, rfl⟩
theorem iv_a268 (L : Nat) (xs : Nat → Int32) (zf : Value) (hz : zf.category = 1) : mx_R L xs zf ah_M290 0 [(0, .int 1), (1, .int 2)] [] hh_a203 0 0 0 0 (fun v h' => v = some (.int 1) ∧ h' = hh_a203) := by
  refine mx_B 6 43 [(0, .int 1), (1, .int 2)] [.int 1] (by decide +kernel) ?_
  exact mx_ret (some (.int 1)) (by decide +kernel) ⟨rfl, rfl⟩
theorem iv_a269 (L : Nat) (xs : Nat → Int32) (zf : Value) (hz : zf.category = 1) : mx_R L xs zf ah_M289 0 [(0, .ref 36), (1, .int 0), (2, .int 1), (3, .int 2)] [] hh_a203 0 0 1 21 (fun v h' => v = some (.int 1) ∧ h' = hh_a203) := by
  refine mx_B 12 22 [(0, .ref 36), (1, .int 0), (2, .int 1), (3, .int 2)] [] (by decide +kernel) ?_
  refine mx_B 7 35 [(0, .ref 36), (1, .int 0), (2, .int 1), (3, .int 2)] [.int 2, .int 1] (by decide +kernel) ?_
  refine mx_call 290 3 [.int 1, .int 2] [] [(0, .int 1), (1, .int 2)] (some (.int 1)) hh_a203 0 0 0 0 0 0 38 [.int 1] ap_290 (by decide +kernel) (by decide +kernel) (iv_a268 L xs zf hz) ?_
  refine mx_B 3 46 [(0, .ref 36), (1, .int 0), (2, .int 1), (3, .int 2)] [.int 1] (by decide +kernel) ?_
  exact mx_ret (some (.int 1)) (by decide +kernel) ⟨rfl, rfl⟩
theorem iv_a270 (xs : Nat → Int32) (zf : Value) (hz : zf.category = 1) (hk : xs 0 &&& 15 = 5) (l1 : 0 ≤ (xs 1).toInt) (u1 : (xs 1).toInt ≤ 0) (l2 : 1 ≤ (xs 2).toInt) (u2 : (xs 2).toInt ≤ 1) (l3 : 2 ≤ (xs 3).toInt) (u3 : (xs 3).toInt ≤ 2) : mx_R 6 xs zf ah_M0 18 [(3, .int 0), (2, .ref 36), (1, .ref 21), (0, .ref 0)] [] hh_a203 0 0 2 45 (fun v h' => v = some (.int 1) ∧ h' = hh_a203) := by
  refine mx_B 2 20 [(3, .int 0), (2, .ref 36), (1, .ref 21), (0, .ref 0)] [.ref 0, .int 0] (by decide +kernel) ?_
  refine mx_S (.arraylength) 1 [] 21 [(3, .int 0), (2, .ref 36), (1, .ref 21), (0, .ref 0)] [.int 6, .int 0] (by decide +kernel) rfl ?_
  refine mx_B 5 29 [(3, .int 0), (2, .ref 36), (1, .ref 21), (0, .ref 0)] [.int 0, .ref 0] (by decide +kernel) ?_
  refine mx_scr 6 0 30 (by decide +kernel) (by decide +kernel) (by decide +kernel) ?_
  refine mx_S (.bipush 15) 2 [] 32 [(3, .int 0), (2, .ref 36), (1, .ref 21), (0, .ref 0)] [.int 15, .int (xs 0)] (by decide +kernel) rfl ?_
  refine mx_S (.iand) 1 [] 33 [(3, .int 0), (2, .ref 36), (1, .ref 21), (0, .ref 0)] [.int ((xs 0) &&& 15)] (by decide +kernel) rfl ?_
  refine mx_eq 5 hk ?_
  refine mx_B 6 254 [(3, .int 0), (2, .ref 36), (1, .ref 21), (0, .ref 0)] [.int 1, .ref 0, .ref 21] (by decide +kernel) ?_
  refine mx_scr 6 1 255 (by decide +kernel) (by decide +kernel) (by decide +kernel) ?_
  refine mx_eq 0 (mx_pt l1 u1 (by decide +kernel)) ?_
  refine mx_B 4 259 [(3, .int 0), (2, .ref 36), (1, .ref 21), (0, .ref 0)] [.int 2, .ref 0, .int 0, .ref 21] (by decide +kernel) ?_
  refine mx_scr 6 2 260 (by decide +kernel) (by decide +kernel) (by decide +kernel) ?_
  refine mx_eq 1 (mx_pt l2 u2 (by decide +kernel)) ?_
  refine mx_B 4 264 [(3, .int 0), (2, .ref 36), (1, .ref 21), (0, .ref 0)] [.int 3, .ref 0, .int 1, .int 0, .ref 21] (by decide +kernel) ?_
  refine mx_scr 6 3 265 (by decide +kernel) (by decide +kernel) (by decide +kernel) ?_
  refine mx_eq 2 (mx_pt l3 u3 (by decide +kernel)) ?_
  refine mx_call 221 3 [.ref 21, .int 0, .int 1, .int 2] [] [(0, .ref 21), (1, .int 0), (2, .int 1), (3, .int 2)] (some (.int 1)) hh_a203 0 0 1 22 0 0 268 [.int 1] ap_221 (by decide +kernel) (by decide +kernel) (iv_a267 6 xs zf hz) ?_
  refine mx_B 5 273 [(3, .int 0), (2, .ref 36), (1, .ref 21), (0, .ref 0)] [.int 1, .ref 0, .ref 36, .int 1] (by decide +kernel) ?_
  refine mx_scr 6 1 274 (by decide +kernel) (by decide +kernel) (by decide +kernel) ?_
  refine mx_eq 0 (mx_pt l1 u1 (by decide +kernel)) ?_
  refine mx_B 4 278 [(3, .int 0), (2, .ref 36), (1, .ref 21), (0, .ref 0)] [.int 2, .ref 0, .int 0, .ref 36, .int 1] (by decide +kernel) ?_
  refine mx_scr 6 2 279 (by decide +kernel) (by decide +kernel) (by decide +kernel) ?_
  refine mx_eq 1 (mx_pt l2 u2 (by decide +kernel)) ?_
  refine mx_B 4 283 [(3, .int 0), (2, .ref 36), (1, .ref 21), (0, .ref 0)] [.int 3, .ref 0, .int 1, .int 0, .ref 36, .int 1] (by decide +kernel) ?_
  refine mx_scr 6 3 284 (by decide +kernel) (by decide +kernel) (by decide +kernel) ?_
  refine mx_eq 2 (mx_pt l3 u3 (by decide +kernel)) ?_
  refine mx_call 289 3 [.ref 36, .int 0, .int 1, .int 2] [.int 1] [(0, .ref 36), (1, .int 0), (2, .int 1), (3, .int 2)] (some (.int 1)) hh_a203 0 0 1 21 0 0 287 [.int 1, .int 1] ap_289 (by decide +kernel) (by decide +kernel) (iv_a269 6 xs zf hz) ?_
  refine mx_B 5 20 [(3, .int 6), (2, .ref 36), (1, .ref 21), (0, .ref 0)] [.ref 0, .int 6] (by decide +kernel) ?_
  refine mx_S (.arraylength) 1 [] 21 [(3, .int 6), (2, .ref 36), (1, .ref 21), (0, .ref 0)] [.int 6, .int 6] (by decide +kernel) rfl ?_
  refine mx_B 4 543 [(3, .int 6), (2, .ref 36), (1, .ref 21), (0, .ref 0)] [.int 1] (by decide +kernel) ?_
  exact mx_ret (some (.int 1)) (by decide +kernel) ⟨rfl, rfl⟩
theorem iv_a271 (L : Nat) (xs : Nat → Int32) (zf : Value) (hz : zf.category = 1) : mx_R L xs zf ah_M190 0 [(0, .ref 1), (1, .int 1), (2, .int 3)] [] hh_a203 0 0 0 0 (fun v h' => v = some (.int 1) ∧ h' = hh_a203) := by
  refine mx_B 12 22 [(0, .ref 1), (1, .int 1), (2, .int 3)] [.int 1, .ref 1] (by decide +kernel) ?_
  refine mx_B 5 27 [(0, .ref 1), (1, .int 1), (2, .int 3)] [.int 1] (by decide +kernel) ?_
  exact mx_ret (some (.int 1)) (by decide +kernel) ⟨rfl, rfl⟩
theorem iv_a272 (L : Nat) (xs : Nat → Int32) (zf : Value) (hz : zf.category = 1) : mx_R L xs zf ah_M221 0 [(0, .ref 21), (1, .int 0), (2, .int 1), (3, .int 3)] [] hh_a203 0 0 1 22 (fun v h' => v = some (.int 1) ∧ h' = hh_a203) := by
  refine mx_B 12 52 [(0, .ref 21), (1, .int 0), (2, .int 1), (3, .int 3)] [] (by decide +kernel) ?_
  refine mx_B 3 57 [(0, .ref 21), (1, .int 0), (2, .int 1), (3, .int 3)] [.int 3, .int 1, .ref 1] (by decide +kernel) ?_
  refine mx_call 190 3 [.ref 1, .int 1, .int 3] [] [(0, .ref 1), (1, .int 1), (2, .int 3)] (some (.int 1)) hh_a203 0 0 0 0 0 0 60 [.int 1] ap_190 (by decide +kernel) (by decide +kernel) (iv_a271 L xs zf hz) ?_
  exact mx_ret (some (.int 1)) (by decide +kernel) ⟨rfl, rfl⟩
theorem iv_a273 (L : Nat) (xs : Nat → Int32) (zf : Value) (hz : zf.category = 1) : mx_R L xs zf ah_M290 0 [(0, .int 1), (1, .int 3)] [] hh_a203 0 0 0 0 (fun v h' => v = some (.int 1) ∧ h' = hh_a203) := by
  refine mx_B 6 43 [(0, .int 1), (1, .int 3)] [.int 1] (by decide +kernel) ?_
  exact mx_ret (some (.int 1)) (by decide +kernel) ⟨rfl, rfl⟩
theorem iv_a274 (L : Nat) (xs : Nat → Int32) (zf : Value) (hz : zf.category = 1) : mx_R L xs zf ah_M289 0 [(0, .ref 36), (1, .int 0), (2, .int 1), (3, .int 3)] [] hh_a203 0 0 1 21 (fun v h' => v = some (.int 1) ∧ h' = hh_a203) := by
  refine mx_B 12 22 [(0, .ref 36), (1, .int 0), (2, .int 1), (3, .int 3)] [] (by decide +kernel) ?_
  refine mx_B 7 35 [(0, .ref 36), (1, .int 0), (2, .int 1), (3, .int 3)] [.int 3, .int 1] (by decide +kernel) ?_
  refine mx_call 290 3 [.int 1, .int 3] [] [(0, .int 1), (1, .int 3)] (some (.int 1)) hh_a203 0 0 0 0 0 0 38 [.int 1] ap_290 (by decide +kernel) (by decide +kernel) (iv_a273 L xs zf hz) ?_
  refine mx_B 3 46 [(0, .ref 36), (1, .int 0), (2, .int 1), (3, .int 3)] [.int 1] (by decide +kernel) ?_
  exact mx_ret (some (.int 1)) (by decide +kernel) ⟨rfl, rfl⟩
theorem iv_a275 (xs : Nat → Int32) (zf : Value) (hz : zf.category = 1) (hk : xs 0 &&& 15 = 5) (l1 : 0 ≤ (xs 1).toInt) (u1 : (xs 1).toInt ≤ 0) (l2 : 1 ≤ (xs 2).toInt) (u2 : (xs 2).toInt ≤ 1) (l3 : 3 ≤ (xs 3).toInt) (u3 : (xs 3).toInt ≤ 3) : mx_R 6 xs zf ah_M0 18 [(3, .int 0), (2, .ref 36), (1, .ref 21), (0, .ref 0)] [] hh_a203 0 0 2 45 (fun v h' => v = some (.int 1) ∧ h' = hh_a203) := by
  refine mx_B 2 20 [(3, .int 0), (2, .ref 36), (1, .ref 21), (0, .ref 0)] [.ref 0, .int 0] (by decide +kernel) ?_
  refine mx_S (.arraylength) 1 [] 21 [(3, .int 0), (2, .ref 36), (1, .ref 21), (0, .ref 0)] [.int 6, .int 0] (by decide +kernel) rfl ?_
  refine mx_B 5 29 [(3, .int 0), (2, .ref 36), (1, .ref 21), (0, .ref 0)] [.int 0, .ref 0] (by decide +kernel) ?_
  refine mx_scr 6 0 30 (by decide +kernel) (by decide +kernel) (by decide +kernel) ?_
  refine mx_S (.bipush 15) 2 [] 32 [(3, .int 0), (2, .ref 36), (1, .ref 21), (0, .ref 0)] [.int 15, .int (xs 0)] (by decide +kernel) rfl ?_
  refine mx_S (.iand) 1 [] 33 [(3, .int 0), (2, .ref 36), (1, .ref 21), (0, .ref 0)] [.int ((xs 0) &&& 15)] (by decide +kernel) rfl ?_
  refine mx_eq 5 hk ?_
  refine mx_B 6 254 [(3, .int 0), (2, .ref 36), (1, .ref 21), (0, .ref 0)] [.int 1, .ref 0, .ref 21] (by decide +kernel) ?_
  refine mx_scr 6 1 255 (by decide +kernel) (by decide +kernel) (by decide +kernel) ?_
  refine mx_eq 0 (mx_pt l1 u1 (by decide +kernel)) ?_
  refine mx_B 4 259 [(3, .int 0), (2, .ref 36), (1, .ref 21), (0, .ref 0)] [.int 2, .ref 0, .int 0, .ref 21] (by decide +kernel) ?_
  refine mx_scr 6 2 260 (by decide +kernel) (by decide +kernel) (by decide +kernel) ?_
  refine mx_eq 1 (mx_pt l2 u2 (by decide +kernel)) ?_
  refine mx_B 4 264 [(3, .int 0), (2, .ref 36), (1, .ref 21), (0, .ref 0)] [.int 3, .ref 0, .int 1, .int 0, .ref 21] (by decide +kernel) ?_
  refine mx_scr 6 3 265 (by decide +kernel) (by decide +kernel) (by decide +kernel) ?_
  refine mx_eq 3 (mx_pt l3 u3 (by decide +kernel)) ?_
  refine mx_call 221 3 [.ref 21, .int 0, .int 1, .int 3] [] [(0, .ref 21), (1, .int 0), (2, .int 1), (3, .int 3)] (some (.int 1)) hh_a203 0 0 1 22 0 0 268 [.int 1] ap_221 (by decide +kernel) (by decide +kernel) (iv_a272 6 xs zf hz) ?_
  refine mx_B 5 273 [(3, .int 0), (2, .ref 36), (1, .ref 21), (0, .ref 0)] [.int 1, .ref 0, .ref 36, .int 1] (by decide +kernel) ?_
  refine mx_scr 6 1 274 (by decide +kernel) (by decide +kernel) (by decide +kernel) ?_
  refine mx_eq 0 (mx_pt l1 u1 (by decide +kernel)) ?_
  refine mx_B 4 278 [(3, .int 0), (2, .ref 36), (1, .ref 21), (0, .ref 0)] [.int 2, .ref 0, .int 0, .ref 36, .int 1] (by decide +kernel) ?_
  refine mx_scr 6 2 279 (by decide +kernel) (by decide +kernel) (by decide +kernel) ?_
  refine mx_eq 1 (mx_pt l2 u2 (by decide +kernel)) ?_
  refine mx_B 4 283 [(3, .int 0), (2, .ref 36), (1, .ref 21), (0, .ref 0)] [.int 3, .ref 0, .int 1, .int 0, .ref 36, .int 1] (by decide +kernel) ?_
  refine mx_scr 6 3 284 (by decide +kernel) (by decide +kernel) (by decide +kernel) ?_
  refine mx_eq 3 (mx_pt l3 u3 (by decide +kernel)) ?_
  refine mx_call 289 3 [.ref 36, .int 0, .int 1, .int 3] [.int 1] [(0, .ref 36), (1, .int 0), (2, .int 1), (3, .int 3)] (some (.int 1)) hh_a203 0 0 1 21 0 0 287 [.int 1, .int 1] ap_289 (by decide +kernel) (by decide +kernel) (iv_a274 6 xs zf hz) ?_
  refine mx_B 5 20 [(3, .int 6), (2, .ref 36), (1, .ref 21), (0, .ref 0)] [.ref 0, .int 6] (by decide +kernel) ?_
  refine mx_S (.arraylength) 1 [] 21 [(3, .int 6), (2, .ref 36), (1, .ref 21), (0, .ref 0)] [.int 6, .int 6] (by decide +kernel) rfl ?_
  refine mx_B 4 543 [(3, .int 6), (2, .ref 36), (1, .ref 21), (0, .ref 0)] [.int 1] (by decide +kernel) ?_
  exact mx_ret (some (.int 1)) (by decide +kernel) ⟨rfl, rfl⟩
theorem iv_a276 (L : Nat) (xs : Nat → Int32) (zf : Value) (hz : zf.category = 1) : mx_R L xs zf ah_M190 0 [(0, .ref 1), (1, .int 1), (2, .int 4)] [] hh_a203 0 0 0 0 (fun v h' => v = some (.int 1) ∧ h' = hh_a203) := by
  refine mx_B 12 22 [(0, .ref 1), (1, .int 1), (2, .int 4)] [.int 1, .ref 1] (by decide +kernel) ?_
  refine mx_B 5 27 [(0, .ref 1), (1, .int 1), (2, .int 4)] [.int 1] (by decide +kernel) ?_
  exact mx_ret (some (.int 1)) (by decide +kernel) ⟨rfl, rfl⟩
theorem iv_a277 (L : Nat) (xs : Nat → Int32) (zf : Value) (hz : zf.category = 1) : mx_R L xs zf ah_M221 0 [(0, .ref 21), (1, .int 0), (2, .int 1), (3, .int 4)] [] hh_a203 0 0 1 22 (fun v h' => v = some (.int 1) ∧ h' = hh_a203) := by
  refine mx_B 12 52 [(0, .ref 21), (1, .int 0), (2, .int 1), (3, .int 4)] [] (by decide +kernel) ?_
  refine mx_B 3 57 [(0, .ref 21), (1, .int 0), (2, .int 1), (3, .int 4)] [.int 4, .int 1, .ref 1] (by decide +kernel) ?_
  refine mx_call 190 3 [.ref 1, .int 1, .int 4] [] [(0, .ref 1), (1, .int 1), (2, .int 4)] (some (.int 1)) hh_a203 0 0 0 0 0 0 60 [.int 1] ap_190 (by decide +kernel) (by decide +kernel) (iv_a276 L xs zf hz) ?_
  exact mx_ret (some (.int 1)) (by decide +kernel) ⟨rfl, rfl⟩
theorem iv_a278 (L : Nat) (xs : Nat → Int32) (zf : Value) (hz : zf.category = 1) : mx_R L xs zf ah_M290 0 [(0, .int 1), (1, .int 4)] [] hh_a203 0 0 0 0 (fun v h' => v = some (.int 1) ∧ h' = hh_a203) := by
  refine mx_B 6 43 [(0, .int 1), (1, .int 4)] [.int 1] (by decide +kernel) ?_
  exact mx_ret (some (.int 1)) (by decide +kernel) ⟨rfl, rfl⟩
theorem iv_a279 (L : Nat) (xs : Nat → Int32) (zf : Value) (hz : zf.category = 1) : mx_R L xs zf ah_M289 0 [(0, .ref 36), (1, .int 0), (2, .int 1), (3, .int 4)] [] hh_a203 0 0 1 21 (fun v h' => v = some (.int 1) ∧ h' = hh_a203) := by
  refine mx_B 12 22 [(0, .ref 36), (1, .int 0), (2, .int 1), (3, .int 4)] [] (by decide +kernel) ?_
  refine mx_B 7 35 [(0, .ref 36), (1, .int 0), (2, .int 1), (3, .int 4)] [.int 4, .int 1] (by decide +kernel) ?_
  refine mx_call 290 3 [.int 1, .int 4] [] [(0, .int 1), (1, .int 4)] (some (.int 1)) hh_a203 0 0 0 0 0 0 38 [.int 1] ap_290 (by decide +kernel) (by decide +kernel) (iv_a278 L xs zf hz) ?_
  refine mx_B 3 46 [(0, .ref 36), (1, .int 0), (2, .int 1), (3, .int 4)] [.int 1] (by decide +kernel) ?_
  exact mx_ret (some (.int 1)) (by decide +kernel) ⟨rfl, rfl⟩
theorem iv_a280 (xs : Nat → Int32) (zf : Value) (hz : zf.category = 1) (hk : xs 0 &&& 15 = 5) (l1 : 0 ≤ (xs 1).toInt) (u1 : (xs 1).toInt ≤ 0) (l2 : 1 ≤ (xs 2).toInt) (u2 : (xs 2).toInt ≤ 1) (l3 : 4 ≤ (xs 3).toInt) (u3 : (xs 3).toInt ≤ 4) : mx_R 6 xs zf ah_M0 18 [(3, .int 0), (2, .ref 36), (1, .ref 21), (0, .ref 0)] [] hh_a203 0 0 2 45 (fun v h' => v = some (.int 1) ∧ h' = hh_a203) := by
  refine mx_B 2 20 [(3, .int 0), (2, .ref 36), (1, .ref 21), (0, .ref 0)] [.ref 0, .int 0] (by decide +kernel) ?_
  refine mx_S (.arraylength) 1 [] 21 [(3, .int 0), (2, .ref 36), (1, .ref 21), (0, .ref 0)] [.int 6, .int 0] (by decide +kernel) rfl ?_
  refine mx_B 5 29 [(3, .int 0), (2, .ref 36), (1, .ref 21), (0, .ref 0)] [.int 0, .ref 0] (by decide +kernel) ?_
  refine mx_scr 6 0 30 (by decide +kernel) (by decide +kernel) (by decide +kernel) ?_
  refine mx_S (.bipush 15) 2 [] 32 [(3, .int 0), (2, .ref 36), (1, .ref 21), (0, .ref 0)] [.int 15, .int (xs 0)] (by decide +kernel) rfl ?_
  refine mx_S (.iand) 1 [] 33 [(3, .int 0), (2, .ref 36), (1, .ref 21), (0, .ref 0)] [.int ((xs 0) &&& 15)] (by decide +kernel) rfl ?_
  refine mx_eq 5 hk ?_
  refine mx_B 6 254 [(3, .int 0), (2, .ref 36), (1, .ref 21), (0, .ref 0)] [.int 1, .ref 0, .ref 21] (by decide +kernel) ?_
  refine mx_scr 6 1 255 (by decide +kernel) (by decide +kernel) (by decide +kernel) ?_
  refine mx_eq 0 (mx_pt l1 u1 (by decide +kernel)) ?_
  refine mx_B 4 259 [(3, .int 0), (2, .ref 36), (1, .ref 21), (0, .ref 0)] [.int 2, .ref 0, .int 0, .ref 21] (by decide +kernel) ?_
  refine mx_scr 6 2 260 (by decide +kernel) (by decide +kernel) (by decide +kernel) ?_
  refine mx_eq 1 (mx_pt l2 u2 (by decide +kernel)) ?_
  refine mx_B 4 264 [(3, .int 0), (2, .ref 36), (1, .ref 21), (0, .ref 0)] [.int 3, .ref 0, .int 1, .int 0, .ref 21] (by decide +kernel) ?_
  refine mx_scr 6 3 265 (by decide +kernel) (by decide +kernel) (by decide +kernel) ?_
  refine mx_eq 4 (mx_pt l3 u3 (by decide +kernel)) ?_
  refine mx_call 221 3 [.ref 21, .int 0, .int 1, .int 4] [] [(0, .ref 21), (1, .int 0), (2, .int 1), (3, .int 4)] (some (.int 1)) hh_a203 0 0 1 22 0 0 268 [.int 1] ap_221 (by decide +kernel) (by decide +kernel) (iv_a277 6 xs zf hz) ?_
  refine mx_B 5 273 [(3, .int 0), (2, .ref 36), (1, .ref 21), (0, .ref 0)] [.int 1, .ref 0, .ref 36, .int 1] (by decide +kernel) ?_
  refine mx_scr 6 1 274 (by decide +kernel) (by decide +kernel) (by decide +kernel) ?_
  refine mx_eq 0 (mx_pt l1 u1 (by decide +kernel)) ?_
  refine mx_B 4 278 [(3, .int 0), (2, .ref 36), (1, .ref 21), (0, .ref 0)] [.int 2, .ref 0, .int 0, .ref 36, .int 1] (by decide +kernel) ?_
  refine mx_scr 6 2 279 (by decide +kernel) (by decide +kernel) (by decide +kernel) ?_
  refine mx_eq 1 (mx_pt l2 u2 (by decide +kernel)) ?_
  refine mx_B 4 283 [(3, .int 0), (2, .ref 36), (1, .ref 21), (0, .ref 0)] [.int 3, .ref 0, .int 1, .int 0, .ref 36, .int 1] (by decide +kernel) ?_
  refine mx_scr 6 3 284 (by decide +kernel) (by decide +kernel) (by decide +kernel) ?_
  refine mx_eq 4 (mx_pt l3 u3 (by decide +kernel)) ?_
  refine mx_call 289 3 [.ref 36, .int 0, .int 1, .int 4] [.int 1] [(0, .ref 36), (1, .int 0), (2, .int 1), (3, .int 4)] (some (.int 1)) hh_a203 0 0 1 21 0 0 287 [.int 1, .int 1] ap_289 (by decide +kernel) (by decide +kernel) (iv_a279 6 xs zf hz) ?_
  refine mx_B 5 20 [(3, .int 6), (2, .ref 36), (1, .ref 21), (0, .ref 0)] [.ref 0, .int 6] (by decide +kernel) ?_
  refine mx_S (.arraylength) 1 [] 21 [(3, .int 6), (2, .ref 36), (1, .ref 21), (0, .ref 0)] [.int 6, .int 6] (by decide +kernel) rfl ?_
  refine mx_B 4 543 [(3, .int 6), (2, .ref 36), (1, .ref 21), (0, .ref 0)] [.int 1] (by decide +kernel) ?_
  exact mx_ret (some (.int 1)) (by decide +kernel) ⟨rfl, rfl⟩
theorem iv_a281 (L : Nat) (xs : Nat → Int32) (zf : Value) (hz : zf.category = 1) : mx_R L xs zf ah_M190 0 [(0, .ref 1), (1, .int 2), (2, .int 0)] [] hh_a203 0 0 0 0 (fun v h' => v = some (.int 0) ∧ h' = hh_a203) := by
  refine mx_B 12 22 [(0, .ref 1), (1, .int 2), (2, .int 0)] [.int 2, .ref 1] (by decide +kernel) ?_
  refine mx_B 5 27 [(0, .ref 1), (1, .int 2), (2, .int 0)] [.int 0] (by decide +kernel) ?_
  exact mx_ret (some (.int 0)) (by decide +kernel) ⟨rfl, rfl⟩
theorem iv_a282 (L : Nat) (xs : Nat → Int32) (zf : Value) (hz : zf.category = 1) : mx_R L xs zf ah_M221 0 [(0, .ref 21), (1, .int 0), (2, .int 2), (3, .int 0)] [] hh_a203 0 0 1 22 (fun v h' => v = some (.int 0) ∧ h' = hh_a203) := by
  refine mx_B 12 52 [(0, .ref 21), (1, .int 0), (2, .int 2), (3, .int 0)] [] (by decide +kernel) ?_
  refine mx_B 3 57 [(0, .ref 21), (1, .int 0), (2, .int 2), (3, .int 0)] [.int 0, .int 2, .ref 1] (by decide +kernel) ?_
  refine mx_call 190 3 [.ref 1, .int 2, .int 0] [] [(0, .ref 1), (1, .int 2), (2, .int 0)] (some (.int 0)) hh_a203 0 0 0 0 0 0 60 [.int 0] ap_190 (by decide +kernel) (by decide +kernel) (iv_a281 L xs zf hz) ?_
  exact mx_ret (some (.int 0)) (by decide +kernel) ⟨rfl, rfl⟩
theorem iv_a283 (L : Nat) (xs : Nat → Int32) (zf : Value) (hz : zf.category = 1) : mx_R L xs zf ah_M290 0 [(0, .int 2), (1, .int 0)] [] hh_a203 0 0 0 0 (fun v h' => v = some (.int 0) ∧ h' = hh_a203) := by
  refine mx_B 9 59 [(0, .int 2), (1, .int 0)] [.int 0] (by decide +kernel) ?_
  exact mx_ret (some (.int 0)) (by decide +kernel) ⟨rfl, rfl⟩
theorem iv_a284 (L : Nat) (xs : Nat → Int32) (zf : Value) (hz : zf.category = 1) : mx_R L xs zf ah_M289 0 [(0, .ref 36), (1, .int 0), (2, .int 2), (3, .int 0)] [] hh_a203 0 0 1 21 (fun v h' => v = some (.int 0) ∧ h' = hh_a203) := by
  refine mx_B 12 22 [(0, .ref 36), (1, .int 0), (2, .int 2), (3, .int 0)] [] (by decide +kernel) ?_
  refine mx_B 7 35 [(0, .ref 36), (1, .int 0), (2, .int 2), (3, .int 0)] [.int 0, .int 2] (by decide +kernel) ?_
  refine mx_call 290 3 [.int 2, .int 0] [] [(0, .int 2), (1, .int 0)] (some (.int 0)) hh_a203 0 0 0 0 0 0 38 [.int 0] ap_290 (by decide +kernel) (by decide +kernel) (iv_a283 L xs zf hz) ?_
  refine mx_B 2 46 [(0, .ref 36), (1, .int 0), (2, .int 2), (3, .int 0)] [.int 0] (by decide +kernel) ?_
  exact mx_ret (some (.int 0)) (by decide +kernel) ⟨rfl, rfl⟩
theorem iv_a285 (xs : Nat → Int32) (zf : Value) (hz : zf.category = 1) (hk : xs 0 &&& 15 = 5) (l1 : 0 ≤ (xs 1).toInt) (u1 : (xs 1).toInt ≤ 0) (l2 : 2 ≤ (xs 2).toInt) (u2 : (xs 2).toInt ≤ 2) (l3 : 0 ≤ (xs 3).toInt) (u3 : (xs 3).toInt ≤ 0) : mx_R 6 xs zf ah_M0 18 [(3, .int 0), (2, .ref 36), (1, .ref 21), (0, .ref 0)] [] hh_a203 0 0 2 45 (fun v h' => v = some (.int 1) ∧ h' = hh_a203) := by
  refine mx_B 2 20 [(3, .int 0), (2, .ref 36), (1, .ref 21), (0, .ref 0)] [.ref 0, .int 0] (by decide +kernel) ?_
  refine mx_S (.arraylength) 1 [] 21 [(3, .int 0), (2, .ref 36), (1, .ref 21), (0, .ref 0)] [.int 6, .int 0] (by decide +kernel) rfl ?_
  refine mx_B 5 29 [(3, .int 0), (2, .ref 36), (1, .ref 21), (0, .ref 0)] [.int 0, .ref 0] (by decide +kernel) ?_
  refine mx_scr 6 0 30 (by decide +kernel) (by decide +kernel) (by decide +kernel) ?_
  refine mx_S (.bipush 15) 2 [] 32 [(3, .int 0), (2, .ref 36), (1, .ref 21), (0, .ref 0)] [.int 15, .int (xs 0)] (by decide +kernel) rfl ?_
  refine mx_S (.iand) 1 [] 33 [(3, .int 0), (2, .ref 36), (1, .ref 21), (0, .ref 0)] [.int ((xs 0) &&& 15)] (by decide +kernel) rfl ?_
  refine mx_eq 5 hk ?_
  refine mx_B 6 254 [(3, .int 0), (2, .ref 36), (1, .ref 21), (0, .ref 0)] [.int 1, .ref 0, .ref 21] (by decide +kernel) ?_
  refine mx_scr 6 1 255 (by decide +kernel) (by decide +kernel) (by decide +kernel) ?_
  refine mx_eq 0 (mx_pt l1 u1 (by decide +kernel)) ?_
  refine mx_B 4 259 [(3, .int 0), (2, .ref 36), (1, .ref 21), (0, .ref 0)] [.int 2, .ref 0, .int 0, .ref 21] (by decide +kernel) ?_
  refine mx_scr 6 2 260 (by decide +kernel) (by decide +kernel) (by decide +kernel) ?_
  refine mx_eq 2 (mx_pt l2 u2 (by decide +kernel)) ?_
  refine mx_B 4 264 [(3, .int 0), (2, .ref 36), (1, .ref 21), (0, .ref 0)] [.int 3, .ref 0, .int 2, .int 0, .ref 21] (by decide +kernel) ?_
  refine mx_scr 6 3 265 (by decide +kernel) (by decide +kernel) (by decide +kernel) ?_
  refine mx_eq 0 (mx_pt l3 u3 (by decide +kernel)) ?_
  refine mx_call 221 3 [.ref 21, .int 0, .int 2, .int 0] [] [(0, .ref 21), (1, .int 0), (2, .int 2), (3, .int 0)] (some (.int 0)) hh_a203 0 0 1 22 0 0 268 [.int 0] ap_221 (by decide +kernel) (by decide +kernel) (iv_a282 6 xs zf hz) ?_
  refine mx_B 5 273 [(3, .int 0), (2, .ref 36), (1, .ref 21), (0, .ref 0)] [.int 1, .ref 0, .ref 36, .int 0] (by decide +kernel) ?_
  refine mx_scr 6 1 274 (by decide +kernel) (by decide +kernel) (by decide +kernel) ?_
  refine mx_eq 0 (mx_pt l1 u1 (by decide +kernel)) ?_
  refine mx_B 4 278 [(3, .int 0), (2, .ref 36), (1, .ref 21), (0, .ref 0)] [.int 2, .ref 0, .int 0, .ref 36, .int 0] (by decide +kernel) ?_
  refine mx_scr 6 2 279 (by decide +kernel) (by decide +kernel) (by decide +kernel) ?_
  refine mx_eq 2 (mx_pt l2 u2 (by decide +kernel)) ?_
  refine mx_B 4 283 [(3, .int 0), (2, .ref 36), (1, .ref 21), (0, .ref 0)] [.int 3, .ref 0, .int 2, .int 0, .ref 36, .int 0] (by decide +kernel) ?_
  refine mx_scr 6 3 284 (by decide +kernel) (by decide +kernel) (by decide +kernel) ?_
  refine mx_eq 0 (mx_pt l3 u3 (by decide +kernel)) ?_
  refine mx_call 289 3 [.ref 36, .int 0, .int 2, .int 0] [.int 0] [(0, .ref 36), (1, .int 0), (2, .int 2), (3, .int 0)] (some (.int 0)) hh_a203 0 0 1 21 0 0 287 [.int 0, .int 0] ap_289 (by decide +kernel) (by decide +kernel) (iv_a284 6 xs zf hz) ?_
  refine mx_B 5 20 [(3, .int 6), (2, .ref 36), (1, .ref 21), (0, .ref 0)] [.ref 0, .int 6] (by decide +kernel) ?_
  refine mx_S (.arraylength) 1 [] 21 [(3, .int 6), (2, .ref 36), (1, .ref 21), (0, .ref 0)] [.int 6, .int 6] (by decide +kernel) rfl ?_
  refine mx_B 4 543 [(3, .int 6), (2, .ref 36), (1, .ref 21), (0, .ref 0)] [.int 1] (by decide +kernel) ?_
  exact mx_ret (some (.int 1)) (by decide +kernel) ⟨rfl, rfl⟩
theorem iv_a286 (L : Nat) (xs : Nat → Int32) (zf : Value) (hz : zf.category = 1) : mx_R L xs zf ah_M190 0 [(0, .ref 1), (1, .int 2), (2, .int 1)] [] hh_a203 0 0 0 0 (fun v h' => v = some (.int 0) ∧ h' = hh_a203) := by
  refine mx_B 12 22 [(0, .ref 1), (1, .int 2), (2, .int 1)] [.int 2, .ref 1] (by decide +kernel) ?_
  refine mx_B 5 27 [(0, .ref 1), (1, .int 2), (2, .int 1)] [.int 0] (by decide +kernel) ?_
  exact mx_ret (some (.int 0)) (by decide +kernel) ⟨rfl, rfl⟩
theorem iv_a287 (L : Nat) (xs : Nat → Int32) (zf : Value) (hz : zf.category = 1) : mx_R L xs zf ah_M221 0 [(0, .ref 21), (1, .int 0), (2, .int 2), (3, .int 1)] [] hh_a203 0 0 1 22 (fun v h' => v = some (.int 0) ∧ h' = hh_a203) := by
  refine mx_B 12 52 [(0, .ref 21), (1, .int 0), (2, .int 2), (3, .int 1)] [] (by decide +kernel) ?_
  refine mx_B 3 57 [(0, .ref 21), (1, .int 0), (2, .int 2), (3, .int 1)] [.int 1, .int 2, .ref 1] (by decide +kernel) ?_
  refine mx_call 190 3 [.ref 1, .int 2, .int 1] [] [(0, .ref 1), (1, .int 2), (2, .int 1)] (some (.int 0)) hh_a203 0 0 0 0 0 0 60 [.int 0] ap_190 (by decide +kernel) (by decide +kernel) (iv_a286 L xs zf hz) ?_
  exact mx_ret (some (.int 0)) (by decide +kernel) ⟨rfl, rfl⟩
theorem iv_a288 (L : Nat) (xs : Nat → Int32) (zf : Value) (hz : zf.category = 1) : mx_R L xs zf ah_M290 0 [(0, .int 2), (1, .int 1)] [] hh_a203 0 0 0 0 (fun v h' => v = some (.int 0) ∧ h' = hh_a203) := by
  refine mx_B 9 59 [(0, .int 2), (1, .int 1)] [.int 0] (by decide +kernel) ?_
  exact mx_ret (some (.int 0)) (by decide +kernel) ⟨rfl, rfl⟩
theorem iv_a289 (L : Nat) (xs : Nat → Int32) (zf : Value) (hz : zf.category = 1) : mx_R L xs zf ah_M289 0 [(0, .ref 36), (1, .int 0), (2, .int 2), (3, .int 1)] [] hh_a203 0 0 1 21 (fun v h' => v = some (.int 0) ∧ h' = hh_a203) := by
  refine mx_B 12 22 [(0, .ref 36), (1, .int 0), (2, .int 2), (3, .int 1)] [] (by decide +kernel) ?_
  refine mx_B 7 35 [(0, .ref 36), (1, .int 0), (2, .int 2), (3, .int 1)] [.int 1, .int 2] (by decide +kernel) ?_
  refine mx_call 290 3 [.int 2, .int 1] [] [(0, .int 2), (1, .int 1)] (some (.int 0)) hh_a203 0 0 0 0 0 0 38 [.int 0] ap_290 (by decide +kernel) (by decide +kernel) (iv_a288 L xs zf hz) ?_
  refine mx_B 2 46 [(0, .ref 36), (1, .int 0), (2, .int 2), (3, .int 1)] [.int 0] (by decide +kernel) ?_
  exact mx_ret (some (.int 0)) (by decide +kernel) ⟨rfl, rfl⟩
theorem iv_a290 (xs : Nat → Int32) (zf : Value) (hz : zf.category = 1) (hk : xs 0 &&& 15 = 5) (l1 : 0 ≤ (xs 1).toInt) (u1 : (xs 1).toInt ≤ 0) (l2 : 2 ≤ (xs 2).toInt) (u2 : (xs 2).toInt ≤ 2) (l3 : 1 ≤ (xs 3).toInt) (u3 : (xs 3).toInt ≤ 1) : mx_R 6 xs zf ah_M0 18 [(3, .int 0), (2, .ref 36), (1, .ref 21), (0, .ref 0)] [] hh_a203 0 0 2 45 (fun v h' => v = some (.int 1) ∧ h' = hh_a203) := by
  refine mx_B 2 20 [(3, .int 0), (2, .ref 36), (1, .ref 21), (0, .ref 0)] [.ref 0, .int 0] (by decide +kernel) ?_
  refine mx_S (.arraylength) 1 [] 21 [(3, .int 0), (2, .ref 36), (1, .ref 21), (0, .ref 0)] [.int 6, .int 0] (by decide +kernel) rfl ?_
  refine mx_B 5 29 [(3, .int 0), (2, .ref 36), (1, .ref 21), (0, .ref 0)] [.int 0, .ref 0] (by decide +kernel) ?_
  refine mx_scr 6 0 30 (by decide +kernel) (by decide +kernel) (by decide +kernel) ?_
  refine mx_S (.bipush 15) 2 [] 32 [(3, .int 0), (2, .ref 36), (1, .ref 21), (0, .ref 0)] [.int 15, .int (xs 0)] (by decide +kernel) rfl ?_
  refine mx_S (.iand) 1 [] 33 [(3, .int 0), (2, .ref 36), (1, .ref 21), (0, .ref 0)] [.int ((xs 0) &&& 15)] (by decide +kernel) rfl ?_
  refine mx_eq 5 hk ?_
  refine mx_B 6 254 [(3, .int 0), (2, .ref 36), (1, .ref 21), (0, .ref 0)] [.int 1, .ref 0, .ref 21] (by decide +kernel) ?_
  refine mx_scr 6 1 255 (by decide +kernel) (by decide +kernel) (by decide +kernel) ?_
  refine mx_eq 0 (mx_pt l1 u1 (by decide +kernel)) ?_
  refine mx_B 4 259 [(3, .int 0), (2, .ref 36), (1, .ref 21), (0, .ref 0)] [.int 2, .ref 0, .int 0, .ref 21] (by decide +kernel) ?_
  refine mx_scr 6 2 260 (by decide +kernel) (by decide +kernel) (by decide +kernel) ?_
  refine mx_eq 2 (mx_pt l2 u2 (by decide +kernel)) ?_
  refine mx_B 4 264 [(3, .int 0), (2, .ref 36), (1, .ref 21), (0, .ref 0)] [.int 3, .ref 0, .int 2, .int 0, .ref 21] (by decide +kernel) ?_
  refine mx_scr 6 3 265 (by decide +kernel) (by decide +kernel) (by decide +kernel) ?_
  refine mx_eq 1 (mx_pt l3 u3 (by decide +kernel)) ?_
  refine mx_call 221 3 [.ref 21, .int 0, .int 2, .int 1] [] [(0, .ref 21), (1, .int 0), (2, .int 2), (3, .int 1)] (some (.int 0)) hh_a203 0 0 1 22 0 0 268 [.int 0] ap_221 (by decide +kernel) (by decide +kernel) (iv_a287 6 xs zf hz) ?_
  refine mx_B 5 273 [(3, .int 0), (2, .ref 36), (1, .ref 21), (0, .ref 0)] [.int 1, .ref 0, .ref 36, .int 0] (by decide +kernel) ?_
  refine mx_scr 6 1 274 (by decide +kernel) (by decide +kernel) (by decide +kernel) ?_
  refine mx_eq 0 (mx_pt l1 u1 (by decide +kernel)) ?_
  refine mx_B 4 278 [(3, .int 0), (2, .ref 36), (1, .ref 21), (0, .ref 0)] [.int 2, .ref 0, .int 0, .ref 36, .int 0] (by decide +kernel) ?_
  refine mx_scr 6 2 279 (by decide +kernel) (by decide +kernel) (by decide +kernel) ?_
  refine mx_eq 2 (mx_pt l2 u2 (by decide +kernel)) ?_
  refine mx_B 4 283 [(3, .int 0), (2, .ref 36), (1, .ref 21), (0, .ref 0)] [.int 3, .ref 0, .int 2, .int 0, .ref 36, .int 0] (by decide +kernel) ?_
  refine mx_scr 6 3 284 (by decide +kernel) (by decide +kernel) (by decide +kernel) ?_
  refine mx_eq 1 (mx_pt l3 u3 (by decide +kernel)) ?_
  refine mx_call 289 3 [.ref 36, .int 0, .int 2, .int 1] [.int 0] [(0, .ref 36), (1, .int 0), (2, .int 2), (3, .int 1)] (some (.int 0)) hh_a203 0 0 1 21 0 0 287 [.int 0, .int 0] ap_289 (by decide +kernel) (by decide +kernel) (iv_a289 6 xs zf hz) ?_
  refine mx_B 5 20 [(3, .int 6), (2, .ref 36), (1, .ref 21), (0, .ref 0)] [.ref 0, .int 6] (by decide +kernel) ?_
  refine mx_S (.arraylength) 1 [] 21 [(3, .int 6), (2, .ref 36), (1, .ref 21), (0, .ref 0)] [.int 6, .int 6] (by decide +kernel) rfl ?_
  refine mx_B 4 543 [(3, .int 6), (2, .ref 36), (1, .ref 21), (0, .ref 0)] [.int 1] (by decide +kernel) ?_
  exact mx_ret (some (.int 1)) (by decide +kernel) ⟨rfl, rfl⟩
theorem iv_a291 (L : Nat) (xs : Nat → Int32) (zf : Value) (hz : zf.category = 1) : mx_R L xs zf ah_M190 0 [(0, .ref 1), (1, .int 2), (2, .int 2)] [] hh_a203 0 0 0 0 (fun v h' => v = some (.int 1) ∧ h' = hh_a203) := by
  refine mx_B 12 22 [(0, .ref 1), (1, .int 2), (2, .int 2)] [.int 2, .ref 1] (by decide +kernel) ?_
  refine mx_B 5 27 [(0, .ref 1), (1, .int 2), (2, .int 2)] [.int 1] (by decide +kernel) ?_
  exact mx_ret (some (.int 1)) (by decide +kernel) ⟨rfl, rfl⟩
theorem iv_a292 (L : Nat) (xs : Nat → Int32) (zf : Value) (hz : zf.category = 1) : mx_R L xs zf ah_M221 0 [(0, .ref 21), (1, .int 0), (2, .int 2), (3, .int 2)] [] hh_a203 0 0 1 22 (fun v h' => v = some (.int 1) ∧ h' = hh_a203) := by
  refine mx_B 12 52 [(0, .ref 21), (1, .int 0), (2, .int 2), (3, .int 2)] [] (by decide +kernel) ?_
  refine mx_B 3 57 [(0, .ref 21), (1, .int 0), (2, .int 2), (3, .int 2)] [.int 2, .int 2, .ref 1] (by decide +kernel) ?_
  refine mx_call 190 3 [.ref 1, .int 2, .int 2] [] [(0, .ref 1), (1, .int 2), (2, .int 2)] (some (.int 1)) hh_a203 0 0 0 0 0 0 60 [.int 1] ap_190 (by decide +kernel) (by decide +kernel) (iv_a291 L xs zf hz) ?_
  exact mx_ret (some (.int 1)) (by decide +kernel) ⟨rfl, rfl⟩
theorem iv_a293 (L : Nat) (xs : Nat → Int32) (zf : Value) (hz : zf.category = 1) : mx_R L xs zf ah_M290 0 [(0, .int 2), (1, .int 2)] [] hh_a203 0 0 0 0 (fun v h' => v = some (.int 1) ∧ h' = hh_a203) := by
  refine mx_B 7 59 [(0, .int 2), (1, .int 2)] [.int 1] (by decide +kernel) ?_
  exact mx_ret (some (.int 1)) (by decide +kernel) ⟨rfl, rfl⟩
theorem iv_a294 (L : Nat) (xs : Nat → Int32) (zf : Value) (hz : zf.category = 1) : mx_R L xs zf ah_M289 0 [(0, .ref 36), (1, .int 0), (2, .int 2), (3, .int 2)] [] hh_a203 0 0 1 21 (fun v h' => v = some (.int 1) ∧ h' = hh_a203) := by
  refine mx_B 12 22 [(0, .ref 36), (1, .int 0), (2, .int 2), (3, .int 2)] [] (by decide +kernel) ?_
  refine mx_B 7 35 [(0, .ref 36), (1, .int 0), (2, .int 2), (3, .int 2)] [.int 2, .int 2] (by decide +kernel) ?_
  refine mx_call 290 3 [.int 2, .int 2] [] [(0, .int 2), (1, .int 2)] (some (.int 1)) hh_a203 0 0 0 0 0 0 38 [.int 1] ap_290 (by decide +kernel) (by decide +kernel) (iv_a293 L xs zf hz) ?_
  refine mx_B 3 46 [(0, .ref 36), (1, .int 0), (2, .int 2), (3, .int 2)] [.int 1] (by decide +kernel) ?_
  exact mx_ret (some (.int 1)) (by decide +kernel) ⟨rfl, rfl⟩
theorem iv_a295 (xs : Nat → Int32) (zf : Value) (hz : zf.category = 1) (hk : xs 0 &&& 15 = 5) (l1 : 0 ≤ (xs 1).toInt) (u1 : (xs 1).toInt ≤ 0) (l2 : 2 ≤ (xs 2).toInt) (u2 : (xs 2).toInt ≤ 2) (l3 : 2 ≤ (xs 3).toInt) (u3 : (xs 3).toInt ≤ 2) : mx_R 6 xs zf ah_M0 18 [(3, .int 0), (2, .ref 36), (1, .ref 21), (0, .ref 0)] [] hh_a203 0 0 2 45 (fun v h' => v = some (.int 1) ∧ h' = hh_a203) := by
  refine mx_B 2 20 [(3, .int 0), (2, .ref 36), (1, .ref 21), (0, .ref 0)] [.ref 0, .int 0] (by decide +kernel) ?_
  refine mx_S (.arraylength) 1 [] 21 [(3, .int 0), (2, .ref 36), (1, .ref 21), (0, .ref 0)] [.int 6, .int 0] (by decide +kernel) rfl ?_
  refine mx_B 5 29 [(3, .int 0), (2, .ref 36), (1, .ref 21), (0, .ref 0)] [.int 0, .ref 0] (by decide +kernel) ?_
  refine mx_scr 6 0 30 (by decide +kernel) (by decide +kernel) (by decide +kernel) ?_
  refine mx_S (.bipush 15) 2 [] 32 [(3, .int 0), (2, .ref 36), (1, .ref 21), (0, .ref 0)] [.int 15, .int (xs 0)] (by decide +kernel) rfl ?_
  refine mx_S (.iand) 1 [] 33 [(3, .int 0), (2, .ref 36), (1, .ref 21), (0, .ref 0)] [.int ((xs 0) &&& 15)] (by decide +kernel) rfl ?_
  refine mx_eq 5 hk ?_
  refine mx_B 6 254 [(3, .int 0), (2, .ref 36), (1, .ref 21), (0, .ref 0)] [.int 1, .ref 0, .ref 21] (by decide +kernel) ?_
  refine mx_scr 6 1 255 (by decide +kernel) (by decide +kernel) (by decide +kernel) ?_
  refine mx_eq 0 (mx_pt l1 u1 (by decide +kernel)) ?_
  refine mx_B 4 259 [(3, .int 0), (2, .ref 36), (1, .ref 21), (0, .ref 0)] [.int 2, .ref 0, .int 0, .ref 21] (by decide +kernel) ?_
  refine mx_scr 6 2 260 (by decide +kernel) (by decide +kernel) (by decide +kernel) ?_
  refine mx_eq 2 (mx_pt l2 u2 (by decide +kernel)) ?_
  refine mx_B 4 264 [(3, .int 0), (2, .ref 36), (1, .ref 21), (0, .ref 0)] [.int 3, .ref 0, .int 2, .int 0, .ref 21] (by decide +kernel) ?_
  refine mx_scr 6 3 265 (by decide +kernel) (by decide +kernel) (by decide +kernel) ?_
  refine mx_eq 2 (mx_pt l3 u3 (by decide +kernel)) ?_
  refine mx_call 221 3 [.ref 21, .int 0, .int 2, .int 2] [] [(0, .ref 21), (1, .int 0), (2, .int 2), (3, .int 2)] (some (.int 1)) hh_a203 0 0 1 22 0 0 268 [.int 1] ap_221 (by decide +kernel) (by decide +kernel) (iv_a292 6 xs zf hz) ?_
  refine mx_B 5 273 [(3, .int 0), (2, .ref 36), (1, .ref 21), (0, .ref 0)] [.int 1, .ref 0, .ref 36, .int 1] (by decide +kernel) ?_
  refine mx_scr 6 1 274 (by decide +kernel) (by decide +kernel) (by decide +kernel) ?_
  refine mx_eq 0 (mx_pt l1 u1 (by decide +kernel)) ?_
  refine mx_B 4 278 [(3, .int 0), (2, .ref 36), (1, .ref 21), (0, .ref 0)] [.int 2, .ref 0, .int 0, .ref 36, .int 1] (by decide +kernel) ?_
  refine mx_scr 6 2 279 (by decide +kernel) (by decide +kernel) (by decide +kernel) ?_
  refine mx_eq 2 (mx_pt l2 u2 (by decide +kernel)) ?_
  refine mx_B 4 283 [(3, .int 0), (2, .ref 36), (1, .ref 21), (0, .ref 0)] [.int 3, .ref 0, .int 2, .int 0, .ref 36, .int 1] (by decide +kernel) ?_
  refine mx_scr 6 3 284 (by decide +kernel) (by decide +kernel) (by decide +kernel) ?_
  refine mx_eq 2 (mx_pt l3 u3 (by decide +kernel)) ?_
  refine mx_call 289 3 [.ref 36, .int 0, .int 2, .int 2] [.int 1] [(0, .ref 36), (1, .int 0), (2, .int 2), (3, .int 2)] (some (.int 1)) hh_a203 0 0 1 21 0 0 287 [.int 1, .int 1] ap_289 (by decide +kernel) (by decide +kernel) (iv_a294 6 xs zf hz) ?_
  refine mx_B 5 20 [(3, .int 6), (2, .ref 36), (1, .ref 21), (0, .ref 0)] [.ref 0, .int 6] (by decide +kernel) ?_
  refine mx_S (.arraylength) 1 [] 21 [(3, .int 6), (2, .ref 36), (1, .ref 21), (0, .ref 0)] [.int 6, .int 6] (by decide +kernel) rfl ?_
  refine mx_B 4 543 [(3, .int 6), (2, .ref 36), (1, .ref 21), (0, .ref 0)] [.int 1] (by decide +kernel) ?_
  exact mx_ret (some (.int 1)) (by decide +kernel) ⟨rfl, rfl⟩
theorem iv_a296 (L : Nat) (xs : Nat → Int32) (zf : Value) (hz : zf.category = 1) : mx_R L xs zf ah_M190 0 [(0, .ref 1), (1, .int 2), (2, .int 3)] [] hh_a203 0 0 0 0 (fun v h' => v = some (.int 0) ∧ h' = hh_a203) := by
  refine mx_B 12 22 [(0, .ref 1), (1, .int 2), (2, .int 3)] [.int 2, .ref 1] (by decide +kernel) ?_
  refine mx_B 5 27 [(0, .ref 1), (1, .int 2), (2, .int 3)] [.int 0] (by decide +kernel) ?_
  exact mx_ret (some (.int 0)) (by decide +kernel) ⟨rfl, rfl⟩
theorem iv_a297 (L : Nat) (xs : Nat → Int32) (zf : Value) (hz : zf.category = 1) : mx_R L xs zf ah_M221 0 [(0, .ref 21), (1, .int 0), (2, .int 2), (3, .int 3)] [] hh_a203 0 0 1 22 (fun v h' => v = some (.int 0) ∧ h' = hh_a203) := by
  refine mx_B 12 52 [(0, .ref 21), (1, .int 0), (2, .int 2), (3, .int 3)] [] (by decide +kernel) ?_
  refine mx_B 3 57 [(0, .ref 21), (1, .int 0), (2, .int 2), (3, .int 3)] [.int 3, .int 2, .ref 1] (by decide +kernel) ?_
  refine mx_call 190 3 [.ref 1, .int 2, .int 3] [] [(0, .ref 1), (1, .int 2), (2, .int 3)] (some (.int 0)) hh_a203 0 0 0 0 0 0 60 [.int 0] ap_190 (by decide +kernel) (by decide +kernel) (iv_a296 L xs zf hz) ?_
  exact mx_ret (some (.int 0)) (by decide +kernel) ⟨rfl, rfl⟩
theorem iv_a298 (L : Nat) (xs : Nat → Int32) (zf : Value) (hz : zf.category = 1) : mx_R L xs zf ah_M290 0 [(0, .int 2), (1, .int 3)] [] hh_a203 0 0 0 0 (fun v h' => v = some (.int 0) ∧ h' = hh_a203) := by
  refine mx_B 9 59 [(0, .int 2), (1, .int 3)] [.int 0] (by decide +kernel) ?_
  exact mx_ret (some (.int 0)) (by decide +kernel) ⟨rfl, rfl⟩
theorem iv_a299 (L : Nat) (xs : Nat → Int32) (zf : Value) (hz : zf.category = 1) : mx_R L xs zf ah_M289 0 [(0, .ref 36), (1, .int 0), (2, .int 2), (3, .int 3)] [] hh_a203 0 0 1 21 (fun v h' => v = some (.int 0) ∧ h' = hh_a203) := by
  refine mx_B 12 22 [(0, .ref 36), (1, .int 0), (2, .int 2), (3, .int 3)] [] (by decide +kernel) ?_
  refine mx_B 7 35 [(0, .ref 36), (1, .int 0), (2, .int 2), (3, .int 3)] [.int 3, .int 2] (by decide +kernel) ?_
  refine mx_call 290 3 [.int 2, .int 3] [] [(0, .int 2), (1, .int 3)] (some (.int 0)) hh_a203 0 0 0 0 0 0 38 [.int 0] ap_290 (by decide +kernel) (by decide +kernel) (iv_a298 L xs zf hz) ?_
  refine mx_B 2 46 [(0, .ref 36), (1, .int 0), (2, .int 2), (3, .int 3)] [.int 0] (by decide +kernel) ?_
  exact mx_ret (some (.int 0)) (by decide +kernel) ⟨rfl, rfl⟩
theorem iv_a300 (xs : Nat → Int32) (zf : Value) (hz : zf.category = 1) (hk : xs 0 &&& 15 = 5) (l1 : 0 ≤ (xs 1).toInt) (u1 : (xs 1).toInt ≤ 0) (l2 : 2 ≤ (xs 2).toInt) (u2 : (xs 2).toInt ≤ 2) (l3 : 3 ≤ (xs 3).toInt) (u3 : (xs 3).toInt ≤ 3) : mx_R 6 xs zf ah_M0 18 [(3, .int 0), (2, .ref 36), (1, .ref 21), (0, .ref 0)] [] hh_a203 0 0 2 45 (fun v h' => v = some (.int 1) ∧ h' = hh_a203) := by
  refine mx_B 2 20 [(3, .int 0), (2, .ref 36), (1, .ref 21), (0, .ref 0)] [.ref 0, .int 0] (by decide +kernel) ?_
  refine mx_S (.arraylength) 1 [] 21 [(3, .int 0), (2, .ref 36), (1, .ref 21), (0, .ref 0)] [.int 6, .int 0] (by decide +kernel) rfl ?_
  refine mx_B 5 29 [(3, .int 0), (2, .ref 36), (1, .ref 21), (0, .ref 0)] [.int 0, .ref 0] (by decide +kernel) ?_
  refine mx_scr 6 0 30 (by decide +kernel) (by decide +kernel) (by decide +kernel) ?_
  refine mx_S (.bipush 15) 2 [] 32 [(3, .int 0), (2, .ref 36), (1, .ref 21), (0, .ref 0)] [.int 15, .int (xs 0)] (by decide +kernel) rfl ?_
  refine mx_S (.iand) 1 [] 33 [(3, .int 0), (2, .ref 36), (1, .ref 21), (0, .ref 0)] [.int ((xs 0) &&& 15)] (by decide +kernel) rfl ?_
  refine mx_eq 5 hk ?_
  refine mx_B 6 254 [(3, .int 0), (2, .ref 36), (1, .ref 21), (0, .ref 0)] [.int 1, .ref 0, .ref 21] (by decide +kernel) ?_
  refine mx_scr 6 1 255 (by decide +kernel) (by decide +kernel) (by decide +kernel) ?_
  refine mx_eq 0 (mx_pt l1 u1 (by decide +kernel)) ?_
  refine mx_B 4 259 [(3, .int 0), (2, .ref 36), (1, .ref 21), (0, .ref 0)] [.int 2, .ref 0, .int 0, .ref 21] (by decide +kernel) ?_
  refine mx_scr 6 2 260 (by decide +kernel) (by decide +kernel) (by decide +kernel) ?_
  refine mx_eq 2 (mx_pt l2 u2 (by decide +kernel)) ?_
  refine mx_B 4 264 [(3, .int 0), (2, .ref 36), (1, .ref 21), (0, .ref 0)] [.int 3, .ref 0, .int 2, .int 0, .ref 21] (by decide +kernel) ?_
  refine mx_scr 6 3 265 (by decide +kernel) (by decide +kernel) (by decide +kernel) ?_
  refine mx_eq 3 (mx_pt l3 u3 (by decide +kernel)) ?_
  refine mx_call 221 3 [.ref 21, .int 0, .int 2, .int 3] [] [(0, .ref 21), (1, .int 0), (2, .int 2), (3, .int 3)] (some (.int 0)) hh_a203 0 0 1 22 0 0 268 [.int 0] ap_221 (by decide +kernel) (by decide +kernel) (iv_a297 6 xs zf hz) ?_
  refine mx_B 5 273 [(3, .int 0), (2, .ref 36), (1, .ref 21), (0, .ref 0)] [.int 1, .ref 0, .ref 36, .int 0] (by decide +kernel) ?_
  refine mx_scr 6 1 274 (by decide +kernel) (by decide +kernel) (by decide +kernel) ?_
  refine mx_eq 0 (mx_pt l1 u1 (by decide +kernel)) ?_
  refine mx_B 4 278 [(3, .int 0), (2, .ref 36), (1, .ref 21), (0, .ref 0)] [.int 2, .ref 0, .int 0, .ref 36, .int 0] (by decide +kernel) ?_
  refine mx_scr 6 2 279 (by decide +kernel) (by decide +kernel) (by decide +kernel) ?_
  refine mx_eq 2 (mx_pt l2 u2 (by decide +kernel)) ?_
  refine mx_B 4 283 [(3, .int 0), (2, .ref 36), (1, .ref 21), (0, .ref 0)] [.int 3, .ref 0, .int 2, .int 0, .ref 36, .int 0] (by decide +kernel) ?_
  refine mx_scr 6 3 284 (by decide +kernel) (by decide +kernel) (by decide +kernel) ?_
  refine mx_eq 3 (mx_pt l3 u3 (by decide +kernel)) ?_
  refine mx_call 289 3 [.ref 36, .int 0, .int 2, .int 3] [.int 0] [(0, .ref 36), (1, .int 0), (2, .int 2), (3, .int 3)] (some (.int 0)) hh_a203 0 0 1 21 0 0 287 [.int 0, .int 0] ap_289 (by decide +kernel) (by decide +kernel) (iv_a299 6 xs zf hz) ?_
  refine mx_B 5 20 [(3, .int 6), (2, .ref 36), (1, .ref 21), (0, .ref 0)] [.ref 0, .int 6] (by decide +kernel) ?_
  refine mx_S (.arraylength) 1 [] 21 [(3, .int 6), (2, .ref 36), (1, .ref 21), (0, .ref 0)] [.int 6, .int 6] (by decide +kernel) rfl ?_
  refine mx_B 4 543 [(3, .int 6), (2, .ref 36), (1, .ref 21), (0, .ref 0)] [.int 1] (by decide +kernel) ?_
  exact mx_ret (some (.int 1)) (by decide +kernel) ⟨rfl, rfl⟩
theorem iv_a301 (L : Nat) (xs : Nat → Int32) (zf : Value) (hz : zf.category = 1) : mx_R L xs zf ah_M190 0 [(0, .ref 1), (1, .int 2), (2, .int 4)] [] hh_a203 0 0 0 0 (fun v h' => v = some (.int 1) ∧ h' = hh_a203) := by
  refine mx_B 12 22 [(0, .ref 1), (1, .int 2), (2, .int 4)] [.int 2, .ref 1] (by decide +kernel) ?_
  refine mx_B 5 27 [(0, .ref 1), (1, .int 2), (2, .int 4)] [.int 1] (by decide +kernel) ?_
  exact mx_ret (some (.int 1)) (by decide +kernel) ⟨rfl, rfl⟩
theorem iv_a302 (L : Nat) (xs : Nat → Int32) (zf : Value) (hz : zf.category = 1) : mx_R L xs zf ah_M221 0 [(0, .ref 21), (1, .int 0), (2, .int 2), (3, .int 4)] [] hh_a203 0 0 1 22 (fun v h' => v = some (.int 1) ∧ h' = hh_a203) := by
  refine mx_B 12 52 [(0, .ref 21), (1, .int 0), (2, .int 2), (3, .int 4)] [] (by decide +kernel) ?_
  refine mx_B 3 57 [(0, .ref 21), (1, .int 0), (2, .int 2), (3, .int 4)] [.int 4, .int 2, .ref 1] (by decide +kernel) ?_
  refine mx_call 190 3 [.ref 1, .int 2, .int 4] [] [(0, .ref 1), (1, .int 2), (2, .int 4)] (some (.int 1)) hh_a203 0 0 0 0 0 0 60 [.int 1] ap_190 (by decide +kernel) (by decide +kernel) (iv_a301 L xs zf hz) ?_
  exact mx_ret (some (.int 1)) (by decide +kernel) ⟨rfl, rfl⟩
theorem iv_a303 (L : Nat) (xs : Nat → Int32) (zf : Value) (hz : zf.category = 1) : mx_R L xs zf ah_M290 0 [(0, .int 2), (1, .int 4)] [] hh_a203 0 0 0 0 (fun v h' => v = some (.int 1) ∧ h' = hh_a203) := by
  refine mx_B 10 59 [(0, .int 2), (1, .int 4)] [.int 1] (by decide +kernel) ?_
  exact mx_ret (some (.int 1)) (by decide +kernel) ⟨rfl, rfl⟩
theorem iv_a304 (L : Nat) (xs : Nat → Int32) (zf : Value) (hz : zf.category = 1) : mx_R L xs zf ah_M289 0 [(0, .ref 36), (1, .int 0), (2, .int 2), (3, .int 4)] [] hh_a203 0 0 1 21 (fun v h' => v = some (.int 1) ∧ h' = hh_a203) := by
  refine mx_B 12 22 [(0, .ref 36), (1, .int 0), (2, .int 2), (3, .int 4)] [] (by decide +kernel) ?_
  refine mx_B 7 35 [(0, .ref 36), (1, .int 0), (2, .int 2), (3, .int 4)] [.int 4, .int 2] (by decide +kernel) ?_
  refine mx_call 290 3 [.int 2, .int 4] [] [(0, .int 2), (1, .int 4)] (some (.int 1)) hh_a203 0 0 0 0 0 0 38 [.int 1] ap_290 (by decide +kernel) (by decide +kernel) (iv_a303 L xs zf hz) ?_
  refine mx_B 3 46 [(0, .ref 36), (1, .int 0), (2, .int 2), (3, .int 4)] [.int 1] (by decide +kernel) ?_
  exact mx_ret (some (.int 1)) (by decide +kernel) ⟨rfl, rfl⟩
theorem iv_a305 (xs : Nat → Int32) (zf : Value) (hz : zf.category = 1) (hk : xs 0 &&& 15 = 5) (l1 : 0 ≤ (xs 1).toInt) (u1 : (xs 1).toInt ≤ 0) (l2 : 2 ≤ (xs 2).toInt) (u2 : (xs 2).toInt ≤ 2) (l3 : 4 ≤ (xs 3).toInt) (u3 : (xs 3).toInt ≤ 4) : mx_R 6 xs zf ah_M0 18 [(3, .int 0), (2, .ref 36), (1, .ref 21), (0, .ref 0)] [] hh_a203 0 0 2 45 (fun v h' => v = some (.int 1) ∧ h' = hh_a203) := by
  refine mx_B 2 20 [(3, .int 0), (2, .ref 36), (1, .ref 21), (0, .ref 0)] [.ref 0, .int 0] (by decide +kernel) ?_
  refine mx_S (.arraylength) 1 [] 21 [(3, .int 0), (2, .ref 36), (1, .ref 21), (0, .ref 0)] [.int 6, .int 0] (by decide +kernel) rfl ?_
  refine mx_B 5 29 [(3, .int 0), (2, .ref 36), (1, .ref 21), (0, .ref 0)] [.int 0, .ref 0] (by decide +kernel) ?_
  refine mx_scr 6 0 30 (by decide +kernel) (by decide +kernel) (by decide +kernel) ?_
  refine mx_S (.bipush 15) 2 [] 32 [(3, .int 0), (2, .ref 36), (1, .ref 21), (0, .ref 0)] [.int 15, .int (xs 0)] (by decide +kernel) rfl ?_
  refine mx_S (.iand) 1 [] 33 [(3, .int 0), (2, .ref 36), (1, .ref 21), (0, .ref 0)] [.int ((xs 0) &&& 15)] (by decide +kernel) rfl ?_
  refine mx_eq 5 hk ?_
  refine mx_B 6 254 [(3, .int 0), (2, .ref 36), (1, .ref 21), (0, .ref 0)] [.int 1, .ref 0, .ref 21] (by decide +kernel) ?_
  refine mx_scr 6 1 255 (by decide +kernel) (by decide +kernel) (by decide +kernel) ?_
  refine mx_eq 0 (mx_pt l1 u1 (by decide +kernel)) ?_
  refine mx_B 4 259 [(3, .int 0), (2, .ref 36), (1, .ref 21), (0, .ref 0)] [.int 2, .ref 0, .int 0, .ref 21] (by decide +kernel) ?_
  refine mx_scr 6 2 260 (by decide +kernel) (by decide +kernel) (by decide +kernel) ?_
  refine mx_eq 2 (mx_pt l2 u2 (by decide +kernel)) ?_
  refine mx_B 4 264 [(3, .int 0), (2, .ref 36), (1, .ref 21), (0, .ref 0)] [.int 3, .ref 0, .int 2, .int 0, .ref 21] (by decide +kernel) ?_
  refine mx_scr 6 3 265 (by decide +kernel) (by decide +kernel) (by decide +kernel) ?_
  refine mx_eq 4 (mx_pt l3 u3 (by decide +kernel)) ?_
  refine mx_call 221 3 [.ref 21, .int 0, .int 2, .int 4] [] [(0, .ref 21), (1, .int 0), (2, .int 2), (3, .int 4)] (some (.int 1)) hh_a203 0 0 1 22 0 0 268 [.int 1] ap_221 (by decide +kernel) (by decide +kernel) (iv_a302 6 xs zf hz) ?_
  refine mx_B 5 273 [(3, .int 0), (2, .ref 36), (1, .ref 21), (0, .ref 0)] [.int 1, .ref 0, .ref 36, .int 1] (by decide +kernel) ?_
  refine mx_scr 6 1 274 (by decide +kernel) (by decide +kernel) (by decide +kernel) ?_
  refine mx_eq 0 (mx_pt l1 u1 (by decide +kernel)) ?_
  refine mx_B 4 278 [(3, .int 0), (2, .ref 36), (1, .ref 21), (0, .ref 0)] [.int 2, .ref 0, .int 0, .ref 36, .int 1] (by decide +kernel) ?_
  refine mx_scr 6 2 279 (by decide +kernel) (by decide +kernel) (by decide +kernel) ?_
  refine mx_eq 2 (mx_pt l2 u2 (by decide +kernel)) ?_
  refine mx_B 4 283 [(3, .int 0), (2, .ref 36), (1, .ref 21), (0, .ref 0)] [.int 3, .ref 0, .int 2, .int 0, .ref 36, .int 1] (by decide +kernel) ?_
  refine mx_scr 6 3 284 (by decide +kernel) (by decide +kernel) (by decide +kernel) ?_
  refine mx_eq 4 (mx_pt l3 u3 (by decide +kernel)) ?_
  refine mx_call 289 3 [.ref 36, .int 0, .int 2, .int 4] [.int 1] [(0, .ref 36), (1, .int 0), (2, .int 2), (3, .int 4)] (some (.int 1)) hh_a203 0 0 1 21 0 0 287 [.int 1, .int 1] ap_289 (by decide +kernel) (by decide +kernel) (iv_a304 6 xs zf hz) ?_
  refine mx_B 5 20 [(3, .int 6), (2, .ref 36), (1, .ref 21), (0, .ref 0)] [.ref 0, .int 6] (by decide +kernel) ?_
  refine mx_S (.arraylength) 1 [] 21 [(3, .int 6), (2, .ref 36), (1, .ref 21), (0, .ref 0)] [.int 6, .int 6] (by decide +kernel) rfl ?_
  refine mx_B 4 543 [(3, .int 6), (2, .ref 36), (1, .ref 21), (0, .ref 0)] [.int 1] (by decide +kernel) ?_
  exact mx_ret (some (.int 1)) (by decide +kernel) ⟨rfl, rfl⟩
theorem iv_a306 (L : Nat) (xs : Nat → Int32) (zf : Value) (hz : zf.category = 1) : mx_R L xs zf ah_M190 0 [(0, .ref 1), (1, .int 3), (2, .int 0)] [] hh_a203 0 0 0 0 (fun v h' => v = some (.int 0) ∧ h' = hh_a203) := by
  refine mx_B 12 22 [(0, .ref 1), (1, .int 3), (2, .int 0)] [.int 3, .ref 1] (by decide +kernel) ?_
  refine mx_B 5 27 [(0, .ref 1), (1, .int 3), (2, .int 0)] [.int 0] (by decide +kernel) ?_
  exact mx_ret (some (.int 0)) (by decide +kernel) ⟨rfl, rfl⟩
theorem iv_a307 (L : Nat) (xs : Nat → Int32) (zf : Value) (hz : zf.category = 1) : mx_R L xs zf ah_M221 0 [(0, .ref 21), (1, .int 0), (2, .int 3), (3, .int 0)] [] hh_a203 0 0 1 22 (fun v h' => v = some (.int 0) ∧ h' = hh_a203) := by
  refine mx_B 12 52 [(0, .ref 21), (1, .int 0), (2, .int 3), (3, .int 0)] [] (by decide +kernel) ?_
  refine mx_B 3 57 [(0, .ref 21), (1, .int 0), (2, .int 3), (3, .int 0)] [.int 0, .int 3, .ref 1] (by decide +kernel) ?_
  refine mx_call 190 3 [.ref 1, .int 3, .int 0] [] [(0, .ref 1), (1, .int 3), (2, .int 0)] (some (.int 0)) hh_a203 0 0 0 0 0 0 60 [.int 0] ap_190 (by decide +kernel) (by decide +kernel) (iv_a306 L xs zf hz) ?_
  exact mx_ret (some (.int 0)) (by decide +kernel) ⟨rfl, rfl⟩
theorem iv_a308 (L : Nat) (xs : Nat → Int32) (zf : Value) (hz : zf.category = 1) : mx_R L xs zf ah_M290 0 [(0, .int 3), (1, .int 0)] [] hh_a203 0 0 0 0 (fun v h' => v = some (.int 0) ∧ h' = hh_a203) := by
  refine mx_B 9 75 [(0, .int 3), (1, .int 0)] [.int 0] (by decide +kernel) ?_
  exact mx_ret (some (.int 0)) (by decide +kernel) ⟨rfl, rfl⟩
theorem iv_a309 (L : Nat) (xs : Nat → Int32) (zf : Value) (hz : zf.category = 1) : mx_R L xs zf ah_M289 0 [(0, .ref 36), (1, .int 0), (2, .int 3), (3, .int 0)] [] hh_a203 0 0 1 21 (fun v h' => v = some (.int 0) ∧ h' = hh_a203) := by
  refine mx_B 12 22 [(0, .ref 36), (1, .int 0), (2, .int 3), (3, .int 0)] [] (by decide +kernel) ?_
  refine mx_B 7 35 [(0, .ref 36), (1, .int 0), (2, .int 3), (3, .int 0)] [.int 0, .int 3] (by decide +kernel) ?_
  refine mx_call 290 3 [.int 3, .int 0] [] [(0, .int 3), (1, .int 0)] (some (.int 0)) hh_a203 0 0 0 0 0 0 38 [.int 0] ap_290 (by decide +kernel) (by decide +kernel) (iv_a308 L xs zf hz) ?_
  refine mx_B 2 46 [(0, .ref 36), (1, .int 0), (2, .int 3), (3, .int 0)] [.int 0] (by decide +kernel) ?_
  exact mx_ret (some (.int 0)) (by decide +kernel) ⟨rfl, rfl⟩
theorem iv_a310 (xs : Nat → Int32) (zf : Value) (hz : zf.category = 1) (hk : xs 0 &&& 15 = 5) (l1 : 0 ≤ (xs 1).toInt) (u1 : (xs 1).toInt ≤ 0) (l2 : 3 ≤ (xs 2).toInt) (u2 : (xs 2).toInt ≤ 3) (l3 : 0 ≤ (xs 3).toInt) (u3 : (xs 3).toInt ≤ 0) : mx_R 6 xs zf ah_M0 18 [(3, .int 0), (2, .ref 36), (1, .ref 21), (0, .ref 0)] [] hh_a203 0 0 2 45 (fun v h' => v = some (.int 1) ∧ h' = hh_a203) := by
  refine mx_B 2 20 [(3, .int 0), (2, .ref 36), (1, .ref 21), (0, .ref 0)] [.ref 0, .int 0] (by decide +kernel) ?_
  refine mx_S (.arraylength) 1 [] 21 [(3, .int 0), (2, .ref 36), (1, .ref 21), (0, .ref 0)] [.int 6, .int 0] (by decide +kernel) rfl ?_
  refine mx_B 5 29 [(3, .int 0), (2, .ref 36), (1, .ref 21), (0, .ref 0)] [.int 0, .ref 0] (by decide +kernel) ?_
  refine mx_scr 6 0 30 (by decide +kernel) (by decide +kernel) (by decide +kernel) ?_
  refine mx_S (.bipush 15) 2 [] 32 [(3, .int 0), (2, .ref 36), (1, .ref 21), (0, .ref 0)] [.int 15, .int (xs 0)] (by decide +kernel) rfl ?_
  refine mx_S (.iand) 1 [] 33 [(3, .int 0), (2, .ref 36), (1, .ref 21), (0, .ref 0)] [.int ((xs 0) &&& 15)] (by decide +kernel) rfl ?_
  refine mx_eq 5 hk ?_
  refine mx_B 6 254 [(3, .int 0), (2, .ref 36), (1, .ref 21), (0, .ref 0)] [.int 1, .ref 0, .ref 21] (by decide +kernel) ?_
  refine mx_scr 6 1 255 (by decide +kernel) (by decide +kernel) (by decide +kernel) ?_
  refine mx_eq 0 (mx_pt l1 u1 (by decide +kernel)) ?_
  refine mx_B 4 259 [(3, .int 0), (2, .ref 36), (1, .ref 21), (0, .ref 0)] [.int 2, .ref 0, .int 0, .ref 21] (by decide +kernel) ?_
  refine mx_scr 6 2 260 (by decide +kernel) (by decide +kernel) (by decide +kernel) ?_
  refine mx_eq 3 (mx_pt l2 u2 (by decide +kernel)) ?_
  refine mx_B 4 264 [(3, .int 0), (2, .ref 36), (1, .ref 21), (0, .ref 0)] [.int 3, .ref 0, .int 3, .int 0, .ref 21] (by decide +kernel) ?_
  refine mx_scr 6 3 265 (by decide +kernel) (by decide +kernel) (by decide +kernel) ?_
  refine mx_eq 0 (mx_pt l3 u3 (by decide +kernel)) ?_
  refine mx_call 221 3 [.ref 21, .int 0, .int 3, .int 0] [] [(0, .ref 21), (1, .int 0), (2, .int 3), (3, .int 0)] (some (.int 0)) hh_a203 0 0 1 22 0 0 268 [.int 0] ap_221 (by decide +kernel) (by decide +kernel) (iv_a307 6 xs zf hz) ?_
  refine mx_B 5 273 [(3, .int 0), (2, .ref 36), (1, .ref 21), (0, .ref 0)] [.int 1, .ref 0, .ref 36, .int 0] (by decide +kernel) ?_
  refine mx_scr 6 1 274 (by decide +kernel) (by decide +kernel) (by decide +kernel) ?_
  refine mx_eq 0 (mx_pt l1 u1 (by decide +kernel)) ?_
  refine mx_B 4 278 [(3, .int 0), (2, .ref 36), (1, .ref 21), (0, .ref 0)] [.int 2, .ref 0, .int 0, .ref 36, .int 0] (by decide +kernel) ?_
  refine mx_scr 6 2 279 (by decide +kernel) (by decide +kernel) (by decide +kernel) ?_
  refine mx_eq 3 (mx_pt l2 u2 (by decide +kernel)) ?_
  refine mx_B 4 283 [(3, .int 0), (2, .ref 36), (1, .ref 21), (0, .ref 0)] [.int 3, .ref 0, .int 3, .int 0, .ref 36, .int 0] (by decide +kernel) ?_
  refine mx_scr 6 3 284 (by decide +kernel) (by decide +kernel) (by decide +kernel) ?_
  refine mx_eq 0 (mx_pt l3 u3 (by decide +kernel)) ?_
  refine mx_call 289 3 [.ref 36, .int 0, .int 3, .int 0] [.int 0] [(0, .ref 36), (1, .int 0), (2, .int 3), (3, .int 0)] (some (.int 0)) hh_a203 0 0 1 21 0 0 287 [.int 0, .int 0] ap_289 (by decide +kernel) (by decide +kernel) (iv_a309 6 xs zf hz) ?_
  refine mx_B 5 20 [(3, .int 6), (2, .ref 36), (1, .ref 21), (0, .ref 0)] [.ref 0, .int 6] (by decide +kernel) ?_
  refine mx_S (.arraylength) 1 [] 21 [(3, .int 6), (2, .ref 36), (1, .ref 21), (0, .ref 0)] [.int 6, .int 6] (by decide +kernel) rfl ?_
  refine mx_B 4 543 [(3, .int 6), (2, .ref 36), (1, .ref 21), (0, .ref 0)] [.int 1] (by decide +kernel) ?_
  exact mx_ret (some (.int 1)) (by decide +kernel) ⟨rfl, rfl⟩
theorem iv_a311 (L : Nat) (xs : Nat → Int32) (zf : Value) (hz : zf.category = 1) : mx_R L xs zf ah_M190 0 [(0, .ref 1), (1, .int 3), (2, .int 1)] [] hh_a203 0 0 0 0 (fun v h' => v = some (.int 0) ∧ h' = hh_a203) := by
  refine mx_B 12 22 [(0, .ref 1), (1, .int 3), (2, .int 1)] [.int 3, .ref 1] (by decide +kernel) ?_
  refine mx_B 5 27 [(0, .ref 1), (1, .int 3), (2, .int 1)] [.int 0] (by decide +kernel) ?_
  exact mx_ret (some (.int 0)) (by decide +kernel) ⟨rfl, rfl⟩
theorem iv_a312 (L : Nat) (xs : Nat → Int32) (zf : Value) (hz : zf.category = 1) : mx_R L xs zf ah_M221 0 [(0, .ref 21), (1, .int 0), (2, .int 3), (3, .int 1)] [] hh_a203 0 0 1 22 (fun v h' => v = some (.int 0) ∧ h' = hh_a203) := by
  refine mx_B 12 52 [(0, .ref 21), (1, .int 0), (2, .int 3), (3, .int 1)] [] (by decide +kernel) ?_
  refine mx_B 3 57 [(0, .ref 21), (1, .int 0), (2, .int 3), (3, .int 1)] [.int 1, .int 3, .ref 1] (by decide +kernel) ?_
  refine mx_call 190 3 [.ref 1, .int 3, .int 1] [] [(0, .ref 1), (1, .int 3), (2, .int 1)] (some (.int 0)) hh_a203 0 0 0 0 0 0 60 [.int 0] ap_190 (by decide +kernel) (by decide +kernel) (iv_a311 L xs zf hz) ?_
  exact mx_ret (some (.int 0)) (by decide +kernel) ⟨rfl, rfl⟩
theorem iv_a313 (L : Nat) (xs : Nat → Int32) (zf : Value) (hz : zf.category = 1) : mx_R L xs zf ah_M290 0 [(0, .int 3), (1, .int 1)] [] hh_a203 0 0 0 0 (fun v h' => v = some (.int 0) ∧ h' = hh_a203) := by
  refine mx_B 9 75 [(0, .int 3), (1, .int 1)] [.int 0] (by decide +kernel) ?_
  exact mx_ret (some (.int 0)) (by decide +kernel) ⟨rfl, rfl⟩
theorem iv_a314 (L : Nat) (xs : Nat → Int32) (zf : Value) (hz : zf.category = 1) : mx_R L xs zf ah_M289 0 [(0, .ref 36), (1, .int 0), (2, .int 3), (3, .int 1)] [] hh_a203 0 0 1 21 (fun v h' => v = some (.int 0) ∧ h' = hh_a203) := by
  refine mx_B 12 22 [(0, .ref 36), (1, .int 0), (2, .int 3), (3, .int 1)] [] (by decide +kernel) ?_
  refine mx_B 7 35 [(0, .ref 36), (1, .int 0), (2, .int 3), (3, .int 1)] [.int 1, .int 3] (by decide +kernel) ?_
  refine mx_call 290 3 [.int 3, .int 1] [] [(0, .int 3), (1, .int 1)] (some (.int 0)) hh_a203 0 0 0 0 0 0 38 [.int 0] ap_290 (by decide +kernel) (by decide +kernel) (iv_a313 L xs zf hz) ?_
  refine mx_B 2 46 [(0, .ref 36), (1, .int 0), (2, .int 3), (3, .int 1)] [.int 0] (by decide +kernel) ?_
  exact mx_ret (some (.int 0)) (by decide +kernel) ⟨rfl, rfl⟩
theorem iv_a315 (xs : Nat → Int32) (zf : Value) (hz : zf.category = 1) (hk : xs 0 &&& 15 = 5) (l1 : 0 ≤ (xs 1).toInt) (u1 : (xs 1).toInt ≤ 0) (l2 : 3 ≤ (xs 2).toInt) (u2 : (xs 2).toInt ≤ 3) (l3 : 1 ≤ (xs 3).toInt) (u3 : (xs 3).toInt ≤ 1) : mx_R 6 xs zf ah_M0 18 [(3, .int 0), (2, .ref 36), (1, .ref 21), (0, .ref 0)] [] hh_a203 0 0 2 45 (fun v h' => v = some (.int 1) ∧ h' = hh_a203) := by
  refine mx_B 2 20 [(3, .int 0), (2, .ref 36), (1, .ref 21), (0, .ref 0)] [.ref 0, .int 0] (by decide +kernel) ?_
  refine mx_S (.arraylength) 1 [] 21 [(3, .int 0), (2, .ref 36), (1, .ref 21), (0, .ref 0)] [.int 6, .int 0] (by decide +kernel) rfl ?_
  refine mx_B 5 29 [(3, .int 0), (2, .ref 36), (1, .ref 21), (0, .ref 0)] [.int 0, .ref 0] (by decide +kernel) ?_
  refine mx_scr 6 0 30 (by decide +kernel) (by decide +kernel) (by decide +kernel) ?_
  refine mx_S (.bipush 15) 2 [] 32 [(3, .int 0), (2, .ref 36), (1, .ref 21), (0, .ref 0)] [.int 15, .int (xs 0)] (by decide +kernel) rfl ?_
  refine mx_S (.iand) 1 [] 33 [(3, .int 0), (2, .ref 36), (1, .ref 21), (0, .ref 0)] [.int ((xs 0) &&& 15)] (by decide +kernel) rfl ?_
  refine mx_eq 5 hk ?_
  refine mx_B 6 254 [(3, .int 0), (2, .ref 36), (1, .ref 21), (0, .ref 0)] [.int 1, .ref 0, .ref 21] (by decide +kernel) ?_
  refine mx_scr 6 1 255 (by decide +kernel) (by decide +kernel) (by decide +kernel) ?_
  refine mx_eq 0 (mx_pt l1 u1 (by decide +kernel)) ?_
  refine mx_B 4 259 [(3, .int 0), (2, .ref 36), (1, .ref 21), (0, .ref 0)] [.int 2, .ref 0, .int 0, .ref 21] (by decide +kernel) ?_
  refine mx_scr 6 2 260 (by decide +kernel) (by decide +kernel) (by decide +kernel) ?_
  refine mx_eq 3 (mx_pt l2 u2 (by decide +kernel)) ?_
  refine mx_B 4 264 [(3, .int 0), (2, .ref 36), (1, .ref 21), (0, .ref 0)] [.int 3, .ref 0, .int 3, .int 0, .ref 21] (by decide +kernel) ?_
  refine mx_scr 6 3 265 (by decide +kernel) (by decide +kernel) (by decide +kernel) ?_
  refine mx_eq 1 (mx_pt l3 u3 (by decide +kernel)) ?_
  refine mx_call 221 3 [.ref 21, .int 0, .int 3, .int 1] [] [(0, .ref 21), (1, .int 0), (2, .int 3), (3, .int 1)] (some (.int 0)) hh_a203 0 0 1 22 0 0 268 [.int 0] ap_221 (by decide +kernel) (by decide +kernel) (iv_a312 6 xs zf hz) ?_
  refine mx_B 5 273 [(3, .int 0), (2, .ref 36), (1, .ref 21), (0, .ref 0)] [.int 1, .ref 0, .ref 36, .int 0] (by decide +kernel) ?_
  refine mx_scr 6 1 274 (by decide +kernel) (by decide +kernel) (by decide +kernel) ?_
  refine mx_eq 0 (mx_pt l1 u1 (by decide +kernel)) ?_
  refine mx_B 4 278 [(3, .int 0), (2, .ref 36), (1, .ref 21), (0, .ref 0)] [.int 2, .ref 0, .int 0, .ref 36, .int 0] (by decide +kernel) ?_
  refine mx_scr 6 2 279 (by decide +kernel) (by decide +kernel) (by decide +kernel) ?_
  refine mx_eq 3 (mx_pt l2 u2 (by decide +kernel)) ?_
  refine mx_B 4 283 [(3, .int 0), (2, .ref 36), (1, .ref 21), (0, .ref 0)] [.int 3, .ref 0, .int 3, .int 0, .ref 36, .int 0] (by decide +kernel) ?_
  refine mx_scr 6 3 284 (by decide +kernel) (by decide +kernel) (by decide +kernel) ?_
  refine mx_eq 1 (mx_pt l3 u3 (by decide +kernel)) ?_
  refine mx_call 289 3 [.ref 36, .int 0, .int 3, .int 1] [.int 0] [(0, .ref 36), (1, .int 0), (2, .int 3), (3, .int 1)] (some (.int 0)) hh_a203 0 0 1 21 0 0 287 [.int 0, .int 0] ap_289 (by decide +kernel) (by decide +kernel) (iv_a314 6 xs zf hz) ?_
  refine mx_B 5 20 [(3, .int 6), (2, .ref 36), (1, .ref 21), (0, .ref 0)] [.ref 0, .int 6] (by decide +kernel) ?_
  refine mx_S (.arraylength) 1 [] 21 [(3, .int 6), (2, .ref 36), (1, .ref 21), (0, .ref 0)] [.int 6, .int 6] (by decide +kernel) rfl ?_
  refine mx_B 4 543 [(3, .int 6), (2, .ref 36), (1, .ref 21), (0, .ref 0)] [.int 1] (by decide +kernel) ?_
  exact mx_ret (some (.int 1)) (by decide +kernel) ⟨rfl, rfl⟩
theorem iv_a316 (L : Nat) (xs : Nat → Int32) (zf : Value) (hz : zf.category = 1) : mx_R L xs zf ah_M190 0 [(0, .ref 1), (1, .int 3), (2, .int 2)] [] hh_a203 0 0 0 0 (fun v h' => v = some (.int 0) ∧ h' = hh_a203) := by
  refine mx_B 12 22 [(0, .ref 1), (1, .int 3), (2, .int 2)] [.int 3, .ref 1] (by decide +kernel) ?_
  refine mx_B 5 27 [(0, .ref 1), (1, .int 3), (2, .int 2)] [.int 0] (by decide +kernel) ?_
  exact mx_ret (some (.int 0)) (by decide +kernel) ⟨rfl, rfl⟩
theorem iv_a317 (L : Nat) (xs : Nat → Int32) (zf : Value) (hz : zf.category = 1) : mx_R L xs zf ah_M221 0 [(0, .ref 21), (1, .int 0), (2, .int 3), (3, .int 2)] [] hh_a203 0 0 1 22 (fun v h' => v = some (.int 0) ∧ h' = hh_a203) := by
  refine mx_B 12 52 [(0, .ref 21), (1, .int 0), (2, .int 3), (3, .int 2)] [] (by decide +kernel) ?_
  refine mx_B 3 57 [(0, .ref 21), (1, .int 0), (2, .int 3), (3, .int 2)] [.int 2, .int 3, .ref 1] (by decide +kernel) ?_
  refine mx_call 190 3 [.ref 1, .int 3, .int 2] [] [(0, .ref 1), (1, .int 3), (2, .int 2)] (some (.int 0)) hh_a203 0 0 0 0 0 0 60 [.int 0] ap_190 (by decide +kernel) (by decide +kernel) (iv_a316 L xs zf hz) ?_
  exact mx_ret (some (.int 0)) (by decide +kernel) ⟨rfl, rfl⟩
theorem iv_a318 (L : Nat) (xs : Nat → Int32) (zf : Value) (hz : zf.category = 1) : mx_R L xs zf ah_M290 0 [(0, .int 3), (1, .int 2)] [] hh_a203 0 0 0 0 (fun v h' => v = some (.int 0) ∧ h' = hh_a203) := by
  refine mx_B 9 75 [(0, .int 3), (1, .int 2)] [.int 0] (by decide +kernel) ?_
  exact mx_ret (some (.int 0)) (by decide +kernel) ⟨rfl, rfl⟩
theorem iv_a319 (L : Nat) (xs : Nat → Int32) (zf : Value) (hz : zf.category = 1) : mx_R L xs zf ah_M289 0 [(0, .ref 36), (1, .int 0), (2, .int 3), (3, .int 2)] [] hh_a203 0 0 1 21 (fun v h' => v = some (.int 0) ∧ h' = hh_a203) := by
  refine mx_B 12 22 [(0, .ref 36), (1, .int 0), (2, .int 3), (3, .int 2)] [] (by decide +kernel) ?_
  refine mx_B 7 35 [(0, .ref 36), (1, .int 0), (2, .int 3), (3, .int 2)] [.int 2, .int 3] (by decide +kernel) ?_
  refine mx_call 290 3 [.int 3, .int 2] [] [(0, .int 3), (1, .int 2)] (some (.int 0)) hh_a203 0 0 0 0 0 0 38 [.int 0] ap_290 (by decide +kernel) (by decide +kernel) (iv_a318 L xs zf hz) ?_
  refine mx_B 2 46 [(0, .ref 36), (1, .int 0), (2, .int 3), (3, .int 2)] [.int 0] (by decide +kernel) ?_
  exact mx_ret (some (.int 0)) (by decide +kernel) ⟨rfl, rfl⟩
theorem iv_a320 (xs : Nat → Int32) (zf : Value) (hz : zf.category = 1) (hk : xs 0 &&& 15 = 5) (l1 : 0 ≤ (xs 1).toInt) (u1 : (xs 1).toInt ≤ 0) (l2 : 3 ≤ (xs 2).toInt) (u2 : (xs 2).toInt ≤ 3) (l3 : 2 ≤ (xs 3).toInt) (u3 : (xs 3).toInt ≤ 2) : mx_R 6 xs zf ah_M0 18 [(3, .int 0), (2, .ref 36), (1, .ref 21), (0, .ref 0)] [] hh_a203 0 0 2 45 (fun v h' => v = some (.int 1) ∧ h' = hh_a203) := by
  refine mx_B 2 20 [(3, .int 0), (2, .ref 36), (1, .ref 21), (0, .ref 0)] [.ref 0, .int 0] (by decide +kernel) ?_
  refine mx_S (.arraylength) 1 [] 21 [(3, .int 0), (2, .ref 36), (1, .ref 21), (0, .ref 0)] [.int 6, .int 0] (by decide +kernel) rfl ?_
  refine mx_B 5 29 [(3, .int 0), (2, .ref 36), (1, .ref 21), (0, .ref 0)] [.int 0, .ref 0] (by decide +kernel) ?_
  refine mx_scr 6 0 30 (by decide +kernel) (by decide +kernel) (by decide +kernel) ?_
  refine mx_S (.bipush 15) 2 [] 32 [(3, .int 0), (2, .ref 36), (1, .ref 21), (0, .ref 0)] [.int 15, .int (xs 0)] (by decide +kernel) rfl ?_
  refine mx_S (.iand) 1 [] 33 [(3, .int 0), (2, .ref 36), (1, .ref 21), (0, .ref 0)] [.int ((xs 0) &&& 15)] (by decide +kernel) rfl ?_
  refine mx_eq 5 hk ?_
  refine mx_B 6 254 [(3, .int 0), (2, .ref 36), (1, .ref 21), (0, .ref 0)] [.int 1, .ref 0, .ref 21] (by decide +kernel) ?_
  refine mx_scr 6 1 255 (by decide +kernel) (by decide +kernel) (by decide +kernel) ?_
  refine mx_eq 0 (mx_pt l1 u1 (by decide +kernel)) ?_
  refine mx_B 4 259 [(3, .int 0), (2, .ref 36), (1, .ref 21), (0, .ref 0)] [.int 2, .ref 0, .int 0, .ref 21] (by decide +kernel) ?_
  refine mx_scr 6 2 260 (by decide +kernel) (by decide +kernel) (by decide +kernel) ?_
  refine mx_eq 3 (mx_pt l2 u2 (by decide +kernel)) ?_
  refine mx_B 4 264 [(3, .int 0), (2, .ref 36), (1, .ref 21), (0, .ref 0)] [.int 3, .ref 0, .int 3, .int 0, .ref 21] (by decide +kernel) ?_
  refine mx_scr 6 3 265 (by decide +kernel) (by decide +kernel) (by decide +kernel) ?_
  refine mx_eq 2 (mx_pt l3 u3 (by decide +kernel)) ?_
  refine mx_call 221 3 [.ref 21, .int 0, .int 3, .int 2] [] [(0, .ref 21), (1, .int 0), (2, .int 3), (3, .int 2)] (some (.int 0)) hh_a203 0 0 1 22 0 0 268 [.int 0] ap_221 (by decide +kernel) (by decide +kernel) (iv_a317 6 xs zf hz) ?_
  refine mx_B 5 273 [(3, .int 0), (2, .ref 36), (1, .ref 21), (0, .ref 0)] [.int 1, .ref 0, .ref 36, .int 0] (by decide +kernel) ?_
  refine mx_scr 6 1 274 (by decide +kernel) (by decide +kernel) (by decide +kernel) ?_
  refine mx_eq 0 (mx_pt l1 u1 (by decide +kernel)) ?_
  refine mx_B 4 278 [(3, .int 0), (2, .ref 36), (1, .ref 21), (0, .ref 0)] [.int 2, .ref 0, .int 0, .ref 36, .int 0] (by decide +kernel) ?_
  refine mx_scr 6 2 279 (by decide +kernel) (by decide +kernel) (by decide +kernel) ?_
  refine mx_eq 3 (mx_pt l2 u2 (by decide +kernel)) ?_
  refine mx_B 4 283 [(3, .int 0), (2, .ref 36), (1, .ref 21), (0, .ref 0)] [.int 3, .ref 0, .int 3, .int 0, .ref 36, .int 0] (by decide +kernel) ?_
  refine mx_scr 6 3 284 (by decide +kernel) (by decide +kernel) (by decide +kernel) ?_
  refine mx_eq 2 (mx_pt l3 u3 (by decide +kernel)) ?_
  refine mx_call 289 3 [.ref 36, .int 0, .int 3, .int 2] [.int 0] [(0, .ref 36), (1, .int 0), (2, .int 3), (3, .int 2)] (some (.int 0)) hh_a203 0 0 1 21 0 0 287 [.int 0, .int 0] ap_289 (by decide +kernel) (by decide +kernel) (iv_a319 6 xs zf hz) ?_
  refine mx_B 5 20 [(3, .int 6), (2, .ref 36), (1, .ref 21), (0, .ref 0)] [.ref 0, .int 6] (by decide +kernel) ?_
  refine mx_S (.arraylength) 1 [] 21 [(3, .int 6), (2, .ref 36), (1, .ref 21), (0, .ref 0)] [.int 6, .int 6] (by decide +kernel) rfl ?_
  refine mx_B 4 543 [(3, .int 6), (2, .ref 36), (1, .ref 21), (0, .ref 0)] [.int 1] (by decide +kernel) ?_
  exact mx_ret (some (.int 1)) (by decide +kernel) ⟨rfl, rfl⟩
theorem iv_a321 (L : Nat) (xs : Nat → Int32) (zf : Value) (hz : zf.category = 1) : mx_R L xs zf ah_M190 0 [(0, .ref 1), (1, .int 3), (2, .int 3)] [] hh_a203 0 0 0 0 (fun v h' => v = some (.int 1) ∧ h' = hh_a203) := by
  refine mx_B 12 22 [(0, .ref 1), (1, .int 3), (2, .int 3)] [.int 3, .ref 1] (by decide +kernel) ?_
  refine mx_B 5 27 [(0, .ref 1), (1, .int 3), (2, .int 3)] [.int 1] (by decide +kernel) ?_
  exact mx_ret (some (.int 1)) (by decide +kernel) ⟨rfl, rfl⟩
theorem iv_a322 (L : Nat) (xs : Nat → Int32) (zf : Value) (hz : zf.category = 1) : mx_R L xs zf ah_M221 0 [(0, .ref 21), (1, .int 0), (2, .int 3), (3, .int 3)] [] hh_a203 0 0 1 22 (fun v h' => v = some (.int 1) ∧ h' = hh_a203) := by
  refine mx_B 12 52 [(0, .ref 21), (1, .int 0), (2, .int 3), (3, .int 3)] [] (by decide +kernel) ?_
  refine mx_B 3 57 [(0, .ref 21), (1, .int 0), (2, .int 3), (3, .int 3)] [.int 3, .int 3, .ref 1] (by decide +kernel) ?_
  refine mx_call 190 3 [.ref 1, .int 3, .int 3] [] [(0, .ref 1), (1, .int 3), (2, .int 3)] (some (.int 1)) hh_a203 0 0 0 0 0 0 60 [.int 1] ap_190 (by decide +kernel) (by decide +kernel) (iv_a321 L xs zf hz) ?_
  exact mx_ret (some (.int 1)) (by decide +kernel) ⟨rfl, rfl⟩
theorem iv_a323 (L : Nat) (xs : Nat → Int32) (zf : Value) (hz : zf.category = 1) : mx_R L xs zf ah_M290 0 [(0, .int 3), (1, .int 3)] [] hh_a203 0 0 0 0 (fun v h' => v = some (.int 1) ∧ h' = hh_a203) := by
  refine mx_B 7 75 [(0, .int 3), (1, .int 3)] [.int 1] (by decide +kernel) ?_
  exact mx_ret (some (.int 1)) (by decide +kernel) ⟨rfl, rfl⟩
theorem iv_a324 (L : Nat) (xs : Nat → Int32) (zf : Value) (hz : zf.category = 1) : mx_R L xs zf ah_M289 0 [(0, .ref 36), (1, .int 0), (2, .int 3), (3, .int 3)] [] hh_a203 0 0 1 21 (fun v h' => v = some (.int 1) ∧ h' = hh_a203) := by
  refine mx_B 12 22 [(0, .ref 36), (1, .int 0), (2, .int 3), (3, .int 3)] [] (by decide +kernel) ?_
  refine mx_B 7 35 [(0, .ref 36), (1, .int 0), (2, .int 3), (3, .int 3)] [.int 3, .int 3] (by decide +kernel) ?_
  refine mx_call 290 3 [.int 3, .int 3] [] [(0, .int 3), (1, .int 3)] (some (.int 1)) hh_a203 0 0 0 0 0 0 38 [.int 1] ap_290 (by decide +kernel) (by decide +kernel) (iv_a323 L xs zf hz) ?_
  refine mx_B 3 46 [(0, .ref 36), (1, .int 0), (2, .int 3), (3, .int 3)] [.int 1] (by decide +kernel) ?_
  exact mx_ret (some (.int 1)) (by decide +kernel) ⟨rfl, rfl⟩
theorem iv_a325 (xs : Nat → Int32) (zf : Value) (hz : zf.category = 1) (hk : xs 0 &&& 15 = 5) (l1 : 0 ≤ (xs 1).toInt) (u1 : (xs 1).toInt ≤ 0) (l2 : 3 ≤ (xs 2).toInt) (u2 : (xs 2).toInt ≤ 3) (l3 : 3 ≤ (xs 3).toInt) (u3 : (xs 3).toInt ≤ 3) : mx_R 6 xs zf ah_M0 18 [(3, .int 0), (2, .ref 36), (1, .ref 21), (0, .ref 0)] [] hh_a203 0 0 2 45 (fun v h' => v = some (.int 1) ∧ h' = hh_a203) := by
  refine mx_B 2 20 [(3, .int 0), (2, .ref 36), (1, .ref 21), (0, .ref 0)] [.ref 0, .int 0] (by decide +kernel) ?_
  refine mx_S (.arraylength) 1 [] 21 [(3, .int 0), (2, .ref 36), (1, .ref 21), (0, .ref 0)] [.int 6, .int 0] (by decide +kernel) rfl ?_
  refine mx_B 5 29 [(3, .int 0), (2, .ref 36), (1, .ref 21), (0, .ref 0)] [.int 0, .ref 0] (by decide +kernel) ?_
  refine mx_scr 6 0 30 (by decide +kernel) (by decide +kernel) (by decide +kernel) ?_
  refine mx_S (.bipush 15) 2 [] 32 [(3, .int 0), (2, .ref 36), (1, .ref 21), (0, .ref 0)] [.int 15, .int (xs 0)] (by decide +kernel) rfl ?_
  refine mx_S (.iand) 1 [] 33 [(3, .int 0), (2, .ref 36), (1, .ref 21), (0, .ref 0)] [.int ((xs 0) &&& 15)] (by decide +kernel) rfl ?_
  refine mx_eq 5 hk ?_
  refine mx_B 6 254 [(3, .int 0), (2, .ref 36), (1, .ref 21), (0, .ref 0)] [.int 1, .ref 0, .ref 21] (by decide +kernel) ?_
  refine mx_scr 6 1 255 (by decide +kernel) (by decide +kernel) (by decide +kernel) ?_
  refine mx_eq 0 (mx_pt l1 u1 (by decide +kernel)) ?_
  refine mx_B 4 259 [(3, .int 0), (2, .ref 36), (1, .ref 21), (0, .ref 0)] [.int 2, .ref 0, .int 0, .ref 21] (by decide +kernel) ?_
  refine mx_scr 6 2 260 (by decide +kernel) (by decide +kernel) (by decide +kernel) ?_
  refine mx_eq 3 (mx_pt l2 u2 (by decide +kernel)) ?_
  refine mx_B 4 264 [(3, .int 0), (2, .ref 36), (1, .ref 21), (0, .ref 0)] [.int 3, .ref 0, .int 3, .int 0, .ref 21] (by decide +kernel) ?_
  refine mx_scr 6 3 265 (by decide +kernel) (by decide +kernel) (by decide +kernel) ?_
  refine mx_eq 3 (mx_pt l3 u3 (by decide +kernel)) ?_
  refine mx_call 221 3 [.ref 21, .int 0, .int 3, .int 3] [] [(0, .ref 21), (1, .int 0), (2, .int 3), (3, .int 3)] (some (.int 1)) hh_a203 0 0 1 22 0 0 268 [.int 1] ap_221 (by decide +kernel) (by decide +kernel) (iv_a322 6 xs zf hz) ?_
  refine mx_B 5 273 [(3, .int 0), (2, .ref 36), (1, .ref 21), (0, .ref 0)] [.int 1, .ref 0, .ref 36, .int 1] (by decide +kernel) ?_
  refine mx_scr 6 1 274 (by decide +kernel) (by decide +kernel) (by decide +kernel) ?_
  refine mx_eq 0 (mx_pt l1 u1 (by decide +kernel)) ?_
  refine mx_B 4 278 [(3, .int 0), (2, .ref 36), (1, .ref 21), (0, .ref 0)] [.int 2, .ref 0, .int 0, .ref 36, .int 1] (by decide +kernel) ?_
  refine mx_scr 6 2 279 (by decide +kernel) (by decide +kernel) (by decide +kernel) ?_
  refine mx_eq 3 (mx_pt l2 u2 (by decide +kernel)) ?_
  refine mx_B 4 283 [(3, .int 0), (2, .ref 36), (1, .ref 21), (0, .ref 0)] [.int 3, .ref 0, .int 3, .int 0, .ref 36, .int 1] (by decide +kernel) ?_
  refine mx_scr 6 3 284 (by decide +kernel) (by decide +kernel) (by decide +kernel) ?_
  refine mx_eq 3 (mx_pt l3 u3 (by decide +kernel)) ?_
  refine mx_call 289 3 [.ref 36, .int 0, .int 3, .int 3] [.int 1] [(0, .ref 36), (1, .int 0), (2, .int 3), (3, .int 3)] (some (.int 1)) hh_a203 0 0 1 21 0 0 287 [.int 1, .int 1] ap_289 (by decide +kernel) (by decide +kernel) (iv_a324 6 xs zf hz) ?_
  refine mx_B 5 20 [(3, .int 6), (2, .ref 36), (1, .ref 21), (0, .ref 0)] [.ref 0, .int 6] (by decide +kernel) ?_
  refine mx_S (.arraylength) 1 [] 21 [(3, .int 6), (2, .ref 36), (1, .ref 21), (0, .ref 0)] [.int 6, .int 6] (by decide +kernel) rfl ?_
  refine mx_B 4 543 [(3, .int 6), (2, .ref 36), (1, .ref 21), (0, .ref 0)] [.int 1] (by decide +kernel) ?_
  exact mx_ret (some (.int 1)) (by decide +kernel) ⟨rfl, rfl⟩
theorem iv_a326 (L : Nat) (xs : Nat → Int32) (zf : Value) (hz : zf.category = 1) : mx_R L xs zf ah_M190 0 [(0, .ref 1), (1, .int 3), (2, .int 4)] [] hh_a203 0 0 0 0 (fun v h' => v = some (.int 1) ∧ h' = hh_a203) := by
  refine mx_B 12 22 [(0, .ref 1), (1, .int 3), (2, .int 4)] [.int 3, .ref 1] (by decide +kernel) ?_
  refine mx_B 5 27 [(0, .ref 1), (1, .int 3), (2, .int 4)] [.int 1] (by decide +kernel) ?_
  exact mx_ret (some (.int 1)) (by decide +kernel) ⟨rfl, rfl⟩
theorem iv_a327 (L : Nat) (xs : Nat → Int32) (zf : Value) (hz : zf.category = 1) : mx_R L xs zf ah_M221 0 [(0, .ref 21), (1, .int 0), (2, .int 3), (3, .int 4)] [] hh_a203 0 0 1 22 (fun v h' => v = some (.int 1) ∧ h' = hh_a203) := by
  refine mx_B 12 52 [(0, .ref 21), (1, .int 0), (2, .int 3), (3, .int 4)] [] (by decide +kernel) ?_
  refine mx_B 3 57 [(0, .ref 21), (1, .int 0), (2, .int 3), (3, .int 4)] [.int 4, .int 3, .ref 1] (by decide +kernel) ?_
  refine mx_call 190 3 [.ref 1, .int 3, .int 4] [] [(0, .ref 1), (1, .int 3), (2, .int 4)] (some (.int 1)) hh_a203 0 0 0 0 0 0 60 [.int 1] ap_190 (by decide +kernel) (by decide +kernel) (iv_a326 L xs zf hz) ?_
  exact mx_ret (some (.int 1)) (by decide +kernel) ⟨rfl, rfl⟩
theorem iv_a328 (L : Nat) (xs : Nat → Int32) (zf : Value) (hz : zf.category = 1) : mx_R L xs zf ah_M290 0 [(0, .int 3), (1, .int 4)] [] hh_a203 0 0 0 0 (fun v h' => v = some (.int 1) ∧ h' = hh_a203) := by
  refine mx_B 10 75 [(0, .int 3), (1, .int 4)] [.int 1] (by decide +kernel) ?_
  exact mx_ret (some (.int 1)) (by decide +kernel) ⟨rfl, rfl⟩
theorem iv_a329 (L : Nat) (xs : Nat → Int32) (zf : Value) (hz : zf.category = 1) : mx_R L xs zf ah_M289 0 [(0, .ref 36), (1, .int 0), (2, .int 3), (3, .int 4)] [] hh_a203 0 0 1 21 (fun v h' => v = some (.int 1) ∧ h' = hh_a203) := by
  refine mx_B 12 22 [(0, .ref 36), (1, .int 0), (2, .int 3), (3, .int 4)] [] (by decide +kernel) ?_
  refine mx_B 7 35 [(0, .ref 36), (1, .int 0), (2, .int 3), (3, .int 4)] [.int 4, .int 3] (by decide +kernel) ?_
  refine mx_call 290 3 [.int 3, .int 4] [] [(0, .int 3), (1, .int 4)] (some (.int 1)) hh_a203 0 0 0 0 0 0 38 [.int 1] ap_290 (by decide +kernel) (by decide +kernel) (iv_a328 L xs zf hz) ?_
  refine mx_B 3 46 [(0, .ref 36), (1, .int 0), (2, .int 3), (3, .int 4)] [.int 1] (by decide +kernel) ?_
  exact mx_ret (some (.int 1)) (by decide +kernel) ⟨rfl, rfl⟩
theorem iv_a330 (xs : Nat → Int32) (zf : Value) (hz : zf.category = 1) (hk : xs 0 &&& 15 = 5) (l1 : 0 ≤ (xs 1).toInt) (u1 : (xs 1).toInt ≤ 0) (l2 : 3 ≤ (xs 2).toInt) (u2 : (xs 2).toInt ≤ 3) (l3 : 4 ≤ (xs 3).toInt) (u3 : (xs 3).toInt ≤ 4) : mx_R 6 xs zf ah_M0 18 [(3, .int 0), (2, .ref 36), (1, .ref 21), (0, .ref 0)] [] hh_a203 0 0 2 45 (fun v h' => v = some (.int 1) ∧ h' = hh_a203) := by
  refine mx_B 2 20 [(3, .int 0), (2, .ref 36), (1, .ref 21), (0, .ref 0)] [.ref 0, .int 0] (by decide +kernel) ?_
  refine mx_S (.arraylength) 1 [] 21 [(3, .int 0), (2, .ref 36), (1, .ref 21), (0, .ref 0)] [.int 6, .int 0] (by decide +kernel) rfl ?_
  refine mx_B 5 29 [(3, .int 0), (2, .ref 36), (1, .ref 21), (0, .ref 0)] [.int 0, .ref 0] (by decide +kernel) ?_
  refine mx_scr 6 0 30 (by decide +kernel) (by decide +kernel) (by decide +kernel) ?_
  refine mx_S (.bipush 15) 2 [] 32 [(3, .int 0), (2, .ref 36), (1, .ref 21), (0, .ref 0)] [.int 15, .int (xs 0)] (by decide +kernel) rfl ?_
  refine mx_S (.iand) 1 [] 33 [(3, .int 0), (2, .ref 36), (1, .ref 21), (0, .ref 0)] [.int ((xs 0) &&& 15)] (by decide +kernel) rfl ?_
  refine mx_eq 5 hk ?_
  refine mx_B 6 254 [(3, .int 0), (2, .ref 36), (1, .ref 21), (0, .ref 0)] [.int 1, .ref 0, .ref 21] (by decide +kernel) ?_
  refine mx_scr 6 1 255 (by decide +kernel) (by decide +kernel) (by decide +kernel) ?_
  refine mx_eq 0 (mx_pt l1 u1 (by decide +kernel)) ?_
  refine mx_B 4 259 [(3, .int 0), (2, .ref 36), (1, .ref 21), (0, .ref 0)] [.int 2, .ref 0, .int 0, .ref 21] (by decide +kernel) ?_
  refine mx_scr 6 2 260 (by decide +kernel) (by decide +kernel) (by decide +kernel) ?_
  refine mx_eq 3 (mx_pt l2 u2 (by decide +kernel)) ?_
  refine mx_B 4 264 [(3, .int 0), (2, .ref 36), (1, .ref 21), (0, .ref 0)] [.int 3, .ref 0, .int 3, .int 0, .ref 21] (by decide +kernel) ?_
  refine mx_scr 6 3 265 (by decide +kernel) (by decide +kernel) (by decide +kernel) ?_
  refine mx_eq 4 (mx_pt l3 u3 (by decide +kernel)) ?_
  refine mx_call 221 3 [.ref 21, .int 0, .int 3, .int 4] [] [(0, .ref 21), (1, .int 0), (2, .int 3), (3, .int 4)] (some (.int 1)) hh_a203 0 0 1 22 0 0 268 [.int 1] ap_221 (by decide +kernel) (by decide +kernel) (iv_a327 6 xs zf hz) ?_
  refine mx_B 5 273 [(3, .int 0), (2, .ref 36), (1, .ref 21), (0, .ref 0)] [.int 1, .ref 0, .ref 36, .int 1] (by decide +kernel) ?_
  refine mx_scr 6 1 274 (by decide +kernel) (by decide +kernel) (by decide +kernel) ?_
  refine mx_eq 0 (mx_pt l1 u1 (by decide +kernel)) ?_
  refine mx_B 4 278 [(3, .int 0), (2, .ref 36), (1, .ref 21), (0, .ref 0)] [.int 2, .ref 0, .int 0, .ref 36, .int 1] (by decide +kernel) ?_
  refine mx_scr 6 2 279 (by decide +kernel) (by decide +kernel) (by decide +kernel) ?_
  refine mx_eq 3 (mx_pt l2 u2 (by decide +kernel)) ?_
  refine mx_B 4 283 [(3, .int 0), (2, .ref 36), (1, .ref 21), (0, .ref 0)] [.int 3, .ref 0, .int 3, .int 0, .ref 36, .int 1] (by decide +kernel) ?_
  refine mx_scr 6 3 284 (by decide +kernel) (by decide +kernel) (by decide +kernel) ?_
  refine mx_eq 4 (mx_pt l3 u3 (by decide +kernel)) ?_
  refine mx_call 289 3 [.ref 36, .int 0, .int 3, .int 4] [.int 1] [(0, .ref 36), (1, .int 0), (2, .int 3), (3, .int 4)] (some (.int 1)) hh_a203 0 0 1 21 0 0 287 [.int 1, .int 1] ap_289 (by decide +kernel) (by decide +kernel) (iv_a329 6 xs zf hz) ?_
  refine mx_B 5 20 [(3, .int 6), (2, .ref 36), (1, .ref 21), (0, .ref 0)] [.ref 0, .int 6] (by decide +kernel) ?_
  refine mx_S (.arraylength) 1 [] 21 [(3, .int 6), (2, .ref 36), (1, .ref 21), (0, .ref 0)] [.int 6, .int 6] (by decide +kernel) rfl ?_
  refine mx_B 4 543 [(3, .int 6), (2, .ref 36), (1, .ref 21), (0, .ref 0)] [.int 1] (by decide +kernel) ?_
  exact mx_ret (some (.int 1)) (by decide +kernel) ⟨rfl, rfl⟩
theorem iv_a331 (L : Nat) (xs : Nat → Int32) (zf : Value) (hz : zf.category = 1) : mx_R L xs zf ah_M190 0 [(0, .ref 1), (1, .int 4), (2, .int 0)] [] hh_a203 0 0 0 0 (fun v h' => v = some (.int 0) ∧ h' = hh_a203) := by
  refine mx_B 12 22 [(0, .ref 1), (1, .int 4), (2, .int 0)] [.int 4, .ref 1] (by decide +kernel) ?_
  refine mx_B 5 27 [(0, .ref 1), (1, .int 4), (2, .int 0)] [.int 0] (by decide +kernel) ?_
  exact mx_ret (some (.int 0)) (by decide +kernel) ⟨rfl, rfl⟩
theorem iv_a332 (L : Nat) (xs : Nat → Int32) (zf : Value) (hz : zf.category = 1) : mx_R L xs zf ah_M221 0 [(0, .ref 21), (1, .int 0), (2, .int 4), (3, .int 0)] [] hh_a203 0 0 1 22 (fun v h' => v = some (.int 0) ∧ h' = hh_a203) := by
  refine mx_B 12 52 [(0, .ref 21), (1, .int 0), (2, .int 4), (3, .int 0)] [] (by decide +kernel) ?_
  refine mx_B 3 57 [(0, .ref 21), (1, .int 0), (2, .int 4), (3, .int 0)] [.int 0, .int 4, .ref 1] (by decide +kernel) ?_
  refine mx_call 190 3 [.ref 1, .int 4, .int 0] [] [(0, .ref 1), (1, .int 4), (2, .int 0)] (some (.int 0)) hh_a203 0 0 0 0 0 0 60 [.int 0] ap_190 (by decide +kernel) (by decide +kernel) (iv_a331 L xs zf hz) ?_
  exact mx_ret (some (.int 0)) (by decide +kernel) ⟨rfl, rfl⟩
theorem iv_a333 (L : Nat) (xs : Nat → Int32) (zf : Value) (hz : zf.category = 1) : mx_R L xs zf ah_M290 0 [(0, .int 4), (1, .int 0)] [] hh_a203 0 0 0 0 (fun v h' => v = some (.int 0) ∧ h' = hh_a203) := by
  refine mx_B 6 86 [(0, .int 4), (1, .int 0)] [.int 0] (by decide +kernel) ?_
  exact mx_ret (some (.int 0)) (by decide +kernel) ⟨rfl, rfl⟩
theorem iv_a334 (L : Nat) (xs : Nat → Int32) (zf : Value) (hz : zf.category = 1) : mx_R L xs zf ah_M289 0 [(0, .ref 36), (1, .int 0), (2, .int 4), (3, .int 0)] [] hh_a203 0 0 1 21 (fun v h' => v = some (.int 0) ∧ h' = hh_a203) := by
  refine mx_B 12 22 [(0, .ref 36), (1, .int 0), (2, .int 4), (3, .int 0)] [] (by decide +kernel) ?_
  refine mx_B 7 35 [(0, .ref 36), (1, .int 0), (2, .int 4), (3, .int 0)] [.int 0, .int 4] (by decide +kernel) ?_
  refine mx_call 290 3 [.int 4, .int 0] [] [(0, .int 4), (1, .int 0)] (some (.int 0)) hh_a203 0 0 0 0 0 0 38 [.int 0] ap_290 (by decide +kernel) (by decide +kernel) (iv_a333 L xs zf hz) ?_
  refine mx_B 2 46 [(0, .ref 36), (1, .int 0), (2, .int 4), (3, .int 0)] [.int 0] (by decide +kernel) ?_
  exact mx_ret (some (.int 0)) (by decide +kernel) ⟨rfl, rfl⟩
theorem iv_a335 (xs : Nat → Int32) (zf : Value) (hz : zf.category = 1) (hk : xs 0 &&& 15 = 5) (l1 : 0 ≤ (xs 1).toInt) (u1 : (xs 1).toInt ≤ 0) (l2 : 4 ≤ (xs 2).toInt) (u2 : (xs 2).toInt ≤ 4) (l3 : 0 ≤ (xs 3).toInt) (u3 : (xs 3).toInt ≤ 0) : mx_R 6 xs zf ah_M0 18 [(3, .int 0), (2, .ref 36), (1, .ref 21), (0, .ref 0)] [] hh_a203 0 0 2 45 (fun v h' => v = some (.int 1) ∧ h' = hh_a203) := by
  refine mx_B 2 20 [(3, .int 0), (2, .ref 36), (1, .ref 21), (0, .ref 0)] [.ref 0, .int 0] (by decide +kernel) ?_
  refine mx_S (.arraylength) 1 [] 21 [(3, .int 0), (2, .ref 36), (1, .ref 21), (0, .ref 0)] [.int 6, .int 0] (by decide +kernel) rfl ?_
  refine mx_B 5 29 [(3, .int 0), (2, .ref 36), (1, .ref 21), (0, .ref 0)] [.int 0, .ref 0] (by decide +kernel) ?_
  refine mx_scr 6 0 30 (by decide +kernel) (by decide +kernel) (by decide +kernel) ?_
  refine mx_S (.bipush 15) 2 [] 32 [(3, .int 0), (2, .ref 36), (1, .ref 21), (0, .ref 0)] [.int 15, .int (xs 0)] (by decide +kernel) rfl ?_
  refine mx_S (.iand) 1 [] 33 [(3, .int 0), (2, .ref 36), (1, .ref 21), (0, .ref 0)] [.int ((xs 0) &&& 15)] (by decide +kernel) rfl ?_
  refine mx_eq 5 hk ?_
  refine mx_B 6 254 [(3, .int 0), (2, .ref 36), (1, .ref 21), (0, .ref 0)] [.int 1, .ref 0, .ref 21] (by decide +kernel) ?_
  refine mx_scr 6 1 255 (by decide +kernel) (by decide +kernel) (by decide +kernel) ?_
  refine mx_eq 0 (mx_pt l1 u1 (by decide +kernel)) ?_
  refine mx_B 4 259 [(3, .int 0), (2, .ref 36), (1, .ref 21), (0, .ref 0)] [.int 2, .ref 0, .int 0, .ref 21] (by decide +kernel) ?_
  refine mx_scr 6 2 260 (by decide +kernel) (by decide +kernel) (by decide +kernel) ?_
  refine mx_eq 4 (mx_pt l2 u2 (by decide +kernel)) ?_
  refine mx_B 4 264 [(3, .int 0), (2, .ref 36), (1, .ref 21), (0, .ref 0)] [.int 3, .ref 0, .int 4, .int 0, .ref 21] (by decide +kernel) ?_
  refine mx_scr 6 3 265 (by decide +kernel) (by decide +kernel) (by decide +kernel) ?_
  refine mx_eq 0 (mx_pt l3 u3 (by decide +kernel)) ?_
  refine mx_call 221 3 [.ref 21, .int 0, .int 4, .int 0] [] [(0, .ref 21), (1, .int 0), (2, .int 4), (3, .int 0)] (some (.int 0)) hh_a203 0 0 1 22 0 0 268 [.int 0] ap_221 (by decide +kernel) (by decide +kernel) (iv_a332 6 xs zf hz) ?_
  refine mx_B 5 273 [(3, .int 0), (2, .ref 36), (1, .ref 21), (0, .ref 0)] [.int 1, .ref 0, .ref 36, .int 0] (by decide +kernel) ?_
  refine mx_scr 6 1 274 (by decide +kernel) (by decide +kernel) (by decide +kernel) ?_
  refine mx_eq 0 (mx_pt l1 u1 (by decide +kernel)) ?_
  refine mx_B 4 278 [(3, .int 0), (2, .ref 36), (1, .ref 21), (0, .ref 0)] [.int 2, .ref 0, .int 0, .ref 36, .int 0] (by decide +kernel) ?_
  refine mx_scr 6 2 279 (by decide +kernel) (by decide +kernel) (by decide +kernel) ?_
  refine mx_eq 4 (mx_pt l2 u2 (by decide +kernel)) ?_
  refine mx_B 4 283 [(3, .int 0), (2, .ref 36), (1, .ref 21), (0, .ref 0)] [.int 3, .ref 0, .int 4, .int 0, .ref 36, .int 0] (by decide +kernel) ?_
  refine mx_scr 6 3 284 (by decide +kernel) (by decide +kernel) (by decide +kernel) ?_
  refine mx_eq 0 (mx_pt l3 u3 (by decide +kernel)) ?_
  refine mx_call 289 3 [.ref 36, .int 0, .int 4, .int 0] [.int 0] [(0, .ref 36), (1, .int 0), (2, .int 4), (3, .int 0)] (some (.int 0)) hh_a203 0 0 1 21 0 0 287 [.int 0, .int 0] ap_289 (by decide +kernel) (by decide +kernel) (iv_a334 6 xs zf hz) ?_
  refine mx_B 5 20 [(3, .int 6), (2, .ref 36), (1, .ref 21), (0, .ref 0)] [.ref 0, .int 6] (by decide +kernel) ?_
  refine mx_S (.arraylength) 1 [] 21 [(3, .int 6), (2, .ref 36), (1, .ref 21), (0, .ref 0)] [.int 6, .int 6] (by decide +kernel) rfl ?_
  refine mx_B 4 543 [(3, .int 6), (2, .ref 36), (1, .ref 21), (0, .ref 0)] [.int 1] (by decide +kernel) ?_
  exact mx_ret (some (.int 1)) (by decide +kernel) ⟨rfl, rfl⟩
theorem iv_a336 (L : Nat) (xs : Nat → Int32) (zf : Value) (hz : zf.category = 1) : mx_R L xs zf ah_M190 0 [(0, .ref 1), (1, .int 4), (2, .int 1)] [] hh_a203 0 0 0 0 (fun v h' => v = some (.int 0) ∧ h' = hh_a203) := by
  refine mx_B 12 22 [(0, .ref 1), (1, .int 4), (2, .int 1)] [.int 4, .ref 1] (by decide +kernel) ?_
  refine mx_B 5 27 [(0, .ref 1), (1, .int 4), (2, .int 1)] [.int 0] (by decide +kernel) ?_
  exact mx_ret (some (.int 0)) (by decide +kernel) ⟨rfl, rfl⟩
theorem iv_a337 (L : Nat) (xs : Nat → Int32) (zf : Value) (hz : zf.category = 1) : mx_R L xs zf ah_M221 0 [(0, .ref 21), (1, .int 0), (2, .int 4), (3, .int 1)] [] hh_a203 0 0 1 22 (fun v h' => v = some (.int 0) ∧ h' = hh_a203) := by
  refine mx_B 12 52 [(0, .ref 21), (1, .int 0), (2, .int 4), (3, .int 1)] [] (by decide +kernel) ?_
  refine mx_B 3 57 [(0, .ref 21), (1, .int 0), (2, .int 4), (3, .int 1)] [.int 1, .int 4, .ref 1] (by decide +kernel) ?_
  refine mx_call 190 3 [.ref 1, .int 4, .int 1] [] [(0, .ref 1), (1, .int 4), (2, .int 1)] (some (.int 0)) hh_a203 0 0 0 0 0 0 60 [.int 0] ap_190 (by decide +kernel) (by decide +kernel) (iv_a336 L xs zf hz) ?_
  exact mx_ret (some (.int 0)) (by decide +kernel) ⟨rfl, rfl⟩
theorem iv_a338 (L : Nat) (xs : Nat → Int32) (zf : Value) (hz : zf.category = 1) : mx_R L xs zf ah_M290 0 [(0, .int 4), (1, .int 1)] [] hh_a203 0 0 0 0 (fun v h' => v = some (.int 0) ∧ h' = hh_a203) := by
  refine mx_B 6 86 [(0, .int 4), (1, .int 1)] [.int 0] (by decide +kernel) ?_
  exact mx_ret (some (.int 0)) (by decide +kernel) ⟨rfl, rfl⟩
theorem iv_a339 (L : Nat) (xs : Nat → Int32) (zf : Value) (hz : zf.category = 1) : mx_R L xs zf ah_M289 0 [(0, .ref 36), (1, .int 0), (2, .int 4), (3, .int 1)] [] hh_a203 0 0 1 21 (fun v h' => v = some (.int 0) ∧ h' = hh_a203) := by
  refine mx_B 12 22 [(0, .ref 36), (1, .int 0), (2, .int 4), (3, .int 1)] [] (by decide +kernel) ?_
  refine mx_B 7 35 [(0, .ref 36), (1, .int 0), (2, .int 4), (3, .int 1)] [.int 1, .int 4] (by decide +kernel) ?_
  refine mx_call 290 3 [.int 4, .int 1] [] [(0, .int 4), (1, .int 1)] (some (.int 0)) hh_a203 0 0 0 0 0 0 38 [.int 0] ap_290 (by decide +kernel) (by decide +kernel) (iv_a338 L xs zf hz) ?_
  refine mx_B 2 46 [(0, .ref 36), (1, .int 0), (2, .int 4), (3, .int 1)] [.int 0] (by decide +kernel) ?_
  exact mx_ret (some (.int 0)) (by decide +kernel) ⟨rfl, rfl⟩
theorem iv_a340 (xs : Nat → Int32) (zf : Value) (hz : zf.category = 1) (hk : xs 0 &&& 15 = 5) (l1 : 0 ≤ (xs 1).toInt) (u1 : (xs 1).toInt ≤ 0) (l2 : 4 ≤ (xs 2).toInt) (u2 : (xs 2).toInt ≤ 4) (l3 : 1 ≤ (xs 3).toInt) (u3 : (xs 3).toInt ≤ 1) : mx_R 6 xs zf ah_M0 18 [(3, .int 0), (2, .ref 36), (1, .ref 21), (0, .ref 0)] [] hh_a203 0 0 2 45 (fun v h' => v = some (.int 1) ∧ h' = hh_a203) := by
  refine mx_B 2 20 [(3, .int 0), (2, .ref 36), (1, .ref 21), (0, .ref 0)] [.ref 0, .int 0] (by decide +kernel) ?_
  refine mx_S (.arraylength) 1 [] 21 [(3, .int 0), (2, .ref 36), (1, .ref 21), (0, .ref 0)] [.int 6, .int 0] (by decide +kernel) rfl ?_
  refine mx_B 5 29 [(3, .int 0), (2, .ref 36), (1, .ref 21), (0, .ref 0)] [.int 0, .ref 0] (by decide +kernel) ?_
  refine mx_scr 6 0 30 (by decide +kernel) (by decide +kernel) (by decide +kernel) ?_
  refine mx_S (.bipush 15) 2 [] 32 [(3, .int 0), (2, .ref 36), (1, .ref 21), (0, .ref 0)] [.int 15, .int (xs 0)] (by decide +kernel) rfl ?_
  refine mx_S (.iand) 1 [] 33 [(3, .int 0), (2, .ref 36), (1, .ref 21), (0, .ref 0)] [.int ((xs 0) &&& 15)] (by decide +kernel) rfl ?_
  refine mx_eq 5 hk ?_
  refine mx_B 6 254 [(3, .int 0), (2, .ref 36), (1, .ref 21), (0, .ref 0)] [.int 1, .ref 0, .ref 21] (by decide +kernel) ?_
  refine mx_scr 6 1 255 (by decide +kernel) (by decide +kernel) (by decide +kernel) ?_
  refine mx_eq 0 (mx_pt l1 u1 (by decide +kernel)) ?_
  refine mx_B 4 259 [(3, .int 0), (2, .ref 36), (1, .ref 21), (0, .ref 0)] [.int 2, .ref 0, .int 0, .ref 21] (by decide +kernel) ?_
  refine mx_scr 6 2 260 (by decide +kernel) (by decide +kernel) (by decide +kernel) ?_
  refine mx_eq 4 (mx_pt l2 u2 (by decide +kernel)) ?_
  refine mx_B 4 264 [(3, .int 0), (2, .ref 36), (1, .ref 21), (0, .ref 0)] [.int 3, .ref 0, .int 4, .int 0, .ref 21] (by decide +kernel) ?_
  refine mx_scr 6 3 265 (by decide +kernel) (by decide +kernel) (by decide +kernel) ?_
  refine mx_eq 1 (mx_pt l3 u3 (by decide +kernel)) ?_
  refine mx_call 221 3 [.ref 21, .int 0, .int 4, .int 1] [] [(0, .ref 21), (1, .int 0), (2, .int 4), (3, .int 1)] (some (.int 0)) hh_a203 0 0 1 22 0 0 268 [.int 0] ap_221 (by decide +kernel) (by decide +kernel) (iv_a337 6 xs zf hz) ?_
  refine mx_B 5 273 [(3, .int 0), (2, .ref 36), (1, .ref 21), (0, .ref 0)] [.int 1, .ref 0, .ref 36, .int 0] (by decide +kernel) ?_
  refine mx_scr 6 1 274 (by decide +kernel) (by decide +kernel) (by decide +kernel) ?_
  refine mx_eq 0 (mx_pt l1 u1 (by decide +kernel)) ?_
  refine mx_B 4 278 [(3, .int 0), (2, .ref 36), (1, .ref 21), (0, .ref 0)] [.int 2, .ref 0, .int 0, .ref 36, .int 0] (by decide +kernel) ?_
  refine mx_scr 6 2 279 (by decide +kernel) (by decide +kernel) (by decide +kernel) ?_
  refine mx_eq 4 (mx_pt l2 u2 (by decide +kernel)) ?_
  refine mx_B 4 283 [(3, .int 0), (2, .ref 36), (1, .ref 21), (0, .ref 0)] [.int 3, .ref 0, .int 4, .int 0, .ref 36, .int 0] (by decide +kernel) ?_
  refine mx_scr 6 3 284 (by decide +kernel) (by decide +kernel) (by decide +kernel) ?_
  refine mx_eq 1 (mx_pt l3 u3 (by decide +kernel)) ?_
  refine mx_call 289 3 [.ref 36, .int 0, .int 4, .int 1] [.int 0] [(0, .ref 36), (1, .int 0), (2, .int 4), (3, .int 1)] (some (.int 0)) hh_a203 0 0 1 21 0 0 287 [.int 0, .int 0] ap_289 (by decide +kernel) (by decide +kernel) (iv_a339 6 xs zf hz) ?_
  refine mx_B 5 20 [(3, .int 6), (2, .ref 36), (1, .ref 21), (0, .ref 0)] [.ref 0, .int 6] (by decide +kernel) ?_
  refine mx_S (.arraylength) 1 [] 21 [(3, .int 6), (2, .ref 36), (1, .ref 21), (0, .ref 0)] [.int 6, .int 6] (by decide +kernel) rfl ?_
  refine mx_B 4 543 [(3, .int 6), (2, .ref 36), (1, .ref 21), (0, .ref 0)] [.int 1] (by decide +kernel) ?_
  exact mx_ret (some (.int 1)) (by decide +kernel) ⟨rfl, rfl⟩
theorem iv_a341 (L : Nat) (xs : Nat → Int32) (zf : Value) (hz : zf.category = 1) : mx_R L xs zf ah_M190 0 [(0, .ref 1), (1, .int 4), (2, .int 2)] [] hh_a203 0 0 0 0 (fun v h' => v = some (.int 0) ∧ h' = hh_a203) := by
  refine mx_B 12 22 [(0, .ref 1), (1, .int 4), (2, .int 2)] [.int 4, .ref 1] (by decide +kernel) ?_
  refine mx_B 5 27 [(0, .ref 1), (1, .int 4), (2, .int 2)] [.int 0] (by decide +kernel) ?_
  exact mx_ret (some (.int 0)) (by decide +kernel) ⟨rfl, rfl⟩
theorem iv_a342 (L : Nat) (xs : Nat → Int32) (zf : Value) (hz : zf.category = 1) : mx_R L xs zf ah_M221 0 [(0, .ref 21), (1, .int 0), (2, .int 4), (3, .int 2)] [] hh_a203 0 0 1 22 (fun v h' => v = some (.int 0) ∧ h' = hh_a203) := by
  refine mx_B 12 52 [(0, .ref 21), (1, .int 0), (2, .int 4), (3, .int 2)] [] (by decide +kernel) ?_
  refine mx_B 3 57 [(0, .ref 21), (1, .int 0), (2, .int 4), (3, .int 2)] [.int 2, .int 4, .ref 1] (by decide +kernel) ?_
  refine mx_call 190 3 [.ref 1, .int 4, .int 2] [] [(0, .ref 1), (1, .int 4), (2, .int 2)] (some (.int 0)) hh_a203 0 0 0 0 0 0 60 [.int 0] ap_190 (by decide +kernel) (by decide +kernel) (iv_a341 L xs zf hz) ?_
  exact mx_ret (some (.int 0)) (by decide +kernel) ⟨rfl, rfl⟩
theorem iv_a343 (L : Nat) (xs : Nat → Int32) (zf : Value) (hz : zf.category = 1) : mx_R L xs zf ah_M290 0 [(0, .int 4), (1, .int 2)] [] hh_a203 0 0 0 0 (fun v h' => v = some (.int 0) ∧ h' = hh_a203) := by
  refine mx_B 6 86 [(0, .int 4), (1, .int 2)] [.int 0] (by decide +kernel) ?_
  exact mx_ret (some (.int 0)) (by decide +kernel) ⟨rfl, rfl⟩
theorem iv_a344 (L : Nat) (xs : Nat → Int32) (zf : Value) (hz : zf.category = 1) : mx_R L xs zf ah_M289 0 [(0, .ref 36), (1, .int 0), (2, .int 4), (3, .int 2)] [] hh_a203 0 0 1 21 (fun v h' => v = some (.int 0) ∧ h' = hh_a203) := by
  refine mx_B 12 22 [(0, .ref 36), (1, .int 0), (2, .int 4), (3, .int 2)] [] (by decide +kernel) ?_
  refine mx_B 7 35 [(0, .ref 36), (1, .int 0), (2, .int 4), (3, .int 2)] [.int 2, .int 4] (by decide +kernel) ?_
  refine mx_call 290 3 [.int 4, .int 2] [] [(0, .int 4), (1, .int 2)] (some (.int 0)) hh_a203 0 0 0 0 0 0 38 [.int 0] ap_290 (by decide +kernel) (by decide +kernel) (iv_a343 L xs zf hz) ?_
  refine mx_B 2 46 [(0, .ref 36), (1, .int 0), (2, .int 4), (3, .int 2)] [.int 0] (by decide +kernel) ?_
  exact mx_ret (some (.int 0)) (by decide +kernel) ⟨rfl, rfl⟩
theorem iv_a345 (xs : Nat → Int32) (zf : Value) (hz : zf.category = 1) (hk : xs 0 &&& 15 = 5) (l1 : 0 ≤ (xs 1).toInt) (u1 : (xs 1).toInt ≤ 0) (l2 : 4 ≤ (xs 2).toInt) (u2 : (xs 2).toInt ≤ 4) (l3 : 2 ≤ (xs 3).toInt) (u3 : (xs 3).toInt ≤ 2) : mx_R 6 xs zf ah_M0 18 [(3, .int 0), (2, .ref 36), (1, .ref 21), (0, .ref 0)] [] hh_a203 0 0 2 45 (fun v h' => v = some (.int 1) ∧ h' = hh_a203) := by
  refine mx_B 2 20 [(3, .int 0), (2, .ref 36), (1, .ref 21), (0, .ref 0)] [.ref 0, .int 0] (by decide +kernel) ?_
  refine mx_S (.arraylength) 1 [] 21 [(3, .int 0), (2, .ref 36), (1, .ref 21), (0, .ref 0)] [.int 6, .int 0] (by decide +kernel) rfl ?_
  refine mx_B 5 29 [(3, .int 0), (2, .ref 36), (1, .ref 21), (0, .ref 0)] [.int 0, .ref 0] (by decide +kernel) ?_
  refine mx_scr 6 0 30 (by decide +kernel) (by decide +kernel) (by decide +kernel) ?_
  refine mx_S (.bipush 15) 2 [] 32 [(3, .int 0), (2, .ref 36), (1, .ref 21), (0, .ref 0)] [.int 15, .int (xs 0)] (by decide +kernel) rfl ?_
  refine mx_S (.iand) 1 [] 33 [(3, .int 0), (2, .ref 36), (1, .ref 21), (0, .ref 0)] [.int ((xs 0) &&& 15)] (by decide +kernel) rfl ?_
  refine mx_eq 5 hk ?_
  refine mx_B 6 254 [(3, .int 0), (2, .ref 36), (1, .ref 21), (0, .ref 0)] [.int 1, .ref 0, .ref 21] (by decide +kernel) ?_
  refine mx_scr 6 1 255 (by decide +kernel) (by decide +kernel) (by decide +kernel) ?_
  refine mx_eq 0 (mx_pt l1 u1 (by decide +kernel)) ?_
  refine mx_B 4 259 [(3, .int 0), (2, .ref 36), (1, .ref 21), (0, .ref 0)] [.int 2, .ref 0, .int 0, .ref 21] (by decide +kernel) ?_
  refine mx_scr 6 2 260 (by decide +kernel) (by decide +kernel) (by decide +kernel) ?_
  refine mx_eq 4 (mx_pt l2 u2 (by decide +kernel)) ?_
  refine mx_B 4 264 [(3, .int 0), (2, .ref 36), (1, .ref 21), (0, .ref 0)] [.int 3, .ref 0, .int 4, .int 0, .ref 21] (by decide +kernel) ?_
  refine mx_scr 6 3 265 (by decide +kernel) (by decide +kernel) (by decide +kernel) ?_
  refine mx_eq 2 (mx_pt l3 u3 (by decide +kernel)) ?_
  refine mx_call 221 3 [.ref 21, .int 0, .int 4, .int 2] [] [(0, .ref 21), (1, .int 0), (2, .int 4), (3, .int 2)] (some (.int 0)) hh_a203 0 0 1 22 0 0 268 [.int 0] ap_221 (by decide +kernel) (by decide +kernel) (iv_a342 6 xs zf hz) ?_
  refine mx_B 5 273 [(3, .int 0), (2, .ref 36), (1, .ref 21), (0, .ref 0)] [.int 1, .ref 0, .ref 36, .int 0] (by decide +kernel) ?_
  refine mx_scr 6 1 274 (by decide +kernel) (by decide +kernel) (by decide +kernel) ?_
  refine mx_eq 0 (mx_pt l1 u1 (by decide +kernel)) ?_
  refine mx_B 4 278 [(3, .int 0), (2, .ref 36), (1, .ref 21), (0, .ref 0)] [.int 2, .ref 0, .int 0, .ref 36, .int 0] (by decide +kernel) ?_
  refine mx_scr 6 2 279 (by decide +kernel) (by decide +kernel) (by decide +kernel) ?_
  refine mx_eq 4 (mx_pt l2 u2 (by decide +kernel)) ?_
  refine mx_B 4 283 [(3, .int 0), (2, .ref 36), (1, .ref 21), (0, .ref 0)] [.int 3, .ref 0, .int 4, .int 0, .ref 36, .int 0] (by decide +kernel) ?_
  refine mx_scr 6 3 284 (by decide +kernel) (by decide +kernel) (by decide +kernel) ?_
  refine mx_eq 2 (mx_pt l3 u3 (by decide +kernel)) ?_
  refine mx_call 289 3 [.ref 36, .int 0, .int 4, .int 2] [.int 0] [(0, .ref 36), (1, .int 0), (2, .int 4), (3, .int 2)] (some (.int 0)) hh_a203 0 0 1 21 0 0 287 [.int 0, .int 0] ap_289 (by decide +kernel) (by decide +kernel) (iv_a344 6 xs zf hz) ?_
  refine mx_B 5 20 [(3, .int 6), (2, .ref 36), (1, .ref 21), (0, .ref 0)] [.ref 0, .int 6] (by decide +kernel) ?_
  refine mx_S (.arraylength) 1 [] 21 [(3, .int 6), (2, .ref 36), (1, .ref 21), (0, .ref 0)] [.int 6, .int 6] (by decide +kernel) rfl ?_
  refine mx_B 4 543 [(3, .int 6), (2, .ref 36), (1, .ref 21), (0, .ref 0)] [.int 1] (by decide +kernel) ?_
  exact mx_ret (some (.int 1)) (by decide +kernel) ⟨rfl, rfl⟩
theorem iv_a346 (L : Nat) (xs : Nat → Int32) (zf : Value) (hz : zf.category = 1) : mx_R L xs zf ah_M190 0 [(0, .ref 1), (1, .int 4), (2, .int 3)] [] hh_a203 0 0 0 0 (fun v h' => v = some (.int 0) ∧ h' = hh_a203) := by
  refine mx_B 12 22 [(0, .ref 1), (1, .int 4), (2, .int 3)] [.int 4, .ref 1] (by decide +kernel) ?_
  refine mx_B 5 27 [(0, .ref 1), (1, .int 4), (2, .int 3)] [.int 0] (by decide +kernel) ?_
  exact mx_ret (some (.int 0)) (by decide +kernel) ⟨rfl, rfl⟩
theorem iv_a347 (L : Nat) (xs : Nat → Int32) (zf : Value) (hz : zf.category = 1) : mx_R L xs zf ah_M221 0 [(0, .ref 21), (1, .int 0), (2, .int 4), (3, .int 3)] [] hh_a203 0 0 1 22 (fun v h' => v = some (.int 0) ∧ h' = hh_a203) := by
  refine mx_B 12 52 [(0, .ref 21), (1, .int 0), (2, .int 4), (3, .int 3)] [] (by decide +kernel) ?_
  refine mx_B 3 57 [(0, .ref 21), (1, .int 0), (2, .int 4), (3, .int 3)] [.int 3, .int 4, .ref 1] (by decide +kernel) ?_
  refine mx_call 190 3 [.ref 1, .int 4, .int 3] [] [(0, .ref 1), (1, .int 4), (2, .int 3)] (some (.int 0)) hh_a203 0 0 0 0 0 0 60 [.int 0] ap_190 (by decide +kernel) (by decide +kernel) (iv_a346 L xs zf hz) ?_
  exact mx_ret (some (.int 0)) (by decide +kernel) ⟨rfl, rfl⟩
theorem iv_a348 (L : Nat) (xs : Nat → Int32) (zf : Value) (hz : zf.category = 1) : mx_R L xs zf ah_M290 0 [(0, .int 4), (1, .int 3)] [] hh_a203 0 0 0 0 (fun v h' => v = some (.int 0) ∧ h' = hh_a203) := by
  refine mx_B 6 86 [(0, .int 4), (1, .int 3)] [.int 0] (by decide +kernel) ?_
  exact mx_ret (some (.int 0)) (by decide +kernel) ⟨rfl, rfl⟩
theorem iv_a349 (L : Nat) (xs : Nat → Int32) (zf : Value) (hz : zf.category = 1) : mx_R L xs zf ah_M289 0 [(0, .ref 36), (1, .int 0), (2, .int 4), (3, .int 3)] [] hh_a203 0 0 1 21 (fun v h' => v = some (.int 0) ∧ h' = hh_a203) := by
  refine mx_B 12 22 [(0, .ref 36), (1, .int 0), (2, .int 4), (3, .int 3)] [] (by decide +kernel) ?_
  refine mx_B 7 35 [(0, .ref 36), (1, .int 0), (2, .int 4), (3, .int 3)] [.int 3, .int 4] (by decide +kernel) ?_
  refine mx_call 290 3 [.int 4, .int 3] [] [(0, .int 4), (1, .int 3)] (some (.int 0)) hh_a203 0 0 0 0 0 0 38 [.int 0] ap_290 (by decide +kernel) (by decide +kernel) (iv_a348 L xs zf hz) ?_
  refine mx_B 2 46 [(0, .ref 36), (1, .int 0), (2, .int 4), (3, .int 3)] [.int 0] (by decide +kernel) ?_
  exact mx_ret (some (.int 0)) (by decide +kernel) ⟨rfl, rfl⟩
theorem iv_a350 (xs : Nat → Int32) (zf : Value) (hz : zf.category = 1) (hk : xs 0 &&& 15 = 5) (l1 : 0 ≤ (xs 1).toInt) (u1 : (xs 1).toInt ≤ 0) (l2 : 4 ≤ (xs 2).toInt) (u2 : (xs 2).toInt ≤ 4) (l3 : 3 ≤ (xs 3).toInt) (u3 : (xs 3).toInt ≤ 3) : mx_R 6 xs zf ah_M0 18 [(3, .int 0), (2, .ref 36), (1, .ref 21), (0, .ref 0)] [] hh_a203 0 0 2 45 (fun v h' => v = some (.int 1) ∧ h' = hh_a203) := by
  refine mx_B 2 20 [(3, .int 0), (2, .ref 36), (1, .ref 21), (0, .ref 0)] [.ref 0, .int 0] (by decide +kernel) ?_
  refine mx_S (.arraylength) 1 [] 21 [(3, .int 0), (2, .ref 36), (1, .ref 21), (0, .ref 0)] [.int 6, .int 0] (by decide +kernel) rfl ?_
  refine mx_B 5 29 [(3, .int 0), (2, .ref 36), (1, .ref 21), (0, .ref 0)] [.int 0, .ref 0] (by decide +kernel) ?_
  refine mx_scr 6 0 30 (by decide +kernel) (by decide +kernel) (by decide +kernel) ?_
  refine mx_S (.bipush 15) 2 [] 32 [(3, .int 0), (2, .ref 36), (1, .ref 21), (0, .ref 0)] [.int 15, .int (xs 0)] (by decide +kernel) rfl ?_
  refine mx_S (.iand) 1 [] 33 [(3, .int 0), (2, .ref 36), (1, .ref 21), (0, .ref 0)] [.int ((xs 0) &&& 15)] (by decide +kernel) rfl ?_
  refine mx_eq 5 hk ?_
  refine mx_B 6 254 [(3, .int 0), (2, .ref 36), (1, .ref 21), (0, .ref 0)] [.int 1, .ref 0, .ref 21] (by decide +kernel) ?_
  refine mx_scr 6 1 255 (by decide +kernel) (by decide +kernel) (by decide +kernel) ?_
  refine mx_eq 0 (mx_pt l1 u1 (by decide +kernel)) ?_
  refine mx_B 4 259 [(3, .int 0), (2, .ref 36), (1, .ref 21), (0, .ref 0)] [.int 2, .ref 0, .int 0, .ref 21] (by decide +kernel) ?_
  refine mx_scr 6 2 260 (by decide +kernel) (by decide +kernel) (by decide +kernel) ?_
  refine mx_eq 4 (mx_pt l2 u2 (by decide +kernel)) ?_
  refine mx_B 4 264 [(3, .int 0), (2, .ref 36), (1, .ref 21), (0, .ref 0)] [.int 3, .ref 0, .int 4, .int 0, .ref 21] (by decide +kernel) ?_
  refine mx_scr 6 3 265 (by decide +kernel) (by decide +kernel) (by decide +kernel) ?_
  refine mx_eq 3 (mx_pt l3 u3 (by decide +kernel)) ?_
  refine mx_call 221 3 [.ref 21, .int 0, .int 4, .int 3] [] [(0, .ref 21), (1, .int 0), (2, .int 4), (3, .int 3)] (some (.int 0)) hh_a203 0 0 1 22 0 0 268 [.int 0] ap_221 (by decide +kernel) (by decide +kernel) (iv_a347 6 xs zf hz) ?_
  refine mx_B 5 273 [(3, .int 0), (2, .ref 36), (1, .ref 21), (0, .ref 0)] [.int 1, .ref 0, .ref 36, .int 0] (by decide +kernel) ?_
  refine mx_scr 6 1 274 (by decide +kernel) (by decide +kernel) (by decide +kernel) ?_
  refine mx_eq 0 (mx_pt l1 u1 (by decide +kernel)) ?_
  refine mx_B 4 278 [(3, .int 0), (2, .ref 36), (1, .ref 21), (0, .ref 0)] [.int 2, .ref 0, .int 0, .ref 36, .int 0] (by decide +kernel) ?_
  refine mx_scr 6 2 279 (by decide +kernel) (by decide +kernel) (by decide +kernel) ?_
  refine mx_eq 4 (mx_pt l2 u2 (by decide +kernel)) ?_
  refine mx_B 4 283 [(3, .int 0), (2, .ref 36), (1, .ref 21), (0, .ref 0)] [.int 3, .ref 0, .int 4, .int 0, .ref 36, .int 0] (by decide +kernel) ?_
  refine mx_scr 6 3 284 (by decide +kernel) (by decide +kernel) (by decide +kernel) ?_
  refine mx_eq 3 (mx_pt l3 u3 (by decide +kernel)) ?_
  refine mx_call 289 3 [.ref 36, .int 0, .int 4, .int 3] [.int 0] [(0, .ref 36), (1, .int 0), (2, .int 4), (3, .int 3)] (some (.int 0)) hh_a203 0 0 1 21 0 0 287 [.int 0, .int 0] ap_289 (by decide +kernel) (by decide +kernel) (iv_a349 6 xs zf hz) ?_
  refine mx_B 5 20 [(3, .int 6), (2, .ref 36), (1, .ref 21), (0, .ref 0)] [.ref 0, .int 6] (by decide +kernel) ?_
  refine mx_S (.arraylength) 1 [] 21 [(3, .int 6), (2, .ref 36), (1, .ref 21), (0, .ref 0)] [.int 6, .int 6] (by decide +kernel) rfl ?_
  refine mx_B 4 543 [(3, .int 6), (2, .ref 36), (1, .ref 21), (0, .ref 0)] [.int 1] (by decide +kernel) ?_
  exact mx_ret (some (.int 1)) (by decide +kernel) ⟨rfl, rfl⟩
theorem iv_a351 (L : Nat) (xs : Nat → Int32) (zf : Value) (hz : zf.category = 1) : mx_R L xs zf ah_M190 0 [(0, .ref 1), (1, .int 4), (2, .int 4)] [] hh_a203 0 0 0 0 (fun v h' => v = some (.int 1) ∧ h' = hh_a203) := by
  refine mx_B 12 22 [(0, .ref 1), (1, .int 4), (2, .int 4)] [.int 4, .ref 1] (by decide +kernel) ?_
  refine mx_B 5 27 [(0, .ref 1), (1, .int 4), (2, .int 4)] [.int 1] (by decide +kernel) ?_
  exact mx_ret (some (.int 1)) (by decide +kernel) ⟨rfl, rfl⟩
theorem iv_a352 (L : Nat) (xs : Nat → Int32) (zf : Value) (hz : zf.category = 1) : mx_R L xs zf ah_M221 0 [(0, .ref 21), (1, .int 0), (2, .int 4), (3, .int 4)] [] hh_a203 0 0 1 22 (fun v h' => v = some (.int 1) ∧ h' = hh_a203) := by
  refine mx_B 12 52 [(0, .ref 21), (1, .int 0), (2, .int 4), (3, .int 4)] [] (by decide +kernel) ?_
  refine mx_B 3 57 [(0, .ref 21), (1, .int 0), (2, .int 4), (3, .int 4)] [.int 4, .int 4, .ref 1] (by decide +kernel) ?_
  refine mx_call 190 3 [.ref 1, .int 4, .int 4] [] [(0, .ref 1), (1, .int 4), (2, .int 4)] (some (.int 1)) hh_a203 0 0 0 0 0 0 60 [.int 1] ap_190 (by decide +kernel) (by decide +kernel) (iv_a351 L xs zf hz) ?_
  exact mx_ret (some (.int 1)) (by decide +kernel) ⟨rfl, rfl⟩
theorem iv_a353 (L : Nat) (xs : Nat → Int32) (zf : Value) (hz : zf.category = 1) : mx_R L xs zf ah_M290 0 [(0, .int 4), (1, .int 4)] [] hh_a203 0 0 0 0 (fun v h' => v = some (.int 1) ∧ h' = hh_a203) := by
  refine mx_B 7 86 [(0, .int 4), (1, .int 4)] [.int 1] (by decide +kernel) ?_
  exact mx_ret (some (.int 1)) (by decide +kernel) ⟨rfl, rfl⟩
theorem iv_a354 (L : Nat) (xs : Nat → Int32) (zf : Value) (hz : zf.category = 1) : mx_R L xs zf ah_M289 0 [(0, .ref 36), (1, .int 0), (2, .int 4), (3, .int 4)] [] hh_a203 0 0 1 21 (fun v h' => v = some (.int 1) ∧ h' = hh_a203) := by
  refine mx_B 12 22 [(0, .ref 36), (1, .int 0), (2, .int 4), (3, .int 4)] [] (by decide +kernel) ?_
  refine mx_B 7 35 [(0, .ref 36), (1, .int 0), (2, .int 4), (3, .int 4)] [.int 4, .int 4] (by decide +kernel) ?_
  refine mx_call 290 3 [.int 4, .int 4] [] [(0, .int 4), (1, .int 4)] (some (.int 1)) hh_a203 0 0 0 0 0 0 38 [.int 1] ap_290 (by decide +kernel) (by decide +kernel) (iv_a353 L xs zf hz) ?_
  refine mx_B 3 46 [(0, .ref 36), (1, .int 0), (2, .int 4), (3, .int 4)] [.int 1] (by decide +kernel) ?_
  exact mx_ret (some (.int 1)) (by decide +kernel) ⟨rfl, rfl⟩
theorem iv_a355 (xs : Nat → Int32) (zf : Value) (hz : zf.category = 1) (hk : xs 0 &&& 15 = 5) (l1 : 0 ≤ (xs 1).toInt) (u1 : (xs 1).toInt ≤ 0) (l2 : 4 ≤ (xs 2).toInt) (u2 : (xs 2).toInt ≤ 4) (l3 : 4 ≤ (xs 3).toInt) (u3 : (xs 3).toInt ≤ 4) : mx_R 6 xs zf ah_M0 18 [(3, .int 0), (2, .ref 36), (1, .ref 21), (0, .ref 0)] [] hh_a203 0 0 2 45 (fun v h' => v = some (.int 1) ∧ h' = hh_a203) := by
  refine mx_B 2 20 [(3, .int 0), (2, .ref 36), (1, .ref 21), (0, .ref 0)] [.ref 0, .int 0] (by decide +kernel) ?_
  refine mx_S (.arraylength) 1 [] 21 [(3, .int 0), (2, .ref 36), (1, .ref 21), (0, .ref 0)] [.int 6, .int 0] (by decide +kernel) rfl ?_
  refine mx_B 5 29 [(3, .int 0), (2, .ref 36), (1, .ref 21), (0, .ref 0)] [.int 0, .ref 0] (by decide +kernel) ?_
  refine mx_scr 6 0 30 (by decide +kernel) (by decide +kernel) (by decide +kernel) ?_
  refine mx_S (.bipush 15) 2 [] 32 [(3, .int 0), (2, .ref 36), (1, .ref 21), (0, .ref 0)] [.int 15, .int (xs 0)] (by decide +kernel) rfl ?_
  refine mx_S (.iand) 1 [] 33 [(3, .int 0), (2, .ref 36), (1, .ref 21), (0, .ref 0)] [.int ((xs 0) &&& 15)] (by decide +kernel) rfl ?_
  refine mx_eq 5 hk ?_
  refine mx_B 6 254 [(3, .int 0), (2, .ref 36), (1, .ref 21), (0, .ref 0)] [.int 1, .ref 0, .ref 21] (by decide +kernel) ?_
  refine mx_scr 6 1 255 (by decide +kernel) (by decide +kernel) (by decide +kernel) ?_
  refine mx_eq 0 (mx_pt l1 u1 (by decide +kernel)) ?_
  refine mx_B 4 259 [(3, .int 0), (2, .ref 36), (1, .ref 21), (0, .ref 0)] [.int 2, .ref 0, .int 0, .ref 21] (by decide +kernel) ?_
  refine mx_scr 6 2 260 (by decide +kernel) (by decide +kernel) (by decide +kernel) ?_
  refine mx_eq 4 (mx_pt l2 u2 (by decide +kernel)) ?_
  refine mx_B 4 264 [(3, .int 0), (2, .ref 36), (1, .ref 21), (0, .ref 0)] [.int 3, .ref 0, .int 4, .int 0, .ref 21] (by decide +kernel) ?_
  refine mx_scr 6 3 265 (by decide +kernel) (by decide +kernel) (by decide +kernel) ?_
  refine mx_eq 4 (mx_pt l3 u3 (by decide +kernel)) ?_
  refine mx_call 221 3 [.ref 21, .int 0, .int 4, .int 4] [] [(0, .ref 21), (1, .int 0), (2, .int 4), (3, .int 4)] (some (.int 1)) hh_a203 0 0 1 22 0 0 268 [.int 1] ap_221 (by decide +kernel) (by decide +kernel) (iv_a352 6 xs zf hz) ?_
  refine mx_B 5 273 [(3, .int 0), (2, .ref 36), (1, .ref 21), (0, .ref 0)] [.int 1, .ref 0, .ref 36, .int 1] (by decide +kernel) ?_
  refine mx_scr 6 1 274 (by decide +kernel) (by decide +kernel) (by decide +kernel) ?_
  refine mx_eq 0 (mx_pt l1 u1 (by decide +kernel)) ?_
  refine mx_B 4 278 [(3, .int 0), (2, .ref 36), (1, .ref 21), (0, .ref 0)] [.int 2, .ref 0, .int 0, .ref 36, .int 1] (by decide +kernel) ?_
  refine mx_scr 6 2 279 (by decide +kernel) (by decide +kernel) (by decide +kernel) ?_
  refine mx_eq 4 (mx_pt l2 u2 (by decide +kernel)) ?_
  refine mx_B 4 283 [(3, .int 0), (2, .ref 36), (1, .ref 21), (0, .ref 0)] [.int 3, .ref 0, .int 4, .int 0, .ref 36, .int 1] (by decide +kernel) ?_
  refine mx_scr 6 3 284 (by decide +kernel) (by decide +kernel) (by decide +kernel) ?_
  refine mx_eq 4 (mx_pt l3 u3 (by decide +kernel)) ?_
  refine mx_call 289 3 [.ref 36, .int 0, .int 4, .int 4] [.int 1] [(0, .ref 36), (1, .int 0), (2, .int 4), (3, .int 4)] (some (.int 1)) hh_a203 0 0 1 21 0 0 287 [.int 1, .int 1] ap_289 (by decide +kernel) (by decide +kernel) (iv_a354 6 xs zf hz) ?_
  refine mx_B 5 20 [(3, .int 6), (2, .ref 36), (1, .ref 21), (0, .ref 0)] [.ref 0, .int 6] (by decide +kernel) ?_
  refine mx_S (.arraylength) 1 [] 21 [(3, .int 6), (2, .ref 36), (1, .ref 21), (0, .ref 0)] [.int 6, .int 6] (by decide +kernel) rfl ?_
  refine mx_B 4 543 [(3, .int 6), (2, .ref 36), (1, .ref 21), (0, .ref 0)] [.int 1] (by decide +kernel) ?_
  exact mx_ret (some (.int 1)) (by decide +kernel) ⟨rfl, rfl⟩
theorem iv_a356 (L : Nat) (xs : Nat → Int32) (zf : Value) (hz : zf.category = 1) : mx_R L xs zf ah_M190 0 [(0, .ref 4), (1, .int 0), (2, .int 0)] [] hh_a203 0 0 0 0 (fun v h' => v = some (.int 0) ∧ h' = hh_a203) := by
  refine mx_B 12 22 [(0, .ref 4), (1, .int 0), (2, .int 0)] [.int 0, .ref 4] (by decide +kernel) ?_
  refine mx_B 5 27 [(0, .ref 4), (1, .int 0), (2, .int 0)] [.int 0] (by decide +kernel) ?_
  exact mx_ret (some (.int 0)) (by decide +kernel) ⟨rfl, rfl⟩
theorem iv_a357 (L : Nat) (xs : Nat → Int32) (zf : Value) (hz : zf.category = 1) : mx_R L xs zf ah_M221 0 [(0, .ref 21), (1, .int 1), (2, .int 0), (3, .int 0)] [] hh_a203 0 0 1 22 (fun v h' => v = some (.int 0) ∧ h' = hh_a203) := by
  refine mx_B 12 61 [(0, .ref 21), (1, .int 1), (2, .int 0), (3, .int 0)] [] (by decide +kernel) ?_
  refine mx_B 3 66 [(0, .ref 21), (1, .int 1), (2, .int 0), (3, .int 0)] [.int 0, .int 0, .ref 4] (by decide +kernel) ?_
  refine mx_call 190 3 [.ref 4, .int 0, .int 0] [] [(0, .ref 4), (1, .int 0), (2, .int 0)] (some (.int 0)) hh_a203 0 0 0 0 0 0 69 [.int 0] ap_190 (by decide +kernel) (by decide +kernel) (iv_a356 L xs zf hz) ?_
  exact mx_ret (some (.int 0)) (by decide +kernel) ⟨rfl, rfl⟩
theorem iv_a358 (L : Nat) (xs : Nat → Int32) (zf : Value) (hz : zf.category = 1) : mx_R L xs zf ah_M291 0 [(0, .int 0), (1, .int 0)] [] hh_a203 0 0 0 0 (fun v h' => v = some (.int 0) ∧ h' = hh_a203) := by
  refine mx_B 12 24 [(0, .int 0), (1, .int 0)] [.int 0] (by decide +kernel) ?_
  refine mx_B 3 33 [(0, .int 0), (1, .int 0)] [.int 0] (by decide +kernel) ?_
  exact mx_ret (some (.int 0)) (by decide +kernel) ⟨rfl, rfl⟩
theorem iv_a359 (L : Nat) (xs : Nat → Int32) (zf : Value) (hz : zf.category = 1) : mx_R L xs zf ah_M289 0 [(0, .ref 36), (1, .int 1), (2, .int 0), (3, .int 0)] [] hh_a203 0 0 1 21 (fun v h' => v = some (.int 0) ∧ h' = hh_a203) := by
  refine mx_B 12 22 [(0, .ref 36), (1, .int 1), (2, .int 0), (3, .int 0)] [] (by decide +kernel) ?_
  refine mx_B 10 54 [(0, .ref 36), (1, .int 1), (2, .int 0), (3, .int 0)] [.int 0, .int 0] (by decide +kernel) ?_
  refine mx_call 291 3 [.int 0, .int 0] [] [(0, .int 0), (1, .int 0)] (some (.int 0)) hh_a203 0 0 0 0 0 0 57 [.int 0] ap_291 (by decide +kernel) (by decide +kernel) (iv_a358 L xs zf hz) ?_
  exact mx_ret (some (.int 0)) (by decide +kernel) ⟨rfl, rfl⟩
theorem iv_a360 (xs : Nat → Int32) (zf : Value) (hz : zf.category = 1) (hk : xs 0 &&& 15 = 5) (l1 : 1 ≤ (xs 1).toInt) (u1 : (xs 1).toInt ≤ 1) (l2 : 0 ≤ (xs 2).toInt) (u2 : (xs 2).toInt ≤ 0) (l3 : 0 ≤ (xs 3).toInt) (u3 : (xs 3).toInt ≤ 0) : mx_R 6 xs zf ah_M0 18 [(3, .int 0), (2, .ref 36), (1, .ref 21), (0, .ref 0)] [] hh_a203 0 0 2 45 (fun v h' => v = some (.int 1) ∧ h' = hh_a203) := by
  refine mx_B 2 20 [(3, .int 0), (2, .ref 36), (1, .ref 21), (0, .ref 0)] [.ref 0, .int 0] (by decide +kernel) ?_
  refine mx_S (.arraylength) 1 [] 21 [(3, .int 0), (2, .ref 36), (1, .ref 21), (0, .ref 0)] [.int 6, .int 0] (by decide +kernel) rfl ?_
  refine mx_B 5 29 [(3, .int 0), (2, .ref 36), (1, .ref 21), (0, .ref 0)] [.int 0, .ref 0] (by decide +kernel) ?_
  refine mx_scr 6 0 30 (by decide +kernel) (by decide +kernel) (by decide +kernel) ?_
  refine mx_S (.bipush 15) 2 [] 32 [(3, .int 0), (2, .ref 36), (1, .ref 21), (0, .ref 0)] [.int 15, .int (xs 0)] (by decide +kernel) rfl ?_
  refine mx_S (.iand) 1 [] 33 [(3, .int 0), (2, .ref 36), (1, .ref 21), (0, .ref 0)] [.int ((xs 0) &&& 15)] (by decide +kernel) rfl ?_
  refine mx_eq 5 hk ?_
  refine mx_B 6 254 [(3, .int 0), (2, .ref 36), (1, .ref 21), (0, .ref 0)] [.int 1, .ref 0, .ref 21] (by decide +kernel) ?_
  refine mx_scr 6 1 255 (by decide +kernel) (by decide +kernel) (by decide +kernel) ?_
  refine mx_eq 1 (mx_pt l1 u1 (by decide +kernel)) ?_
  refine mx_B 4 259 [(3, .int 0), (2, .ref 36), (1, .ref 21), (0, .ref 0)] [.int 2, .ref 0, .int 1, .ref 21] (by decide +kernel) ?_
  refine mx_scr 6 2 260 (by decide +kernel) (by decide +kernel) (by decide +kernel) ?_
  refine mx_eq 0 (mx_pt l2 u2 (by decide +kernel)) ?_
  refine mx_B 4 264 [(3, .int 0), (2, .ref 36), (1, .ref 21), (0, .ref 0)] [.int 3, .ref 0, .int 0, .int 1, .ref 21] (by decide +kernel) ?_
  refine mx_scr 6 3 265 (by decide +kernel) (by decide +kernel) (by decide +kernel) ?_
  refine mx_eq 0 (mx_pt l3 u3 (by decide +kernel)) ?_
  refine mx_call 221 3 [.ref 21, .int 1, .int 0, .int 0] [] [(0, .ref 21), (1, .int 1), (2, .int 0), (3, .int 0)] (some (.int 0)) hh_a203 0 0 1 22 0 0 268 [.int 0] ap_221 (by decide +kernel) (by decide +kernel) (iv_a357 6 xs zf hz) ?_
  refine mx_B 5 273 [(3, .int 0), (2, .ref 36), (1, .ref 21), (0, .ref 0)] [.int 1, .ref 0, .ref 36, .int 0] (by decide +kernel) ?_
  refine mx_scr 6 1 274 (by decide +kernel) (by decide +kernel) (by decide +kernel) ?_
  refine mx_eq 1 (mx_pt l1 u1 (by decide +kernel)) ?_
  refine mx_B 4 278 [(3, .int 0), (2, .ref 36), (1, .ref 21), (0, .ref 0)] [.int 2, .ref 0, .int 1, .ref 36, .int 0] (by decide +kernel) ?_
  refine mx_scr 6 2 279 (by decide +kernel) (by decide +kernel) (by decide +kernel) ?_
  refine mx_eq 0 (mx_pt l2 u2 (by decide +kernel)) ?_
  refine mx_B 4 283 [(3, .int 0), (2, .ref 36), (1, .ref 21), (0, .ref 0)] [.int 3, .ref 0, .int 0, .int 1, .ref 36, .int 0] (by decide +kernel) ?_
  refine mx_scr 6 3 284 (by decide +kernel) (by decide +kernel) (by decide +kernel) ?_
  refine mx_eq 0 (mx_pt l3 u3 (by decide +kernel)) ?_
  refine mx_call 289 3 [.ref 36, .int 1, .int 0, .int 0] [.int 0] [(0, .ref 36), (1, .int 1), (2, .int 0), (3, .int 0)] (some (.int 0)) hh_a203 0 0 1 21 0 0 287 [.int 0, .int 0] ap_289 (by decide +kernel) (by decide +kernel) (iv_a359 6 xs zf hz) ?_
  refine mx_B 5 20 [(3, .int 6), (2, .ref 36), (1, .ref 21), (0, .ref 0)] [.ref 0, .int 6] (by decide +kernel) ?_
  refine mx_S (.arraylength) 1 [] 21 [(3, .int 6), (2, .ref 36), (1, .ref 21), (0, .ref 0)] [.int 6, .int 6] (by decide +kernel) rfl ?_
  refine mx_B 4 543 [(3, .int 6), (2, .ref 36), (1, .ref 21), (0, .ref 0)] [.int 1] (by decide +kernel) ?_
  exact mx_ret (some (.int 1)) (by decide +kernel) ⟨rfl, rfl⟩
theorem iv_a361 (L : Nat) (xs : Nat → Int32) (zf : Value) (hz : zf.category = 1) : mx_R L xs zf ah_M190 0 [(0, .ref 4), (1, .int 0), (2, .int 1)] [] hh_a203 0 0 0 0 (fun v h' => v = some (.int (-1)) ∧ h' = hh_a203) := by
  refine mx_B 12 22 [(0, .ref 4), (1, .int 0), (2, .int 1)] [.int 0, .ref 4] (by decide +kernel) ?_
  refine mx_B 5 27 [(0, .ref 4), (1, .int 0), (2, .int 1)] [.int (-1)] (by decide +kernel) ?_
  exact mx_ret (some (.int (-1))) (by decide +kernel) ⟨rfl, rfl⟩
theorem iv_a362 (L : Nat) (xs : Nat → Int32) (zf : Value) (hz : zf.category = 1) : mx_R L xs zf ah_M221 0 [(0, .ref 21), (1, .int 1), (2, .int 0), (3, .int 1)] [] hh_a203 0 0 1 22 (fun v h' => v = some (.int (-1)) ∧ h' = hh_a203) := by
  refine mx_B 12 61 [(0, .ref 21), (1, .int 1), (2, .int 0), (3, .int 1)] [] (by decide +kernel) ?_
  refine mx_B 3 66 [(0, .ref 21), (1, .int 1), (2, .int 0), (3, .int 1)] [.int 1, .int 0, .ref 4] (by decide +kernel) ?_
  refine mx_call 190 3 [.ref 4, .int 0, .int 1] [] [(0, .ref 4), (1, .int 0), (2, .int 1)] (some (.int (-1))) hh_a203 0 0 0 0 0 0 69 [.int (-1)] ap_190 (by decide +kernel) (by decide +kernel) (iv_a361 L xs zf hz) ?_
  exact mx_ret (some (.int (-1))) (by decide +kernel) ⟨rfl, rfl⟩
theorem iv_a363 (L : Nat) (xs : Nat → Int32) (zf : Value) (hz : zf.category = 1) : mx_R L xs zf ah_M291 0 [(0, .int 0), (1, .int 1)] [] hh_a203 0 0 0 0 (fun v h' => v = some (.int (-1)) ∧ h' = hh_a203) := by
  refine mx_B 12 35 [(0, .int 0), (1, .int 1)] [.int 0] (by decide +kernel) ?_
  refine mx_B 3 43 [(0, .int 0), (1, .int 1)] [.int (-1)] (by decide +kernel) ?_
  exact mx_ret (some (.int (-1))) (by decide +kernel) ⟨rfl, rfl⟩
theorem iv_a364 (L : Nat) (xs : Nat → Int32) (zf : Value) (hz : zf.category = 1) : mx_R L xs zf ah_M289 0 [(0, .ref 36), (1, .int 1), (2, .int 0), (3, .int 1)] [] hh_a203 0 0 1 21 (fun v h' => v = some (.int (-1)) ∧ h' = hh_a203) := by
  refine mx_B 12 22 [(0, .ref 36), (1, .int 1), (2, .int 0), (3, .int 1)] [] (by decide +kernel) ?_
  refine mx_B 10 54 [(0, .ref 36), (1, .int 1), (2, .int 0), (3, .int 1)] [.int 1, .int 0] (by decide +kernel) ?_
  refine mx_call 291 3 [.int 0, .int 1] [] [(0, .int 0), (1, .int 1)] (some (.int (-1))) hh_a203 0 0 0 0 0 0 57 [.int (-1)] ap_291 (by decide +kernel) (by decide +kernel) (iv_a363 L xs zf hz) ?_
  exact mx_ret (some (.int (-1))) (by decide +kernel) ⟨rfl, rfl⟩
theorem iv_a365 (xs : Nat → Int32) (zf : Value) (hz : zf.category = 1) (hk : xs 0 &&& 15 = 5) (l1 : 1 ≤ (xs 1).toInt) (u1 : (xs 1).toInt ≤ 1) (l2 : 0 ≤ (xs 2).toInt) (u2 : (xs 2).toInt ≤ 0) (l3 : 1 ≤ (xs 3).toInt) (u3 : (xs 3).toInt ≤ 1) : mx_R 6 xs zf ah_M0 18 [(3, .int 0), (2, .ref 36), (1, .ref 21), (0, .ref 0)] [] hh_a203 0 0 2 45 (fun v h' => v = some (.int 1) ∧ h' = hh_a203) := by
  refine mx_B 2 20 [(3, .int 0), (2, .ref 36), (1, .ref 21), (0, .ref 0)] [.ref 0, .int 0] (by decide +kernel) ?_
  refine mx_S (.arraylength) 1 [] 21 [(3, .int 0), (2, .ref 36), (1, .ref 21), (0, .ref 0)] [.int 6, .int 0] (by decide +kernel) rfl ?_
  refine mx_B 5 29 [(3, .int 0), (2, .ref 36), (1, .ref 21), (0, .ref 0)] [.int 0, .ref 0] (by decide +kernel) ?_
  refine mx_scr 6 0 30 (by decide +kernel) (by decide +kernel) (by decide +kernel) ?_
  refine mx_S (.bipush 15) 2 [] 32 [(3, .int 0), (2, .ref 36), (1, .ref 21), (0, .ref 0)] [.int 15, .int (xs 0)] (by decide +kernel) rfl ?_
  refine mx_S (.iand) 1 [] 33 [(3, .int 0), (2, .ref 36), (1, .ref 21), (0, .ref 0)] [.int ((xs 0) &&& 15)] (by decide +kernel) rfl ?_
  refine mx_eq 5 hk ?_
  refine mx_B 6 254 [(3, .int 0), (2, .ref 36), (1, .ref 21), (0, .ref 0)] [.int 1, .ref 0, .ref 21] (by decide +kernel) ?_
  refine mx_scr 6 1 255 (by decide +kernel) (by decide +kernel) (by decide +kernel) ?_
  refine mx_eq 1 (mx_pt l1 u1 (by decide +kernel)) ?_
  refine mx_B 4 259 [(3, .int 0), (2, .ref 36), (1, .ref 21), (0, .ref 0)] [.int 2, .ref 0, .int 1, .ref 21] (by decide +kernel) ?_
  refine mx_scr 6 2 260 (by decide +kernel) (by decide +kernel) (by decide +kernel) ?_
  refine mx_eq 0 (mx_pt l2 u2 (by decide +kernel)) ?_
  refine mx_B 4 264 [(3, .int 0), (2, .ref 36), (1, .ref 21), (0, .ref 0)] [.int 3, .ref 0, .int 0, .int 1, .ref 21] (by decide +kernel) ?_
  refine mx_scr 6 3 265 (by decide +kernel) (by decide +kernel) (by decide +kernel) ?_
  refine mx_eq 1 (mx_pt l3 u3 (by decide +kernel)) ?_
  refine mx_call 221 3 [.ref 21, .int 1, .int 0, .int 1] [] [(0, .ref 21), (1, .int 1), (2, .int 0), (3, .int 1)] (some (.int (-1))) hh_a203 0 0 1 22 0 0 268 [.int (-1)] ap_221 (by decide +kernel) (by decide +kernel) (iv_a362 6 xs zf hz) ?_
  refine mx_B 5 273 [(3, .int 0), (2, .ref 36), (1, .ref 21), (0, .ref 0)] [.int 1, .ref 0, .ref 36, .int (-1)] (by decide +kernel) ?_
  refine mx_scr 6 1 274 (by decide +kernel) (by decide +kernel) (by decide +kernel) ?_
  refine mx_eq 1 (mx_pt l1 u1 (by decide +kernel)) ?_
  refine mx_B 4 278 [(3, .int 0), (2, .ref 36), (1, .ref 21), (0, .ref 0)] [.int 2, .ref 0, .int 1, .ref 36, .int (-1)] (by decide +kernel) ?_
  refine mx_scr 6 2 279 (by decide +kernel) (by decide +kernel) (by decide +kernel) ?_
  refine mx_eq 0 (mx_pt l2 u2 (by decide +kernel)) ?_
  refine mx_B 4 283 [(3, .int 0), (2, .ref 36), (1, .ref 21), (0, .ref 0)] [.int 3, .ref 0, .int 0, .int 1, .ref 36, .int (-1)] (by decide +kernel) ?_
  refine mx_scr 6 3 284 (by decide +kernel) (by decide +kernel) (by decide +kernel) ?_
  refine mx_eq 1 (mx_pt l3 u3 (by decide +kernel)) ?_
  refine mx_call 289 3 [.ref 36, .int 1, .int 0, .int 1] [.int (-1)] [(0, .ref 36), (1, .int 1), (2, .int 0), (3, .int 1)] (some (.int (-1))) hh_a203 0 0 1 21 0 0 287 [.int (-1), .int (-1)] ap_289 (by decide +kernel) (by decide +kernel) (iv_a364 6 xs zf hz) ?_
  refine mx_B 5 20 [(3, .int 6), (2, .ref 36), (1, .ref 21), (0, .ref 0)] [.ref 0, .int 6] (by decide +kernel) ?_
  refine mx_S (.arraylength) 1 [] 21 [(3, .int 6), (2, .ref 36), (1, .ref 21), (0, .ref 0)] [.int 6, .int 6] (by decide +kernel) rfl ?_
  refine mx_B 4 543 [(3, .int 6), (2, .ref 36), (1, .ref 21), (0, .ref 0)] [.int 1] (by decide +kernel) ?_
  exact mx_ret (some (.int 1)) (by decide +kernel) ⟨rfl, rfl⟩
theorem iv_a366 (L : Nat) (xs : Nat → Int32) (zf : Value) (hz : zf.category = 1) : mx_R L xs zf ah_M190 0 [(0, .ref 4), (1, .int 0), (2, .int 2)] [] hh_a203 0 0 0 0 (fun v h' => v = some (.int (-1)) ∧ h' = hh_a203) := by
  refine mx_B 12 22 [(0, .ref 4), (1, .int 0), (2, .int 2)] [.int 0, .ref 4] (by decide +kernel) ?_
  refine mx_B 5 27 [(0, .ref 4), (1, .int 0), (2, .int 2)] [.int (-1)] (by decide +kernel) ?_
  exact mx_ret (some (.int (-1))) (by decide +kernel) ⟨rfl, rfl⟩
theorem iv_a367 (L : Nat) (xs : Nat → Int32) (zf : Value) (hz : zf.category = 1) : mx_R L xs zf ah_M221 0 [(0, .ref 21), (1, .int 1), (2, .int 0), (3, .int 2)] [] hh_a203 0 0 1 22 (fun v h' => v = some (.int (-1)) ∧ h' = hh_a203) := by
  refine mx_B 12 61 [(0, .ref 21), (1, .int 1), (2, .int 0), (3, .int 2)] [] (by decide +kernel) ?_
  refine mx_B 3 66 [(0, .ref 21), (1, .int 1), (2, .int 0), (3, .int 2)] [.int 2, .int 0, .ref 4] (by decide +kernel) ?_
  refine mx_call 190 3 [.ref 4, .int 0, .int 2] [] [(0, .ref 4), (1, .int 0), (2, .int 2)] (some (.int (-1))) hh_a203 0 0 0 0 0 0 69 [.int (-1)] ap_190 (by decide +kernel) (by decide +kernel) (iv_a366 L xs zf hz) ?_
  exact mx_ret (some (.int (-1))) (by decide +kernel) ⟨rfl, rfl⟩
theorem iv_a368 (L : Nat) (xs : Nat → Int32) (zf : Value) (hz : zf.category = 1) : mx_R L xs zf ah_M291 0 [(0, .int 0), (1, .int 2)] [] hh_a203 0 0 0 0 (fun v h' => v = some (.int (-1)) ∧ h' = hh_a203) := by
  refine mx_B 12 35 [(0, .int 0), (1, .int 2)] [.int 0] (by decide +kernel) ?_
  refine mx_B 3 43 [(0, .int 0), (1, .int 2)] [.int (-1)] (by decide +kernel) ?_
  exact mx_ret (some (.int (-1))) (by decide +kernel) ⟨rfl, rfl⟩
theorem iv_a369 (L : Nat) (xs : Nat → Int32) (zf : Value) (hz : zf.category = 1) : mx_R L xs zf ah_M289 0 [(0, .ref 36), (1, .int 1), (2, .int 0), (3, .int 2)] [] hh_a203 0 0 1 21 (fun v h' => v = some (.int (-1)) ∧ h' = hh_a203) := by
  refine mx_B 12 22 [(0, .ref 36), (1, .int 1), (2, .int 0), (3, .int 2)] [] (by decide +kernel) ?_
  refine mx_B 10 54 [(0, .ref 36), (1, .int 1), (2, .int 0), (3, .int 2)] [.int 2, .int 0] (by decide +kernel) ?_
  refine mx_call 291 3 [.int 0, .int 2] [] [(0, .int 0), (1, .int 2)] (some (.int (-1))) hh_a203 0 0 0 0 0 0 57 [.int (-1)] ap_291 (by decide +kernel) (by decide +kernel) (iv_a368 L xs zf hz) ?_
  exact mx_ret (some (.int (-1))) (by decide +kernel) ⟨rfl, rfl⟩
theorem iv_a370 (xs : Nat → Int32) (zf : Value) (hz : zf.category = 1) (hk : xs 0 &&& 15 = 5) (l1 : 1 ≤ (xs 1).toInt) (u1 : (xs 1).toInt ≤ 1) (l2 : 0 ≤ (xs 2).toInt) (u2 : (xs 2).toInt ≤ 0) (l3 : 2 ≤ (xs 3).toInt) (u3 : (xs 3).toInt ≤ 2) : mx_R 6 xs zf ah_M0 18 [(3, .int 0), (2, .ref 36), (1, .ref 21), (0, .ref 0)] [] hh_a203 0 0 2 45 (fun v h' => v = some (.int 1) ∧ h' = hh_a203) := by
  refine mx_B 2 20 [(3, .int 0), (2, .ref 36), (1, .ref 21), (0, .ref 0)] [.ref 0, .int 0] (by decide +kernel) ?_
  refine mx_S (.arraylength) 1 [] 21 [(3, .int 0), (2, .ref 36), (1, .ref 21), (0, .ref 0)] [.int 6, .int 0] (by decide +kernel) rfl ?_
  refine mx_B 5 29 [(3, .int 0), (2, .ref 36), (1, .ref 21), (0, .ref 0)] [.int 0, .ref 0] (by decide +kernel) ?_
  refine mx_scr 6 0 30 (by decide +kernel) (by decide +kernel) (by decide +kernel) ?_
  refine mx_S (.bipush 15) 2 [] 32 [(3, .int 0), (2, .ref 36), (1, .ref 21), (0, .ref 0)] [.int 15, .int (xs 0)] (by decide +kernel) rfl ?_
  refine mx_S (.iand) 1 [] 33 [(3, .int 0), (2, .ref 36), (1, .ref 21), (0, .ref 0)] [.int ((xs 0) &&& 15)] (by decide +kernel) rfl ?_
  refine mx_eq 5 hk ?_
  refine mx_B 6 254 [(3, .int 0), (2, .ref 36), (1, .ref 21), (0, .ref 0)] [.int 1, .ref 0, .ref 21] (by decide +kernel) ?_
  refine mx_scr 6 1 255 (by decide +kernel) (by decide +kernel) (by decide +kernel) ?_
  refine mx_eq 1 (mx_pt l1 u1 (by decide +kernel)) ?_
  refine mx_B 4 259 [(3, .int 0), (2, .ref 36), (1, .ref 21), (0, .ref 0)] [.int 2, .ref 0, .int 1, .ref 21] (by decide +kernel) ?_
  refine mx_scr 6 2 260 (by decide +kernel) (by decide +kernel) (by decide +kernel) ?_
  refine mx_eq 0 (mx_pt l2 u2 (by decide +kernel)) ?_
  refine mx_B 4 264 [(3, .int 0), (2, .ref 36), (1, .ref 21), (0, .ref 0)] [.int 3, .ref 0, .int 0, .int 1, .ref 21] (by decide +kernel) ?_
  refine mx_scr 6 3 265 (by decide +kernel) (by decide +kernel) (by decide +kernel) ?_
  refine mx_eq 2 (mx_pt l3 u3 (by decide +kernel)) ?_
  refine mx_call 221 3 [.ref 21, .int 1, .int 0, .int 2] [] [(0, .ref 21), (1, .int 1), (2, .int 0), (3, .int 2)] (some (.int (-1))) hh_a203 0 0 1 22 0 0 268 [.int (-1)] ap_221 (by decide +kernel) (by decide +kernel) (iv_a367 6 xs zf hz) ?_
  refine mx_B 5 273 [(3, .int 0), (2, .ref 36), (1, .ref 21), (0, .ref 0)] [.int 1, .ref 0, .ref 36, .int (-1)] (by decide +kernel) ?_
  refine mx_scr 6 1 274 (by decide +kernel) (by decide +kernel) (by decide +kernel) ?_
  refine mx_eq 1 (mx_pt l1 u1 (by decide +kernel)) ?_
  refine mx_B 4 278 [(3, .int 0), (2, .ref 36), (1, .ref 21), (0, .ref 0)] [.int 2, .ref 0, .int 1, .ref 36, .int (-1)] (by decide +kernel) ?_
  refine mx_scr 6 2 279 (by decide +kernel) (by decide +kernel) (by decide +kernel) ?_
  refine mx_eq 0 (mx_pt l2 u2 (by decide +kernel)) ?_
  refine mx_B 4 283 [(3, .int 0), (2, .ref 36), (1, .ref 21), (0, .ref 0)] [.int 3, .ref 0, .int 0, .int 1, .ref 36, .int (-1)] (by decide +kernel) ?_
  refine mx_scr 6 3 284 (by decide +kernel) (by decide +kernel) (by decide +kernel) ?_
  refine mx_eq 2 (mx_pt l3 u3 (by decide +kernel)) ?_
  refine mx_call 289 3 [.ref 36, .int 1, .int 0, .int 2] [.int (-1)] [(0, .ref 36), (1, .int 1), (2, .int 0), (3, .int 2)] (some (.int (-1))) hh_a203 0 0 1 21 0 0 287 [.int (-1), .int (-1)] ap_289 (by decide +kernel) (by decide +kernel) (iv_a369 6 xs zf hz) ?_
  refine mx_B 5 20 [(3, .int 6), (2, .ref 36), (1, .ref 21), (0, .ref 0)] [.ref 0, .int 6] (by decide +kernel) ?_
  refine mx_S (.arraylength) 1 [] 21 [(3, .int 6), (2, .ref 36), (1, .ref 21), (0, .ref 0)] [.int 6, .int 6] (by decide +kernel) rfl ?_
  refine mx_B 4 543 [(3, .int 6), (2, .ref 36), (1, .ref 21), (0, .ref 0)] [.int 1] (by decide +kernel) ?_
  exact mx_ret (some (.int 1)) (by decide +kernel) ⟨rfl, rfl⟩
theorem iv_a371 (L : Nat) (xs : Nat → Int32) (zf : Value) (hz : zf.category = 1) : mx_R L xs zf ah_M190 0 [(0, .ref 4), (1, .int 0), (2, .int 3)] [] hh_a203 0 0 0 0 (fun v h' => v = some (.int 3) ∧ h' = hh_a203) := by
  refine mx_B 12 22 [(0, .ref 4), (1, .int 0), (2, .int 3)] [.int 0, .ref 4] (by decide +kernel) ?_
  refine mx_B 5 27 [(0, .ref 4), (1, .int 0), (2, .int 3)] [.int 3] (by decide +kernel) ?_
  exact mx_ret (some (.int 3)) (by decide +kernel) ⟨rfl, rfl⟩
theorem iv_a372 (L : Nat) (xs : Nat → Int32) (zf : Value) (hz : zf.category = 1) : mx_R L xs zf ah_M221 0 [(0, .ref 21), (1, .int 1), (2, .int 0), (3, .int 3)] [] hh_a203 0 0 1 22 (fun v h' => v = some (.int 3) ∧ h' = hh_a203) := by
  refine mx_B 12 61 [(0, .ref 21), (1, .int 1), (2, .int 0), (3, .int 3)] [] (by decide +kernel) ?_
  refine mx_B 3 66 [(0, .ref 21), (1, .int 1), (2, .int 0), (3, .int 3)] [.int 3, .int 0, .ref 4] (by decide +kernel) ?_
  refine mx_call 190 3 [.ref 4, .int 0, .int 3] [] [(0, .ref 4), (1, .int 0), (2, .int 3)] (some (.int 3)) hh_a203 0 0 0 0 0 0 69 [.int 3] ap_190 (by decide +kernel) (by decide +kernel) (iv_a371 L xs zf hz) ?_
  exact mx_ret (some (.int 3)) (by decide +kernel) ⟨rfl, rfl⟩
theorem iv_a373 (L : Nat) (xs : Nat → Int32) (zf : Value) (hz : zf.category = 1) : mx_R L xs zf ah_M291 0 [(0, .int 0), (1, .int 3)] [] hh_a203 0 0 0 0 (fun v h' => v = some (.int 3) ∧ h' = hh_a203) := by
  refine mx_B 10 18 [(0, .int 0), (1, .int 3)] [.int 3] (by decide +kernel) ?_
  exact mx_ret (some (.int 3)) (by decide +kernel) ⟨rfl, rfl⟩
theorem iv_a374 (L : Nat) (xs : Nat → Int32) (zf : Value) (hz : zf.category = 1) : mx_R L xs zf ah_M289 0 [(0, .ref 36), (1, .int 1), (2, .int 0), (3, .int 3)] [] hh_a203 0 0 1 21 (fun v h' => v = some (.int 3) ∧ h' = hh_a203) := by
  refine mx_B 12 22 [(0, .ref 36), (1, .int 1), (2, .int 0), (3, .int 3)] [] (by decide +kernel) ?_
  refine mx_B 10 54 [(0, .ref 36), (1, .int 1), (2, .int 0), (3, .int 3)] [.int 3, .int 0] (by decide +kernel) ?_
  refine mx_call 291 3 [.int 0, .int 3] [] [(0, .int 0), (1, .int 3)] (some (.int 3)) hh_a203 0 0 0 0 0 0 57 [.int 3] ap_291 (by decide +kernel) (by decide +kernel) (iv_a373 L xs zf hz) ?_
  exact mx_ret (some (.int 3)) (by decide +kernel) ⟨rfl, rfl⟩
theorem iv_a375 (xs : Nat → Int32) (zf : Value) (hz : zf.category = 1) (hk : xs 0 &&& 15 = 5) (l1 : 1 ≤ (xs 1).toInt) (u1 : (xs 1).toInt ≤ 1) (l2 : 0 ≤ (xs 2).toInt) (u2 : (xs 2).toInt ≤ 0) (l3 : 3 ≤ (xs 3).toInt) (u3 : (xs 3).toInt ≤ 3) : mx_R 6 xs zf ah_M0 18 [(3, .int 0), (2, .ref 36), (1, .ref 21), (0, .ref 0)] [] hh_a203 0 0 2 45 (fun v h' => v = some (.int 1) ∧ h' = hh_a203) := by
  refine mx_B 2 20 [(3, .int 0), (2, .ref 36), (1, .ref 21), (0, .ref 0)] [.ref 0, .int 0] (by decide +kernel) ?_
  refine mx_S (.arraylength) 1 [] 21 [(3, .int 0), (2, .ref 36), (1, .ref 21), (0, .ref 0)] [.int 6, .int 0] (by decide +kernel) rfl ?_
  refine mx_B 5 29 [(3, .int 0), (2, .ref 36), (1, .ref 21), (0, .ref 0)] [.int 0, .ref 0] (by decide +kernel) ?_
  refine mx_scr 6 0 30 (by decide +kernel) (by decide +kernel) (by decide +kernel) ?_
  refine mx_S (.bipush 15) 2 [] 32 [(3, .int 0), (2, .ref 36), (1, .ref 21), (0, .ref 0)] [.int 15, .int (xs 0)] (by decide +kernel) rfl ?_
  refine mx_S (.iand) 1 [] 33 [(3, .int 0), (2, .ref 36), (1, .ref 21), (0, .ref 0)] [.int ((xs 0) &&& 15)] (by decide +kernel) rfl ?_
  refine mx_eq 5 hk ?_
  refine mx_B 6 254 [(3, .int 0), (2, .ref 36), (1, .ref 21), (0, .ref 0)] [.int 1, .ref 0, .ref 21] (by decide +kernel) ?_
  refine mx_scr 6 1 255 (by decide +kernel) (by decide +kernel) (by decide +kernel) ?_
  refine mx_eq 1 (mx_pt l1 u1 (by decide +kernel)) ?_
  refine mx_B 4 259 [(3, .int 0), (2, .ref 36), (1, .ref 21), (0, .ref 0)] [.int 2, .ref 0, .int 1, .ref 21] (by decide +kernel) ?_
  refine mx_scr 6 2 260 (by decide +kernel) (by decide +kernel) (by decide +kernel) ?_
  refine mx_eq 0 (mx_pt l2 u2 (by decide +kernel)) ?_
  refine mx_B 4 264 [(3, .int 0), (2, .ref 36), (1, .ref 21), (0, .ref 0)] [.int 3, .ref 0, .int 0, .int 1, .ref 21] (by decide +kernel) ?_
  refine mx_scr 6 3 265 (by decide +kernel) (by decide +kernel) (by decide +kernel) ?_
  refine mx_eq 3 (mx_pt l3 u3 (by decide +kernel)) ?_
  refine mx_call 221 3 [.ref 21, .int 1, .int 0, .int 3] [] [(0, .ref 21), (1, .int 1), (2, .int 0), (3, .int 3)] (some (.int 3)) hh_a203 0 0 1 22 0 0 268 [.int 3] ap_221 (by decide +kernel) (by decide +kernel) (iv_a372 6 xs zf hz) ?_
  refine mx_B 5 273 [(3, .int 0), (2, .ref 36), (1, .ref 21), (0, .ref 0)] [.int 1, .ref 0, .ref 36, .int 3] (by decide +kernel) ?_
  refine mx_scr 6 1 274 (by decide +kernel) (by decide +kernel) (by decide +kernel) ?_
  refine mx_eq 1 (mx_pt l1 u1 (by decide +kernel)) ?_
  refine mx_B 4 278 [(3, .int 0), (2, .ref 36), (1, .ref 21), (0, .ref 0)] [.int 2, .ref 0, .int 1, .ref 36, .int 3] (by decide +kernel) ?_
  refine mx_scr 6 2 279 (by decide +kernel) (by decide +kernel) (by decide +kernel) ?_
  refine mx_eq 0 (mx_pt l2 u2 (by decide +kernel)) ?_
  refine mx_B 4 283 [(3, .int 0), (2, .ref 36), (1, .ref 21), (0, .ref 0)] [.int 3, .ref 0, .int 0, .int 1, .ref 36, .int 3] (by decide +kernel) ?_
  refine mx_scr 6 3 284 (by decide +kernel) (by decide +kernel) (by decide +kernel) ?_
  refine mx_eq 3 (mx_pt l3 u3 (by decide +kernel)) ?_
  refine mx_call 289 3 [.ref 36, .int 1, .int 0, .int 3] [.int 3] [(0, .ref 36), (1, .int 1), (2, .int 0), (3, .int 3)] (some (.int 3)) hh_a203 0 0 1 21 0 0 287 [.int 3, .int 3] ap_289 (by decide +kernel) (by decide +kernel) (iv_a374 6 xs zf hz) ?_
  refine mx_B 5 20 [(3, .int 6), (2, .ref 36), (1, .ref 21), (0, .ref 0)] [.ref 0, .int 6] (by decide +kernel) ?_
  refine mx_S (.arraylength) 1 [] 21 [(3, .int 6), (2, .ref 36), (1, .ref 21), (0, .ref 0)] [.int 6, .int 6] (by decide +kernel) rfl ?_
  refine mx_B 4 543 [(3, .int 6), (2, .ref 36), (1, .ref 21), (0, .ref 0)] [.int 1] (by decide +kernel) ?_
  exact mx_ret (some (.int 1)) (by decide +kernel) ⟨rfl, rfl⟩
theorem iv_a376 (L : Nat) (xs : Nat → Int32) (zf : Value) (hz : zf.category = 1) : mx_R L xs zf ah_M190 0 [(0, .ref 4), (1, .int 0), (2, .int 4)] [] hh_a203 0 0 0 0 (fun v h' => v = some (.int (-1)) ∧ h' = hh_a203) := by
  refine mx_B 12 22 [(0, .ref 4), (1, .int 0), (2, .int 4)] [.int 0, .ref 4] (by decide +kernel) ?_
  refine mx_B 5 27 [(0, .ref 4), (1, .int 0), (2, .int 4)] [.int (-1)] (by decide +kernel) ?_
  exact mx_ret (some (.int (-1))) (by decide +kernel) ⟨rfl, rfl⟩
theorem iv_a377 (L : Nat) (xs : Nat → Int32) (zf : Value) (hz : zf.category = 1) : mx_R L xs zf ah_M221 0 [(0, .ref 21), (1, .int 1), (2, .int 0), (3, .int 4)] [] hh_a203 0 0 1 22 (fun v h' => v = some (.int (-1)) ∧ h' = hh_a203) := by
  refine mx_B 12 61 [(0, .ref 21), (1, .int 1), (2, .int 0), (3, .int 4)] [] (by decide +kernel) ?_
  refine mx_B 3 66 [(0, .ref 21), (1, .int 1), (2, .int 0), (3, .int 4)] [.int 4, .int 0, .ref 4] (by decide +kernel) ?_
  refine mx_call 190 3 [.ref 4, .int 0, .int 4] [] [(0, .ref 4), (1, .int 0), (2, .int 4)] (some (.int (-1))) hh_a203 0 0 0 0 0 0 69 [.int (-1)] ap_190 (by decide +kernel) (by decide +kernel) (iv_a376 L xs zf hz) ?_
  exact mx_ret (some (.int (-1))) (by decide +kernel) ⟨rfl, rfl⟩
theorem iv_a378 (L : Nat) (xs : Nat → Int32) (zf : Value) (hz : zf.category = 1) : mx_R L xs zf ah_M291 0 [(0, .int 0), (1, .int 4)] [] hh_a203 0 0 0 0 (fun v h' => v = some (.int (-1)) ∧ h' = hh_a203) := by
  refine mx_B 12 35 [(0, .int 0), (1, .int 4)] [.int 0] (by decide +kernel) ?_
  refine mx_B 3 43 [(0, .int 0), (1, .int 4)] [.int (-1)] (by decide +kernel) ?_
  exact mx_ret (some (.int (-1))) (by decide +kernel) ⟨rfl, rfl⟩
theorem iv_a379 (L : Nat) (xs : Nat → Int32) (zf : Value) (hz : zf.category = 1) : mx_R L xs zf ah_M289 0 [(0, .ref 36), (1, .int 1), (2, .int 0), (3, .int 4)] [] hh_a203 0 0 1 21 (fun v h' => v = some (.int (-1)) ∧ h' = hh_a203) := by
  refine mx_B 12 22 [(0, .ref 36), (1, .int 1), (2, .int 0), (3, .int 4)] [] (by decide +kernel) ?_
  refine mx_B 10 54 [(0, .ref 36), (1, .int 1), (2, .int 0), (3, .int 4)] [.int 4, .int 0] (by decide +kernel) ?_
  refine mx_call 291 3 [.int 0, .int 4] [] [(0, .int 0), (1, .int 4)] (some (.int (-1))) hh_a203 0 0 0 0 0 0 57 [.int (-1)] ap_291 (by decide +kernel) (by decide +kernel) (iv_a378 L xs zf hz) ?_
  exact mx_ret (some (.int (-1))) (by decide +kernel) ⟨rfl, rfl⟩
theorem iv_a380 (xs : Nat → Int32) (zf : Value) (hz : zf.category = 1) (hk : xs 0 &&& 15 = 5) (l1 : 1 ≤ (xs 1).toInt) (u1 : (xs 1).toInt ≤ 1) (l2 : 0 ≤ (xs 2).toInt) (u2 : (xs 2).toInt ≤ 0) (l3 : 4 ≤ (xs 3).toInt) (u3 : (xs 3).toInt ≤ 4) : mx_R 6 xs zf ah_M0 18 [(3, .int 0), (2, .ref 36), (1, .ref 21), (0, .ref 0)] [] hh_a203 0 0 2 45 (fun v h' => v = some (.int 1) ∧ h' = hh_a203) := by
  refine mx_B 2 20 [(3, .int 0), (2, .ref 36), (1, .ref 21), (0, .ref 0)] [.ref 0, .int 0] (by decide +kernel) ?_
  refine mx_S (.arraylength) 1 [] 21 [(3, .int 0), (2, .ref 36), (1, .ref 21), (0, .ref 0)] [.int 6, .int 0] (by decide +kernel) rfl ?_
  refine mx_B 5 29 [(3, .int 0), (2, .ref 36), (1, .ref 21), (0, .ref 0)] [.int 0, .ref 0] (by decide +kernel) ?_
  refine mx_scr 6 0 30 (by decide +kernel) (by decide +kernel) (by decide +kernel) ?_
  refine mx_S (.bipush 15) 2 [] 32 [(3, .int 0), (2, .ref 36), (1, .ref 21), (0, .ref 0)] [.int 15, .int (xs 0)] (by decide +kernel) rfl ?_
  refine mx_S (.iand) 1 [] 33 [(3, .int 0), (2, .ref 36), (1, .ref 21), (0, .ref 0)] [.int ((xs 0) &&& 15)] (by decide +kernel) rfl ?_
  refine mx_eq 5 hk ?_
  refine mx_B 6 254 [(3, .int 0), (2, .ref 36), (1, .ref 21), (0, .ref 0)] [.int 1, .ref 0, .ref 21] (by decide +kernel) ?_
  refine mx_scr 6 1 255 (by decide +kernel) (by decide +kernel) (by decide +kernel) ?_
  refine mx_eq 1 (mx_pt l1 u1 (by decide +kernel)) ?_
  refine mx_B 4 259 [(3, .int 0), (2, .ref 36), (1, .ref 21), (0, .ref 0)] [.int 2, .ref 0, .int 1, .ref 21] (by decide +kernel) ?_
  refine mx_scr 6 2 260 (by decide +kernel) (by decide +kernel) (by decide +kernel) ?_
  refine mx_eq 0 (mx_pt l2 u2 (by decide +kernel)) ?_
  refine mx_B 4 264 [(3, .int 0), (2, .ref 36), (1, .ref 21), (0, .ref 0)] [.int 3, .ref 0, .int 0, .int 1, .ref 21] (by decide +kernel) ?_
  refine mx_scr 6 3 265 (by decide +kernel) (by decide +kernel) (by decide +kernel) ?_
  refine mx_eq 4 (mx_pt l3 u3 (by decide +kernel)) ?_
  refine mx_call 221 3 [.ref 21, .int 1, .int 0, .int 4] [] [(0, .ref 21), (1, .int 1), (2, .int 0), (3, .int 4)] (some (.int (-1))) hh_a203 0 0 1 22 0 0 268 [.int (-1)] ap_221 (by decide +kernel) (by decide +kernel) (iv_a377 6 xs zf hz) ?_
  refine mx_B 5 273 [(3, .int 0), (2, .ref 36), (1, .ref 21), (0, .ref 0)] [.int 1, .ref 0, .ref 36, .int (-1)] (by decide +kernel) ?_
  refine mx_scr 6 1 274 (by decide +kernel) (by decide +kernel) (by decide +kernel) ?_
  refine mx_eq 1 (mx_pt l1 u1 (by decide +kernel)) ?_
  refine mx_B 4 278 [(3, .int 0), (2, .ref 36), (1, .ref 21), (0, .ref 0)] [.int 2, .ref 0, .int 1, .ref 36, .int (-1)] (by decide +kernel) ?_
  refine mx_scr 6 2 279 (by decide +kernel) (by decide +kernel) (by decide +kernel) ?_
  refine mx_eq 0 (mx_pt l2 u2 (by decide +kernel)) ?_
  refine mx_B 4 283 [(3, .int 0), (2, .ref 36), (1, .ref 21), (0, .ref 0)] [.int 3, .ref 0, .int 0, .int 1, .ref 36, .int (-1)] (by decide +kernel) ?_
  refine mx_scr 6 3 284 (by decide +kernel) (by decide +kernel) (by decide +kernel) ?_
  refine mx_eq 4 (mx_pt l3 u3 (by decide +kernel)) ?_
  refine mx_call 289 3 [.ref 36, .int 1, .int 0, .int 4] [.int (-1)] [(0, .ref 36), (1, .int 1), (2, .int 0), (3, .int 4)] (some (.int (-1))) hh_a203 0 0 1 21 0 0 287 [.int (-1), .int (-1)] ap_289 (by decide +kernel) (by decide +kernel) (iv_a379 6 xs zf hz) ?_
  refine mx_B 5 20 [(3, .int 6), (2, .ref 36), (1, .ref 21), (0, .ref 0)] [.ref 0, .int 6] (by decide +kernel) ?_
  refine mx_S (.arraylength) 1 [] 21 [(3, .int 6), (2, .ref 36), (1, .ref 21), (0, .ref 0)] [.int 6, .int 6] (by decide +kernel) rfl ?_
  refine mx_B 4 543 [(3, .int 6), (2, .ref 36), (1, .ref 21), (0, .ref 0)] [.int 1] (by decide +kernel) ?_
  exact mx_ret (some (.int 1)) (by decide +kernel) ⟨rfl, rfl⟩
theorem iv_a381 (L : Nat) (xs : Nat → Int32) (zf : Value) (hz : zf.category = 1) : mx_R L xs zf ah_M190 0 [(0, .ref 4), (1, .int 1), (2, .int 0)] [] hh_a203 0 0 0 0 (fun v h' => v = some (.int 0) ∧ h' = hh_a203) := by
  refine mx_B 12 22 [(0, .ref 4), (1, .int 1), (2, .int 0)] [.int 1, .ref 4] (by decide +kernel) ?_
  refine mx_B 5 27 [(0, .ref 4), (1, .int 1), (2, .int 0)] [.int 0] (by decide +kernel) ?_
  exact mx_ret (some (.int 0)) (by decide +kernel) ⟨rfl, rfl⟩
theorem iv_a382 (L : Nat) (xs : Nat → Int32) (zf : Value) (hz : zf.category = 1) : mx_R L xs zf ah_M221 0 [(0, .ref 21), (1, .int 1), (2, .int 1), (3, .int 0)] [] hh_a203 0 0 1 22 (fun v h' => v = some (.int 0) ∧ h' = hh_a203) := by
  refine mx_B 12 61 [(0, .ref 21), (1, .int 1), (2, .int 1), (3, .int 0)] [] (by decide +kernel) ?_
  refine mx_B 3 66 [(0, .ref 21), (1, .int 1), (2, .int 1), (3, .int 0)] [.int 0, .int 1, .ref 4] (by decide +kernel) ?_
  refine mx_call 190 3 [.ref 4, .int 1, .int 0] [] [(0, .ref 4), (1, .int 1), (2, .int 0)] (some (.int 0)) hh_a203 0 0 0 0 0 0 69 [.int 0] ap_190 (by decide +kernel) (by decide +kernel) (iv_a381 L xs zf hz) ?_
  exact mx_ret (some (.int 0)) (by decide +kernel) ⟨rfl, rfl⟩
theorem iv_a383 (L : Nat) (xs : Nat → Int32) (zf : Value) (hz : zf.category = 1) : mx_R L xs zf ah_M291 0 [(0, .int 1), (1, .int 0)] [] hh_a203 0 0 0 0 (fun v h' => v = some (.int 0) ∧ h' = hh_a203) := by
  refine mx_B 12 24 [(0, .int 1), (1, .int 0)] [.int 1] (by decide +kernel) ?_
  refine mx_B 3 33 [(0, .int 1), (1, .int 0)] [.int 0] (by decide +kernel) ?_
  exact mx_ret (some (.int 0)) (by decide +kernel) ⟨rfl, rfl⟩
theorem iv_a384 (L : Nat) (xs : Nat → Int32) (zf : Value) (hz : zf.category = 1) : mx_R L xs zf ah_M289 0 [(0, .ref 36), (1, .int 1), (2, .int 1), (3, .int 0)] [] hh_a203 0 0 1 21 (fun v h' => v = some (.int 0) ∧ h' = hh_a203) := by
  refine mx_B 12 22 [(0, .ref 36), (1, .int 1), (2, .int 1), (3, .int 0)] [] (by decide +kernel) ?_
  refine mx_B 10 54 [(0, .ref 36), (1, .int 1), (2, .int 1), (3, .int 0)] [.int 0, .int 1] (by decide +kernel) ?_
  refine mx_call 291 3 [.int 1, .int 0] [] [(0, .int 1), (1, .int 0)] (some (.int 0)) hh_a203 0 0 0 0 0 0 57 [.int 0] ap_291 (by decide +kernel) (by decide +kernel) (iv_a383 L xs zf hz) ?_
  exact mx_ret (some (.int 0)) (by decide +kernel) ⟨rfl, rfl⟩
theorem iv_a385 (xs : Nat → Int32) (zf : Value) (hz : zf.category = 1) (hk : xs 0 &&& 15 = 5) (l1 : 1 ≤ (xs 1).toInt) (u1 : (xs 1).toInt ≤ 1) (l2 : 1 ≤ (xs 2).toInt) (u2 : (xs 2).toInt ≤ 1) (l3 : 0 ≤ (xs 3).toInt) (u3 : (xs 3).toInt ≤ 0) : mx_R 6 xs zf ah_M0 18 [(3, .int 0), (2, .ref 36), (1, .ref 21), (0, .ref 0)] [] hh_a203 0 0 2 45 (fun v h' => v = some (.int 1) ∧ h' = hh_a203) := by
  refine mx_B 2 20 [(3, .int 0), (2, .ref 36), (1, .ref 21), (0, .ref 0)] [.ref 0, .int 0] (by decide +kernel) ?_
  refine mx_S (.arraylength) 1 [] 21 [(3, .int 0), (2, .ref 36), (1, .ref 21), (0, .ref 0)] [.int 6, .int 0] (by decide +kernel) rfl ?_
  refine mx_B 5 29 [(3, .int 0), (2, .ref 36), (1, .ref 21), (0, .ref 0)] [.int 0, .ref 0] (by decide +kernel) ?_
  refine mx_scr 6 0 30 (by decide +kernel) (by decide +kernel) (by decide +kernel) ?_
  refine mx_S (.bipush 15) 2 [] 32 [(3, .int 0), (2, .ref 36), (1, .ref 21), (0, .ref 0)] [.int 15, .int (xs 0)] (by decide +kernel) rfl ?_
  refine mx_S (.iand) 1 [] 33 [(3, .int 0), (2, .ref 36), (1, .ref 21), (0, .ref 0)] [.int ((xs 0) &&& 15)] (by decide +kernel) rfl ?_
  refine mx_eq 5 hk ?_
  refine mx_B 6 254 [(3, .int 0), (2, .ref 36), (1, .ref 21), (0, .ref 0)] [.int 1, .ref 0, .ref 21] (by decide +kernel) ?_
  refine mx_scr 6 1 255 (by decide +kernel) (by decide +kernel) (by decide +kernel) ?_
  refine mx_eq 1 (mx_pt l1 u1 (by decide +kernel)) ?_
  refine mx_B 4 259 [(3, .int 0), (2, .ref 36), (1, .ref 21), (0, .ref 0)] [.int 2, .ref 0, .int 1, .ref 21] (by decide +kernel) ?_
  refine mx_scr 6 2 260 (by decide +kernel) (by decide +kernel) (by decide +kernel) ?_
  refine mx_eq 1 (mx_pt l2 u2 (by decide +kernel)) ?_
  refine mx_B 4 264 [(3, .int 0), (2, .ref 36), (1, .ref 21), (0, .ref 0)] [.int 3, .ref 0, .int 1, .int 1, .ref 21] (by decide +kernel) ?_
  refine mx_scr 6 3 265 (by decide +kernel) (by decide +kernel) (by decide +kernel) ?_
  refine mx_eq 0 (mx_pt l3 u3 (by decide +kernel)) ?_
  refine mx_call 221 3 [.ref 21, .int 1, .int 1, .int 0] [] [(0, .ref 21), (1, .int 1), (2, .int 1), (3, .int 0)] (some (.int 0)) hh_a203 0 0 1 22 0 0 268 [.int 0] ap_221 (by decide +kernel) (by decide +kernel) (iv_a382 6 xs zf hz) ?_
  refine mx_B 5 273 [(3, .int 0), (2, .ref 36), (1, .ref 21), (0, .ref 0)] [.int 1, .ref 0, .ref 36, .int 0] (by decide +kernel) ?_
  refine mx_scr 6 1 274 (by decide +kernel) (by decide +kernel) (by decide +kernel) ?_
  refine mx_eq 1 (mx_pt l1 u1 (by decide +kernel)) ?_
  refine mx_B 4 278 [(3, .int 0), (2, .ref 36), (1, .ref 21), (0, .ref 0)] [.int 2, .ref 0, .int 1, .ref 36, .int 0] (by decide +kernel) ?_
  refine mx_scr 6 2 279 (by decide +kernel) (by decide +kernel) (by decide +kernel) ?_
  refine mx_eq 1 (mx_pt l2 u2 (by decide +kernel)) ?_
  refine mx_B 4 283 [(3, .int 0), (2, .ref 36), (1, .ref 21), (0, .ref 0)] [.int 3, .ref 0, .int 1, .int 1, .ref 36, .int 0] (by decide +kernel) ?_
  refine mx_scr 6 3 284 (by decide +kernel) (by decide +kernel) (by decide +kernel) ?_
  refine mx_eq 0 (mx_pt l3 u3 (by decide +kernel)) ?_
  refine mx_call 289 3 [.ref 36, .int 1, .int 1, .int 0] [.int 0] [(0, .ref 36), (1, .int 1), (2, .int 1), (3, .int 0)] (some (.int 0)) hh_a203 0 0 1 21 0 0 287 [.int 0, .int 0] ap_289 (by decide +kernel) (by decide +kernel) (iv_a384 6 xs zf hz) ?_
  refine mx_B 5 20 [(3, .int 6), (2, .ref 36), (1, .ref 21), (0, .ref 0)] [.ref 0, .int 6] (by decide +kernel) ?_
  refine mx_S (.arraylength) 1 [] 21 [(3, .int 6), (2, .ref 36), (1, .ref 21), (0, .ref 0)] [.int 6, .int 6] (by decide +kernel) rfl ?_
  refine mx_B 4 543 [(3, .int 6), (2, .ref 36), (1, .ref 21), (0, .ref 0)] [.int 1] (by decide +kernel) ?_
  exact mx_ret (some (.int 1)) (by decide +kernel) ⟨rfl, rfl⟩
theorem iv_a386 (L : Nat) (xs : Nat → Int32) (zf : Value) (hz : zf.category = 1) : mx_R L xs zf ah_M190 0 [(0, .ref 4), (1, .int 1), (2, .int 1)] [] hh_a203 0 0 0 0 (fun v h' => v = some (.int 4) ∧ h' = hh_a203) := by
  refine mx_B 12 22 [(0, .ref 4), (1, .int 1), (2, .int 1)] [.int 1, .ref 4] (by decide +kernel) ?_
  refine mx_B 5 27 [(0, .ref 4), (1, .int 1), (2, .int 1)] [.int 4] (by decide +kernel) ?_
  exact mx_ret (some (.int 4)) (by decide +kernel) ⟨rfl, rfl⟩
theorem iv_a387 (L : Nat) (xs : Nat → Int32) (zf : Value) (hz : zf.category = 1) : mx_R L xs zf ah_M221 0 [(0, .ref 21), (1, .int 1), (2, .int 1), (3, .int 1)] [] hh_a203 0 0 1 22 (fun v h' => v = some (.int 4) ∧ h' = hh_a203) := by
  refine mx_B 12 61 [(0, .ref 21), (1, .int 1), (2, .int 1), (3, .int 1)] [] (by decide +kernel) ?_
  refine mx_B 3 66 [(0, .ref 21), (1, .int 1), (2, .int 1), (3, .int 1)] [.int 1, .int 1, .ref 4] (by decide +kernel) ?_
  refine mx_call 190 3 [.ref 4, .int 1, .int 1] [] [(0, .ref 4), (1, .int 1), (2, .int 1)] (some (.int 4)) hh_a203 0 0 0 0 0 0 69 [.int 4] ap_190 (by decide +kernel) (by decide +kernel) (iv_a386 L xs zf hz) ?_
  exact mx_ret (some (.int 4)) (by decide +kernel) ⟨rfl, rfl⟩
theorem iv_a388 (L : Nat) (xs : Nat → Int32) (zf : Value) (hz : zf.category = 1) : mx_R L xs zf ah_M291 0 [(0, .int 1), (1, .int 1)] [] hh_a203 0 0 0 0 (fun v h' => v = some (.int 4) ∧ h' = hh_a203) := by
  refine mx_B 12 35 [(0, .int 1), (1, .int 1)] [.int 1] (by decide +kernel) ?_
  refine mx_B 2 43 [(0, .int 1), (1, .int 1)] [.int 4] (by decide +kernel) ?_
  exact mx_ret (some (.int 4)) (by decide +kernel) ⟨rfl, rfl⟩
theorem iv_a389 (L : Nat) (xs : Nat → Int32) (zf : Value) (hz : zf.category = 1) : mx_R L xs zf ah_M289 0 [(0, .ref 36), (1, .int 1), (2, .int 1), (3, .int 1)] [] hh_a203 0 0 1 21 (fun v h' => v = some (.int 4) ∧ h' = hh_a203) := by
  refine mx_B 12 22 [(0, .ref 36), (1, .int 1), (2, .int 1), (3, .int 1)] [] (by decide +kernel) ?_
  refine mx_B 10 54 [(0, .ref 36), (1, .int 1), (2, .int 1), (3, .int 1)] [.int 1, .int 1] (by decide +kernel) ?_
  refine mx_call 291 3 [.int 1, .int 1] [] [(0, .int 1), (1, .int 1)] (some (.int 4)) hh_a203 0 0 0 0 0 0 57 [.int 4] ap_291 (by decide +kernel) (by decide +kernel) (iv_a388 L xs zf hz) ?_
  exact mx_ret (some (.int 4)) (by decide +kernel) ⟨rfl, rfl⟩
theorem iv_a390 (xs : Nat → Int32) (zf : Value) (hz : zf.category = 1) (hk : xs 0 &&& 15 = 5) (l1 : 1 ≤ (xs 1).toInt) (u1 : (xs 1).toInt ≤ 1) (l2 : 1 ≤ (xs 2).toInt) (u2 : (xs 2).toInt ≤ 1) (l3 : 1 ≤ (xs 3).toInt) (u3 : (xs 3).toInt ≤ 1) : mx_R 6 xs zf ah_M0 18 [(3, .int 0), (2, .ref 36), (1, .ref 21), (0, .ref 0)] [] hh_a203 0 0 2 45 (fun v h' => v = some (.int 1) ∧ h' = hh_a203) := by
  refine mx_B 2 20 [(3, .int 0), (2, .ref 36), (1, .ref 21), (0, .ref 0)] [.ref 0, .int 0] (by decide +kernel) ?_
  refine mx_S (.arraylength) 1 [] 21 [(3, .int 0), (2, .ref 36), (1, .ref 21), (0, .ref 0)] [.int 6, .int 0] (by decide +kernel) rfl ?_
  refine mx_B 5 29 [(3, .int 0), (2, .ref 36), (1, .ref 21), (0, .ref 0)] [.int 0, .ref 0] (by decide +kernel) ?_
  refine mx_scr 6 0 30 (by decide +kernel) (by decide +kernel) (by decide +kernel) ?_
  refine mx_S (.bipush 15) 2 [] 32 [(3, .int 0), (2, .ref 36), (1, .ref 21), (0, .ref 0)] [.int 15, .int (xs 0)] (by decide +kernel) rfl ?_
  refine mx_S (.iand) 1 [] 33 [(3, .int 0), (2, .ref 36), (1, .ref 21), (0, .ref 0)] [.int ((xs 0) &&& 15)] (by decide +kernel) rfl ?_
  refine mx_eq 5 hk ?_
  refine mx_B 6 254 [(3, .int 0), (2, .ref 36), (1, .ref 21), (0, .ref 0)] [.int 1, .ref 0, .ref 21] (by decide +kernel) ?_
  refine mx_scr 6 1 255 (by decide +kernel) (by decide +kernel) (by decide +kernel) ?_
  refine mx_eq 1 (mx_pt l1 u1 (by decide +kernel)) ?_
  refine mx_B 4 259 [(3, .int 0), (2, .ref 36), (1, .ref 21), (0, .ref 0)] [.int 2, .ref 0, .int 1, .ref 21] (by decide +kernel) ?_
  refine mx_scr 6 2 260 (by decide +kernel) (by decide +kernel) (by decide +kernel) ?_
  refine mx_eq 1 (mx_pt l2 u2 (by decide +kernel)) ?_
  refine mx_B 4 264 [(3, .int 0), (2, .ref 36), (1, .ref 21), (0, .ref 0)] [.int 3, .ref 0, .int 1, .int 1, .ref 21] (by decide +kernel) ?_
  refine mx_scr 6 3 265 (by decide +kernel) (by decide +kernel) (by decide +kernel) ?_
  refine mx_eq 1 (mx_pt l3 u3 (by decide +kernel)) ?_
  refine mx_call 221 3 [.ref 21, .int 1, .int 1, .int 1] [] [(0, .ref 21), (1, .int 1), (2, .int 1), (3, .int 1)] (some (.int 4)) hh_a203 0 0 1 22 0 0 268 [.int 4] ap_221 (by decide +kernel) (by decide +kernel) (iv_a387 6 xs zf hz) ?_
  refine mx_B 5 273 [(3, .int 0), (2, .ref 36), (1, .ref 21), (0, .ref 0)] [.int 1, .ref 0, .ref 36, .int 4] (by decide +kernel) ?_
  refine mx_scr 6 1 274 (by decide +kernel) (by decide +kernel) (by decide +kernel) ?_
  refine mx_eq 1 (mx_pt l1 u1 (by decide +kernel)) ?_
  refine mx_B 4 278 [(3, .int 0), (2, .ref 36), (1, .ref 21), (0, .ref 0)] [.int 2, .ref 0, .int 1, .ref 36, .int 4] (by decide +kernel) ?_
  refine mx_scr 6 2 279 (by decide +kernel) (by decide +kernel) (by decide +kernel) ?_
  refine mx_eq 1 (mx_pt l2 u2 (by decide +kernel)) ?_
  refine mx_B 4 283 [(3, .int 0), (2, .ref 36), (1, .ref 21), (0, .ref 0)] [.int 3, .ref 0, .int 1, .int 1, .ref 36, .int 4] (by decide +kernel) ?_
  refine mx_scr 6 3 284 (by decide +kernel) (by decide +kernel) (by decide +kernel) ?_
  refine mx_eq 1 (mx_pt l3 u3 (by decide +kernel)) ?_
  refine mx_call 289 3 [.ref 36, .int 1, .int 1, .int 1] [.int 4] [(0, .ref 36), (1, .int 1), (2, .int 1), (3, .int 1)] (some (.int 4)) hh_a203 0 0 1 21 0 0 287 [.int 4, .int 4] ap_289 (by decide +kernel) (by decide +kernel) (iv_a389 6 xs zf hz) ?_
  refine mx_B 5 20 [(3, .int 6), (2, .ref 36), (1, .ref 21), (0, .ref 0)] [.ref 0, .int 6] (by decide +kernel) ?_
  refine mx_S (.arraylength) 1 [] 21 [(3, .int 6), (2, .ref 36), (1, .ref 21), (0, .ref 0)] [.int 6, .int 6] (by decide +kernel) rfl ?_
  refine mx_B 4 543 [(3, .int 6), (2, .ref 36), (1, .ref 21), (0, .ref 0)] [.int 1] (by decide +kernel) ?_
  exact mx_ret (some (.int 1)) (by decide +kernel) ⟨rfl, rfl⟩
theorem iv_a391 (L : Nat) (xs : Nat → Int32) (zf : Value) (hz : zf.category = 1) : mx_R L xs zf ah_M190 0 [(0, .ref 4), (1, .int 1), (2, .int 2)] [] hh_a203 0 0 0 0 (fun v h' => v = some (.int 4) ∧ h' = hh_a203) := by
  refine mx_B 12 22 [(0, .ref 4), (1, .int 1), (2, .int 2)] [.int 1, .ref 4] (by decide +kernel) ?_
  refine mx_B 5 27 [(0, .ref 4), (1, .int 1), (2, .int 2)] [.int 4] (by decide +kernel) ?_
  exact mx_ret (some (.int 4)) (by decide +kernel) ⟨rfl, rfl⟩
theorem iv_a392 (L : Nat) (xs : Nat → Int32) (zf : Value) (hz : zf.category = 1) : mx_R L xs zf ah_M221 0 [(0, .ref 21), (1, .int 1), (2, .int 1), (3, .int 2)] [] hh_a203 0 0 1 22 (fun v h' => v = some (.int 4) ∧ h' = hh_a203) := by
  refine mx_B 12 61 [(0, .ref 21), (1, .int 1), (2, .int 1), (3, .int 2)] [] (by decide +kernel) ?_
  refine mx_B 3 66 [(0, .ref 21), (1, .int 1), (2, .int 1), (3, .int 2)] [.int 2, .int 1, .ref 4] (by decide +kernel) ?_
  refine mx_call 190 3 [.ref 4, .int 1, .int 2] [] [(0, .ref 4), (1, .int 1), (2, .int 2)] (some (.int 4)) hh_a203 0 0 0 0 0 0 69 [.int 4] ap_190 (by decide +kernel) (by decide +kernel) (iv_a391 L xs zf hz) ?_
  exact mx_ret (some (.int 4)) (by decide +kernel) ⟨rfl, rfl⟩
theorem iv_a393 (L : Nat) (xs : Nat → Int32) (zf : Value) (hz : zf.category = 1) : mx_R L xs zf ah_M291 0 [(0, .int 1), (1, .int 2)] [] hh_a203 0 0 0 0 (fun v h' => v = some (.int 4) ∧ h' = hh_a203) := by
  refine mx_B 12 35 [(0, .int 1), (1, .int 2)] [.int 1] (by decide +kernel) ?_
  refine mx_B 2 43 [(0, .int 1), (1, .int 2)] [.int 4] (by decide +kernel) ?_
  exact mx_ret (some (.int 4)) (by decide +kernel) ⟨rfl, rfl⟩
theorem iv_a394 (L : Nat) (xs : Nat → Int32) (zf : Value) (hz : zf.category = 1) : mx_R L xs zf ah_M289 0 [(0, .ref 36), (1, .int 1), (2, .int 1), (3, .int 2)] [] hh_a203 0 0 1 21 (fun v h' => v = some (.int 4) ∧ h' = hh_a203) := by
  refine mx_B 12 22 [(0, .ref 36), (1, .int 1), (2, .int 1), (3, .int 2)] [] (by decide +kernel) ?_
  refine mx_B 10 54 [(0, .ref 36), (1, .int 1), (2, .int 1), (3, .int 2)] [.int 2, .int 1] (by decide +kernel) ?_
  refine mx_call 291 3 [.int 1, .int 2] [] [(0, .int 1), (1, .int 2)] (some (.int 4)) hh_a203 0 0 0 0 0 0 57 [.int 4] ap_291 (by decide +kernel) (by decide +kernel) (iv_a393 L xs zf hz) ?_
  exact mx_ret (some (.int 4)) (by decide +kernel) ⟨rfl, rfl⟩
theorem iv_a395 (xs : Nat → Int32) (zf : Value) (hz : zf.category = 1) (hk : xs 0 &&& 15 = 5) (l1 : 1 ≤ (xs 1).toInt) (u1 : (xs 1).toInt ≤ 1) (l2 : 1 ≤ (xs 2).toInt) (u2 : (xs 2).toInt ≤ 1) (l3 : 2 ≤ (xs 3).toInt) (u3 : (xs 3).toInt ≤ 2) : mx_R 6 xs zf ah_M0 18 [(3, .int 0), (2, .ref 36), (1, .ref 21), (0, .ref 0)] [] hh_a203 0 0 2 45 (fun v h' => v = some (.int 1) ∧ h' = hh_a203) := by
  refine mx_B 2 20 [(3, .int 0), (2, .ref 36), (1, .ref 21), (0, .ref 0)] [.ref 0, .int 0] (by decide +kernel) ?_
  refine mx_S (.arraylength) 1 [] 21 [(3, .int 0), (2, .ref 36), (1, .ref 21), (0, .ref 0)] [.int 6, .int 0] (by decide +kernel) rfl ?_
  refine mx_B 5 29 [(3, .int 0), (2, .ref 36), (1, .ref 21), (0, .ref 0)] [.int 0, .ref 0] (by decide +kernel) ?_
  refine mx_scr 6 0 30 (by decide +kernel) (by decide +kernel) (by decide +kernel) ?_
  refine mx_S (.bipush 15) 2 [] 32 [(3, .int 0), (2, .ref 36), (1, .ref 21), (0, .ref 0)] [.int 15, .int (xs 0)] (by decide +kernel) rfl ?_
  refine mx_S (.iand) 1 [] 33 [(3, .int 0), (2, .ref 36), (1, .ref 21), (0, .ref 0)] [.int ((xs 0) &&& 15)] (by decide +kernel) rfl ?_
  refine mx_eq 5 hk ?_
  refine mx_B 6 254 [(3, .int 0), (2, .ref 36), (1, .ref 21), (0, .ref 0)] [.int 1, .ref 0, .ref 21] (by decide +kernel) ?_
  refine mx_scr 6 1 255 (by decide +kernel) (by decide +kernel) (by decide +kernel) ?_
  refine mx_eq 1 (mx_pt l1 u1 (by decide +kernel)) ?_
  refine mx_B 4 259 [(3, .int 0), (2, .ref 36), (1, .ref 21), (0, .ref 0)] [.int 2, .ref 0, .int 1, .ref 21] (by decide +kernel) ?_
  refine mx_scr 6 2 260 (by decide +kernel) (by decide +kernel) (by decide +kernel) ?_
  refine mx_eq 1 (mx_pt l2 u2 (by decide +kernel)) ?_
  refine mx_B 4 264 [(3, .int 0), (2, .ref 36), (1, .ref 21), (0, .ref 0)] [.int 3, .ref 0, .int 1, .int 1, .ref 21] (by decide +kernel) ?_
  refine mx_scr 6 3 265 (by decide +kernel) (by decide +kernel) (by decide +kernel) ?_
  refine mx_eq 2 (mx_pt l3 u3 (by decide +kernel)) ?_
  refine mx_call 221 3 [.ref 21, .int 1, .int 1, .int 2] [] [(0, .ref 21), (1, .int 1), (2, .int 1), (3, .int 2)] (some (.int 4)) hh_a203 0 0 1 22 0 0 268 [.int 4] ap_221 (by decide +kernel) (by decide +kernel) (iv_a392 6 xs zf hz) ?_
  refine mx_B 5 273 [(3, .int 0), (2, .ref 36), (1, .ref 21), (0, .ref 0)] [.int 1, .ref 0, .ref 36, .int 4] (by decide +kernel) ?_
  refine mx_scr 6 1 274 (by decide +kernel) (by decide +kernel) (by decide +kernel) ?_
  refine mx_eq 1 (mx_pt l1 u1 (by decide +kernel)) ?_
  refine mx_B 4 278 [(3, .int 0), (2, .ref 36), (1, .ref 21), (0, .ref 0)] [.int 2, .ref 0, .int 1, .ref 36, .int 4] (by decide +kernel) ?_
  refine mx_scr 6 2 279 (by decide +kernel) (by decide +kernel) (by decide +kernel) ?_
  refine mx_eq 1 (mx_pt l2 u2 (by decide +kernel)) ?_
  refine mx_B 4 283 [(3, .int 0), (2, .ref 36), (1, .ref 21), (0, .ref 0)] [.int 3, .ref 0, .int 1, .int 1, .ref 36, .int 4] (by decide +kernel) ?_
  refine mx_scr 6 3 284 (by decide +kernel) (by decide +kernel) (by decide +kernel) ?_
  refine mx_eq 2 (mx_pt l3 u3 (by decide +kernel)) ?_
  refine mx_call 289 3 [.ref 36, .int 1, .int 1, .int 2] [.int 4] [(0, .ref 36), (1, .int 1), (2, .int 1), (3, .int 2)] (some (.int 4)) hh_a203 0 0 1 21 0 0 287 [.int 4, .int 4] ap_289 (by decide +kernel) (by decide +kernel) (iv_a394 6 xs zf hz) ?_
  refine mx_B 5 20 [(3, .int 6), (2, .ref 36), (1, .ref 21), (0, .ref 0)] [.ref 0, .int 6] (by decide +kernel) ?_
  refine mx_S (.arraylength) 1 [] 21 [(3, .int 6), (2, .ref 36), (1, .ref 21), (0, .ref 0)] [.int 6, .int 6] (by decide +kernel) rfl ?_
  refine mx_B 4 543 [(3, .int 6), (2, .ref 36), (1, .ref 21), (0, .ref 0)] [.int 1] (by decide +kernel) ?_
  exact mx_ret (some (.int 1)) (by decide +kernel) ⟨rfl, rfl⟩
theorem iv_a396 (L : Nat) (xs : Nat → Int32) (zf : Value) (hz : zf.category = 1) : mx_R L xs zf ah_M190 0 [(0, .ref 4), (1, .int 1), (2, .int 3)] [] hh_a203 0 0 0 0 (fun v h' => v = some (.int 3) ∧ h' = hh_a203) := by
  refine mx_B 12 22 [(0, .ref 4), (1, .int 1), (2, .int 3)] [.int 1, .ref 4] (by decide +kernel) ?_
  refine mx_B 5 27 [(0, .ref 4), (1, .int 1), (2, .int 3)] [.int 3] (by decide +kernel) ?_
  exact mx_ret (some (.int 3)) (by decide +kernel) ⟨rfl, rfl⟩
theorem iv_a397 (L : Nat) (xs : Nat → Int32) (zf : Value) (hz : zf.category = 1) : mx_R L xs zf ah_M221 0 [(0, .ref 21), (1, .int 1), (2, .int 1), (3, .int 3)] [] hh_a203 0 0 1 22 (fun v h' => v = some (.int 3) ∧ h' = hh_a203) := by
  refine mx_B 12 61 [(0, .ref 21), (1, .int 1), (2, .int 1), (3, .int 3)] [] (by decide +kernel) ?_
  refine mx_B 3 66 [(0, .ref 21), (1, .int 1), (2, .int 1), (3, .int 3)] [.int 3, .int 1, .ref 4] (by decide +kernel) ?_
  refine mx_call 190 3 [.ref 4, .int 1, .int 3] [] [(0, .ref 4), (1, .int 1), (2, .int 3)] (some (.int 3)) hh_a203 0 0 0 0 0 0 69 [.int 3] ap_190 (by decide +kernel) (by decide +kernel) (iv_a396 L xs zf hz) ?_
  exact mx_ret (some (.int 3)) (by decide +kernel) ⟨rfl, rfl⟩
theorem iv_a398 (L : Nat) (xs : Nat → Int32) (zf : Value) (hz : zf.category = 1) : mx_R L xs zf ah_M291 0 [(0, .int 1), (1, .int 3)] [] hh_a203 0 0 0 0 (fun v h' => v = some (.int 3) ∧ h' = hh_a203) := by
  refine mx_B 10 18 [(0, .int 1), (1, .int 3)] [.int 3] (by decide +kernel) ?_
  exact mx_ret (some (.int 3)) (by decide +kernel) ⟨rfl, rfl⟩
theorem iv_a399 (L : Nat) (xs : Nat → Int32) (zf : Value) (hz : zf.category = 1) : mx_R L xs zf ah_M289 0 [(0, .ref 36), (1, .int 1), (2, .int 1), (3, .int 3)] [] hh_a203 0 0 1 21 (fun v h' => v = some (.int 3) ∧ h' = hh_a203) := by
  refine mx_B 12 22 [(0, .ref 36), (1, .int 1), (2, .int 1), (3, .int 3)] [] (by decide +kernel) ?_
  refine mx_B 10 54 [(0, .ref 36), (1, .int 1), (2, .int 1), (3, .int 3)] [.int 3, .int 1] (by decide +kernel) ?_
  refine mx_call 291 3 [.int 1, .int 3] [] [(0, .int 1), (1, .int 3)] (some (.int 3)) hh_a203 0 0 0 0 0 0 57 [.int 3] ap_291 (by decide +kernel) (by decide +kernel) (iv_a398 L xs zf hz) ?_
  exact mx_ret (some (.int 3)) (by decide +kernel) ⟨rfl, rfl⟩
theorem iv_a400 (xs : Nat → Int32) (zf : Value) (hz : zf.category = 1) (hk : xs 0 &&& 15 = 5) (l1 : 1 ≤ (xs 1).toInt) (u1 : (xs 1).toInt ≤ 1) (l2 : 1 ≤ (xs 2).toInt) (u2 : (xs 2).toInt ≤ 1) (l3 : 3 ≤ (xs 3).toInt) (u3 : (xs 3).toInt ≤ 3) : mx_R 6 xs zf ah_M0 18 [(3, .int 0), (2, .ref 36), (1, .ref 21), (0, .ref 0)] [] hh_a203 0 0 2 45 (fun v h' => v = some (.int 1) ∧ h' = hh_a203) := by
  refine mx_B 2 20 [(3, .int 0), (2, .ref 36), (1, .ref 21), (0, .ref 0)] [.ref 0, .int 0] (by decide +kernel) ?_
  refine mx_S (.arraylength) 1 [] 21 [(3, .int 0), (2, .ref 36), (1, .ref 21), (0, .ref 0)] [.int 6, .int 0] (by decide +kernel) rfl ?_
  refine mx_B 5 29 [(3, .int 0), (2, .ref 36), (1, .ref 21), (0, .ref 0)] [.int 0, .ref 0] (by decide +kernel) ?_
  refine mx_scr 6 0 30 (by decide +kernel) (by decide +kernel) (by decide +kernel) ?_
  refine mx_S (.bipush 15) 2 [] 32 [(3, .int 0), (2, .ref 36), (1, .ref 21), (0, .ref 0)] [.int 15, .int (xs 0)] (by decide +kernel) rfl ?_
  refine mx_S (.iand) 1 [] 33 [(3, .int 0), (2, .ref 36), (1, .ref 21), (0, .ref 0)] [.int ((xs 0) &&& 15)] (by decide +kernel) rfl ?_
  refine mx_eq 5 hk ?_
  refine mx_B 6 254 [(3, .int 0), (2, .ref 36), (1, .ref 21), (0, .ref 0)] [.int 1, .ref 0, .ref 21] (by decide +kernel) ?_
  refine mx_scr 6 1 255 (by decide +kernel) (by decide +kernel) (by decide +kernel) ?_
  refine mx_eq 1 (mx_pt l1 u1 (by decide +kernel)) ?_
  refine mx_B 4 259 [(3, .int 0), (2, .ref 36), (1, .ref 21), (0, .ref 0)] [.int 2, .ref 0, .int 1, .ref 21] (by decide +kernel) ?_
  refine mx_scr 6 2 260 (by decide +kernel) (by decide +kernel) (by decide +kernel) ?_
  refine mx_eq 1 (mx_pt l2 u2 (by decide +kernel)) ?_
  refine mx_B 4 264 [(3, .int 0), (2, .ref 36), (1, .ref 21), (0, .ref 0)] [.int 3, .ref 0, .int 1, .int 1, .ref 21] (by decide +kernel) ?_
  refine mx_scr 6 3 265 (by decide +kernel) (by decide +kernel) (by decide +kernel) ?_
  refine mx_eq 3 (mx_pt l3 u3 (by decide +kernel)) ?_
  refine mx_call 221 3 [.ref 21, .int 1, .int 1, .int 3] [] [(0, .ref 21), (1, .int 1), (2, .int 1), (3, .int 3)] (some (.int 3)) hh_a203 0 0 1 22 0 0 268 [.int 3] ap_221 (by decide +kernel) (by decide +kernel) (iv_a397 6 xs zf hz) ?_
  refine mx_B 5 273 [(3, .int 0), (2, .ref 36), (1, .ref 21), (0, .ref 0)] [.int 1, .ref 0, .ref 36, .int 3] (by decide +kernel) ?_
  refine mx_scr 6 1 274 (by decide +kernel) (by decide +kernel) (by decide +kernel) ?_
  refine mx_eq 1 (mx_pt l1 u1 (by decide +kernel)) ?_
  refine mx_B 4 278 [(3, .int 0), (2, .ref 36), (1, .ref 21), (0, .ref 0)] [.int 2, .ref 0, .int 1, .ref 36, .int 3] (by decide +kernel) ?_
  refine mx_scr 6 2 279 (by decide +kernel) (by decide +kernel) (by decide +kernel) ?_
  refine mx_eq 1 (mx_pt l2 u2 (by decide +kernel)) ?_
  refine mx_B 4 283 [(3, .int 0), (2, .ref 36), (1, .ref 21), (0, .ref 0)] [.int 3, .ref 0, .int 1, .int 1, .ref 36, .int 3] (by decide +kernel) ?_
  refine mx_scr 6 3 284 (by decide +kernel) (by decide +kernel) (by decide +kernel) ?_
  refine mx_eq 3 (mx_pt l3 u3 (by decide +kernel)) ?_
  refine mx_call 289 3 [.ref 36, .int 1, .int 1, .int 3] [.int 3] [(0, .ref 36), (1, .int 1), (2, .int 1), (3, .int 3)] (some (.int 3)) hh_a203 0 0 1 21 0 0 287 [.int 3, .int 3] ap_289 (by decide +kernel) (by decide +kernel) (iv_a399 6 xs zf hz) ?_
  refine mx_B 5 20 [(3, .int 6), (2, .ref 36), (1, .ref 21), (0, .ref 0)] [.ref 0, .int 6] (by decide +kernel) ?_
  refine mx_S (.arraylength) 1 [] 21 [(3, .int 6), (2, .ref 36), (1, .ref 21), (0, .ref 0)] [.int 6, .int 6] (by decide +kernel) rfl ?_
  refine mx_B 4 543 [(3, .int 6), (2, .ref 36), (1, .ref 21), (0, .ref 0)] [.int 1] (by decide +kernel) ?_
  exact mx_ret (some (.int 1)) (by decide +kernel) ⟨rfl, rfl⟩
theorem iv_a401 (L : Nat) (xs : Nat → Int32) (zf : Value) (hz : zf.category = 1) : mx_R L xs zf ah_M190 0 [(0, .ref 4), (1, .int 1), (2, .int 4)] [] hh_a203 0 0 0 0 (fun v h' => v = some (.int 4) ∧ h' = hh_a203) := by
  refine mx_B 12 22 [(0, .ref 4), (1, .int 1), (2, .int 4)] [.int 1, .ref 4] (by decide +kernel) ?_
  refine mx_B 5 27 [(0, .ref 4), (1, .int 1), (2, .int 4)] [.int 4] (by decide +kernel) ?_
  exact mx_ret (some (.int 4)) (by decide +kernel) ⟨rfl, rfl⟩
theorem iv_a402 (L : Nat) (xs : Nat → Int32) (zf : Value) (hz : zf.category = 1) : mx_R L xs zf ah_M221 0 [(0, .ref 21), (1, .int 1), (2, .int 1), (3, .int 4)] [] hh_a203 0 0 1 22 (fun v h' => v = some (.int 4) ∧ h' = hh_a203) := by
  refine mx_B 12 61 [(0, .ref 21), (1, .int 1), (2, .int 1), (3, .int 4)] [] (by decide +kernel) ?_
  refine mx_B 3 66 [(0, .ref 21), (1, .int 1), (2, .int 1), (3, .int 4)] [.int 4, .int 1, .ref 4] (by decide +kernel) ?_
  refine mx_call 190 3 [.ref 4, .int 1, .int 4] [] [(0, .ref 4), (1, .int 1), (2, .int 4)] (some (.int 4)) hh_a203 0 0 0 0 0 0 69 [.int 4] ap_190 (by decide +kernel) (by decide +kernel) (iv_a401 L xs zf hz) ?_
  exact mx_ret (some (.int 4)) (by decide +kernel) ⟨rfl, rfl⟩
theorem iv_a403 (L : Nat) (xs : Nat → Int32) (zf : Value) (hz : zf.category = 1) : mx_R L xs zf ah_M291 0 [(0, .int 1), (1, .int 4)] [] hh_a203 0 0 0 0 (fun v h' => v = some (.int 4) ∧ h' = hh_a203) := by
  refine mx_B 12 35 [(0, .int 1), (1, .int 4)] [.int 1] (by decide +kernel) ?_
  refine mx_B 2 43 [(0, .int 1), (1, .int 4)] [.int 4] (by decide +kernel) ?_
  exact mx_ret (some (.int 4)) (by decide +kernel) ⟨rfl, rfl⟩
theorem iv_a404 (L : Nat) (xs : Nat → Int32) (zf : Value) (hz : zf.category = 1) : mx_R L xs zf ah_M289 0 [(0, .ref 36), (1, .int 1), (2, .int 1), (3, .int 4)] [] hh_a203 0 0 1 21 (fun v h' => v = some (.int 4) ∧ h' = hh_a203) := by
  refine mx_B 12 22 [(0, .ref 36), (1, .int 1), (2, .int 1), (3, .int 4)] [] (by decide +kernel) ?_
  refine mx_B 10 54 [(0, .ref 36), (1, .int 1), (2, .int 1), (3, .int 4)] [.int 4, .int 1] (by decide +kernel) ?_
  refine mx_call 291 3 [.int 1, .int 4] [] [(0, .int 1), (1, .int 4)] (some (.int 4)) hh_a203 0 0 0 0 0 0 57 [.int 4] ap_291 (by decide +kernel) (by decide +kernel) (iv_a403 L xs zf hz) ?_
  exact mx_ret (some (.int 4)) (by decide +kernel) ⟨rfl, rfl⟩
theorem iv_a405 (xs : Nat → Int32) (zf : Value) (hz : zf.category = 1) (hk : xs 0 &&& 15 = 5) (l1 : 1 ≤ (xs 1).toInt) (u1 : (xs 1).toInt ≤ 1) (l2 : 1 ≤ (xs 2).toInt) (u2 : (xs 2).toInt ≤ 1) (l3 : 4 ≤ (xs 3).toInt) (u3 : (xs 3).toInt ≤ 4) : mx_R 6 xs zf ah_M0 18 [(3, .int 0), (2, .ref 36), (1, .ref 21), (0, .ref 0)] [] hh_a203 0 0 2 45 (fun v h' => v = some (.int 1) ∧ h' = hh_a203) := by
  refine mx_B 2 20 [(3, .int 0), (2, .ref 36), (1, .ref 21), (0, .ref 0)] [.ref 0, .int 0] (by decide +kernel) ?_
  refine mx_S (.arraylength) 1 [] 21 [(3, .int 0), (2, .ref 36), (1, .ref 21), (0, .ref 0)] [.int 6, .int 0] (by decide +kernel) rfl ?_
  refine mx_B 5 29 [(3, .int 0), (2, .ref 36), (1, .ref 21), (0, .ref 0)] [.int 0, .ref 0] (by decide +kernel) ?_
  refine mx_scr 6 0 30 (by decide +kernel) (by decide +kernel) (by decide +kernel) ?_
  refine mx_S (.bipush 15) 2 [] 32 [(3, .int 0), (2, .ref 36), (1, .ref 21), (0, .ref 0)] [.int 15, .int (xs 0)] (by decide +kernel) rfl ?_
  refine mx_S (.iand) 1 [] 33 [(3, .int 0), (2, .ref 36), (1, .ref 21), (0, .ref 0)] [.int ((xs 0) &&& 15)] (by decide +kernel) rfl ?_
  refine mx_eq 5 hk ?_
  refine mx_B 6 254 [(3, .int 0), (2, .ref 36), (1, .ref 21), (0, .ref 0)] [.int 1, .ref 0, .ref 21] (by decide +kernel) ?_
  refine mx_scr 6 1 255 (by decide +kernel) (by decide +kernel) (by decide +kernel) ?_
  refine mx_eq 1 (mx_pt l1 u1 (by decide +kernel)) ?_
  refine mx_B 4 259 [(3, .int 0), (2, .ref 36), (1, .ref 21), (0, .ref 0)] [.int 2, .ref 0, .int 1, .ref 21] (by decide +kernel) ?_
  refine mx_scr 6 2 260 (by decide +kernel) (by decide +kernel) (by decide +kernel) ?_
  refine mx_eq 1 (mx_pt l2 u2 (by decide +kernel)) ?_
  refine mx_B 4 264 [(3, .int 0), (2, .ref 36), (1, .ref 21), (0, .ref 0)] [.int 3, .ref 0, .int 1, .int 1, .ref 21] (by decide +kernel) ?_
  refine mx_scr 6 3 265 (by decide +kernel) (by decide +kernel) (by decide +kernel) ?_
  refine mx_eq 4 (mx_pt l3 u3 (by decide +kernel)) ?_
  refine mx_call 221 3 [.ref 21, .int 1, .int 1, .int 4] [] [(0, .ref 21), (1, .int 1), (2, .int 1), (3, .int 4)] (some (.int 4)) hh_a203 0 0 1 22 0 0 268 [.int 4] ap_221 (by decide +kernel) (by decide +kernel) (iv_a402 6 xs zf hz) ?_
  refine mx_B 5 273 [(3, .int 0), (2, .ref 36), (1, .ref 21), (0, .ref 0)] [.int 1, .ref 0, .ref 36, .int 4] (by decide +kernel) ?_
  refine mx_scr 6 1 274 (by decide +kernel) (by decide +kernel) (by decide +kernel) ?_
  refine mx_eq 1 (mx_pt l1 u1 (by decide +kernel)) ?_
  refine mx_B 4 278 [(3, .int 0), (2, .ref 36), (1, .ref 21), (0, .ref 0)] [.int 2, .ref 0, .int 1, .ref 36, .int 4] (by decide +kernel) ?_
  refine mx_scr 6 2 279 (by decide +kernel) (by decide +kernel) (by decide +kernel) ?_
  refine mx_eq 1 (mx_pt l2 u2 (by decide +kernel)) ?_
  refine mx_B 4 283 [(3, .int 0), (2, .ref 36), (1, .ref 21), (0, .ref 0)] [.int 3, .ref 0, .int 1, .int 1, .ref 36, .int 4] (by decide +kernel) ?_
  refine mx_scr 6 3 284 (by decide +kernel) (by decide +kernel) (by decide +kernel) ?_
  refine mx_eq 4 (mx_pt l3 u3 (by decide +kernel)) ?_
  refine mx_call 289 3 [.ref 36, .int 1, .int 1, .int 4] [.int 4] [(0, .ref 36), (1, .int 1), (2, .int 1), (3, .int 4)] (some (.int 4)) hh_a203 0 0 1 21 0 0 287 [.int 4, .int 4] ap_289 (by decide +kernel) (by decide +kernel) (iv_a404 6 xs zf hz) ?_
  refine mx_B 5 20 [(3, .int 6), (2, .ref 36), (1, .ref 21), (0, .ref 0)] [.ref 0, .int 6] (by decide +kernel) ?_
  refine mx_S (.arraylength) 1 [] 21 [(3, .int 6), (2, .ref 36), (1, .ref 21), (0, .ref 0)] [.int 6, .int 6] (by decide +kernel) rfl ?_
  refine mx_B 4 543 [(3, .int 6), (2, .ref 36), (1, .ref 21), (0, .ref 0)] [.int 1] (by decide +kernel) ?_
  exact mx_ret (some (.int 1)) (by decide +kernel) ⟨rfl, rfl⟩
theorem iv_a406 (L : Nat) (xs : Nat → Int32) (zf : Value) (hz : zf.category = 1) : mx_R L xs zf ah_M190 0 [(0, .ref 4), (1, .int 2), (2, .int 0)] [] hh_a203 0 0 0 0 (fun v h' => v = some (.int 0) ∧ h' = hh_a203) := by
  refine mx_B 12 22 [(0, .ref 4), (1, .int 2), (2, .int 0)] [.int 2, .ref 4] (by decide +kernel) ?_
  refine mx_B 5 27 [(0, .ref 4), (1, .int 2), (2, .int 0)] [.int 0] (by decide +kernel) ?_
  exact mx_ret (some (.int 0)) (by decide +kernel) ⟨rfl, rfl⟩
theorem iv_a407 (L : Nat) (xs : Nat → Int32) (zf : Value) (hz : zf.category = 1) : mx_R L xs zf ah_M221 0 [(0, .ref 21), (1, .int 1), (2, .int 2), (3, .int 0)] [] hh_a203 0 0 1 22 (fun v h' => v = some (.int 0) ∧ h' = hh_a203) := by
  refine mx_B 12 61 [(0, .ref 21), (1, .int 1), (2, .int 2), (3, .int 0)] [] (by decide +kernel) ?_
  refine mx_B 3 66 [(0, .ref 21), (1, .int 1), (2, .int 2), (3, .int 0)] [.int 0, .int 2, .ref 4] (by decide +kernel) ?_
  refine mx_call 190 3 [.ref 4, .int 2, .int 0] [] [(0, .ref 4), (1, .int 2), (2, .int 0)] (some (.int 0)) hh_a203 0 0 0 0 0 0 69 [.int 0] ap_190 (by decide +kernel) (by decide +kernel) (iv_a406 L xs zf hz) ?_
  exact mx_ret (some (.int 0)) (by decide +kernel) ⟨rfl, rfl⟩
theorem iv_a408 (L : Nat) (xs : Nat → Int32) (zf : Value) (hz : zf.category = 1) : mx_R L xs zf ah_M291 0 [(0, .int 2), (1, .int 0)] [] hh_a203 0 0 0 0 (fun v h' => v = some (.int 0) ∧ h' = hh_a203) := by
  refine mx_B 4 6 [(0, .int 2), (1, .int 0)] [.int 0] (by decide +kernel) ?_
  exact mx_ret (some (.int 0)) (by decide +kernel) ⟨rfl, rfl⟩
theorem iv_a409 (L : Nat) (xs : Nat → Int32) (zf : Value) (hz : zf.category = 1) : mx_R L xs zf ah_M289 0 [(0, .ref 36), (1, .int 1), (2, .int 2), (3, .int 0)] [] hh_a203 0 0 1 21 (fun v h' => v = some (.int 0) ∧ h' = hh_a203) := by
  refine mx_B 12 22 [(0, .ref 36), (1, .int 1), (2, .int 2), (3, .int 0)] [] (by decide +kernel) ?_
  refine mx_B 10 54 [(0, .ref 36), (1, .int 1), (2, .int 2), (3, .int 0)] [.int 0, .int 2] (by decide +kernel) ?_
  refine mx_call 291 3 [.int 2, .int 0] [] [(0, .int 2), (1, .int 0)] (some (.int 0)) hh_a203 0 0 0 0 0 0 57 [.int 0] ap_291 (by decide +kernel) (by decide +kernel) (iv_a408 L xs zf hz) ?_
  exact mx_ret (some (.int 0)) (by decide +kernel) ⟨rfl, rfl⟩
theorem iv_a410 (xs : Nat → Int32) (zf : Value) (hz : zf.category = 1) (hk : xs 0 &&& 15 = 5) (l1 : 1 ≤ (xs 1).toInt) (u1 : (xs 1).toInt ≤ 1) (l2 : 2 ≤ (xs 2).toInt) (u2 : (xs 2).toInt ≤ 2) (l3 : 0 ≤ (xs 3).toInt) (u3 : (xs 3).toInt ≤ 0) : mx_R 6 xs zf ah_M0 18 [(3, .int 0), (2, .ref 36), (1, .ref 21), (0, .ref 0)] [] hh_a203 0 0 2 45 (fun v h' => v = some (.int 1) ∧ h' = hh_a203) := by
  refine mx_B 2 20 [(3, .int 0), (2, .ref 36), (1, .ref 21), (0, .ref 0)] [.ref 0, .int 0] (by decide +kernel) ?_
  refine mx_S (.arraylength) 1 [] 21 [(3, .int 0), (2, .ref 36), (1, .ref 21), (0, .ref 0)] [.int 6, .int 0] (by decide +kernel) rfl ?_
  refine mx_B 5 29 [(3, .int 0), (2, .ref 36), (1, .ref 21), (0, .ref 0)] [.int 0, .ref 0] (by decide +kernel) ?_
  refine mx_scr 6 0 30 (by decide +kernel) (by decide +kernel) (by decide +kernel) ?_
  refine mx_S (.bipush 15) 2 [] 32 [(3, .int 0), (2, .ref 36), (1, .ref 21), (0, .ref 0)] [.int 15, .int (xs 0)] (by decide +kernel) rfl ?_
  refine mx_S (.iand) 1 [] 33 [(3, .int 0), (2, .ref 36), (1, .ref 21), (0, .ref 0)] [.int ((xs 0) &&& 15)] (by decide +kernel) rfl ?_
  refine mx_eq 5 hk ?_
  refine mx_B 6 254 [(3, .int 0), (2, .ref 36), (1, .ref 21), (0, .ref 0)] [.int 1, .ref 0, .ref 21] (by decide +kernel) ?_
  refine mx_scr 6 1 255 (by decide +kernel) (by decide +kernel) (by decide +kernel) ?_
  refine mx_eq 1 (mx_pt l1 u1 (by decide +kernel)) ?_
  refine mx_B 4 259 [(3, .int 0), (2, .ref 36), (1, .ref 21), (0, .ref 0)] [.int 2, .ref 0, .int 1, .ref 21] (by decide +kernel) ?_
  refine mx_scr 6 2 260 (by decide +kernel) (by decide +kernel) (by decide +kernel) ?_
  refine mx_eq 2 (mx_pt l2 u2 (by decide +kernel)) ?_
  refine mx_B 4 264 [(3, .int 0), (2, .ref 36), (1, .ref 21), (0, .ref 0)] [.int 3, .ref 0, .int 2, .int 1, .ref 21] (by decide +kernel) ?_
  refine mx_scr 6 3 265 (by decide +kernel) (by decide +kernel) (by decide +kernel) ?_
  refine mx_eq 0 (mx_pt l3 u3 (by decide +kernel)) ?_
  refine mx_call 221 3 [.ref 21, .int 1, .int 2, .int 0] [] [(0, .ref 21), (1, .int 1), (2, .int 2), (3, .int 0)] (some (.int 0)) hh_a203 0 0 1 22 0 0 268 [.int 0] ap_221 (by decide +kernel) (by decide +kernel) (iv_a407 6 xs zf hz) ?_
  refine mx_B 5 273 [(3, .int 0), (2, .ref 36), (1, .ref 21), (0, .ref 0)] [.int 1, .ref 0, .ref 36, .int 0] (by decide +kernel) ?_
  refine mx_scr 6 1 274 (by decide +kernel) (by decide +kernel) (by decide +kernel) ?_
  refine mx_eq 1 (mx_pt l1 u1 (by decide +kernel)) ?_
  refine mx_B 4 278 [(3, .int 0), (2, .ref 36), (1, .ref 21), (0, .ref 0)] [.int 2, .ref 0, .int 1, .ref 36, .int 0] (by decide +kernel) ?_
  refine mx_scr 6 2 279 (by decide +kernel) (by decide +kernel) (by decide +kernel) ?_
  refine mx_eq 2 (mx_pt l2 u2 (by decide +kernel)) ?_
  refine mx_B 4 283 [(3, .int 0), (2, .ref 36), (1, .ref 21), (0, .ref 0)] [.int 3, .ref 0, .int 2, .int 1, .ref 36, .int 0] (by decide +kernel) ?_
  refine mx_scr 6 3 284 (by decide +kernel) (by decide +kernel) (by decide +kernel) ?_
  refine mx_eq 0 (mx_pt l3 u3 (by decide +kernel)) ?_
  refine mx_call 289 3 [.ref 36, .int 1, .int 2, .int 0] [.int 0] [(0, .ref 36), (1, .int 1), (2, .int 2), (3, .int 0)] (some (.int 0)) hh_a203 0 0 1 21 0 0 287 [.int 0, .int 0] ap_289 (by decide +kernel) (by decide +kernel) (iv_a409 6 xs zf hz) ?_
  refine mx_B 5 20 [(3, .int 6), (2, .ref 36), (1, .ref 21), (0, .ref 0)] [.ref 0, .int 6] (by decide +kernel) ?_
  refine mx_S (.arraylength) 1 [] 21 [(3, .int 6), (2, .ref 36), (1, .ref 21), (0, .ref 0)] [.int 6, .int 6] (by decide +kernel) rfl ?_
  refine mx_B 4 543 [(3, .int 6), (2, .ref 36), (1, .ref 21), (0, .ref 0)] [.int 1] (by decide +kernel) ?_
  exact mx_ret (some (.int 1)) (by decide +kernel) ⟨rfl, rfl⟩
theorem iv_a411 (L : Nat) (xs : Nat → Int32) (zf : Value) (hz : zf.category = 1) : mx_R L xs zf ah_M190 0 [(0, .ref 4), (1, .int 2), (2, .int 1)] [] hh_a203 0 0 0 0 (fun v h' => v = some (.int 1) ∧ h' = hh_a203) := by
  refine mx_B 12 22 [(0, .ref 4), (1, .int 2), (2, .int 1)] [.int 2, .ref 4] (by decide +kernel) ?_
  refine mx_B 5 27 [(0, .ref 4), (1, .int 2), (2, .int 1)] [.int 1] (by decide +kernel) ?_
  exact mx_ret (some (.int 1)) (by decide +kernel) ⟨rfl, rfl⟩
theorem iv_a412 (L : Nat) (xs : Nat → Int32) (zf : Value) (hz : zf.category = 1) : mx_R L xs zf ah_M221 0 [(0, .ref 21), (1, .int 1), (2, .int 2), (3, .int 1)] [] hh_a203 0 0 1 22 (fun v h' => v = some (.int 1) ∧ h' = hh_a203) := by
  refine mx_B 12 61 [(0, .ref 21), (1, .int 1), (2, .int 2), (3, .int 1)] [] (by decide +kernel) ?_
  refine mx_B 3 66 [(0, .ref 21), (1, .int 1), (2, .int 2), (3, .int 1)] [.int 1, .int 2, .ref 4] (by decide +kernel) ?_
  refine mx_call 190 3 [.ref 4, .int 2, .int 1] [] [(0, .ref 4), (1, .int 2), (2, .int 1)] (some (.int 1)) hh_a203 0 0 0 0 0 0 69 [.int 1] ap_190 (by decide +kernel) (by decide +kernel) (iv_a411 L xs zf hz) ?_
  exact mx_ret (some (.int 1)) (by decide +kernel) ⟨rfl, rfl⟩
theorem iv_a413 (L : Nat) (xs : Nat → Int32) (zf : Value) (hz : zf.category = 1) : mx_R L xs zf ah_M291 0 [(0, .int 2), (1, .int 1)] [] hh_a203 0 0 0 0 (fun v h' => v = some (.int 1) ∧ h' = hh_a203) := by
  refine mx_B 4 6 [(0, .int 2), (1, .int 1)] [.int 1] (by decide +kernel) ?_
  exact mx_ret (some (.int 1)) (by decide +kernel) ⟨rfl, rfl⟩
theorem iv_a414 (L : Nat) (xs : Nat → Int32) (zf : Value) (hz : zf.category = 1) : mx_R L xs zf ah_M289 0 [(0, .ref 36), (1, .int 1), (2, .int 2), (3, .int 1)] [] hh_a203 0 0 1 21 (fun v h' => v = some (.int 1) ∧ h' = hh_a203) := by
  refine mx_B 12 22 [(0, .ref 36), (1, .int 1), (2, .int 2), (3, .int 1)] [] (by decide +kernel) ?_
  refine mx_B 10 54 [(0, .ref 36), (1, .int 1), (2, .int 2), (3, .int 1)] [.int 1, .int 2] (by decide +kernel) ?_
  refine mx_call 291 3 [.int 2, .int 1] [] [(0, .int 2), (1, .int 1)] (some (.int 1)) hh_a203 0 0 0 0 0 0 57 [.int 1] ap_291 (by decide +kernel) (by decide +kernel) (iv_a413 L xs zf hz) ?_
  exact mx_ret (some (.int 1)) (by decide +kernel) ⟨rfl, rfl⟩
theorem iv_a415 (xs : Nat → Int32) (zf : Value) (hz : zf.category = 1) (hk : xs 0 &&& 15 = 5) (l1 : 1 ≤ (xs 1).toInt) (u1 : (xs 1).toInt ≤ 1) (l2 : 2 ≤ (xs 2).toInt) (u2 : (xs 2).toInt ≤ 2) (l3 : 1 ≤ (xs 3).toInt) (u3 : (xs 3).toInt ≤ 1) : mx_R 6 xs zf ah_M0 18 [(3, .int 0), (2, .ref 36), (1, .ref 21), (0, .ref 0)] [] hh_a203 0 0 2 45 (fun v h' => v = some (.int 1) ∧ h' = hh_a203) := by
  refine mx_B 2 20 [(3, .int 0), (2, .ref 36), (1, .ref 21), (0, .ref 0)] [.ref 0, .int 0] (by decide +kernel) ?_
  refine mx_S (.arraylength) 1 [] 21 [(3, .int 0), (2, .ref 36), (1, .ref 21), (0, .ref 0)] [.int 6, .int 0] (by decide +kernel) rfl ?_
  refine mx_B 5 29 [(3, .int 0), (2, .ref 36), (1, .ref 21), (0, .ref 0)] [.int 0, .ref 0] (by decide +kernel) ?_
  refine mx_scr 6 0 30 (by decide +kernel) (by decide +kernel) (by decide +kernel) ?_
  refine mx_S (.bipush 15) 2 [] 32 [(3, .int 0), (2, .ref 36), (1, .ref 21), (0, .ref 0)] [.int 15, .int (xs 0)] (by decide +kernel) rfl ?_
  refine mx_S (.iand) 1 [] 33 [(3, .int 0), (2, .ref 36), (1, .ref 21), (0, .ref 0)] [.int ((xs 0) &&& 15)] (by decide +kernel) rfl ?_
  refine mx_eq 5 hk ?_
  refine mx_B 6 254 [(3, .int 0), (2, .ref 36), (1, .ref 21), (0, .ref 0)] [.int 1, .ref 0, .ref 21] (by decide +kernel) ?_
  refine mx_scr 6 1 255 (by decide +kernel) (by decide +kernel) (by decide +kernel) ?_
  refine mx_eq 1 (mx_pt l1 u1 (by decide +kernel)) ?_
  refine mx_B 4 259 [(3, .int 0), (2, .ref 36), (1, .ref 21), (0, .ref 0)] [.int 2, .ref 0, .int 1, .ref 21] (by decide +kernel) ?_
  refine mx_scr 6 2 260 (by decide +kernel) (by decide +kernel) (by decide +kernel) ?_
  refine mx_eq 2 (mx_pt l2 u2 (by decide +kernel)) ?_
  refine mx_B 4 264 [(3, .int 0), (2, .ref 36), (1, .ref 21), (0, .ref 0)] [.int 3, .ref 0, .int 2, .int 1, .ref 21] (by decide +kernel) ?_
  refine mx_scr 6 3 265 (by decide +kernel) (by decide +kernel) (by decide +kernel) ?_
  refine mx_eq 1 (mx_pt l3 u3 (by decide +kernel)) ?_
  refine mx_call 221 3 [.ref 21, .int 1, .int 2, .int 1] [] [(0, .ref 21), (1, .int 1), (2, .int 2), (3, .int 1)] (some (.int 1)) hh_a203 0 0 1 22 0 0 268 [.int 1] ap_221 (by decide +kernel) (by decide +kernel) (iv_a412 6 xs zf hz) ?_
  refine mx_B 5 273 [(3, .int 0), (2, .ref 36), (1, .ref 21), (0, .ref 0)] [.int 1, .ref 0, .ref 36, .int 1] (by decide +kernel) ?_
  refine mx_scr 6 1 274 (by decide +kernel) (by decide +kernel) (by decide +kernel) ?_
  refine mx_eq 1 (mx_pt l1 u1 (by decide +kernel)) ?_
  refine mx_B 4 278 [(3, .int 0), (2, .ref 36), (1, .ref 21), (0, .ref 0)] [.int 2, .ref 0, .int 1, .ref 36, .int 1] (by decide +kernel) ?_
  refine mx_scr 6 2 279 (by decide +kernel) (by decide +kernel) (by decide +kernel) ?_
  refine mx_eq 2 (mx_pt l2 u2 (by decide +kernel)) ?_
  refine mx_B 4 283 [(3, .int 0), (2, .ref 36), (1, .ref 21), (0, .ref 0)] [.int 3, .ref 0, .int 2, .int 1, .ref 36, .int 1] (by decide +kernel) ?_
  refine mx_scr 6 3 284 (by decide +kernel) (by decide +kernel) (by decide +kernel) ?_
  refine mx_eq 1 (mx_pt l3 u3 (by decide +kernel)) ?_
  refine mx_call 289 3 [.ref 36, .int 1, .int 2, .int 1] [.int 1] [(0, .ref 36), (1, .int 1), (2, .int 2), (3, .int 1)] (some (.int 1)) hh_a203 0 0 1 21 0 0 287 [.int 1, .int 1] ap_289 (by decide +kernel) (by decide +kernel) (iv_a414 6 xs zf hz) ?_
  refine mx_B 5 20 [(3, .int 6), (2, .ref 36), (1, .ref 21), (0, .ref 0)] [.ref 0, .int 6] (by decide +kernel) ?_
  refine mx_S (.arraylength) 1 [] 21 [(3, .int 6), (2, .ref 36), (1, .ref 21), (0, .ref 0)] [.int 6, .int 6] (by decide +kernel) rfl ?_
  refine mx_B 4 543 [(3, .int 6), (2, .ref 36), (1, .ref 21), (0, .ref 0)] [.int 1] (by decide +kernel) ?_
  exact mx_ret (some (.int 1)) (by decide +kernel) ⟨rfl, rfl⟩
theorem iv_a416 (L : Nat) (xs : Nat → Int32) (zf : Value) (hz : zf.category = 1) : mx_R L xs zf ah_M190 0 [(0, .ref 4), (1, .int 2), (2, .int 2)] [] hh_a203 0 0 0 0 (fun v h' => v = some (.int 2) ∧ h' = hh_a203) := by
  refine mx_B 12 22 [(0, .ref 4), (1, .int 2), (2, .int 2)] [.int 2, .ref 4] (by decide +kernel) ?_
  refine mx_B 5 27 [(0, .ref 4), (1, .int 2), (2, .int 2)] [.int 2] (by decide +kernel) ?_
  exact mx_ret (some (.int 2)) (by decide +kernel) ⟨rfl, rfl⟩
theorem iv_a417 (L : Nat) (xs : Nat → Int32) (zf : Value) (hz : zf.category = 1) : mx_R L xs zf ah_M221 0 [(0, .ref 21), (1, .int 1), (2, .int 2), (3, .int 2)] [] hh_a203 0 0 1 22 (fun v h' => v = some (.int 2) ∧ h' = hh_a203) := by
  refine mx_B 12 61 [(0, .ref 21), (1, .int 1), (2, .int 2), (3, .int 2)] [] (by decide +kernel) ?_
  refine mx_B 3 66 [(0, .ref 21), (1, .int 1), (2, .int 2), (3, .int 2)] [.int 2, .int 2, .ref 4] (by decide +kernel) ?_
  refine mx_call 190 3 [.ref 4, .int 2, .int 2] [] [(0, .ref 4), (1, .int 2), (2, .int 2)] (some (.int 2)) hh_a203 0 0 0 0 0 0 69 [.int 2] ap_190 (by decide +kernel) (by decide +kernel) (iv_a416 L xs zf hz) ?_
  exact mx_ret (some (.int 2)) (by decide +kernel) ⟨rfl, rfl⟩
theorem iv_a418 (L : Nat) (xs : Nat → Int32) (zf : Value) (hz : zf.category = 1) : mx_R L xs zf ah_M291 0 [(0, .int 2), (1, .int 2)] [] hh_a203 0 0 0 0 (fun v h' => v = some (.int 2) ∧ h' = hh_a203) := by
  refine mx_B 4 6 [(0, .int 2), (1, .int 2)] [.int 2] (by decide +kernel) ?_
  exact mx_ret (some (.int 2)) (by decide +kernel) ⟨rfl, rfl⟩
theorem iv_a419 (L : Nat) (xs : Nat → Int32) (zf : Value) (hz : zf.category = 1) : mx_R L xs zf ah_M289 0 [(0, .ref 36), (1, .int 1), (2, .int 2), (3, .int 2)] [] hh_a203 0 0 1 21 (fun v h' => v = some (.int 2) ∧ h' = hh_a203) := by
  refine mx_B 12 22 [(0, .ref 36), (1, .int 1), (2, .int 2), (3, .int 2)] [] (by decide +kernel) ?_
  refine mx_B 10 54 [(0, .ref 36), (1, .int 1), (2, .int 2), (3, .int 2)] [.int 2, .int 2] (by decide +kernel) ?_
  refine mx_call 291 3 [.int 2, .int 2] [] [(0, .int 2), (1, .int 2)] (some (.int 2)) hh_a203 0 0 0 0 0 0 57 [.int 2] ap_291 (by decide +kernel) (by decide +kernel) (iv_a418 L xs zf hz) ?_
  exact mx_ret (some (.int 2)) (by decide +kernel) ⟨rfl, rfl⟩
theorem iv_a420 (xs : Nat → Int32) (zf : Value) (hz : zf.category = 1) (hk : xs 0 &&& 15 = 5) (l1 : 1 ≤ (xs 1).toInt) (u1 : (xs 1).toInt ≤ 1) (l2 : 2 ≤ (xs 2).toInt) (u2 : (xs 2).toInt ≤ 2) (l3 : 2 ≤ (xs 3).toInt) (u3 : (xs 3).toInt ≤ 2) : mx_R 6 xs zf ah_M0 18 [(3, .int 0), (2, .ref 36), (1, .ref 21), (0, .ref 0)] [] hh_a203 0 0 2 45 (fun v h' => v = some (.int 1) ∧ h' = hh_a203) := by
  refine mx_B 2 20 [(3, .int 0), (2, .ref 36), (1, .ref 21), (0, .ref 0)] [.ref 0, .int 0] (by decide +kernel) ?_
  refine mx_S (.arraylength) 1 [] 21 [(3, .int 0), (2, .ref 36), (1, .ref 21), (0, .ref 0)] [.int 6, .int 0] (by decide +kernel) rfl ?_
  refine mx_B 5 29 [(3, .int 0), (2, .ref 36), (1, .ref 21), (0, .ref 0)] [.int 0, .ref 0] (by decide +kernel) ?_
  refine mx_scr 6 0 30 (by decide +kernel) (by decide +kernel) (by decide +kernel) ?_
  refine mx_S (.bipush 15) 2 [] 32 [(3, .int 0), (2, .ref 36), (1, .ref 21), (0, .ref 0)] [.int 15, .int (xs 0)] (by decide +kernel) rfl ?_
  refine mx_S (.iand) 1 [] 33 [(3, .int 0), (2, .ref 36), (1, .ref 21), (0, .ref 0)] [.int ((xs 0) &&& 15)] (by decide +kernel) rfl ?_
  refine mx_eq 5 hk ?_
  refine mx_B 6 254 [(3, .int 0), (2, .ref 36), (1, .ref 21), (0, .ref 0)] [.int 1, .ref 0, .ref 21] (by decide +kernel) ?_
  refine mx_scr 6 1 255 (by decide +kernel) (by decide +kernel) (by decide +kernel) ?_
  refine mx_eq 1 (mx_pt l1 u1 (by decide +kernel)) ?_
  refine mx_B 4 259 [(3, .int 0), (2, .ref 36), (1, .ref 21), (0, .ref 0)] [.int 2, .ref 0, .int 1, .ref 21] (by decide +kernel) ?_
  refine mx_scr 6 2 260 (by decide +kernel) (by decide +kernel) (by decide +kernel) ?_
  refine mx_eq 2 (mx_pt l2 u2 (by decide +kernel)) ?_
  refine mx_B 4 264 [(3, .int 0), (2, .ref 36), (1, .ref 21), (0, .ref 0)] [.int 3, .ref 0, .int 2, .int 1, .ref 21] (by decide +kernel) ?_
  refine mx_scr 6 3 265 (by decide +kernel) (by decide +kernel) (by decide +kernel) ?_
  refine mx_eq 2 (mx_pt l3 u3 (by decide +kernel)) ?_
  refine mx_call 221 3 [.ref 21, .int 1, .int 2, .int 2] [] [(0, .ref 21), (1, .int 1), (2, .int 2), (3, .int 2)] (some (.int 2)) hh_a203 0 0 1 22 0 0 268 [.int 2] ap_221 (by decide +kernel) (by decide +kernel) (iv_a417 6 xs zf hz) ?_
  refine mx_B 5 273 [(3, .int 0), (2, .ref 36), (1, .ref 21), (0, .ref 0)] [.int 1, .ref 0, .ref 36, .int 2] (by decide +kernel) ?_
  refine mx_scr 6 1 274 (by decide +kernel) (by decide +kernel) (by decide +kernel) ?_
  refine mx_eq 1 (mx_pt l1 u1 (by decide +kernel)) ?_
  refine mx_B 4 278 [(3, .int 0), (2, .ref 36), (1, .ref 21), (0, .ref 0)] [.int 2, .ref 0, .int 1, .ref 36, .int 2] (by decide +kernel) ?_
  refine mx_scr 6 2 279 (by decide +kernel) (by decide +kernel) (by decide +kernel) ?_
  refine mx_eq 2 (mx_pt l2 u2 (by decide +kernel)) ?_
  refine mx_B 4 283 [(3, .int 0), (2, .ref 36), (1, .ref 21), (0, .ref 0)] [.int 3, .ref 0, .int 2, .int 1, .ref 36, .int 2] (by decide +kernel) ?_
  refine mx_scr 6 3 284 (by decide +kernel) (by decide +kernel) (by decide +kernel) ?_
  refine mx_eq 2 (mx_pt l3 u3 (by decide +kernel)) ?_
  refine mx_call 289 3 [.ref 36, .int 1, .int 2, .int 2] [.int 2] [(0, .ref 36), (1, .int 1), (2, .int 2), (3, .int 2)] (some (.int 2)) hh_a203 0 0 1 21 0 0 287 [.int 2, .int 2] ap_289 (by decide +kernel) (by decide +kernel) (iv_a419 6 xs zf hz) ?_
  refine mx_B 5 20 [(3, .int 6), (2, .ref 36), (1, .ref 21), (0, .ref 0)] [.ref 0, .int 6] (by decide +kernel) ?_
  refine mx_S (.arraylength) 1 [] 21 [(3, .int 6), (2, .ref 36), (1, .ref 21), (0, .ref 0)] [.int 6, .int 6] (by decide +kernel) rfl ?_
  refine mx_B 4 543 [(3, .int 6), (2, .ref 36), (1, .ref 21), (0, .ref 0)] [.int 1] (by decide +kernel) ?_
  exact mx_ret (some (.int 1)) (by decide +kernel) ⟨rfl, rfl⟩
theorem iv_a421 (L : Nat) (xs : Nat → Int32) (zf : Value) (hz : zf.category = 1) : mx_R L xs zf ah_M190 0 [(0, .ref 4), (1, .int 2), (2, .int 3)] [] hh_a203 0 0 0 0 (fun v h' => v = some (.int 3) ∧ h' = hh_a203) := by
  refine mx_B 12 22 [(0, .ref 4), (1, .int 2), (2, .int 3)] [.int 2, .ref 4] (by decide +kernel) ?_
  refine mx_B 5 27 [(0, .ref 4), (1, .int 2), (2, .int 3)] [.int 3] (by decide +kernel) ?_
  exact mx_ret (some (.int 3)) (by decide +kernel) ⟨rfl, rfl⟩
theorem iv_a422 (L : Nat) (xs : Nat → Int32) (zf : Value) (hz : zf.category = 1) : mx_R L xs zf ah_M221 0 [(0, .ref 21), (1, .int 1), (2, .int 2), (3, .int 3)] [] hh_a203 0 0 1 22 (fun v h' => v = some (.int 3) ∧ h' = hh_a203) := by
  refine mx_B 12 61 [(0, .ref 21), (1, .int 1), (2, .int 2), (3, .int 3)] [] (by decide +kernel) ?_
  refine mx_B 3 66 [(0, .ref 21), (1, .int 1), (2, .int 2), (3, .int 3)] [.int 3, .int 2, .ref 4] (by decide +kernel) ?_
  refine mx_call 190 3 [.ref 4, .int 2, .int 3] [] [(0, .ref 4), (1, .int 2), (2, .int 3)] (some (.int 3)) hh_a203 0 0 0 0 0 0 69 [.int 3] ap_190 (by decide +kernel) (by decide +kernel) (iv_a421 L xs zf hz) ?_
  exact mx_ret (some (.int 3)) (by decide +kernel) ⟨rfl, rfl⟩
theorem iv_a423 (L : Nat) (xs : Nat → Int32) (zf : Value) (hz : zf.category = 1) : mx_R L xs zf ah_M291 0 [(0, .int 2), (1, .int 3)] [] hh_a203 0 0 0 0 (fun v h' => v = some (.int 3) ∧ h' = hh_a203) := by
  refine mx_B 4 6 [(0, .int 2), (1, .int 3)] [.int 3] (by decide +kernel) ?_
  exact mx_ret (some (.int 3)) (by decide +kernel) ⟨rfl, rfl⟩
theorem iv_a424 (L : Nat) (xs : Nat → Int32) (zf : Value) (hz : zf.category = 1) : mx_R L xs zf ah_M289 0 [(0, .ref 36), (1, .int 1), (2, .int 2), (3, .int 3)] [] hh_a203 0 0 1 21 (fun v h' => v = some (.int 3) ∧ h' = hh_a203) := by
  refine mx_B 12 22 [(0, .ref 36), (1, .int 1), (2, .int 2), (3, .int 3)] [] (by decide +kernel) ?_
  refine mx_B 10 54 [(0, .ref 36), (1, .int 1), (2, .int 2), (3, .int 3)] [.int 3, .int 2] (by decide +kernel) ?_
  refine mx_call 291 3 [.int 2, .int 3] [] [(0, .int 2), (1, .int 3)] (some (.int 3)) hh_a203 0 0 0 0 0 0 57 [.int 3] ap_291 (by decide +kernel) (by decide +kernel) (iv_a423 L xs zf hz) ?_
  exact mx_ret (some (.int 3)) (by decide +kernel) ⟨rfl, rfl⟩
theorem iv_a425 (xs : Nat → Int32) (zf : Value) (hz : zf.category = 1) (hk : xs 0 &&& 15 = 5) (l1 : 1 ≤ (xs 1).toInt) (u1 : (xs 1).toInt ≤ 1) (l2 : 2 ≤ (xs 2).toInt) (u2 : (xs 2).toInt ≤ 2) (l3 : 3 ≤ (xs 3).toInt) (u3 : (xs 3).toInt ≤ 3) : mx_R 6 xs zf ah_M0 18 [(3, .int 0), (2, .ref 36), (1, .ref 21), (0, .ref 0)] [] hh_a203 0 0 2 45 (fun v h' => v = some (.int 1) ∧ h' = hh_a203) := by
  refine mx_B 2 20 [(3, .int 0), (2, .ref 36), (1, .ref 21), (0, .ref 0)] [.ref 0, .int 0] (by decide +kernel) ?_
  refine mx_S (.arraylength) 1 [] 21 [(3, .int 0), (2, .ref 36), (1, .ref 21), (0, .ref 0)] [.int 6, .int 0] (by decide +kernel) rfl ?_
  refine mx_B 5 29 [(3, .int 0), (2, .ref 36), (1, .ref 21), (0, .ref 0)] [.int 0, .ref 0] (by decide +kernel) ?_
  refine mx_scr 6 0 30 (by decide +kernel) (by decide +kernel) (by decide +kernel) ?_
  refine mx_S (.bipush 15) 2 [] 32 [(3, .int 0), (2, .ref 36), (1, .ref 21), (0, .ref 0)] [.int 15, .int (xs 0)] (by decide +kernel) rfl ?_
  refine mx_S (.iand) 1 [] 33 [(3, .int 0), (2, .ref 36), (1, .ref 21), (0, .ref 0)] [.int ((xs 0) &&& 15)] (by decide +kernel) rfl ?_
  refine mx_eq 5 hk ?_
  refine mx_B 6 254 [(3, .int 0), (2, .ref 36), (1, .ref 21), (0, .ref 0)] [.int 1, .ref 0, .ref 21] (by decide +kernel) ?_
  refine mx_scr 6 1 255 (by decide +kernel) (by decide +kernel) (by decide +kernel) ?_
  refine mx_eq 1 (mx_pt l1 u1 (by decide +kernel)) ?_
  refine mx_B 4 259 [(3, .int 0), (2, .ref 36), (1, .ref 21), (0, .ref 0)] [.int 2, .ref 0, .int 1, .ref 21] (by decide +kernel) ?_
  refine mx_scr 6 2 260 (by decide +kernel) (by decide +kernel) (by decide +kernel) ?_
  refine mx_eq 2 (mx_pt l2 u2 (by decide +kernel)) ?_
  refine mx_B 4 264 [(3, .int 0), (2, .ref 36), (1, .ref 21), (0, .ref 0)] [.int 3, .ref 0, .int 2, .int 1, .ref 21] (by decide +kernel) ?_
  refine mx_scr 6 3 265 (by decide +kernel) (by decide +kernel) (by decide +kernel) ?_
  refine mx_eq 3 (mx_pt l3 u3 (by decide +kernel)) ?_
  refine mx_call 221 3 [.ref 21, .int 1, .int 2, .int 3] [] [(0, .ref 21), (1, .int 1), (2, .int 2), (3, .int 3)] (some (.int 3)) hh_a203 0 0 1 22 0 0 268 [.int 3] ap_221 (by decide +kernel) (by decide +kernel) (iv_a422 6 xs zf hz) ?_
  refine mx_B 5 273 [(3, .int 0), (2, .ref 36), (1, .ref 21), (0, .ref 0)] [.int 1, .ref 0, .ref 36, .int 3] (by decide +kernel) ?_
  refine mx_scr 6 1 274 (by decide +kernel) (by decide +kernel) (by decide +kernel) ?_
  refine mx_eq 1 (mx_pt l1 u1 (by decide +kernel)) ?_
  refine mx_B 4 278 [(3, .int 0), (2, .ref 36), (1, .ref 21), (0, .ref 0)] [.int 2, .ref 0, .int 1, .ref 36, .int 3] (by decide +kernel) ?_
  refine mx_scr 6 2 279 (by decide +kernel) (by decide +kernel) (by decide +kernel) ?_
  refine mx_eq 2 (mx_pt l2 u2 (by decide +kernel)) ?_
  refine mx_B 4 283 [(3, .int 0), (2, .ref 36), (1, .ref 21), (0, .ref 0)] [.int 3, .ref 0, .int 2, .int 1, .ref 36, .int 3] (by decide +kernel) ?_
  refine mx_scr 6 3 284 (by decide +kernel) (by decide +kernel) (by decide +kernel) ?_
  refine mx_eq 3 (mx_pt l3 u3 (by decide +kernel)) ?_
  refine mx_call 289 3 [.ref 36, .int 1, .int 2, .int 3] [.int 3] [(0, .ref 36), (1, .int 1), (2, .int 2), (3, .int 3)] (some (.int 3)) hh_a203 0 0 1 21 0 0 287 [.int 3, .int 3] ap_289 (by decide +kernel) (by decide +kernel) (iv_a424 6 xs zf hz) ?_
  refine mx_B 5 20 [(3, .int 6), (2, .ref 36), (1, .ref 21), (0, .ref 0)] [.ref 0, .int 6] (by decide +kernel) ?_
  refine mx_S (.arraylength) 1 [] 21 [(3, .int 6), (2, .ref 36), (1, .ref 21), (0, .ref 0)] [.int 6, .int 6] (by decide +kernel) rfl ?_
  refine mx_B 4 543 [(3, .int 6), (2, .ref 36), (1, .ref 21), (0, .ref 0)] [.int 1] (by decide +kernel) ?_
  exact mx_ret (some (.int 1)) (by decide +kernel) ⟨rfl, rfl⟩
theorem iv_a426 (L : Nat) (xs : Nat → Int32) (zf : Value) (hz : zf.category = 1) : mx_R L xs zf ah_M190 0 [(0, .ref 4), (1, .int 2), (2, .int 4)] [] hh_a203 0 0 0 0 (fun v h' => v = some (.int 4) ∧ h' = hh_a203) := by
  refine mx_B 12 22 [(0, .ref 4), (1, .int 2), (2, .int 4)] [.int 2, .ref 4] (by decide +kernel) ?_
  refine mx_B 5 27 [(0, .ref 4), (1, .int 2), (2, .int 4)] [.int 4] (by decide +kernel) ?_
  exact mx_ret (some (.int 4)) (by decide +kernel) ⟨rfl, rfl⟩
theorem iv_a427 (L : Nat) (xs : Nat → Int32) (zf : Value) (hz : zf.category = 1) : mx_R L xs zf ah_M221 0 [(0, .ref 21), (1, .int 1), (2, .int 2), (3, .int 4)] [] hh_a203 0 0 1 22 (fun v h' => v = some (.int 4) ∧ h' = hh_a203) := by
  refine mx_B 12 61 [(0, .ref 21), (1, .int 1), (2, .int 2), (3, .int 4)] [] (by decide +kernel) ?_
  refine mx_B 3 66 [(0, .ref 21), (1, .int 1), (2, .int 2), (3, .int 4)] [.int 4, .int 2, .ref 4] (by decide +kernel) ?_
  refine mx_call 190 3 [.ref 4, .int 2, .int 4] [] [(0, .ref 4), (1, .int 2), (2, .int 4)] (some (.int 4)) hh_a203 0 0 0 0 0 0 69 [.int 4] ap_190 (by decide +kernel) (by decide +kernel) (iv_a426 L xs zf hz) ?_
  exact mx_ret (some (.int 4)) (by decide +kernel) ⟨rfl, rfl⟩
theorem iv_a428 (L : Nat) (xs : Nat → Int32) (zf : Value) (hz : zf.category = 1) : mx_R L xs zf ah_M291 0 [(0, .int 2), (1, .int 4)] [] hh_a203 0 0 0 0 (fun v h' => v = some (.int 4) ∧ h' = hh_a203) := by
  refine mx_B 4 6 [(0, .int 2), (1, .int 4)] [.int 4] (by decide +kernel) ?_
  exact mx_ret (some (.int 4)) (by decide +kernel) ⟨rfl, rfl⟩
theorem iv_a429 (L : Nat) (xs : Nat → Int32) (zf : Value) (hz : zf.category = 1) : mx_R L xs zf ah_M289 0 [(0, .ref 36), (1, .int 1), (2, .int 2), (3, .int 4)] [] hh_a203 0 0 1 21 (fun v h' => v = some (.int 4) ∧ h' = hh_a203) := by
  refine mx_B 12 22 [(0, .ref 36), (1, .int 1), (2, .int 2), (3, .int 4)] [] (by decide +kernel) ?_
  refine mx_B 10 54 [(0, .ref 36), (1, .int 1), (2, .int 2), (3, .int 4)] [.int 4, .int 2] (by decide +kernel) ?_
  refine mx_call 291 3 [.int 2, .int 4] [] [(0, .int 2), (1, .int 4)] (some (.int 4)) hh_a203 0 0 0 0 0 0 57 [.int 4] ap_291 (by decide +kernel) (by decide +kernel) (iv_a428 L xs zf hz) ?_
  exact mx_ret (some (.int 4)) (by decide +kernel) ⟨rfl, rfl⟩
theorem iv_a430 (xs : Nat → Int32) (zf : Value) (hz : zf.category = 1) (hk : xs 0 &&& 15 = 5) (l1 : 1 ≤ (xs 1).toInt) (u1 : (xs 1).toInt ≤ 1) (l2 : 2 ≤ (xs 2).toInt) (u2 : (xs 2).toInt ≤ 2) (l3 : 4 ≤ (xs 3).toInt) (u3 : (xs 3).toInt ≤ 4) : mx_R 6 xs zf ah_M0 18 [(3, .int 0), (2, .ref 36), (1, .ref 21), (0, .ref 0)] [] hh_a203 0 0 2 45 (fun v h' => v = some (.int 1) ∧ h' = hh_a203) := by
  refine mx_B 2 20 [(3, .int 0), (2, .ref 36), (1, .ref 21), (0, .ref 0)] [.ref 0, .int 0] (by decide +kernel) ?_
  refine mx_S (.arraylength) 1 [] 21 [(3, .int 0), (2, .ref 36), (1, .ref 21), (0, .ref 0)] [.int 6, .int 0] (by decide +kernel) rfl ?_
  refine mx_B 5 29 [(3, .int 0), (2, .ref 36), (1, .ref 21), (0, .ref 0)] [.int 0, .ref 0] (by decide +kernel) ?_
  refine mx_scr 6 0 30 (by decide +kernel) (by decide +kernel) (by decide +kernel) ?_
  refine mx_S (.bipush 15) 2 [] 32 [(3, .int 0), (2, .ref 36), (1, .ref 21), (0, .ref 0)] [.int 15, .int (xs 0)] (by decide +kernel) rfl ?_
  refine mx_S (.iand) 1 [] 33 [(3, .int 0), (2, .ref 36), (1, .ref 21), (0, .ref 0)] [.int ((xs 0) &&& 15)] (by decide +kernel) rfl ?_
  refine mx_eq 5 hk ?_
  refine mx_B 6 254 [(3, .int 0), (2, .ref 36), (1, .ref 21), (0, .ref 0)] [.int 1, .ref 0, .ref 21] (by decide +kernel) ?_
  refine mx_scr 6 1 255 (by decide +kernel) (by decide +kernel) (by decide +kernel) ?_
  refine mx_eq 1 (mx_pt l1 u1 (by decide +kernel)) ?_
  refine mx_B 4 259 [(3, .int 0), (2, .ref 36), (1, .ref 21), (0, .ref 0)] [.int 2, .ref 0, .int 1, .ref 21] (by decide +kernel) ?_
  refine mx_scr 6 2 260 (by decide +kernel) (by decide +kernel) (by decide +kernel) ?_
  refine mx_eq 2 (mx_pt l2 u2 (by decide +kernel)) ?_
  refine mx_B 4 264 [(3, .int 0), (2, .ref 36), (1, .ref 21), (0, .ref 0)] [.int 3, .ref 0, .int 2, .int 1, .ref 21] (by decide +kernel) ?_
  refine mx_scr 6 3 265 (by decide +kernel) (by decide +kernel) (by decide +kernel) ?_
  refine mx_eq 4 (mx_pt l3 u3 (by decide +kernel)) ?_
  refine mx_call 221 3 [.ref 21, .int 1, .int 2, .int 4] [] [(0, .ref 21), (1, .int 1), (2, .int 2), (3, .int 4)] (some (.int 4)) hh_a203 0 0 1 22 0 0 268 [.int 4] ap_221 (by decide +kernel) (by decide +kernel) (iv_a427 6 xs zf hz) ?_
  refine mx_B 5 273 [(3, .int 0), (2, .ref 36), (1, .ref 21), (0, .ref 0)] [.int 1, .ref 0, .ref 36, .int 4] (by decide +kernel) ?_
  refine mx_scr 6 1 274 (by decide +kernel) (by decide +kernel) (by decide +kernel) ?_
  refine mx_eq 1 (mx_pt l1 u1 (by decide +kernel)) ?_
  refine mx_B 4 278 [(3, .int 0), (2, .ref 36), (1, .ref 21), (0, .ref 0)] [.int 2, .ref 0, .int 1, .ref 36, .int 4] (by decide +kernel) ?_
  refine mx_scr 6 2 279 (by decide +kernel) (by decide +kernel) (by decide +kernel) ?_
  refine mx_eq 2 (mx_pt l2 u2 (by decide +kernel)) ?_
  refine mx_B 4 283 [(3, .int 0), (2, .ref 36), (1, .ref 21), (0, .ref 0)] [.int 3, .ref 0, .int 2, .int 1, .ref 36, .int 4] (by decide +kernel) ?_
  refine mx_scr 6 3 284 (by decide +kernel) (by decide +kernel) (by decide +kernel) ?_
  refine mx_eq 4 (mx_pt l3 u3 (by decide +kernel)) ?_
  refine mx_call 289 3 [.ref 36, .int 1, .int 2, .int 4] [.int 4] [(0, .ref 36), (1, .int 1), (2, .int 2), (3, .int 4)] (some (.int 4)) hh_a203 0 0 1 21 0 0 287 [.int 4, .int 4] ap_289 (by decide +kernel) (by decide +kernel) (iv_a429 6 xs zf hz) ?_
  refine mx_B 5 20 [(3, .int 6), (2, .ref 36), (1, .ref 21), (0, .ref 0)] [.ref 0, .int 6] (by decide +kernel) ?_
  refine mx_S (.arraylength) 1 [] 21 [(3, .int 6), (2, .ref 36), (1, .ref 21), (0, .ref 0)] [.int 6, .int 6] (by decide +kernel) rfl ?_
  refine mx_B 4 543 [(3, .int 6), (2, .ref 36), (1, .ref 21), (0, .ref 0)] [.int 1] (by decide +kernel) ?_
  exact mx_ret (some (.int 1)) (by decide +kernel) ⟨rfl, rfl⟩
theorem iv_a431 (L : Nat) (xs : Nat → Int32) (zf : Value) (hz : zf.category = 1) : mx_R L xs zf ah_M190 0 [(0, .ref 4), (1, .int 3), (2, .int 0)] [] hh_a203 0 0 0 0 (fun v h' => v = some (.int 3) ∧ h' = hh_a203) := by
  refine mx_B 12 22 [(0, .ref 4), (1, .int 3), (2, .int 0)] [.int 3, .ref 4] (by decide +kernel) ?_
  refine mx_B 5 27 [(0, .ref 4), (1, .int 3), (2, .int 0)] [.int 3] (by decide +kernel) ?_
  exact mx_ret (some (.int 3)) (by decide +kernel) ⟨rfl, rfl⟩
theorem iv_a432 (L : Nat) (xs : Nat → Int32) (zf : Value) (hz : zf.category = 1) : mx_R L xs zf ah_M221 0 [(0, .ref 21), (1, .int 1), (2, .int 3), (3, .int 0)] [] hh_a203 0 0 1 22 (fun v h' => v = some (.int 3) ∧ h' = hh_a203) := by
  refine mx_B 12 61 [(0, .ref 21), (1, .int 1), (2, .int 3), (3, .int 0)] [] (by decide +kernel) ?_
  refine mx_B 3 66 [(0, .ref 21), (1, .int 1), (2, .int 3), (3, .int 0)] [.int 0, .int 3, .ref 4] (by decide +kernel) ?_
  refine mx_call 190 3 [.ref 4, .int 3, .int 0] [] [(0, .ref 4), (1, .int 3), (2, .int 0)] (some (.int 3)) hh_a203 0 0 0 0 0 0 69 [.int 3] ap_190 (by decide +kernel) (by decide +kernel) (iv_a431 L xs zf hz) ?_
  exact mx_ret (some (.int 3)) (by decide +kernel) ⟨rfl, rfl⟩
theorem iv_a433 (L : Nat) (xs : Nat → Int32) (zf : Value) (hz : zf.category = 1) : mx_R L xs zf ah_M291 0 [(0, .int 3), (1, .int 0)] [] hh_a203 0 0 0 0 (fun v h' => v = some (.int 3) ∧ h' = hh_a203) := by
  refine mx_B 7 18 [(0, .int 3), (1, .int 0)] [.int 3] (by decide +kernel) ?_
  exact mx_ret (some (.int 3)) (by decide +kernel) ⟨rfl, rfl⟩
theorem iv_a434 (L : Nat) (xs : Nat → Int32) (zf : Value) (hz : zf.category = 1) : mx_R L xs zf ah_M289 0 [(0, .ref 36), (1, .int 1), (2, .int 3), (3, .int 0)] [] hh_a203 0 0 1 21 (fun v h' => v = some (.int 3) ∧ h' = hh_a203) := by
  refine mx_B 12 22 [(0, .ref 36), (1, .int 1), (2, .int 3), (3, .int 0)] [] (by decide +kernel) ?_
  refine mx_B 10 54 [(0, .ref 36), (1, .int 1), (2, .int 3), (3, .int 0)] [.int 0, .int 3] (by decide +kernel) ?_
  refine mx_call 291 3 [.int 3, .int 0] [] [(0, .int 3), (1, .int 0)] (some (.int 3)) hh_a203 0 0 0 0 0 0 57 [.int 3] ap_291 (by decide +kernel) (by decide +kernel) (iv_a433 L xs zf hz) ?_
  exact mx_ret (some (.int 3)) (by decide +kernel) ⟨rfl, rfl⟩
theorem iv_a435 (xs : Nat → Int32) (zf : Value) (hz : zf.category = 1) (hk : xs 0 &&& 15 = 5) (l1 : 1 ≤ (xs 1).toInt) (u1 : (xs 1).toInt ≤ 1) (l2 : 3 ≤ (xs 2).toInt) (u2 : (xs 2).toInt ≤ 3) (l3 : 0 ≤ (xs 3).toInt) (u3 : (xs 3).toInt ≤ 0) : mx_R 6 xs zf ah_M0 18 [(3, .int 0), (2, .ref 36), (1, .ref 21), (0, .ref 0)] [] hh_a203 0 0 2 45 (fun v h' => v = some (.int 1) ∧ h' = hh_a203) := by
  refine mx_B 2 20 [(3, .int 0), (2, .ref 36), (1, .ref 21), (0, .ref 0)] [.ref 0, .int 0] (by decide +kernel) ?_
  refine mx_S (.arraylength) 1 [] 21 [(3, .int 0), (2, .ref 36), (1, .ref 21), (0, .ref 0)] [.int 6, .int 0] (by decide +kernel) rfl ?_
  refine mx_B 5 29 [(3, .int 0), (2, .ref 36), (1, .ref 21), (0, .ref 0)] [.int 0, .ref 0] (by decide +kernel) ?_
  refine mx_scr 6 0 30 (by decide +kernel) (by decide +kernel) (by decide +kernel) ?_
  refine mx_S (.bipush 15) 2 [] 32 [(3, .int 0), (2, .ref 36), (1, .ref 21), (0, .ref 0)] [.int 15, .int (xs 0)] (by decide +kernel) rfl ?_
  refine mx_S (.iand) 1 [] 33 [(3, .int 0), (2, .ref 36), (1, .ref 21), (0, .ref 0)] [.int ((xs 0) &&& 15)] (by decide +kernel) rfl ?_
  refine mx_eq 5 hk ?_
  refine mx_B 6 254 [(3, .int 0), (2, .ref 36), (1, .ref 21), (0, .ref 0)] [.int 1, .ref 0, .ref 21] (by decide +kernel) ?_
  refine mx_scr 6 1 255 (by decide +kernel) (by decide +kernel) (by decide +kernel) ?_
  refine mx_eq 1 (mx_pt l1 u1 (by decide +kernel)) ?_
  refine mx_B 4 259 [(3, .int 0), (2, .ref 36), (1, .ref 21), (0, .ref 0)] [.int 2, .ref 0, .int 1, .ref 21] (by decide +kernel) ?_
  refine mx_scr 6 2 260 (by decide +kernel) (by decide +kernel) (by decide +kernel) ?_
  refine mx_eq 3 (mx_pt l2 u2 (by decide +kernel)) ?_
  refine mx_B 4 264 [(3, .int 0), (2, .ref 36), (1, .ref 21), (0, .ref 0)] [.int 3, .ref 0, .int 3, .int 1, .ref 21] (by decide +kernel) ?_
  refine mx_scr 6 3 265 (by decide +kernel) (by decide +kernel) (by decide +kernel) ?_
  refine mx_eq 0 (mx_pt l3 u3 (by decide +kernel)) ?_
  refine mx_call 221 3 [.ref 21, .int 1, .int 3, .int 0] [] [(0, .ref 21), (1, .int 1), (2, .int 3), (3, .int 0)] (some (.int 3)) hh_a203 0 0 1 22 0 0 268 [.int 3] ap_221 (by decide +kernel) (by decide +kernel) (iv_a432 6 xs zf hz) ?_
  refine mx_B 5 273 [(3, .int 0), (2, .ref 36), (1, .ref 21), (0, .ref 0)] [.int 1, .ref 0, .ref 36, .int 3] (by decide +kernel) ?_
  refine mx_scr 6 1 274 (by decide +kernel) (by decide +kernel) (by decide +kernel) ?_
  refine mx_eq 1 (mx_pt l1 u1 (by decide +kernel)) ?_
  refine mx_B 4 278 [(3, .int 0), (2, .ref 36), (1, .ref 21), (0, .ref 0)] [.int 2, .ref 0, .int 1, .ref 36, .int 3] (by decide +kernel) ?_
  refine mx_scr 6 2 279 (by decide +kernel) (by decide +kernel) (by decide +kernel) ?_
  refine mx_eq 3 (mx_pt l2 u2 (by decide +kernel)) ?_
  refine mx_B 4 283 [(3, .int 0), (2, .ref 36), (1, .ref 21), (0, .ref 0)] [.int 3, .ref 0, .int 3, .int 1, .ref 36, .int 3] (by decide +kernel) ?_
  refine mx_scr 6 3 284 (by decide +kernel) (by decide +kernel) (by decide +kernel) ?_
  refine mx_eq 0 (mx_pt l3 u3 (by decide +kernel)) ?_
  refine mx_call 289 3 [.ref 36, .int 1, .int 3, .int 0] [.int 3] [(0, .ref 36), (1, .int 1), (2, .int 3), (3, .int 0)] (some (.int 3)) hh_a203 0 0 1 21 0 0 287 [.int 3, .int 3] ap_289 (by decide +kernel) (by decide +kernel) (iv_a434 6 xs zf hz) ?_
  refine mx_B 5 20 [(3, .int 6), (2, .ref 36), (1, .ref 21), (0, .ref 0)] [.ref 0, .int 6] (by decide +kernel) ?_
  refine mx_S (.arraylength) 1 [] 21 [(3, .int 6), (2, .ref 36), (1, .ref 21), (0, .ref 0)] [.int 6, .int 6] (by decide +kernel) rfl ?_
  refine mx_B 4 543 [(3, .int 6), (2, .ref 36), (1, .ref 21), (0, .ref 0)] [.int 1] (by decide +kernel) ?_
  exact mx_ret (some (.int 1)) (by decide +kernel) ⟨rfl, rfl⟩
theorem iv_a436 (L : Nat) (xs : Nat → Int32) (zf : Value) (hz : zf.category = 1) : mx_R L xs zf ah_M190 0 [(0, .ref 4), (1, .int 3), (2, .int 1)] [] hh_a203 0 0 0 0 (fun v h' => v = some (.int 3) ∧ h' = hh_a203) := by
  refine mx_B 12 22 [(0, .ref 4), (1, .int 3), (2, .int 1)] [.int 3, .ref 4] (by decide +kernel) ?_
  refine mx_B 5 27 [(0, .ref 4), (1, .int 3), (2, .int 1)] [.int 3] (by decide +kernel) ?_
  exact mx_ret (some (.int 3)) (by decide +kernel) ⟨rfl, rfl⟩
theorem iv_a437 (L : Nat) (xs : Nat → Int32) (zf : Value) (hz : zf.category = 1) : mx_R L xs zf ah_M221 0 [(0, .ref 21), (1, .int 1), (2, .int 3), (3, .int 1)] [] hh_a203 0 0 1 22 (fun v h' => v = some (.int 3) ∧ h' = hh_a203) := by
  refine mx_B 12 61 [(0, .ref 21), (1, .int 1), (2, .int 3), (3, .int 1)] [] (by decide +kernel) ?_
  refine mx_B 3 66 [(0, .ref 21), (1, .int 1), (2, .int 3), (3, .int 1)] [.int 1, .int 3, .ref 4] (by decide +kernel) ?_
  refine mx_call 190 3 [.ref 4, .int 3, .int 1] [] [(0, .ref 4), (1, .int 3), (2, .int 1)] (some (.int 3)) hh_a203 0 0 0 0 0 0 69 [.int 3] ap_190 (by decide +kernel) (by decide +kernel) (iv_a436 L xs zf hz) ?_
  exact mx_ret (some (.int 3)) (by decide +kernel) ⟨rfl, rfl⟩
theorem iv_a438 (L : Nat) (xs : Nat → Int32) (zf : Value) (hz : zf.category = 1) : mx_R L xs zf ah_M291 0 [(0, .int 3), (1, .int 1)] [] hh_a203 0 0 0 0 (fun v h' => v = some (.int 3) ∧ h' = hh_a203) := by
  refine mx_B 7 18 [(0, .int 3), (1, .int 1)] [.int 3] (by decide +kernel) ?_
  exact mx_ret (some (.int 3)) (by decide +kernel) ⟨rfl, rfl⟩
theorem iv_a439 (L : Nat) (xs : Nat → Int32) (zf : Value) (hz : zf.category = 1) : mx_R L xs zf ah_M289 0 [(0, .ref 36), (1, .int 1), (2, .int 3), (3, .int 1)] [] hh_a203 0 0 1 21 (fun v h' => v = some (.int 3) ∧ h' = hh_a203) := by
  refine mx_B 12 22 [(0, .ref 36), (1, .int 1), (2, .int 3), (3, .int 1)] [] (by decide +kernel) ?_
  refine mx_B 10 54 [(0, .ref 36), (1, .int 1), (2, .int 3), (3, .int 1)] [.int 1, .int 3] (by decide +kernel) ?_
  refine mx_call 291 3 [.int 3, .int 1] [] [(0, .int 3), (1, .int 1)] (some (.int 3)) hh_a203 0 0 0 0 0 0 57 [.int 3] ap_291 (by decide +kernel) (by decide +kernel) (iv_a438 L xs zf hz) ?_
  exact mx_ret (some (.int 3)) (by decide +kernel) ⟨rfl, rfl⟩
theorem iv_a440 (xs : Nat → Int32) (zf : Value) (hz : zf.category = 1) (hk : xs 0 &&& 15 = 5) (l1 : 1 ≤ (xs 1).toInt) (u1 : (xs 1).toInt ≤ 1) (l2 : 3 ≤ (xs 2).toInt) (u2 : (xs 2).toInt ≤ 3) (l3 : 1 ≤ (xs 3).toInt) (u3 : (xs 3).toInt ≤ 1) : mx_R 6 xs zf ah_M0 18 [(3, .int 0), (2, .ref 36), (1, .ref 21), (0, .ref 0)] [] hh_a203 0 0 2 45 (fun v h' => v = some (.int 1) ∧ h' = hh_a203) := by
  refine mx_B 2 20 [(3, .int 0), (2, .ref 36), (1, .ref 21), (0, .ref 0)] [.ref 0, .int 0] (by decide +kernel) ?_
  refine mx_S (.arraylength) 1 [] 21 [(3, .int 0), (2, .ref 36), (1, .ref 21), (0, .ref 0)] [.int 6, .int 0] (by decide +kernel) rfl ?_
  refine mx_B 5 29 [(3, .int 0), (2, .ref 36), (1, .ref 21), (0, .ref 0)] [.int 0, .ref 0] (by decide +kernel) ?_
  refine mx_scr 6 0 30 (by decide +kernel) (by decide +kernel) (by decide +kernel) ?_
  refine mx_S (.bipush 15) 2 [] 32 [(3, .int 0), (2, .ref 36), (1, .ref 21), (0, .ref 0)] [.int 15, .int (xs 0)] (by decide +kernel) rfl ?_
  refine mx_S (.iand) 1 [] 33 [(3, .int 0), (2, .ref 36), (1, .ref 21), (0, .ref 0)] [.int ((xs 0) &&& 15)] (by decide +kernel) rfl ?_
  refine mx_eq 5 hk ?_
  refine mx_B 6 254 [(3, .int 0), (2, .ref 36), (1, .ref 21), (0, .ref 0)] [.int 1, .ref 0, .ref 21] (by decide +kernel) ?_
  refine mx_scr 6 1 255 (by decide +kernel) (by decide +kernel) (by decide +kernel) ?_
  refine mx_eq 1 (mx_pt l1 u1 (by decide +kernel)) ?_
  refine mx_B 4 259 [(3, .int 0), (2, .ref 36), (1, .ref 21), (0, .ref 0)] [.int 2, .ref 0, .int 1, .ref 21] (by decide +kernel) ?_
  refine mx_scr 6 2 260 (by decide +kernel) (by decide +kernel) (by decide +kernel) ?_
  refine mx_eq 3 (mx_pt l2 u2 (by decide +kernel)) ?_
  refine mx_B 4 264 [(3, .int 0), (2, .ref 36), (1, .ref 21), (0, .ref 0)] [.int 3, .ref 0, .int 3, .int 1, .ref 21] (by decide +kernel) ?_
  refine mx_scr 6 3 265 (by decide +kernel) (by decide +kernel) (by decide +kernel) ?_
  refine mx_eq 1 (mx_pt l3 u3 (by decide +kernel)) ?_
  refine mx_call 221 3 [.ref 21, .int 1, .int 3, .int 1] [] [(0, .ref 21), (1, .int 1), (2, .int 3), (3, .int 1)] (some (.int 3)) hh_a203 0 0 1 22 0 0 268 [.int 3] ap_221 (by decide +kernel) (by decide +kernel) (iv_a437 6 xs zf hz) ?_
  refine mx_B 5 273 [(3, .int 0), (2, .ref 36), (1, .ref 21), (0, .ref 0)] [.int 1, .ref 0, .ref 36, .int 3] (by decide +kernel) ?_
  refine mx_scr 6 1 274 (by decide +kernel) (by decide +kernel) (by decide +kernel) ?_
  refine mx_eq 1 (mx_pt l1 u1 (by decide +kernel)) ?_
  refine mx_B 4 278 [(3, .int 0), (2, .ref 36), (1, .ref 21), (0, .ref 0)] [.int 2, .ref 0, .int 1, .ref 36, .int 3] (by decide +kernel) ?_
  refine mx_scr 6 2 279 (by decide +kernel) (by decide +kernel) (by decide +kernel) ?_
  refine mx_eq 3 (mx_pt l2 u2 (by decide +kernel)) ?_
  refine mx_B 4 283 [(3, .int 0), (2, .ref 36), (1, .ref 21), (0, .ref 0)] [.int 3, .ref 0, .int 3, .int 1, .ref 36, .int 3] (by decide +kernel) ?_
  refine mx_scr 6 3 284 (by decide +kernel) (by decide +kernel) (by decide +kernel) ?_
  refine mx_eq 1 (mx_pt l3 u3 (by decide +kernel)) ?_
  refine mx_call 289 3 [.ref 36, .int 1, .int 3, .int 1] [.int 3] [(0, .ref 36), (1, .int 1), (2, .int 3), (3, .int 1)] (some (.int 3)) hh_a203 0 0 1 21 0 0 287 [.int 3, .int 3] ap_289 (by decide +kernel) (by decide +kernel) (iv_a439 6 xs zf hz) ?_
  refine mx_B 5 20 [(3, .int 6), (2, .ref 36), (1, .ref 21), (0, .ref 0)] [.ref 0, .int 6] (by decide +kernel) ?_
  refine mx_S (.arraylength) 1 [] 21 [(3, .int 6), (2, .ref 36), (1, .ref 21), (0, .ref 0)] [.int 6, .int 6] (by decide +kernel) rfl ?_
  refine mx_B 4 543 [(3, .int 6), (2, .ref 36), (1, .ref 21), (0, .ref 0)] [.int 1] (by decide +kernel) ?_
  exact mx_ret (some (.int 1)) (by decide +kernel) ⟨rfl, rfl⟩
theorem iv_a441 (L : Nat) (xs : Nat → Int32) (zf : Value) (hz : zf.category = 1) : mx_R L xs zf ah_M190 0 [(0, .ref 4), (1, .int 3), (2, .int 2)] [] hh_a203 0 0 0 0 (fun v h' => v = some (.int 3) ∧ h' = hh_a203) := by
  refine mx_B 12 22 [(0, .ref 4), (1, .int 3), (2, .int 2)] [.int 3, .ref 4] (by decide +kernel) ?_
  refine mx_B 5 27 [(0, .ref 4), (1, .int 3), (2, .int 2)] [.int 3] (by decide +kernel) ?_
  exact mx_ret (some (.int 3)) (by decide +kernel) ⟨rfl, rfl⟩
theorem iv_a442 (L : Nat) (xs : Nat → Int32) (zf : Value) (hz : zf.category = 1) : mx_R L xs zf ah_M221 0 [(0, .ref 21), (1, .int 1), (2, .int 3), (3, .int 2)] [] hh_a203 0 0 1 22 (fun v h' => v = some (.int 3) ∧ h' = hh_a203) := by
  refine mx_B 12 61 [(0, .ref 21), (1, .int 1), (2, .int 3), (3, .int 2)] [] (by decide +kernel) ?_
  refine mx_B 3 66 [(0, .ref 21), (1, .int 1), (2, .int 3), (3, .int 2)] [.int 2, .int 3, .ref 4] (by decide +kernel) ?_
  refine mx_call 190 3 [.ref 4, .int 3, .int 2] [] [(0, .ref 4), (1, .int 3), (2, .int 2)] (some (.int 3)) hh_a203 0 0 0 0 0 0 69 [.int 3] ap_190 (by decide +kernel) (by decide +kernel) (iv_a441 L xs zf hz) ?_
  exact mx_ret (some (.int 3)) (by decide +kernel) ⟨rfl, rfl⟩
theorem iv_a443 (L : Nat) (xs : Nat → Int32) (zf : Value) (hz : zf.category = 1) : mx_R L xs zf ah_M291 0 [(0, .int 3), (1, .int 2)] [] hh_a203 0 0 0 0 (fun v h' => v = some (.int 3) ∧ h' = hh_a203) := by
  refine mx_B 7 18 [(0, .int 3), (1, .int 2)] [.int 3] (by decide +kernel) ?_
  exact mx_ret (some (.int 3)) (by decide +kernel) ⟨rfl, rfl⟩
theorem iv_a444 (L : Nat) (xs : Nat → Int32) (zf : Value) (hz : zf.category = 1) : mx_R L xs zf ah_M289 0 [(0, .ref 36), (1, .int 1), (2, .int 3), (3, .int 2)] [] hh_a203 0 0 1 21 (fun v h' => v = some (.int 3) ∧ h' = hh_a203) := by
  refine mx_B 12 22 [(0, .ref 36), (1, .int 1), (2, .int 3), (3, .int 2)] [] (by decide +kernel) ?_
  refine mx_B 10 54 [(0, .ref 36), (1, .int 1), (2, .int 3), (3, .int 2)] [.int 2, .int 3] (by decide +kernel) ?_
  refine mx_call 291 3 [.int 3, .int 2] [] [(0, .int 3), (1, .int 2)] (some (.int 3)) hh_a203 0 0 0 0 0 0 57 [.int 3] ap_291 (by decide +kernel) (by decide +kernel) (iv_a443 L xs zf hz) ?_
  exact mx_ret (some (.int 3)) (by decide +kernel) ⟨rfl, rfl⟩
theorem iv_a445 (xs : Nat → Int32) (zf : Value) (hz : zf.category = 1) (hk : xs 0 &&& 15 = 5) (l1 : 1 ≤ (xs 1).toInt) (u1 : (xs 1).toInt ≤ 1) (l2 : 3 ≤ (xs 2).toInt) (u2 : (xs 2).toInt ≤ 3) (l3 : 2 ≤ (xs 3).toInt) (u3 : (xs 3).toInt ≤ 2) : mx_R 6 xs zf ah_M0 18 [(3, .int 0), (2, .ref 36), (1, .ref 21), (0, .ref 0)] [] hh_a203 0 0 2 45 (fun v h' => v = some (.int 1) ∧ h' = hh_a203) := by
  refine mx_B 2 20 [(3, .int 0), (2, .ref 36), (1, .ref 21), (0, .ref 0)] [.ref 0, .int 0] (by decide +kernel) ?_
  refine mx_S (.arraylength) 1 [] 21 [(3, .int 0), (2, .ref 36), (1, .ref 21), (0, .ref 0)] [.int 6, .int 0] (by decide +kernel) rfl ?_
  refine mx_B 5 29 [(3, .int 0), (2, .ref 36), (1, .ref 21), (0, .ref 0)] [.int 0, .ref 0] (by decide +kernel) ?_
  refine mx_scr 6 0 30 (by decide +kernel) (by decide +kernel) (by decide +kernel) ?_
  refine mx_S (.bipush 15) 2 [] 32 [(3, .int 0), (2, .ref 36), (1, .ref 21), (0, .ref 0)] [.int 15, .int (xs 0)] (by decide +kernel) rfl ?_
  refine mx_S (.iand) 1 [] 33 [(3, .int 0), (2, .ref 36), (1, .ref 21), (0, .ref 0)] [.int ((xs 0) &&& 15)] (by decide +kernel) rfl ?_
  refine mx_eq 5 hk ?_
  refine mx_B 6 254 [(3, .int 0), (2, .ref 36), (1, .ref 21), (0, .ref 0)] [.int 1, .ref 0, .ref 21] (by decide +kernel) ?_
  refine mx_scr 6 1 255 (by decide +kernel) (by decide +kernel) (by decide +kernel) ?_
  refine mx_eq 1 (mx_pt l1 u1 (by decide +kernel)) ?_
  refine mx_B 4 259 [(3, .int 0), (2, .ref 36), (1, .ref 21), (0, .ref 0)] [.int 2, .ref 0, .int 1, .ref 21] (by decide +kernel) ?_
  refine mx_scr 6 2 260 (by decide +kernel) (by decide +kernel) (by decide +kernel) ?_
  refine mx_eq 3 (mx_pt l2 u2 (by decide +kernel)) ?_
  refine mx_B 4 264 [(3, .int 0), (2, .ref 36), (1, .ref 21), (0, .ref 0)] [.int 3, .ref 0, .int 3, .int 1, .ref 21] (by decide +kernel) ?_
  refine mx_scr 6 3 265 (by decide +kernel) (by decide +kernel) (by decide +kernel) ?_
  refine mx_eq 2 (mx_pt l3 u3 (by decide +kernel)) ?_
  refine mx_call 221 3 [.ref 21, .int 1, .int 3, .int 2] [] [(0, .ref 21), (1, .int 1), (2, .int 3), (3, .int 2)] (some (.int 3)) hh_a203 0 0 1 22 0 0 268 [.int 3] ap_221 (by decide +kernel) (by decide +kernel) (iv_a442 6 xs zf hz) ?_
  refine mx_B 5 273 [(3, .int 0), (2, .ref 36), (1, .ref 21), (0, .ref 0)] [.int 1, .ref 0, .ref 36, .int 3] (by decide +kernel) ?_
  refine mx_scr 6 1 274 (by decide +kernel) (by decide +kernel) (by decide +kernel) ?_
  refine mx_eq 1 (mx_pt l1 u1 (by decide +kernel)) ?_
  refine mx_B 4 278 [(3, .int 0), (2, .ref 36), (1, .ref 21), (0, .ref 0)] [.int 2, .ref 0, .int 1, .ref 36, .int 3] (by decide +kernel) ?_
  refine mx_scr 6 2 279 (by decide +kernel) (by decide +kernel) (by decide +kernel) ?_
  refine mx_eq 3 (mx_pt l2 u2 (by decide +kernel)) ?_
  refine mx_B 4 283 [(3, .int 0), (2, .ref 36), (1, .ref 21), (0, .ref 0)] [.int 3, .ref 0, .int 3, .int 1, .ref 36, .int 3] (by decide +kernel) ?_
  refine mx_scr 6 3 284 (by decide +kernel) (by decide +kernel) (by decide +kernel) ?_
  refine mx_eq 2 (mx_pt l3 u3 (by decide +kernel)) ?_
  refine mx_call 289 3 [.ref 36, .int 1, .int 3, .int 2] [.int 3] [(0, .ref 36), (1, .int 1), (2, .int 3), (3, .int 2)] (some (.int 3)) hh_a203 0 0 1 21 0 0 287 [.int 3, .int 3] ap_289 (by decide +kernel) (by decide +kernel) (iv_a444 6 xs zf hz) ?_
  refine mx_B 5 20 [(3, .int 6), (2, .ref 36), (1, .ref 21), (0, .ref 0)] [.ref 0, .int 6] (by decide +kernel) ?_
  refine mx_S (.arraylength) 1 [] 21 [(3, .int 6), (2, .ref 36), (1, .ref 21), (0, .ref 0)] [.int 6, .int 6] (by decide +kernel) rfl ?_
  refine mx_B 4 543 [(3, .int 6), (2, .ref 36), (1, .ref 21), (0, .ref 0)] [.int 1] (by decide +kernel) ?_
  exact mx_ret (some (.int 1)) (by decide +kernel) ⟨rfl, rfl⟩
theorem iv_a446 (L : Nat) (xs : Nat → Int32) (zf : Value) (hz : zf.category = 1) : mx_R L xs zf ah_M190 0 [(0, .ref 4), (1, .int 3), (2, .int 3)] [] hh_a203 0 0 0 0 (fun v h' => v = some (.int 3) ∧ h' = hh_a203) := by
  refine mx_B 12 22 [(0, .ref 4), (1, .int 3), (2, .int 3)] [.int 3, .ref 4] (by decide +kernel) ?_
  refine mx_B 5 27 [(0, .ref 4), (1, .int 3), (2, .int 3)] [.int 3] (by decide +kernel) ?_
  exact mx_ret (some (.int 3)) (by decide +kernel) ⟨rfl, rfl⟩
theorem iv_a447 (L : Nat) (xs : Nat → Int32) (zf : Value) (hz : zf.category = 1) : mx_R L xs zf ah_M221 0 [(0, .ref 21), (1, .int 1), (2, .int 3), (3, .int 3)] [] hh_a203 0 0 1 22 (fun v h' => v = some (.int 3) ∧ h' = hh_a203) := by
  refine mx_B 12 61 [(0, .ref 21), (1, .int 1), (2, .int 3), (3, .int 3)] [] (by decide +kernel) ?_
  refine mx_B 3 66 [(0, .ref 21), (1, .int 1), (2, .int 3), (3, .int 3)] [.int 3, .int 3, .ref 4] (by decide +kernel) ?_
  refine mx_call 190 3 [.ref 4, .int 3, .int 3] [] [(0, .ref 4), (1, .int 3), (2, .int 3)] (some (.int 3)) hh_a203 0 0 0 0 0 0 69 [.int 3] ap_190 (by decide +kernel) (by decide +kernel) (iv_a446 L xs zf hz) ?_
  exact mx_ret (some (.int 3)) (by decide +kernel) ⟨rfl, rfl⟩
theorem iv_a448 (L : Nat) (xs : Nat → Int32) (zf : Value) (hz : zf.category = 1) : mx_R L xs zf ah_M291 0 [(0, .int 3), (1, .int 3)] [] hh_a203 0 0 0 0 (fun v h' => v = some (.int 3) ∧ h' = hh_a203) := by
  refine mx_B 7 18 [(0, .int 3), (1, .int 3)] [.int 3] (by decide +kernel) ?_
  exact mx_ret (some (.int 3)) (by decide +kernel) ⟨rfl, rfl⟩
theorem iv_a449 (L : Nat) (xs : Nat → Int32) (zf : Value) (hz : zf.category = 1) : mx_R L xs zf ah_M289 0 [(0, .ref 36), (1, .int 1), (2, .int 3), (3, .int 3)] [] hh_a203 0 0 1 21 (fun v h' => v = some (.int 3) ∧ h' = hh_a203) := by
  refine mx_B 12 22 [(0, .ref 36), (1, .int 1), (2, .int 3), (3, .int 3)] [] (by decide +kernel) ?_
  refine mx_B 10 54 [(0, .ref 36), (1, .int 1), (2, .int 3), (3, .int 3)] [.int 3, .int 3] (by decide +kernel) ?_
  refine mx_call 291 3 [.int 3, .int 3] [] [(0, .int 3), (1, .int 3)] (some (.int 3)) hh_a203 0 0 0 0 0 0 57 [.int 3] ap_291 (by decide +kernel) (by decide +kernel) (iv_a448 L xs zf hz) ?_
  exact mx_ret (some (.int 3)) (by decide +kernel) ⟨rfl, rfl⟩
theorem iv_a450 (xs : Nat → Int32) (zf : Value) (hz : zf.category = 1) (hk : xs 0 &&& 15 = 5) (l1 : 1 ≤ (xs 1).toInt) (u1 : (xs 1).toInt ≤ 1) (l2 : 3 ≤ (xs 2).toInt) (u2 : (xs 2).toInt ≤ 3) (l3 : 3 ≤ (xs 3).toInt) (u3 : (xs 3).toInt ≤ 3) : mx_R 6 xs zf ah_M0 18 [(3, .int 0), (2, .ref 36), (1, .ref 21), (0, .ref 0)] [] hh_a203 0 0 2 45 (fun v h' => v = some (.int 1) ∧ h' = hh_a203) := by
  refine mx_B 2 20 [(3, .int 0), (2, .ref 36), (1, .ref 21), (0, .ref 0)] [.ref 0, .int 0] (by decide +kernel) ?_
  refine mx_S (.arraylength) 1 [] 21 [(3, .int 0), (2, .ref 36), (1, .ref 21), (0, .ref 0)] [.int 6, .int 0] (by decide +kernel) rfl ?_
  refine mx_B 5 29 [(3, .int 0), (2, .ref 36), (1, .ref 21), (0, .ref 0)] [.int 0, .ref 0] (by decide +kernel) ?_
  refine mx_scr 6 0 30 (by decide +kernel) (by decide +kernel) (by decide +kernel) ?_
  refine mx_S (.bipush 15) 2 [] 32 [(3, .int 0), (2, .ref 36), (1, .ref 21), (0, .ref 0)] [.int 15, .int (xs 0)] (by decide +kernel) rfl ?_
  refine mx_S (.iand) 1 [] 33 [(3, .int 0), (2, .ref 36), (1, .ref 21), (0, .ref 0)] [.int ((xs 0) &&& 15)] (by decide +kernel) rfl ?_
  refine mx_eq 5 hk ?_
  refine mx_B 6 254 [(3, .int 0), (2, .ref 36), (1, .ref 21), (0, .ref 0)] [.int 1, .ref 0, .ref 21] (by decide +kernel) ?_
  refine mx_scr 6 1 255 (by decide +kernel) (by decide +kernel) (by decide +kernel) ?_
  refine mx_eq 1 (mx_pt l1 u1 (by decide +kernel)) ?_
  refine mx_B 4 259 [(3, .int 0), (2, .ref 36), (1, .ref 21), (0, .ref 0)] [.int 2, .ref 0, .int 1, .ref 21] (by decide +kernel) ?_
  refine mx_scr 6 2 260 (by decide +kernel) (by decide +kernel) (by decide +kernel) ?_
  refine mx_eq 3 (mx_pt l2 u2 (by decide +kernel)) ?_
  refine mx_B 4 264 [(3, .int 0), (2, .ref 36), (1, .ref 21), (0, .ref 0)] [.int 3, .ref 0, .int 3, .int 1, .ref 21] (by decide +kernel) ?_
  refine mx_scr 6 3 265 (by decide +kernel) (by decide +kernel) (by decide +kernel) ?_
  refine mx_eq 3 (mx_pt l3 u3 (by decide +kernel)) ?_
  refine mx_call 221 3 [.ref 21, .int 1, .int 3, .int 3] [] [(0, .ref 21), (1, .int 1), (2, .int 3), (3, .int 3)] (some (.int 3)) hh_a203 0 0 1 22 0 0 268 [.int 3] ap_221 (by decide +kernel) (by decide +kernel) (iv_a447 6 xs zf hz) ?_
  refine mx_B 5 273 [(3, .int 0), (2, .ref 36), (1, .ref 21), (0, .ref 0)] [.int 1, .ref 0, .ref 36, .int 3] (by decide +kernel) ?_
  refine mx_scr 6 1 274 (by decide +kernel) (by decide +kernel) (by decide +kernel) ?_
  refine mx_eq 1 (mx_pt l1 u1 (by decide +kernel)) ?_
  refine mx_B 4 278 [(3, .int 0), (2, .ref 36), (1, .ref 21), (0, .ref 0)] [.int 2, .ref 0, .int 1, .ref 36, .int 3] (by decide +kernel) ?_
  refine mx_scr 6 2 279 (by decide +kernel) (by decide +kernel) (by decide +kernel) ?_
  refine mx_eq 3 (mx_pt l2 u2 (by decide +kernel)) ?_
  refine mx_B 4 283 [(3, .int 0), (2, .ref 36), (1, .ref 21), (0, .ref 0)] [.int 3, .ref 0, .int 3, .int 1, .ref 36, .int 3] (by decide +kernel) ?_
  refine mx_scr 6 3 284 (by decide +kernel) (by decide +kernel) (by decide +kernel) ?_
  refine mx_eq 3 (mx_pt l3 u3 (by decide +kernel)) ?_
  refine mx_call 289 3 [.ref 36, .int 1, .int 3, .int 3] [.int 3] [(0, .ref 36), (1, .int 1), (2, .int 3), (3, .int 3)] (some (.int 3)) hh_a203 0 0 1 21 0 0 287 [.int 3, .int 3] ap_289 (by decide +kernel) (by decide +kernel) (iv_a449 6 xs zf hz) ?_
  refine mx_B 5 20 [(3, .int 6), (2, .ref 36), (1, .ref 21), (0, .ref 0)] [.ref 0, .int 6] (by decide +kernel) ?_
  refine mx_S (.arraylength) 1 [] 21 [(3, .int 6), (2, .ref 36), (1, .ref 21), (0, .ref 0)] [.int 6, .int 6] (by decide +kernel) rfl ?_
  refine mx_B 4 543 [(3, .int 6), (2, .ref 36), (1, .ref 21), (0, .ref 0)] [.int 1] (by decide +kernel) ?_
  exact mx_ret (some (.int 1)) (by decide +kernel) ⟨rfl, rfl⟩
theorem iv_a451 (L : Nat) (xs : Nat → Int32) (zf : Value) (hz : zf.category = 1) : mx_R L xs zf ah_M190 0 [(0, .ref 4), (1, .int 3), (2, .int 4)] [] hh_a203 0 0 0 0 (fun v h' => v = some (.int 3) ∧ h' = hh_a203) := by
  refine mx_B 12 22 [(0, .ref 4), (1, .int 3), (2, .int 4)] [.int 3, .ref 4] (by decide +kernel) ?_
  refine mx_B 5 27 [(0, .ref 4), (1, .int 3), (2, .int 4)] [.int 3] (by decide +kernel) ?_
  exact mx_ret (some (.int 3)) (by decide +kernel) ⟨rfl, rfl⟩
theorem iv_a452 (L : Nat) (xs : Nat → Int32) (zf : Value) (hz : zf.category = 1) : mx_R L xs zf ah_M221 0 [(0, .ref 21), (1, .int 1), (2, .int 3), (3, .int 4)] [] hh_a203 0 0 1 22 (fun v h' => v = some (.int 3) ∧ h' = hh_a203) := by
  refine mx_B 12 61 [(0, .ref 21), (1, .int 1), (2, .int 3), (3, .int 4)] [] (by decide +kernel) ?_
  refine mx_B 3 66 [(0, .ref 21), (1, .int 1), (2, .int 3), (3, .int 4)] [.int 4, .int 3, .ref 4] (by decide +kernel) ?_
  refine mx_call 190 3 [.ref 4, .int 3, .int 4] [] [(0, .ref 4), (1, .int 3), (2, .int 4)] (some (.int 3)) hh_a203 0 0 0 0 0 0 69 [.int 3] ap_190 (by decide +kernel) (by decide +kernel) (iv_a451 L xs zf hz) ?_
  exact mx_ret (some (.int 3)) (by decide +kernel) ⟨rfl, rfl⟩
theorem iv_a453 (L : Nat) (xs : Nat → Int32) (zf : Value) (hz : zf.category = 1) : mx_R L xs zf ah_M291 0 [(0, .int 3), (1, .int 4)] [] hh_a203 0 0 0 0 (fun v h' => v = some (.int 3) ∧ h' = hh_a203) := by
  refine mx_B 7 18 [(0, .int 3), (1, .int 4)] [.int 3] (by decide +kernel) ?_
  exact mx_ret (some (.int 3)) (by decide +kernel) ⟨rfl, rfl⟩
theorem iv_a454 (L : Nat) (xs : Nat → Int32) (zf : Value) (hz : zf.category = 1) : mx_R L xs zf ah_M289 0 [(0, .ref 36), (1, .int 1), (2, .int 3), (3, .int 4)] [] hh_a203 0 0 1 21 (fun v h' => v = some (.int 3) ∧ h' = hh_a203) := by
  refine mx_B 12 22 [(0, .ref 36), (1, .int 1), (2, .int 3), (3, .int 4)] [] (by decide +kernel) ?_
  refine mx_B 10 54 [(0, .ref 36), (1, .int 1), (2, .int 3), (3, .int 4)] [.int 4, .int 3] (by decide +kernel) ?_
  refine mx_call 291 3 [.int 3, .int 4] [] [(0, .int 3), (1, .int 4)] (some (.int 3)) hh_a203 0 0 0 0 0 0 57 [.int 3] ap_291 (by decide +kernel) (by decide +kernel) (iv_a453 L xs zf hz) ?_
  exact mx_ret (some (.int 3)) (by decide +kernel) ⟨rfl, rfl⟩
theorem iv_a455 (xs : Nat → Int32) (zf : Value) (hz : zf.category = 1) (hk : xs 0 &&& 15 = 5) (l1 : 1 ≤ (xs 1).toInt) (u1 : (xs 1).toInt ≤ 1) (l2 : 3 ≤ (xs 2).toInt) (u2 : (xs 2).toInt ≤ 3) (l3 : 4 ≤ (xs 3).toInt) (u3 : (xs 3).toInt ≤ 4) : mx_R 6 xs zf ah_M0 18 [(3, .int 0), (2, .ref 36), (1, .ref 21), (0, .ref 0)] [] hh_a203 0 0 2 45 (fun v h' => v = some (.int 1) ∧ h' = hh_a203) := by
  refine mx_B 2 20 [(3, .int 0), (2, .ref 36), (1, .ref 21), (0, .ref 0)] [.ref 0, .int 0] (by decide +kernel) ?_
  refine mx_S (.arraylength) 1 [] 21 [(3, .int 0), (2, .ref 36), (1, .ref 21), (0, .ref 0)] [.int 6, .int 0] (by decide +kernel) rfl ?_
  refine mx_B 5 29 [(3, .int 0), (2, .ref 36), (1, .ref 21), (0, .ref 0)] [.int 0, .ref 0] (by decide +kernel) ?_
  refine mx_scr 6 0 30 (by decide +kernel) (by decide +kernel) (by decide +kernel) ?_
  refine mx_S (.bipush 15) 2 [] 32 [(3, .int 0), (2, .ref 36), (1, .ref 21), (0, .ref 0)] [.int 15, .int (xs 0)] (by decide +kernel) rfl ?_
  refine mx_S (.iand) 1 [] 33 [(3, .int 0), (2, .ref 36), (1, .ref 21), (0, .ref 0)] [.int ((xs 0) &&& 15)] (by decide +kernel) rfl ?_
  refine mx_eq 5 hk ?_
  refine mx_B 6 254 [(3, .int 0), (2, .ref 36), (1, .ref 21), (0, .ref 0)] [.int 1, .ref 0, .ref 21] (by decide +kernel) ?_
  refine mx_scr 6 1 255 (by decide +kernel) (by decide +kernel) (by decide +kernel) ?_
  refine mx_eq 1 (mx_pt l1 u1 (by decide +kernel)) ?_
  refine mx_B 4 259 [(3, .int 0), (2, .ref 36), (1, .ref 21), (0, .ref 0)] [.int 2, .ref 0, .int 1, .ref 21] (by decide +kernel) ?_
  refine mx_scr 6 2 260 (by decide +kernel) (by decide +kernel) (by decide +kernel) ?_
  refine mx_eq 3 (mx_pt l2 u2 (by decide +kernel)) ?_
  refine mx_B 4 264 [(3, .int 0), (2, .ref 36), (1, .ref 21), (0, .ref 0)] [.int 3, .ref 0, .int 3, .int 1, .ref 21] (by decide +kernel) ?_
  refine mx_scr 6 3 265 (by decide +kernel) (by decide +kernel) (by decide +kernel) ?_
  refine mx_eq 4 (mx_pt l3 u3 (by decide +kernel)) ?_
  refine mx_call 221 3 [.ref 21, .int 1, .int 3, .int 4] [] [(0, .ref 21), (1, .int 1), (2, .int 3), (3, .int 4)] (some (.int 3)) hh_a203 0 0 1 22 0 0 268 [.int 3] ap_221 (by decide +kernel) (by decide +kernel) (iv_a452 6 xs zf hz) ?_
  refine mx_B 5 273 [(3, .int 0), (2, .ref 36), (1, .ref 21), (0, .ref 0)] [.int 1, .ref 0, .ref 36, .int 3] (by decide +kernel) ?_
  refine mx_scr 6 1 274 (by decide +kernel) (by decide +kernel) (by decide +kernel) ?_
  refine mx_eq 1 (mx_pt l1 u1 (by decide +kernel)) ?_
  refine mx_B 4 278 [(3, .int 0), (2, .ref 36), (1, .ref 21), (0, .ref 0)] [.int 2, .ref 0, .int 1, .ref 36, .int 3] (by decide +kernel) ?_
  refine mx_scr 6 2 279 (by decide +kernel) (by decide +kernel) (by decide +kernel) ?_
  refine mx_eq 3 (mx_pt l2 u2 (by decide +kernel)) ?_
  refine mx_B 4 283 [(3, .int 0), (2, .ref 36), (1, .ref 21), (0, .ref 0)] [.int 3, .ref 0, .int 3, .int 1, .ref 36, .int 3] (by decide +kernel) ?_
  refine mx_scr 6 3 284 (by decide +kernel) (by decide +kernel) (by decide +kernel) ?_
  refine mx_eq 4 (mx_pt l3 u3 (by decide +kernel)) ?_
  refine mx_call 289 3 [.ref 36, .int 1, .int 3, .int 4] [.int 3] [(0, .ref 36), (1, .int 1), (2, .int 3), (3, .int 4)] (some (.int 3)) hh_a203 0 0 1 21 0 0 287 [.int 3, .int 3] ap_289 (by decide +kernel) (by decide +kernel) (iv_a454 6 xs zf hz) ?_
  refine mx_B 5 20 [(3, .int 6), (2, .ref 36), (1, .ref 21), (0, .ref 0)] [.ref 0, .int 6] (by decide +kernel) ?_
  refine mx_S (.arraylength) 1 [] 21 [(3, .int 6), (2, .ref 36), (1, .ref 21), (0, .ref 0)] [.int 6, .int 6] (by decide +kernel) rfl ?_
  refine mx_B 4 543 [(3, .int 6), (2, .ref 36), (1, .ref 21), (0, .ref 0)] [.int 1] (by decide +kernel) ?_
  exact mx_ret (some (.int 1)) (by decide +kernel) ⟨rfl, rfl⟩
theorem iv_a456 (L : Nat) (xs : Nat → Int32) (zf : Value) (hz : zf.category = 1) : mx_R L xs zf ah_M190 0 [(0, .ref 4), (1, .int 4), (2, .int 0)] [] hh_a203 0 0 0 0 (fun v h' => v = some (.int (-1)) ∧ h' = hh_a203) := by
  refine mx_B 12 22 [(0, .ref 4), (1, .int 4), (2, .int 0)] [.int 4, .ref 4] (by decide +kernel) ?_
  refine mx_B 5 27 [(0, .ref 4), (1, .int 4), (2, .int 0)] [.int (-1)] (by decide +kernel) ?_
  exact mx_ret (some (.int (-1))) (by decide +kernel) ⟨rfl, rfl⟩
theorem iv_a457 (L : Nat) (xs : Nat → Int32) (zf : Value) (hz : zf.category = 1) : mx_R L xs zf ah_M221 0 [(0, .ref 21), (1, .int 1), (2, .int 4), (3, .int 0)] [] hh_a203 0 0 1 22 (fun v h' => v = some (.int (-1)) ∧ h' = hh_a203) := by
  refine mx_B 12 61 [(0, .ref 21), (1, .int 1), (2, .int 4), (3, .int 0)] [] (by decide +kernel) ?_
  refine mx_B 3 66 [(0, .ref 21), (1, .int 1), (2, .int 4), (3, .int 0)] [.int 0, .int 4, .ref 4] (by decide +kernel) ?_
  refine mx_call 190 3 [.ref 4, .int 4, .int 0] [] [(0, .ref 4), (1, .int 4), (2, .int 0)] (some (.int (-1))) hh_a203 0 0 0 0 0 0 69 [.int (-1)] ap_190 (by decide +kernel) (by decide +kernel) (iv_a456 L xs zf hz) ?_
  exact mx_ret (some (.int (-1))) (by decide +kernel) ⟨rfl, rfl⟩
theorem iv_a458 (L : Nat) (xs : Nat → Int32) (zf : Value) (hz : zf.category = 1) : mx_R L xs zf ah_M291 0 [(0, .int 4), (1, .int 0)] [] hh_a203 0 0 0 0 (fun v h' => v = some (.int (-1)) ∧ h' = hh_a203) := by
  refine mx_B 12 24 [(0, .int 4), (1, .int 0)] [.int 4] (by decide +kernel) ?_
  refine mx_B 4 33 [(0, .int 4), (1, .int 0)] [.int (-1)] (by decide +kernel) ?_
  exact mx_ret (some (.int (-1))) (by decide +kernel) ⟨rfl, rfl⟩
theorem iv_a459 (L : Nat) (xs : Nat → Int32) (zf : Value) (hz : zf.category = 1) : mx_R L xs zf ah_M289 0 [(0, .ref 36), (1, .int 1), (2, .int 4), (3, .int 0)] [] hh_a203 0 0 1 21 (fun v h' => v = some (.int (-1)) ∧ h' = hh_a203) := by
  refine mx_B 12 22 [(0, .ref 36), (1, .int 1), (2, .int 4), (3, .int 0)] [] (by decide +kernel) ?_
  refine mx_B 10 54 [(0, .ref 36), (1, .int 1), (2, .int 4), (3, .int 0)] [.int 0, .int 4] (by decide +kernel) ?_
  refine mx_call 291 3 [.int 4, .int 0] [] [(0, .int 4), (1, .int 0)] (some (.int (-1))) hh_a203 0 0 0 0 0 0 57 [.int (-1)] ap_291 (by decide +kernel) (by decide +kernel) (iv_a458 L xs zf hz) ?_
  exact mx_ret (some (.int (-1))) (by decide +kernel) ⟨rfl, rfl⟩
theorem iv_a460 (xs : Nat → Int32) (zf : Value) (hz : zf.category = 1) (hk : xs 0 &&& 15 = 5) (l1 : 1 ≤ (xs 1).toInt) (u1 : (xs 1).toInt ≤ 1) (l2 : 4 ≤ (xs 2).toInt) (u2 : (xs 2).toInt ≤ 4) (l3 : 0 ≤ (xs 3).toInt) (u3 : (xs 3).toInt ≤ 0) : mx_R 6 xs zf ah_M0 18 [(3, .int 0), (2, .ref 36), (1, .ref 21), (0, .ref 0)] [] hh_a203 0 0 2 45 (fun v h' => v = some (.int 1) ∧ h' = hh_a203) := by
  refine mx_B 2 20 [(3, .int 0), (2, .ref 36), (1, .ref 21), (0, .ref 0)] [.ref 0, .int 0] (by decide +kernel) ?_
  refine mx_S (.arraylength) 1 [] 21 [(3, .int 0), (2, .ref 36), (1, .ref 21), (0, .ref 0)] [.int 6, .int 0] (by decide +kernel) rfl ?_
  refine mx_B 5 29 [(3, .int 0), (2, .ref 36), (1, .ref 21), (0, .ref 0)] [.int 0, .ref 0] (by decide +kernel) ?_
  refine mx_scr 6 0 30 (by decide +kernel) (by decide +kernel) (by decide +kernel) ?_
  refine mx_S (.bipush 15) 2 [] 32 [(3, .int 0), (2, .ref 36), (1, .ref 21), (0, .ref 0)] [.int 15, .int (xs 0)] (by decide +kernel) rfl ?_
  refine mx_S (.iand) 1 [] 33 [(3, .int 0), (2, .ref 36), (1, .ref 21), (0, .ref 0)] [.int ((xs 0) &&& 15)] (by decide +kernel) rfl ?_
  refine mx_eq 5 hk ?_
  refine mx_B 6 254 [(3, .int 0), (2, .ref 36), (1, .ref 21), (0, .ref 0)] [.int 1, .ref 0, .ref 21] (by decide +kernel) ?_
  refine mx_scr 6 1 255 (by decide +kernel) (by decide +kernel) (by decide +kernel) ?_
  refine mx_eq 1 (mx_pt l1 u1 (by decide +kernel)) ?_
  refine mx_B 4 259 [(3, .int 0), (2, .ref 36), (1, .ref 21), (0, .ref 0)] [.int 2, .ref 0, .int 1, .ref 21] (by decide +kernel) ?_
  refine mx_scr 6 2 260 (by decide +kernel) (by decide +kernel) (by decide +kernel) ?_
  refine mx_eq 4 (mx_pt l2 u2 (by decide +kernel)) ?_
  refine mx_B 4 264 [(3, .int 0), (2, .ref 36), (1, .ref 21), (0, .ref 0)] [.int 3, .ref 0, .int 4, .int 1, .ref 21] (by decide +kernel) ?_
  refine mx_scr 6 3 265 (by decide +kernel) (by decide +kernel) (by decide +kernel) ?_
  refine mx_eq 0 (mx_pt l3 u3 (by decide +kernel)) ?_
  refine mx_call 221 3 [.ref 21, .int 1, .int 4, .int 0] [] [(0, .ref 21), (1, .int 1), (2, .int 4), (3, .int 0)] (some (.int (-1))) hh_a203 0 0 1 22 0 0 268 [.int (-1)] ap_221 (by decide +kernel) (by decide +kernel) (iv_a457 6 xs zf hz) ?_
  refine mx_B 5 273 [(3, .int 0), (2, .ref 36), (1, .ref 21), (0, .ref 0)] [.int 1, .ref 0, .ref 36, .int (-1)] (by decide +kernel) ?_
  refine mx_scr 6 1 274 (by decide +kernel) (by decide +kernel) (by decide +kernel) ?_
  refine mx_eq 1 (mx_pt l1 u1 (by decide +kernel)) ?_
  refine mx_B 4 278 [(3, .int 0), (2, .ref 36), (1, .ref 21), (0, .ref 0)] [.int 2, .ref 0, .int 1, .ref 36, .int (-1)] (by decide +kernel) ?_
  refine mx_scr 6 2 279 (by decide +kernel) (by decide +kernel) (by decide +kernel) ?_
  refine mx_eq 4 (mx_pt l2 u2 (by decide +kernel)) ?_
  refine mx_B 4 283 [(3, .int 0), (2, .ref 36), (1, .ref 21), (0, .ref 0)] [.int 3, .ref 0, .int 4, .int 1, .ref 36, .int (-1)] (by decide +kernel) ?_
  refine mx_scr 6 3 284 (by decide +kernel) (by decide +kernel) (by decide +kernel) ?_
  refine mx_eq 0 (mx_pt l3 u3 (by decide +kernel)) ?_
  refine mx_call 289 3 [.ref 36, .int 1, .int 4, .int 0] [.int (-1)] [(0, .ref 36), (1, .int 1), (2, .int 4), (3, .int 0)] (some (.int (-1))) hh_a203 0 0 1 21 0 0 287 [.int (-1), .int (-1)] ap_289 (by decide +kernel) (by decide +kernel) (iv_a459 6 xs zf hz) ?_
  refine mx_B 5 20 [(3, .int 6), (2, .ref 36), (1, .ref 21), (0, .ref 0)] [.ref 0, .int 6] (by decide +kernel) ?_
  refine mx_S (.arraylength) 1 [] 21 [(3, .int 6), (2, .ref 36), (1, .ref 21), (0, .ref 0)] [.int 6, .int 6] (by decide +kernel) rfl ?_
  refine mx_B 4 543 [(3, .int 6), (2, .ref 36), (1, .ref 21), (0, .ref 0)] [.int 1] (by decide +kernel) ?_
  exact mx_ret (some (.int 1)) (by decide +kernel) ⟨rfl, rfl⟩
theorem iv_a461 (L : Nat) (xs : Nat → Int32) (zf : Value) (hz : zf.category = 1) : mx_R L xs zf ah_M190 0 [(0, .ref 4), (1, .int 4), (2, .int 1)] [] hh_a203 0 0 0 0 (fun v h' => v = some (.int 4) ∧ h' = hh_a203) := by
  refine mx_B 12 22 [(0, .ref 4), (1, .int 4), (2, .int 1)] [.int 4, .ref 4] (by decide +kernel) ?_
  refine mx_B 5 27 [(0, .ref 4), (1, .int 4), (2, .int 1)] [.int 4] (by decide +kernel) ?_
  exact mx_ret (some (.int 4)) (by decide +kernel) ⟨rfl, rfl⟩
theorem iv_a462 (L : Nat) (xs : Nat → Int32) (zf : Value) (hz : zf.category = 1) : mx_R L xs zf ah_M221 0 [(0, .ref 21), (1, .int 1), (2, .int 4), (3, .int 1)] [] hh_a203 0 0 1 22 (fun v h' => v = some (.int 4) ∧ h' = hh_a203) := by
  refine mx_B 12 61 [(0, .ref 21), (1, .int 1), (2, .int 4), (3, .int 1)] [] (by decide +kernel) ?_
  refine mx_B 3 66 [(0, .ref 21), (1, .int 1), (2, .int 4), (3, .int 1)] [.int 1, .int 4, .ref 4] (by decide +kernel) ?_
  refine mx_call 190 3 [.ref 4, .int 4, .int 1] [] [(0, .ref 4), (1, .int 4), (2, .int 1)] (some (.int 4)) hh_a203 0 0 0 0 0 0 69 [.int 4] ap_190 (by decide +kernel) (by decide +kernel) (iv_a461 L xs zf hz) ?_
  exact mx_ret (some (.int 4)) (by decide +kernel) ⟨rfl, rfl⟩
theorem iv_a463 (L : Nat) (xs : Nat → Int32) (zf : Value) (hz : zf.category = 1) : mx_R L xs zf ah_M291 0 [(0, .int 4), (1, .int 1)] [] hh_a203 0 0 0 0 (fun v h' => v = some (.int 4) ∧ h' = hh_a203) := by
  refine mx_B 12 35 [(0, .int 4), (1, .int 1)] [.int 4] (by decide +kernel) ?_
  refine mx_B 2 43 [(0, .int 4), (1, .int 1)] [.int 4] (by decide +kernel) ?_
  exact mx_ret (some (.int 4)) (by decide +kernel) ⟨rfl, rfl⟩
theorem iv_a464 (L : Nat) (xs : Nat → Int32) (zf : Value) (hz : zf.category = 1) : mx_R L xs zf ah_M289 0 [(0, .ref 36), (1, .int 1), (2, .int 4), (3, .int 1)] [] hh_a203 0 0 1 21 (fun v h' => v = some (.int 4) ∧ h' = hh_a203) := by
  refine mx_B 12 22 [(0, .ref 36), (1, .int 1), (2, .int 4), (3, .int 1)] [] (by decide +kernel) ?_
  refine mx_B 10 54 [(0, .ref 36), (1, .int 1), (2, .int 4), (3, .int 1)] [.int 1, .int 4] (by decide +kernel) ?_
  refine mx_call 291 3 [.int 4, .int 1] [] [(0, .int 4), (1, .int 1)] (some (.int 4)) hh_a203 0 0 0 0 0 0 57 [.int 4] ap_291 (by decide +kernel) (by decide +kernel) (iv_a463 L xs zf hz) ?_
  exact mx_ret (some (.int 4)) (by decide +kernel) ⟨rfl, rfl⟩
theorem iv_a465 (xs : Nat → Int32) (zf : Value) (hz : zf.category = 1) (hk : xs 0 &&& 15 = 5) (l1 : 1 ≤ (xs 1).toInt) (u1 : (xs 1).toInt ≤ 1) (l2 : 4 ≤ (xs 2).toInt) (u2 : (xs 2).toInt ≤ 4) (l3 : 1 ≤ (xs 3).toInt) (u3 : (xs 3).toInt ≤ 1) : mx_R 6 xs zf ah_M0 18 [(3, .int 0), (2, .ref 36), (1, .ref 21), (0, .ref 0)] [] hh_a203 0 0 2 45 (fun v h' => v = some (.int 1) ∧ h' = hh_a203) := by
  refine mx_B 2 20 [(3, .int 0), (2, .ref 36), (1, .ref 21), (0, .ref 0)] [.ref 0, .int 0] (by decide +kernel) ?_
  refine mx_S (.arraylength) 1 [] 21 [(3, .int 0), (2, .ref 36), (1, .ref 21), (0, .ref 0)] [.int 6, .int 0] (by decide +kernel) rfl ?_
  refine mx_B 5 29 [(3, .int 0), (2, .ref 36), (1, .ref 21), (0, .ref 0)] [.int 0, .ref 0] (by decide +kernel) ?_
  refine mx_scr 6 0 30 (by decide +kernel) (by decide +kernel) (by decide +kernel) ?_
  refine mx_S (.bipush 15) 2 [] 32 [(3, .int 0), (2, .ref 36), (1, .ref 21), (0, .ref 0)] [.int 15, .int (xs 0)] (by decide +kernel) rfl ?_
  refine mx_S (.iand) 1 [] 33 [(3, .int 0), (2, .ref 36), (1, .ref 21), (0, .ref 0)] [.int ((xs 0) &&& 15)] (by decide +kernel) rfl ?_
  refine mx_eq 5 hk ?_
  refine mx_B 6 254 [(3, .int 0), (2, .ref 36), (1, .ref 21), (0, .ref 0)] [.int 1, .ref 0, .ref 21] (by decide +kernel) ?_
  refine mx_scr 6 1 255 (by decide +kernel) (by decide +kernel) (by decide +kernel) ?_
  refine mx_eq 1 (mx_pt l1 u1 (by decide +kernel)) ?_
  refine mx_B 4 259 [(3, .int 0), (2, .ref 36), (1, .ref 21), (0, .ref 0)] [.int 2, .ref 0, .int 1, .ref 21] (by decide +kernel) ?_
  refine mx_scr 6 2 260 (by decide +kernel) (by decide +kernel) (by decide +kernel) ?_
  refine mx_eq 4 (mx_pt l2 u2 (by decide +kernel)) ?_
  refine mx_B 4 264 [(3, .int 0), (2, .ref 36), (1, .ref 21), (0, .ref 0)] [.int 3, .ref 0, .int 4, .int 1, .ref 21] (by decide +kernel) ?_
  refine mx_scr 6 3 265 (by decide +kernel) (by decide +kernel) (by decide +kernel) ?_
  refine mx_eq 1 (mx_pt l3 u3 (by decide +kernel)) ?_
  refine mx_call 221 3 [.ref 21, .int 1, .int 4, .int 1] [] [(0, .ref 21), (1, .int 1), (2, .int 4), (3, .int 1)] (some (.int 4)) hh_a203 0 0 1 22 0 0 268 [.int 4] ap_221 (by decide +kernel) (by decide +kernel) (iv_a462 6 xs zf hz) ?_
  refine mx_B 5 273 [(3, .int 0), (2, .ref 36), (1, .ref 21), (0, .ref 0)] [.int 1, .ref 0, .ref 36, .int 4] (by decide +kernel) ?_
  refine mx_scr 6 1 274 (by decide +kernel) (by decide +kernel) (by decide +kernel) ?_
  refine mx_eq 1 (mx_pt l1 u1 (by decide +kernel)) ?_
  refine mx_B 4 278 [(3, .int 0), (2, .ref 36), (1, .ref 21), (0, .ref 0)] [.int 2, .ref 0, .int 1, .ref 36, .int 4] (by decide +kernel) ?_
  refine mx_scr 6 2 279 (by decide +kernel) (by decide +kernel) (by decide +kernel) ?_
  refine mx_eq 4 (mx_pt l2 u2 (by decide +kernel)) ?_
  refine mx_B 4 283 [(3, .int 0), (2, .ref 36), (1, .ref 21), (0, .ref 0)] [.int 3, .ref 0, .int 4, .int 1, .ref 36, .int 4] (by decide +kernel) ?_
  refine mx_scr 6 3 284 (by decide +kernel) (by decide +kernel) (by decide +kernel) ?_
  refine mx_eq 1 (mx_pt l3 u3 (by decide +kernel)) ?_
  refine mx_call 289 3 [.ref 36, .int 1, .int 4, .int 1] [.int 4] [(0, .ref 36), (1, .int 1), (2, .int 4), (3, .int 1)] (some (.int 4)) hh_a203 0 0 1 21 0 0 287 [.int 4, .int 4] ap_289 (by decide +kernel) (by decide +kernel) (iv_a464 6 xs zf hz) ?_
  refine mx_B 5 20 [(3, .int 6), (2, .ref 36), (1, .ref 21), (0, .ref 0)] [.ref 0, .int 6] (by decide +kernel) ?_
  refine mx_S (.arraylength) 1 [] 21 [(3, .int 6), (2, .ref 36), (1, .ref 21), (0, .ref 0)] [.int 6, .int 6] (by decide +kernel) rfl ?_
  refine mx_B 4 543 [(3, .int 6), (2, .ref 36), (1, .ref 21), (0, .ref 0)] [.int 1] (by decide +kernel) ?_
  exact mx_ret (some (.int 1)) (by decide +kernel) ⟨rfl, rfl⟩
theorem iv_a466 (L : Nat) (xs : Nat → Int32) (zf : Value) (hz : zf.category = 1) : mx_R L xs zf ah_M190 0 [(0, .ref 4), (1, .int 4), (2, .int 2)] [] hh_a203 0 0 0 0 (fun v h' => v = some (.int 4) ∧ h' = hh_a203) := by
  refine mx_B 12 22 [(0, .ref 4), (1, .int 4), (2, .int 2)] [.int 4, .ref 4] (by decide +kernel) ?_
  refine mx_B 5 27 [(0, .ref 4), (1, .int 4), (2, .int 2)] [.int 4] (by decide +kernel) ?_
  exact mx_ret (some (.int 4)) (by decide +kernel) ⟨rfl, rfl⟩
theorem iv_a467 (L : Nat) (xs : Nat → Int32) (zf : Value) (hz : zf.category = 1) : mx_R L xs zf ah_M221 0 [(0, .ref 21), (1, .int 1), (2, .int 4), (3, .int 2)] [] hh_a203 0 0 1 22 (fun v h' => v = some (.int 4) ∧ h' = hh_a203) := by
  refine mx_B 12 61 [(0, .ref 21), (1, .int 1), (2, .int 4), (3, .int 2)] [] (by decide +kernel) ?_
  refine mx_B 3 66 [(0, .ref 21), (1, .int 1), (2, .int 4), (3, .int 2)] [.int 2, .int 4, .ref 4] (by decide +kernel) ?_
  refine mx_call 190 3 [.ref 4, .int 4, .int 2] [] [(0, .ref 4), (1, .int 4), (2, .int 2)] (some (.int 4)) hh_a203 0 0 0 0 0 0 69 [.int 4] ap_190 (by decide +kernel) (by decide +kernel) (iv_a466 L xs zf hz) ?_
  exact mx_ret (some (.int 4)) (by decide +kernel) ⟨rfl, rfl⟩
theorem iv_a468 (L : Nat) (xs : Nat → Int32) (zf : Value) (hz : zf.category = 1) : mx_R L xs zf ah_M291 0 [(0, .int 4), (1, .int 2)] [] hh_a203 0 0 0 0 (fun v h' => v = some (.int 4) ∧ h' = hh_a203) := by
  refine mx_B 12 35 [(0, .int 4), (1, .int 2)] [.int 4] (by decide +kernel) ?_
  refine mx_B 2 43 [(0, .int 4), (1, .int 2)] [.int 4] (by decide +kernel) ?_
  exact mx_ret (some (.int 4)) (by decide +kernel) ⟨rfl, rfl⟩
theorem iv_a469 (L : Nat) (xs : Nat → Int32) (zf : Value) (hz : zf.category = 1) : mx_R L xs zf ah_M289 0 [(0, .ref 36), (1, .int 1), (2, .int 4), (3, .int 2)] [] hh_a203 0 0 1 21 (fun v h' => v = some (.int 4) ∧ h' = hh_a203) := by
  refine mx_B 12 22 [(0, .ref 36), (1, .int 1), (2, .int 4), (3, .int 2)] [] (by decide +kernel) ?_
  refine mx_B 10 54 [(0, .ref 36), (1, .int 1), (2, .int 4), (3, .int 2)] [.int 2, .int 4] (by decide +kernel) ?_
  refine mx_call 291 3 [.int 4, .int 2] [] [(0, .int 4), (1, .int 2)] (some (.int 4)) hh_a203 0 0 0 0 0 0 57 [.int 4] ap_291 (by decide +kernel) (by decide +kernel) (iv_a468 L xs zf hz) ?_
  exact mx_ret (some (.int 4)) (by decide +kernel) ⟨rfl, rfl⟩
theorem iv_a470 (xs : Nat → Int32) (zf : Value) (hz : zf.category = 1) (hk : xs 0 &&& 15 = 5) (l1 : 1 ≤ (xs 1).toInt) (u1 : (xs 1).toInt ≤ 1) (l2 : 4 ≤ (xs 2).toInt) (u2 : (xs 2).toInt ≤ 4) (l3 : 2 ≤ (xs 3).toInt) (u3 : (xs 3).toInt ≤ 2) : mx_R 6 xs zf ah_M0 18 [(3, .int 0), (2, .ref 36), (1, .ref 21), (0, .ref 0)] [] hh_a203 0 0 2 45 (fun v h' => v = some (.int 1) ∧ h' = hh_a203) := by
  refine mx_B 2 20 [(3, .int 0), (2, .ref 36), (1, .ref 21), (0, .ref 0)] [.ref 0, .int 0] (by decide +kernel) ?_
  refine mx_S (.arraylength) 1 [] 21 [(3, .int 0), (2, .ref 36), (1, .ref 21), (0, .ref 0)] [.int 6, .int 0] (by decide +kernel) rfl ?_
  refine mx_B 5 29 [(3, .int 0), (2, .ref 36), (1, .ref 21), (0, .ref 0)] [.int 0, .ref 0] (by decide +kernel) ?_
  refine mx_scr 6 0 30 (by decide +kernel) (by decide +kernel) (by decide +kernel) ?_
  refine mx_S (.bipush 15) 2 [] 32 [(3, .int 0), (2, .ref 36), (1, .ref 21), (0, .ref 0)] [.int 15, .int (xs 0)] (by decide +kernel) rfl ?_
  refine mx_S (.iand) 1 [] 33 [(3, .int 0), (2, .ref 36), (1, .ref 21), (0, .ref 0)] [.int ((xs 0) &&& 15)] (by decide +kernel) rfl ?_
  refine mx_eq 5 hk ?_
  refine mx_B 6 254 [(3, .int 0), (2, .ref 36), (1, .ref 21), (0, .ref 0)] [.int 1, .ref 0, .ref 21] (by decide +kernel) ?_
  refine mx_scr 6 1 255 (by decide +kernel) (by decide +kernel) (by decide +kernel) ?_
  refine mx_eq 1 (mx_pt l1 u1 (by decide +kernel)) ?_
  refine mx_B 4 259 [(3, .int 0), (2, .ref 36), (1, .ref 21), (0, .ref 0)] [.int 2, .ref 0, .int 1, .ref 21] (by decide +kernel) ?_
  refine mx_scr 6 2 260 (by decide +kernel) (by decide +kernel) (by decide +kernel) ?_
  refine mx_eq 4 (mx_pt l2 u2 (by decide +kernel)) ?_
  refine mx_B 4 264 [(3, .int 0), (2, .ref 36), (1, .ref 21), (0, .ref 0)] [.int 3, .ref 0, .int 4, .int 1, .ref 21] (by decide +kernel) ?_
  refine mx_scr 6 3 265 (by decide +kernel) (by decide +kernel) (by decide +kernel) ?_
  refine mx_eq 2 (mx_pt l3 u3 (by decide +kernel)) ?_
  refine mx_call 221 3 [.ref 21, .int 1, .int 4, .int 2] [] [(0, .ref 21), (1, .int 1), (2, .int 4), (3, .int 2)] (some (.int 4)) hh_a203 0 0 1 22 0 0 268 [.int 4] ap_221 (by decide +kernel) (by decide +kernel) (iv_a467 6 xs zf hz) ?_
  refine mx_B 5 273 [(3, .int 0), (2, .ref 36), (1, .ref 21), (0, .ref 0)] [.int 1, .ref 0, .ref 36, .int 4] (by decide +kernel) ?_
  refine mx_scr 6 1 274 (by decide +kernel) (by decide +kernel) (by decide +kernel) ?_
  refine mx_eq 1 (mx_pt l1 u1 (by decide +kernel)) ?_
  refine mx_B 4 278 [(3, .int 0), (2, .ref 36), (1, .ref 21), (0, .ref 0)] [.int 2, .ref 0, .int 1, .ref 36, .int 4] (by decide +kernel) ?_
  refine mx_scr 6 2 279 (by decide +kernel) (by decide +kernel) (by decide +kernel) ?_
  refine mx_eq 4 (mx_pt l2 u2 (by decide +kernel)) ?_
  refine mx_B 4 283 [(3, .int 0), (2, .ref 36), (1, .ref 21), (0, .ref 0)] [.int 3, .ref 0, .int 4, .int 1, .ref 36, .int 4] (by decide +kernel) ?_
  refine mx_scr 6 3 284 (by decide +kernel) (by decide +kernel) (by decide +kernel) ?_
  refine mx_eq 2 (mx_pt l3 u3 (by decide +kernel)) ?_
  refine mx_call 289 3 [.ref 36, .int 1, .int 4, .int 2] [.int 4] [(0, .ref 36), (1, .int 1), (2, .int 4), (3, .int 2)] (some (.int 4)) hh_a203 0 0 1 21 0 0 287 [.int 4, .int 4] ap_289 (by decide +kernel) (by decide +kernel) (iv_a469 6 xs zf hz) ?_
  refine mx_B 5 20 [(3, .int 6), (2, .ref 36), (1, .ref 21), (0, .ref 0)] [.ref 0, .int 6] (by decide +kernel) ?_
  refine mx_S (.arraylength) 1 [] 21 [(3, .int 6), (2, .ref 36), (1, .ref 21), (0, .ref 0)] [.int 6, .int 6] (by decide +kernel) rfl ?_
  refine mx_B 4 543 [(3, .int 6), (2, .ref 36), (1, .ref 21), (0, .ref 0)] [.int 1] (by decide +kernel) ?_
  exact mx_ret (some (.int 1)) (by decide +kernel) ⟨rfl, rfl⟩
theorem iv_a471 (L : Nat) (xs : Nat → Int32) (zf : Value) (hz : zf.category = 1) : mx_R L xs zf ah_M190 0 [(0, .ref 4), (1, .int 4), (2, .int 3)] [] hh_a203 0 0 0 0 (fun v h' => v = some (.int 3) ∧ h' = hh_a203) := by
  refine mx_B 12 22 [(0, .ref 4), (1, .int 4), (2, .int 3)] [.int 4, .ref 4] (by decide +kernel) ?_
  refine mx_B 5 27 [(0, .ref 4), (1, .int 4), (2, .int 3)] [.int 3] (by decide +kernel) ?_
  exact mx_ret (some (.int 3)) (by decide +kernel) ⟨rfl, rfl⟩
theorem iv_a472 (L : Nat) (xs : Nat → Int32) (zf : Value) (hz : zf.category = 1) : mx_R L xs zf ah_M221 0 [(0, .ref 21), (1, .int 1), (2, .int 4), (3, .int 3)] [] hh_a203 0 0 1 22 (fun v h' => v = some (.int 3) ∧ h' = hh_a203) := by
  refine mx_B 12 61 [(0, .ref 21), (1, .int 1), (2, .int 4), (3, .int 3)] [] (by decide +kernel) ?_
  refine mx_B 3 66 [(0, .ref 21), (1, .int 1), (2, .int 4), (3, .int 3)] [.int 3, .int 4, .ref 4] (by decide +kernel) ?_
  refine mx_call 190 3 [.ref 4, .int 4, .int 3] [] [(0, .ref 4), (1, .int 4), (2, .int 3)] (some (.int 3)) hh_a203 0 0 0 0 0 0 69 [.int 3] ap_190 (by decide +kernel) (by decide +kernel) (iv_a471 L xs zf hz) ?_
  exact mx_ret (some (.int 3)) (by decide +kernel) ⟨rfl, rfl⟩
theorem iv_a473 (L : Nat) (xs : Nat → Int32) (zf : Value) (hz : zf.category = 1) : mx_R L xs zf ah_M291 0 [(0, .int 4), (1, .int 3)] [] hh_a203 0 0 0 0 (fun v h' => v = some (.int 3) ∧ h' = hh_a203) := by
  refine mx_B 10 18 [(0, .int 4), (1, .int 3)] [.int 3] (by decide +kernel) ?_
  exact mx_ret (some (.int 3)) (by decide +kernel) ⟨rfl, rfl⟩
theorem iv_a474 (L : Nat) (xs : Nat → Int32) (zf : Value) (hz : zf.category = 1) : mx_R L xs zf ah_M289 0 [(0, .ref 36), (1, .int 1), (2, .int 4), (3, .int 3)] [] hh_a203 0 0 1 21 (fun v h' => v = some (.int 3) ∧ h' = hh_a203) := by
  refine mx_B 12 22 [(0, .ref 36), (1, .int 1), (2, .int 4), (3, .int 3)] [] (by decide +kernel) ?_
  refine mx_B 10 54 [(0, .ref 36), (1, .int 1), (2, .int 4), (3, .int 3)] [.int 3, .int 4] (by decide +kernel) ?_
  refine mx_call 291 3 [.int 4, .int 3] [] [(0, .int 4), (1, .int 3)] (some (.int 3)) hh_a203 0 0 0 0 0 0 57 [.int 3] ap_291 (by decide +kernel) (by decide +kernel) (iv_a473 L xs zf hz) ?_
  exact mx_ret (some (.int 3)) (by decide +kernel) ⟨rfl, rfl⟩
theorem iv_a475 (xs : Nat → Int32) (zf : Value) (hz : zf.category = 1) (hk : xs 0 &&& 15 = 5) (l1 : 1 ≤ (xs 1).toInt) (u1 : (xs 1).toInt ≤ 1) (l2 : 4 ≤ (xs 2).toInt) (u2 : (xs 2).toInt ≤ 4) (l3 : 3 ≤ (xs 3).toInt) (u3 : (xs 3).toInt ≤ 3) : mx_R 6 xs zf ah_M0 18 [(3, .int 0), (2, .ref 36), (1, .ref 21), (0, .ref 0)] [] hh_a203 0 0 2 45 (fun v h' => v = some (.int 1) ∧ h' = hh_a203) := by
  refine mx_B 2 20 [(3, .int 0), (2, .ref 36), (1, .ref 21), (0, .ref 0)] [.ref 0, .int 0] (by decide +kernel) ?_
  refine mx_S (.arraylength) 1 [] 21 [(3, .int 0), (2, .ref 36), (1, .ref 21), (0, .ref 0)] [.int 6, .int 0] (by decide +kernel) rfl ?_
  refine mx_B 5 29 [(3, .int 0), (2, .ref 36), (1, .ref 21), (0, .ref 0)] [.int 0, .ref 0] (by decide +kernel) ?_
  refine mx_scr 6 0 30 (by decide +kernel) (by decide +kernel) (by decide +kernel) ?_
  refine mx_S (.bipush 15) 2 [] 32 [(3, .int 0), (2, .ref 36), (1, .ref 21), (0, .ref 0)] [.int 15, .int (xs 0)] (by decide +kernel) rfl ?_
  refine mx_S (.iand) 1 [] 33 [(3, .int 0), (2, .ref 36), (1, .ref 21), (0, .ref 0)] [.int ((xs 0) &&& 15)] (by decide +kernel) rfl ?_
  refine mx_eq 5 hk ?_
  refine mx_B 6 254 [(3, .int 0), (2, .ref 36), (1, .ref 21), (0, .ref 0)] [.int 1, .ref 0, .ref 21] (by decide +kernel) ?_
  refine mx_scr 6 1 255 (by decide +kernel) (by decide +kernel) (by decide +kernel) ?_
  refine mx_eq 1 (mx_pt l1 u1 (by decide +kernel)) ?_
  refine mx_B 4 259 [(3, .int 0), (2, .ref 36), (1, .ref 21), (0, .ref 0)] [.int 2, .ref 0, .int 1, .ref 21] (by decide +kernel) ?_
  refine mx_scr 6 2 260 (by decide +kernel) (by decide +kernel) (by decide +kernel) ?_
  refine mx_eq 4 (mx_pt l2 u2 (by decide +kernel)) ?_
  refine mx_B 4 264 [(3, .int 0), (2, .ref 36), (1, .ref 21), (0, .ref 0)] [.int 3, .ref 0, .int 4, .int 1, .ref 21] (by decide +kernel) ?_
  refine mx_scr 6 3 265 (by decide +kernel) (by decide +kernel) (by decide +kernel) ?_
  refine mx_eq 3 (mx_pt l3 u3 (by decide +kernel)) ?_
  refine mx_call 221 3 [.ref 21, .int 1, .int 4, .int 3] [] [(0, .ref 21), (1, .int 1), (2, .int 4), (3, .int 3)] (some (.int 3)) hh_a203 0 0 1 22 0 0 268 [.int 3] ap_221 (by decide +kernel) (by decide +kernel) (iv_a472 6 xs zf hz) ?_
  refine mx_B 5 273 [(3, .int 0), (2, .ref 36), (1, .ref 21), (0, .ref 0)] [.int 1, .ref 0, .ref 36, .int 3] (by decide +kernel) ?_
  refine mx_scr 6 1 274 (by decide +kernel) (by decide +kernel) (by decide +kernel) ?_
  refine mx_eq 1 (mx_pt l1 u1 (by decide +kernel)) ?_
  refine mx_B 4 278 [(3, .int 0), (2, .ref 36), (1, .ref 21), (0, .ref 0)] [.int 2, .ref 0, .int 1, .ref 36, .int 3] (by decide +kernel) ?_
  refine mx_scr 6 2 279 (by decide +kernel) (by decide +kernel) (by decide +kernel) ?_
  refine mx_eq 4 (mx_pt l2 u2 (by decide +kernel)) ?_
  refine mx_B 4 283 [(3, .int 0), (2, .ref 36), (1, .ref 21), (0, .ref 0)] [.int 3, .ref 0, .int 4, .int 1, .ref 36, .int 3] (by decide +kernel) ?_
  refine mx_scr 6 3 284 (by decide +kernel) (by decide +kernel) (by decide +kernel) ?_
  refine mx_eq 3 (mx_pt l3 u3 (by decide +kernel)) ?_
  refine mx_call 289 3 [.ref 36, .int 1, .int 4, .int 3] [.int 3] [(0, .ref 36), (1, .int 1), (2, .int 4), (3, .int 3)] (some (.int 3)) hh_a203 0 0 1 21 0 0 287 [.int 3, .int 3] ap_289 (by decide +kernel) (by decide +kernel) (iv_a474 6 xs zf hz) ?_
  refine mx_B 5 20 [(3, .int 6), (2, .ref 36), (1, .ref 21), (0, .ref 0)] [.ref 0, .int 6] (by decide +kernel) ?_
  refine mx_S (.arraylength) 1 [] 21 [(3, .int 6), (2, .ref 36), (1, .ref 21), (0, .ref 0)] [.int 6, .int 6] (by decide +kernel) rfl ?_
  refine mx_B 4 543 [(3, .int 6), (2, .ref 36), (1, .ref 21), (0, .ref 0)] [.int 1] (by decide +kernel) ?_
  exact mx_ret (some (.int 1)) (by decide +kernel) ⟨rfl, rfl⟩
theorem iv_a476 (L : Nat) (xs : Nat → Int32) (zf : Value) (hz : zf.category = 1) : mx_R L xs zf ah_M190 0 [(0, .ref 4), (1, .int 4), (2, .int 4)] [] hh_a203 0 0 0 0 (fun v h' => v = some (.int 4) ∧ h' = hh_a203) := by
  refine mx_B 12 22 [(0, .ref 4), (1, .int 4), (2, .int 4)] [.int 4, .ref 4] (by decide +kernel) ?_
  refine mx_B 5 27 [(0, .ref 4), (1, .int 4), (2, .int 4)] [.int 4] (by decide +kernel) ?_
  exact mx_ret (some (.int 4)) (by decide +kernel) ⟨rfl, rfl⟩
theorem iv_a477 (L : Nat) (xs : Nat → Int32) (zf : Value) (hz : zf.category = 1) : mx_R L xs zf ah_M221 0 [(0, .ref 21), (1, .int 1), (2, .int 4), (3, .int 4)] [] hh_a203 0 0 1 22 (fun v h' => v = some (.int 4) ∧ h' = hh_a203) := by
  refine mx_B 12 61 [(0, .ref 21), (1, .int 1), (2, .int 4), (3, .int 4)] [] (by decide +kernel) ?_
  refine mx_B 3 66 [(0, .ref 21), (1, .int 1), (2, .int 4), (3, .int 4)] [.int 4, .int 4, .ref 4] (by decide +kernel) ?_
  refine mx_call 190 3 [.ref 4, .int 4, .int 4] [] [(0, .ref 4), (1, .int 4), (2, .int 4)] (some (.int 4)) hh_a203 0 0 0 0 0 0 69 [.int 4] ap_190 (by decide +kernel) (by decide +kernel) (iv_a476 L xs zf hz) ?_
  exact mx_ret (some (.int 4)) (by decide +kernel) ⟨rfl, rfl⟩
theorem iv_a478 (L : Nat) (xs : Nat → Int32) (zf : Value) (hz : zf.category = 1) : mx_R L xs zf ah_M291 0 [(0, .int 4), (1, .int 4)] [] hh_a203 0 0 0 0 (fun v h' => v = some (.int 4) ∧ h' = hh_a203) := by
  refine mx_B 12 35 [(0, .int 4), (1, .int 4)] [.int 4] (by decide +kernel) ?_
  refine mx_B 2 43 [(0, .int 4), (1, .int 4)] [.int 4] (by decide +kernel) ?_
  exact mx_ret (some (.int 4)) (by decide +kernel) ⟨rfl, rfl⟩
theorem iv_a479 (L : Nat) (xs : Nat → Int32) (zf : Value) (hz : zf.category = 1) : mx_R L xs zf ah_M289 0 [(0, .ref 36), (1, .int 1), (2, .int 4), (3, .int 4)] [] hh_a203 0 0 1 21 (fun v h' => v = some (.int 4) ∧ h' = hh_a203) := by
  refine mx_B 12 22 [(0, .ref 36), (1, .int 1), (2, .int 4), (3, .int 4)] [] (by decide +kernel) ?_
  refine mx_B 10 54 [(0, .ref 36), (1, .int 1), (2, .int 4), (3, .int 4)] [.int 4, .int 4] (by decide +kernel) ?_
  refine mx_call 291 3 [.int 4, .int 4] [] [(0, .int 4), (1, .int 4)] (some (.int 4)) hh_a203 0 0 0 0 0 0 57 [.int 4] ap_291 (by decide +kernel) (by decide +kernel) (iv_a478 L xs zf hz) ?_
  exact mx_ret (some (.int 4)) (by decide +kernel) ⟨rfl, rfl⟩
theorem iv_a480 (xs : Nat → Int32) (zf : Value) (hz : zf.category = 1) (hk : xs 0 &&& 15 = 5) (l1 : 1 ≤ (xs 1).toInt) (u1 : (xs 1).toInt ≤ 1) (l2 : 4 ≤ (xs 2).toInt) (u2 : (xs 2).toInt ≤ 4) (l3 : 4 ≤ (xs 3).toInt) (u3 : (xs 3).toInt ≤ 4) : mx_R 6 xs zf ah_M0 18 [(3, .int 0), (2, .ref 36), (1, .ref 21), (0, .ref 0)] [] hh_a203 0 0 2 45 (fun v h' => v = some (.int 1) ∧ h' = hh_a203) := by
  refine mx_B 2 20 [(3, .int 0), (2, .ref 36), (1, .ref 21), (0, .ref 0)] [.ref 0, .int 0] (by decide +kernel) ?_
  refine mx_S (.arraylength) 1 [] 21 [(3, .int 0), (2, .ref 36), (1, .ref 21), (0, .ref 0)] [.int 6, .int 0] (by decide +kernel) rfl ?_
  refine mx_B 5 29 [(3, .int 0), (2, .ref 36), (1, .ref 21), (0, .ref 0)] [.int 0, .ref 0] (by decide +kernel) ?_
  refine mx_scr 6 0 30 (by decide +kernel) (by decide +kernel) (by decide +kernel) ?_
  refine mx_S (.bipush 15) 2 [] 32 [(3, .int 0), (2, .ref 36), (1, .ref 21), (0, .ref 0)] [.int 15, .int (xs 0)] (by decide +kernel) rfl ?_
  refine mx_S (.iand) 1 [] 33 [(3, .int 0), (2, .ref 36), (1, .ref 21), (0, .ref 0)] [.int ((xs 0) &&& 15)] (by decide +kernel) rfl ?_
  refine mx_eq 5 hk ?_
  refine mx_B 6 254 [(3, .int 0), (2, .ref 36), (1, .ref 21), (0, .ref 0)] [.int 1, .ref 0, .ref 21] (by decide +kernel) ?_
  refine mx_scr 6 1 255 (by decide +kernel) (by decide +kernel) (by decide +kernel) ?_
  refine mx_eq 1 (mx_pt l1 u1 (by decide +kernel)) ?_
  refine mx_B 4 259 [(3, .int 0), (2, .ref 36), (1, .ref 21), (0, .ref 0)] [.int 2, .ref 0, .int 1, .ref 21] (by decide +kernel) ?_
  refine mx_scr 6 2 260 (by decide +kernel) (by decide +kernel) (by decide +kernel) ?_
  refine mx_eq 4 (mx_pt l2 u2 (by decide +kernel)) ?_
  refine mx_B 4 264 [(3, .int 0), (2, .ref 36), (1, .ref 21), (0, .ref 0)] [.int 3, .ref 0, .int 4, .int 1, .ref 21] (by decide +kernel) ?_
  refine mx_scr 6 3 265 (by decide +kernel) (by decide +kernel) (by decide +kernel) ?_
  refine mx_eq 4 (mx_pt l3 u3 (by decide +kernel)) ?_
  refine mx_call 221 3 [.ref 21, .int 1, .int 4, .int 4] [] [(0, .ref 21), (1, .int 1), (2, .int 4), (3, .int 4)] (some (.int 4)) hh_a203 0 0 1 22 0 0 268 [.int 4] ap_221 (by decide +kernel) (by decide +kernel) (iv_a477 6 xs zf hz) ?_
  refine mx_B 5 273 [(3, .int 0), (2, .ref 36), (1, .ref 21), (0, .ref 0)] [.int 1, .ref 0, .ref 36, .int 4] (by decide +kernel) ?_
  refine mx_scr 6 1 274 (by decide +kernel) (by decide +kernel) (by decide +kernel) ?_
  refine mx_eq 1 (mx_pt l1 u1 (by decide +kernel)) ?_
  refine mx_B 4 278 [(3, .int 0), (2, .ref 36), (1, .ref 21), (0, .ref 0)] [.int 2, .ref 0, .int 1, .ref 36, .int 4] (by decide +kernel) ?_
  refine mx_scr 6 2 279 (by decide +kernel) (by decide +kernel) (by decide +kernel) ?_
  refine mx_eq 4 (mx_pt l2 u2 (by decide +kernel)) ?_
  refine mx_B 4 283 [(3, .int 0), (2, .ref 36), (1, .ref 21), (0, .ref 0)] [.int 3, .ref 0, .int 4, .int 1, .ref 36, .int 4] (by decide +kernel) ?_
  refine mx_scr 6 3 284 (by decide +kernel) (by decide +kernel) (by decide +kernel) ?_
  refine mx_eq 4 (mx_pt l3 u3 (by decide +kernel)) ?_
  refine mx_call 289 3 [.ref 36, .int 1, .int 4, .int 4] [.int 4] [(0, .ref 36), (1, .int 1), (2, .int 4), (3, .int 4)] (some (.int 4)) hh_a203 0 0 1 21 0 0 287 [.int 4, .int 4] ap_289 (by decide +kernel) (by decide +kernel) (iv_a479 6 xs zf hz) ?_
  refine mx_B 5 20 [(3, .int 6), (2, .ref 36), (1, .ref 21), (0, .ref 0)] [.ref 0, .int 6] (by decide +kernel) ?_
  refine mx_S (.arraylength) 1 [] 21 [(3, .int 6), (2, .ref 36), (1, .ref 21), (0, .ref 0)] [.int 6, .int 6] (by decide +kernel) rfl ?_
  refine mx_B 4 543 [(3, .int 6), (2, .ref 36), (1, .ref 21), (0, .ref 0)] [.int 1] (by decide +kernel) ?_
  exact mx_ret (some (.int 1)) (by decide +kernel) ⟨rfl, rfl⟩
theorem iv_a481 (L : Nat) (xs : Nat → Int32) (zf : Value) (hz : zf.category = 1) : mx_R L xs zf ah_M190 0 [(0, .ref 3), (1, .int 0), (2, .int 0)] [] hh_a203 0 0 0 0 (fun v h' => v = some (.int 0) ∧ h' = hh_a203) := by
  refine mx_B 12 22 [(0, .ref 3), (1, .int 0), (2, .int 0)] [.int 0, .ref 3] (by decide +kernel) ?_
  refine mx_B 5 27 [(0, .ref 3), (1, .int 0), (2, .int 0)] [.int 0] (by decide +kernel) ?_
  exact mx_ret (some (.int 0)) (by decide +kernel) ⟨rfl, rfl⟩
theorem iv_a482 (L : Nat) (xs : Nat → Int32) (zf : Value) (hz : zf.category = 1) : mx_R L xs zf ah_M221 0 [(0, .ref 21), (1, .int 2), (2, .int 0), (3, .int 0)] [] hh_a203 0 0 1 22 (fun v h' => v = some (.int 0) ∧ h' = hh_a203) := by
  refine mx_B 12 70 [(0, .ref 21), (1, .int 2), (2, .int 0), (3, .int 0)] [] (by decide +kernel) ?_
  refine mx_B 3 75 [(0, .ref 21), (1, .int 2), (2, .int 0), (3, .int 0)] [.int 0, .int 0, .ref 3] (by decide +kernel) ?_
  refine mx_call 190 3 [.ref 3, .int 0, .int 0] [] [(0, .ref 3), (1, .int 0), (2, .int 0)] (some (.int 0)) hh_a203 0 0 0 0 0 0 78 [.int 0] ap_190 (by decide +kernel) (by decide +kernel) (iv_a481 L xs zf hz) ?_
  exact mx_ret (some (.int 0)) (by decide +kernel) ⟨rfl, rfl⟩
theorem iv_a483 (L : Nat) (xs : Nat → Int32) (zf : Value) (hz : zf.category = 1) : mx_R L xs zf ah_M292 0 [(0, .int 0), (1, .int 0)] [] hh_a203 0 0 0 0 (fun v h' => v = some (.int 0) ∧ h' = hh_a203) := by
  refine mx_B 12 46 [(0, .int 0), (1, .int 0)] [.int 0] (by decide +kernel) ?_
  exact mx_ret (some (.int 0)) (by decide +kernel) ⟨rfl, rfl⟩
theorem iv_a484 (L : Nat) (xs : Nat → Int32) (zf : Value) (hz : zf.category = 1) : mx_R L xs zf ah_M289 0 [(0, .ref 36), (1, .int 2), (2, .int 0), (3, .int 0)] [] hh_a203 0 0 1 21 (fun v h' => v = some (.int 0) ∧ h' = hh_a203) := by
  refine mx_B 12 22 [(0, .ref 36), (1, .int 2), (2, .int 0), (3, .int 0)] [] (by decide +kernel) ?_
  refine mx_B 12 64 [(0, .ref 36), (1, .int 2), (2, .int 0), (3, .int 0)] [.int 0] (by decide +kernel) ?_
  refine mx_B 1 65 [(0, .ref 36), (1, .int 2), (2, .int 0), (3, .int 0)] [.int 0, .int 0] (by decide +kernel) ?_
  refine mx_call 292 3 [.int 0, .int 0] [] [(0, .int 0), (1, .int 0)] (some (.int 0)) hh_a203 0 0 0 0 0 0 68 [.int 0] ap_292 (by decide +kernel) (by decide +kernel) (iv_a483 L xs zf hz) ?_
  refine mx_B 1 84 [(0, .ref 36), (1, .int 2), (2, .int 0), (3, .int 0)] [.int 0] (by decide +kernel) ?_
  exact mx_ret (some (.int 0)) (by decide +kernel) ⟨rfl, rfl⟩
theorem iv_a485 (xs : Nat → Int32) (zf : Value) (hz : zf.category = 1) (hk : xs 0 &&& 15 = 5) (l1 : 2 ≤ (xs 1).toInt) (u1 : (xs 1).toInt ≤ 2) (l2 : 0 ≤ (xs 2).toInt) (u2 : (xs 2).toInt ≤ 0) (l3 : 0 ≤ (xs 3).toInt) (u3 : (xs 3).toInt ≤ 0) : mx_R 6 xs zf ah_M0 18 [(3, .int 0), (2, .ref 36), (1, .ref 21), (0, .ref 0)] [] hh_a203 0 0 2 45 (fun v h' => v = some (.int 1) ∧ h' = hh_a203) := by
  refine mx_B 2 20 [(3, .int 0), (2, .ref 36), (1, .ref 21), (0, .ref 0)] [.ref 0, .int 0] (by decide +kernel) ?_
  refine mx_S (.arraylength) 1 [] 21 [(3, .int 0), (2, .ref 36), (1, .ref 21), (0, .ref 0)] [.int 6, .int 0] (by decide +kernel) rfl ?_
  refine mx_B 5 29 [(3, .int 0), (2, .ref 36), (1, .ref 21), (0, .ref 0)] [.int 0, .ref 0] (by decide +kernel) ?_
  refine mx_scr 6 0 30 (by decide +kernel) (by decide +kernel) (by decide +kernel) ?_
  refine mx_S (.bipush 15) 2 [] 32 [(3, .int 0), (2, .ref 36), (1, .ref 21), (0, .ref 0)] [.int 15, .int (xs 0)] (by decide +kernel) rfl ?_
  refine mx_S (.iand) 1 [] 33 [(3, .int 0), (2, .ref 36), (1, .ref 21), (0, .ref 0)] [.int ((xs 0) &&& 15)] (by decide +kernel) rfl ?_
  refine mx_eq 5 hk ?_
  refine mx_B 6 254 [(3, .int 0), (2, .ref 36), (1, .ref 21), (0, .ref 0)] [.int 1, .ref 0, .ref 21] (by decide +kernel) ?_
  refine mx_scr 6 1 255 (by decide +kernel) (by decide +kernel) (by decide +kernel) ?_
  refine mx_eq 2 (mx_pt l1 u1 (by decide +kernel)) ?_
  refine mx_B 4 259 [(3, .int 0), (2, .ref 36), (1, .ref 21), (0, .ref 0)] [.int 2, .ref 0, .int 2, .ref 21] (by decide +kernel) ?_
  refine mx_scr 6 2 260 (by decide +kernel) (by decide +kernel) (by decide +kernel) ?_
  refine mx_eq 0 (mx_pt l2 u2 (by decide +kernel)) ?_
  refine mx_B 4 264 [(3, .int 0), (2, .ref 36), (1, .ref 21), (0, .ref 0)] [.int 3, .ref 0, .int 0, .int 2, .ref 21] (by decide +kernel) ?_
  refine mx_scr 6 3 265 (by decide +kernel) (by decide +kernel) (by decide +kernel) ?_
  refine mx_eq 0 (mx_pt l3 u3 (by decide +kernel)) ?_
  refine mx_call 221 3 [.ref 21, .int 2, .int 0, .int 0] [] [(0, .ref 21), (1, .int 2), (2, .int 0), (3, .int 0)] (some (.int 0)) hh_a203 0 0 1 22 0 0 268 [.int 0] ap_221 (by decide +kernel) (by decide +kernel) (iv_a482 6 xs zf hz) ?_
  refine mx_B 5 273 [(3, .int 0), (2, .ref 36), (1, .ref 21), (0, .ref 0)] [.int 1, .ref 0, .ref 36, .int 0] (by decide +kernel) ?_
  refine mx_scr 6 1 274 (by decide +kernel) (by decide +kernel) (by decide +kernel) ?_
  refine mx_eq 2 (mx_pt l1 u1 (by decide +kernel)) ?_
  refine mx_B 4 278 [(3, .int 0), (2, .ref 36), (1, .ref 21), (0, .ref 0)] [.int 2, .ref 0, .int 2, .ref 36, .int 0] (by decide +kernel) ?_
  refine mx_scr 6 2 279 (by decide +kernel) (by decide +kernel) (by decide +kernel) ?_
  refine mx_eq 0 (mx_pt l2 u2 (by decide +kernel)) ?_
  refine mx_B 4 283 [(3, .int 0), (2, .ref 36), (1, .ref 21), (0, .ref 0)] [.int 3, .ref 0, .int 0, .int 2, .ref 36, .int 0] (by decide +kernel) ?_
  refine mx_scr 6 3 284 (by decide +kernel) (by decide +kernel) (by decide +kernel) ?_
  refine mx_eq 0 (mx_pt l3 u3 (by decide +kernel)) ?_
  refine mx_call 289 3 [.ref 36, .int 2, .int 0, .int 0] [.int 0] [(0, .ref 36), (1, .int 2), (2, .int 0), (3, .int 0)] (some (.int 0)) hh_a203 0 0 1 21 0 0 287 [.int 0, .int 0] ap_289 (by decide +kernel) (by decide +kernel) (iv_a484 6 xs zf hz) ?_
  refine mx_B 5 20 [(3, .int 6), (2, .ref 36), (1, .ref 21), (0, .ref 0)] [.ref 0, .int 6] (by decide +kernel) ?_
  refine mx_S (.arraylength) 1 [] 21 [(3, .int 6), (2, .ref 36), (1, .ref 21), (0, .ref 0)] [.int 6, .int 6] (by decide +kernel) rfl ?_
  refine mx_B 4 543 [(3, .int 6), (2, .ref 36), (1, .ref 21), (0, .ref 0)] [.int 1] (by decide +kernel) ?_
  exact mx_ret (some (.int 1)) (by decide +kernel) ⟨rfl, rfl⟩
theorem iv_a486 (L : Nat) (xs : Nat → Int32) (zf : Value) (hz : zf.category = 1) : mx_R L xs zf ah_M190 0 [(0, .ref 3), (1, .int 0), (2, .int 1)] [] hh_a203 0 0 0 0 (fun v h' => v = some (.int (-1)) ∧ h' = hh_a203) := by
  refine mx_B 12 22 [(0, .ref 3), (1, .int 0), (2, .int 1)] [.int 0, .ref 3] (by decide +kernel) ?_
  refine mx_B 5 27 [(0, .ref 3), (1, .int 0), (2, .int 1)] [.int (-1)] (by decide +kernel) ?_
  exact mx_ret (some (.int (-1))) (by decide +kernel) ⟨rfl, rfl⟩
theorem iv_a487 (L : Nat) (xs : Nat → Int32) (zf : Value) (hz : zf.category = 1) : mx_R L xs zf ah_M221 0 [(0, .ref 21), (1, .int 2), (2, .int 0), (3, .int 1)] [] hh_a203 0 0 1 22 (fun v h' => v = some (.int (-1)) ∧ h' = hh_a203) := by
  refine mx_B 12 70 [(0, .ref 21), (1, .int 2), (2, .int 0), (3, .int 1)] [] (by decide +kernel) ?_
  refine mx_B 3 75 [(0, .ref 21), (1, .int 2), (2, .int 0), (3, .int 1)] [.int 1, .int 0, .ref 3] (by decide +kernel) ?_
  refine mx_call 190 3 [.ref 3, .int 0, .int 1] [] [(0, .ref 3), (1, .int 0), (2, .int 1)] (some (.int (-1))) hh_a203 0 0 0 0 0 0 78 [.int (-1)] ap_190 (by decide +kernel) (by decide +kernel) (iv_a486 L xs zf hz) ?_
  exact mx_ret (some (.int (-1))) (by decide +kernel) ⟨rfl, rfl⟩
theorem iv_a488 (L : Nat) (xs : Nat → Int32) (zf : Value) (hz : zf.category = 1) : mx_R L xs zf ah_M292 0 [(0, .int 0), (1, .int 1)] [] hh_a203 0 0 0 0 (fun v h' => v = some (.int (-1)) ∧ h' = hh_a203) := by
  refine mx_B 12 38 [(0, .int 0), (1, .int 1)] [.int 3, .int 1] (by decide +kernel) ?_
  refine mx_B 2 46 [(0, .int 0), (1, .int 1)] [.int (-1)] (by decide +kernel) ?_
  exact mx_ret (some (.int (-1))) (by decide +kernel) ⟨rfl, rfl⟩
theorem iv_a489 (L : Nat) (xs : Nat → Int32) (zf : Value) (hz : zf.category = 1) : mx_R L xs zf ah_M289 0 [(0, .ref 36), (1, .int 2), (2, .int 0), (3, .int 1)] [] hh_a203 0 0 1 21 (fun v h' => v = some (.int (-1)) ∧ h' = hh_a203) := by
  refine mx_B 12 22 [(0, .ref 36), (1, .int 2), (2, .int 0), (3, .int 1)] [] (by decide +kernel) ?_
  refine mx_B 12 64 [(0, .ref 36), (1, .int 2), (2, .int 0), (3, .int 1)] [.int 0] (by decide +kernel) ?_
  refine mx_B 1 65 [(0, .ref 36), (1, .int 2), (2, .int 0), (3, .int 1)] [.int 1, .int 0] (by decide +kernel) ?_
  refine mx_call 292 3 [.int 0, .int 1] [] [(0, .int 0), (1, .int 1)] (some (.int (-1))) hh_a203 0 0 0 0 0 0 68 [.int (-1)] ap_292 (by decide +kernel) (by decide +kernel) (iv_a488 L xs zf hz) ?_
  refine mx_B 1 84 [(0, .ref 36), (1, .int 2), (2, .int 0), (3, .int 1)] [.int (-1)] (by decide +kernel) ?_
  exact mx_ret (some (.int (-1))) (by decide +kernel) ⟨rfl, rfl⟩
theorem iv_a490 (xs : Nat → Int32) (zf : Value) (hz : zf.category = 1) (hk : xs 0 &&& 15 = 5) (l1 : 2 ≤ (xs 1).toInt) (u1 : (xs 1).toInt ≤ 2) (l2 : 0 ≤ (xs 2).toInt) (u2 : (xs 2).toInt ≤ 0) (l3 : 1 ≤ (xs 3).toInt) (u3 : (xs 3).toInt ≤ 1) : mx_R 6 xs zf ah_M0 18 [(3, .int 0), (2, .ref 36), (1, .ref 21), (0, .ref 0)] [] hh_a203 0 0 2 45 (fun v h' => v = some (.int 1) ∧ h' = hh_a203) := by
  refine mx_B 2 20 [(3, .int 0), (2, .ref 36), (1, .ref 21), (0, .ref 0)] [.ref 0, .int 0] (by decide +kernel) ?_
  refine mx_S (.arraylength) 1 [] 21 [(3, .int 0), (2, .ref 36), (1, .ref 21), (0, .ref 0)] [.int 6, .int 0] (by decide +kernel) rfl ?_
  refine mx_B 5 29 [(3, .int 0), (2, .ref 36), (1, .ref 21), (0, .ref 0)] [.int 0, .ref 0] (by decide +kernel) ?_
  refine mx_scr 6 0 30 (by decide +kernel) (by decide +kernel) (by decide +kernel) ?_
  refine mx_S (.bipush 15) 2 [] 32 [(3, .int 0), (2, .ref 36), (1, .ref 21), (0, .ref 0)] [.int 15, .int (xs 0)] (by decide +kernel) rfl ?_
  refine mx_S (.iand) 1 [] 33 [(3, .int 0), (2, .ref 36), (1, .ref 21), (0, .ref 0)] [.int ((xs 0) &&& 15)] (by decide +kernel) rfl ?_
  refine mx_eq 5 hk ?_
  refine mx_B 6 254 [(3, .int 0), (2, .ref 36), (1, .ref 21), (0, .ref 0)] [.int 1, .ref 0, .ref 21] (by decide +kernel) ?_
  refine mx_scr 6 1 255 (by decide +kernel) (by decide +kernel) (by decide +kernel) ?_
  refine mx_eq 2 (mx_pt l1 u1 (by decide +kernel)) ?_
  refine mx_B 4 259 [(3, .int 0), (2, .ref 36), (1, .ref 21), (0, .ref 0)] [.int 2, .ref 0, .int 2, .ref 21] (by decide +kernel) ?_
  refine mx_scr 6 2 260 (by decide +kernel) (by decide +kernel) (by decide +kernel) ?_
  refine mx_eq 0 (mx_pt l2 u2 (by decide +kernel)) ?_
  refine mx_B 4 264 [(3, .int 0), (2, .ref 36), (1, .ref 21), (0, .ref 0)] [.int 3, .ref 0, .int 0, .int 2, .ref 21] (by decide +kernel) ?_
  refine mx_scr 6 3 265 (by decide +kernel) (by decide +kernel) (by decide +kernel) ?_
  refine mx_eq 1 (mx_pt l3 u3 (by decide +kernel)) ?_
  refine mx_call 221 3 [.ref 21, .int 2, .int 0, .int 1] [] [(0, .ref 21), (1, .int 2), (2, .int 0), (3, .int 1)] (some (.int (-1))) hh_a203 0 0 1 22 0 0 268 [.int (-1)] ap_221 (by decide +kernel) (by decide +kernel) (iv_a487 6 xs zf hz) ?_
  refine mx_B 5 273 [(3, .int 0), (2, .ref 36), (1, .ref 21), (0, .ref 0)] [.int 1, .ref 0, .ref 36, .int (-1)] (by decide +kernel) ?_
  refine mx_scr 6 1 274 (by decide +kernel) (by decide +kernel) (by decide +kernel) ?_
  refine mx_eq 2 (mx_pt l1 u1 (by decide +kernel)) ?_
  refine mx_B 4 278 [(3, .int 0), (2, .ref 36), (1, .ref 21), (0, .ref 0)] [.int 2, .ref 0, .int 2, .ref 36, .int (-1)] (by decide +kernel) ?_
  refine mx_scr 6 2 279 (by decide +kernel) (by decide +kernel) (by decide +kernel) ?_
  refine mx_eq 0 (mx_pt l2 u2 (by decide +kernel)) ?_
  refine mx_B 4 283 [(3, .int 0), (2, .ref 36), (1, .ref 21), (0, .ref 0)] [.int 3, .ref 0, .int 0, .int 2, .ref 36, .int (-1)] (by decide +kernel) ?_
  refine mx_scr 6 3 284 (by decide +kernel) (by decide +kernel) (by decide +kernel) ?_
  refine mx_eq 1 (mx_pt l3 u3 (by decide +kernel)) ?_
  refine mx_call 289 3 [.ref 36, .int 2, .int 0, .int 1] [.int (-1)] [(0, .ref 36), (1, .int 2), (2, .int 0), (3, .int 1)] (some (.int (-1))) hh_a203 0 0 1 21 0 0 287 [.int (-1), .int (-1)] ap_289 (by decide +kernel) (by decide +kernel) (iv_a489 6 xs zf hz) ?_
  refine mx_B 5 20 [(3, .int 6), (2, .ref 36), (1, .ref 21), (0, .ref 0)] [.ref 0, .int 6] (by decide +kernel) ?_
  refine mx_S (.arraylength) 1 [] 21 [(3, .int 6), (2, .ref 36), (1, .ref 21), (0, .ref 0)] [.int 6, .int 6] (by decide +kernel) rfl ?_
  refine mx_B 4 543 [(3, .int 6), (2, .ref 36), (1, .ref 21), (0, .ref 0)] [.int 1] (by decide +kernel) ?_
  exact mx_ret (some (.int 1)) (by decide +kernel) ⟨rfl, rfl⟩
theorem iv_a491 (L : Nat) (xs : Nat → Int32) (zf : Value) (hz : zf.category = 1) : mx_R L xs zf ah_M190 0 [(0, .ref 3), (1, .int 0), (2, .int 2)] [] hh_a203 0 0 0 0 (fun v h' => v = some (.int (-1)) ∧ h' = hh_a203) := by
  refine mx_B 12 22 [(0, .ref 3), (1, .int 0), (2, .int 2)] [.int 0, .ref 3] (by decide +kernel) ?_
  refine mx_B 5 27 [(0, .ref 3), (1, .int 0), (2, .int 2)] [.int (-1)] (by decide +kernel) ?_
  exact mx_ret (some (.int (-1))) (by decide +kernel) ⟨rfl, rfl⟩
theorem iv_a492 (L : Nat) (xs : Nat → Int32) (zf : Value) (hz : zf.category = 1) : mx_R L xs zf ah_M221 0 [(0, .ref 21), (1, .int 2), (2, .int 0), (3, .int 2)] [] hh_a203 0 0 1 22 (fun v h' => v = some (.int (-1)) ∧ h' = hh_a203) := by
  refine mx_B 12 70 [(0, .ref 21), (1, .int 2), (2, .int 0), (3, .int 2)] [] (by decide +kernel) ?_
  refine mx_B 3 75 [(0, .ref 21), (1, .int 2), (2, .int 0), (3, .int 2)] [.int 2, .int 0, .ref 3] (by decide +kernel) ?_
  refine mx_call 190 3 [.ref 3, .int 0, .int 2] [] [(0, .ref 3), (1, .int 0), (2, .int 2)] (some (.int (-1))) hh_a203 0 0 0 0 0 0 78 [.int (-1)] ap_190 (by decide +kernel) (by decide +kernel) (iv_a491 L xs zf hz) ?_
  exact mx_ret (some (.int (-1))) (by decide +kernel) ⟨rfl, rfl⟩
theorem iv_a493 (L : Nat) (xs : Nat → Int32) (zf : Value) (hz : zf.category = 1) : mx_R L xs zf ah_M292 0 [(0, .int 0), (1, .int 2)] [] hh_a203 0 0 0 0 (fun v h' => v = some (.int (-1)) ∧ h' = hh_a203) := by
  refine mx_B 12 38 [(0, .int 0), (1, .int 2)] [.int 3, .int 2] (by decide +kernel) ?_
  refine mx_B 2 46 [(0, .int 0), (1, .int 2)] [.int (-1)] (by decide +kernel) ?_
  exact mx_ret (some (.int (-1))) (by decide +kernel) ⟨rfl, rfl⟩
theorem iv_a494 (L : Nat) (xs : Nat → Int32) (zf : Value) (hz : zf.category = 1) : mx_R L xs zf ah_M289 0 [(0, .ref 36), (1, .int 2), (2, .int 0), (3, .int 2)] [] hh_a203 0 0 1 21 (fun v h' => v = some (.int (-1)) ∧ h' = hh_a203) := by
  refine mx_B 12 22 [(0, .ref 36), (1, .int 2), (2, .int 0), (3, .int 2)] [] (by decide +kernel) ?_
  refine mx_B 12 64 [(0, .ref 36), (1, .int 2), (2, .int 0), (3, .int 2)] [.int 0] (by decide +kernel) ?_
  refine mx_B 1 65 [(0, .ref 36), (1, .int 2), (2, .int 0), (3, .int 2)] [.int 2, .int 0] (by decide +kernel) ?_
  refine mx_call 292 3 [.int 0, .int 2] [] [(0, .int 0), (1, .int 2)] (some (.int (-1))) hh_a203 0 0 0 0 0 0 68 [.int (-1)] ap_292 (by decide +kernel) (by decide +kernel) (iv_a493 L xs zf hz) ?_
  refine mx_B 1 84 [(0, .ref 36), (1, .int 2), (2, .int 0), (3, .int 2)] [.int (-1)] (by decide +kernel) ?_
  exact mx_ret (some (.int (-1))) (by decide +kernel) ⟨rfl, rfl⟩
theorem iv_a495 (xs : Nat → Int32) (zf : Value) (hz : zf.category = 1) (hk : xs 0 &&& 15 = 5) (l1 : 2 ≤ (xs 1).toInt) (u1 : (xs 1).toInt ≤ 2) (l2 : 0 ≤ (xs 2).toInt) (u2 : (xs 2).toInt ≤ 0) (l3 : 2 ≤ (xs 3).toInt) (u3 : (xs 3).toInt ≤ 2) : mx_R 6 xs zf ah_M0 18 [(3, .int 0), (2, .ref 36), (1, .ref 21), (0, .ref 0)] [] hh_a203 0 0 2 45 (fun v h' => v = some (.int 1) ∧ h' = hh_a203) := by
  refine mx_B 2 20 [(3, .int 0), (2, .ref 36), (1, .ref 21), (0, .ref 0)] [.ref 0, .int 0] (by decide +kernel) ?_
  refine mx_S (.arraylength) 1 [] 21 [(3, .int 0), (2, .ref 36), (1, .ref 21), (0, .ref 0)] [.int 6, .int 0] (by decide +kernel) rfl ?_
  refine mx_B 5 29 [(3, .int 0), (2, .ref 36), (1, .ref 21), (0, .ref 0)] [.int 0, .ref 0] (by decide +kernel) ?_
  refine mx_scr 6 0 30 (by decide +kernel) (by decide +kernel) (by decide +kernel) ?_
  refine mx_S (.bipush 15) 2 [] 32 [(3, .int 0), (2, .ref 36), (1, .ref 21), (0, .ref 0)] [.int 15, .int (xs 0)] (by decide +kernel) rfl ?_
  refine mx_S (.iand) 1 [] 33 [(3, .int 0), (2, .ref 36), (1, .ref 21), (0, .ref 0)] [.int ((xs 0) &&& 15)] (by decide +kernel) rfl ?_
  refine mx_eq 5 hk ?_
  refine mx_B 6 254 [(3, .int 0), (2, .ref 36), (1, .ref 21), (0, .ref 0)] [.int 1, .ref 0, .ref 21] (by decide +kernel) ?_
  refine mx_scr 6 1 255 (by decide +kernel) (by decide +kernel) (by decide +kernel) ?_
  refine mx_eq 2 (mx_pt l1 u1 (by decide +kernel)) ?_
  refine mx_B 4 259 [(3, .int 0), (2, .ref 36), (1, .ref 21), (0, .ref 0)] [.int 2, .ref 0, .int 2, .ref 21] (by decide +kernel) ?_
  refine mx_scr 6 2 260 (by decide +kernel) (by decide +kernel) (by decide +kernel) ?_
  refine mx_eq 0 (mx_pt l2 u2 (by decide +kernel)) ?_
  refine mx_B 4 264 [(3, .int 0), (2, .ref 36), (1, .ref 21), (0, .ref 0)] [.int 3, .ref 0, .int 0, .int 2, .ref 21] (by decide +kernel) ?_
  refine mx_scr 6 3 265 (by decide +kernel) (by decide +kernel) (by decide +kernel) ?_
  refine mx_eq 2 (mx_pt l3 u3 (by decide +kernel)) ?_
  refine mx_call 221 3 [.ref 21, .int 2, .int 0, .int 2] [] [(0, .ref 21), (1, .int 2), (2, .int 0), (3, .int 2)] (some (.int (-1))) hh_a203 0 0 1 22 0 0 268 [.int (-1)] ap_221 (by decide +kernel) (by decide +kernel) (iv_a492 6 xs zf hz) ?_
  refine mx_B 5 273 [(3, .int 0), (2, .ref 36), (1, .ref 21), (0, .ref 0)] [.int 1, .ref 0, .ref 36, .int (-1)] (by decide +kernel) ?_
  refine mx_scr 6 1 274 (by decide +kernel) (by decide +kernel) (by decide +kernel) ?_
  refine mx_eq 2 (mx_pt l1 u1 (by decide +kernel)) ?_
  refine mx_B 4 278 [(3, .int 0), (2, .ref 36), (1, .ref 21), (0, .ref 0)] [.int 2, .ref 0, .int 2, .ref 36, .int (-1)] (by decide +kernel) ?_
  refine mx_scr 6 2 279 (by decide +kernel) (by decide +kernel) (by decide +kernel) ?_
  refine mx_eq 0 (mx_pt l2 u2 (by decide +kernel)) ?_
  refine mx_B 4 283 [(3, .int 0), (2, .ref 36), (1, .ref 21), (0, .ref 0)] [.int 3, .ref 0, .int 0, .int 2, .ref 36, .int (-1)] (by decide +kernel) ?_
  refine mx_scr 6 3 284 (by decide +kernel) (by decide +kernel) (by decide +kernel) ?_
  refine mx_eq 2 (mx_pt l3 u3 (by decide +kernel)) ?_
  refine mx_call 289 3 [.ref 36, .int 2, .int 0, .int 2] [.int (-1)] [(0, .ref 36), (1, .int 2), (2, .int 0), (3, .int 2)] (some (.int (-1))) hh_a203 0 0 1 21 0 0 287 [.int (-1), .int (-1)] ap_289 (by decide +kernel) (by decide +kernel) (iv_a494 6 xs zf hz) ?_
  refine mx_B 5 20 [(3, .int 6), (2, .ref 36), (1, .ref 21), (0, .ref 0)] [.ref 0, .int 6] (by decide +kernel) ?_
  refine mx_S (.arraylength) 1 [] 21 [(3, .int 6), (2, .ref 36), (1, .ref 21), (0, .ref 0)] [.int 6, .int 6] (by decide +kernel) rfl ?_
  refine mx_B 4 543 [(3, .int 6), (2, .ref 36), (1, .ref 21), (0, .ref 0)] [.int 1] (by decide +kernel) ?_
  exact mx_ret (some (.int 1)) (by decide +kernel) ⟨rfl, rfl⟩
theorem iv_a496 (L : Nat) (xs : Nat → Int32) (zf : Value) (hz : zf.category = 1) : mx_R L xs zf ah_M190 0 [(0, .ref 3), (1, .int 0), (2, .int 3)] [] hh_a203 0 0 0 0 (fun v h' => v = some (.int 3) ∧ h' = hh_a203) := by
  refine mx_B 12 22 [(0, .ref 3), (1, .int 0), (2, .int 3)] [.int 0, .ref 3] (by decide +kernel) ?_
  refine mx_B 5 27 [(0, .ref 3), (1, .int 0), (2, .int 3)] [.int 3] (by decide +kernel) ?_
  exact mx_ret (some (.int 3)) (by decide +kernel) ⟨rfl, rfl⟩
theorem iv_a497 (L : Nat) (xs : Nat → Int32) (zf : Value) (hz : zf.category = 1) : mx_R L xs zf ah_M221 0 [(0, .ref 21), (1, .int 2), (2, .int 0), (3, .int 3)] [] hh_a203 0 0 1 22 (fun v h' => v = some (.int 3) ∧ h' = hh_a203) := by
  refine mx_B 12 70 [(0, .ref 21), (1, .int 2), (2, .int 0), (3, .int 3)] [] (by decide +kernel) ?_
  refine mx_B 3 75 [(0, .ref 21), (1, .int 2), (2, .int 0), (3, .int 3)] [.int 3, .int 0, .ref 3] (by decide +kernel) ?_
  refine mx_call 190 3 [.ref 3, .int 0, .int 3] [] [(0, .ref 3), (1, .int 0), (2, .int 3)] (some (.int 3)) hh_a203 0 0 0 0 0 0 78 [.int 3] ap_190 (by decide +kernel) (by decide +kernel) (iv_a496 L xs zf hz) ?_
  exact mx_ret (some (.int 3)) (by decide +kernel) ⟨rfl, rfl⟩
theorem iv_a498 (L : Nat) (xs : Nat → Int32) (zf : Value) (hz : zf.category = 1) : mx_R L xs zf ah_M292 0 [(0, .int 0), (1, .int 3)] [] hh_a203 0 0 0 0 (fun v h' => v = some (.int 3) ∧ h' = hh_a203) := by
  refine mx_B 12 38 [(0, .int 0), (1, .int 3)] [.int 3, .int 3] (by decide +kernel) ?_
  refine mx_B 3 46 [(0, .int 0), (1, .int 3)] [.int 3] (by decide +kernel) ?_
  exact mx_ret (some (.int 3)) (by decide +kernel) ⟨rfl, rfl⟩
theorem iv_a499 (L : Nat) (xs : Nat → Int32) (zf : Value) (hz : zf.category = 1) : mx_R L xs zf ah_M289 0 [(0, .ref 36), (1, .int 2), (2, .int 0), (3, .int 3)] [] hh_a203 0 0 1 21 (fun v h' => v = some (.int 3) ∧ h' = hh_a203) := by
  refine mx_B 12 22 [(0, .ref 36), (1, .int 2), (2, .int 0), (3, .int 3)] [] (by decide +kernel) ?_
  refine mx_B 12 64 [(0, .ref 36), (1, .int 2), (2, .int 0), (3, .int 3)] [.int 0] (by decide +kernel) ?_
  refine mx_B 1 65 [(0, .ref 36), (1, .int 2), (2, .int 0), (3, .int 3)] [.int 3, .int 0] (by decide +kernel) ?_
  refine mx_call 292 3 [.int 0, .int 3] [] [(0, .int 0), (1, .int 3)] (some (.int 3)) hh_a203 0 0 0 0 0 0 68 [.int 3] ap_292 (by decide +kernel) (by decide +kernel) (iv_a498 L xs zf hz) ?_
  refine mx_B 1 84 [(0, .ref 36), (1, .int 2), (2, .int 0), (3, .int 3)] [.int 3] (by decide +kernel) ?_
  exact mx_ret (some (.int 3)) (by decide +kernel) ⟨rfl, rfl⟩
theorem iv_a500 (xs : Nat → Int32) (zf : Value) (hz : zf.category = 1) (hk : xs 0 &&& 15 = 5) (l1 : 2 ≤ (xs 1).toInt) (u1 : (xs 1).toInt ≤ 2) (l2 : 0 ≤ (xs 2).toInt) (u2 : (xs 2).toInt ≤ 0) (l3 : 3 ≤ (xs 3).toInt) (u3 : (xs 3).toInt ≤ 3) : mx_R 6 xs zf ah_M0 18 [(3, .int 0), (2, .ref 36), (1, .ref 21), (0, .ref 0)] [] hh_a203 0 0 2 45 (fun v h' => v = some (.int 1) ∧ h' = hh_a203) := by
  refine mx_B 2 20 [(3, .int 0), (2, .ref 36), (1, .ref 21), (0, .ref 0)] [.ref 0, .int 0] (by decide +kernel) ?_
  refine mx_S (.arraylength) 1 [] 21 [(3, .int 0), (2, .ref 36), (1, .ref 21), (0, .ref 0)] [.int 6, .int 0] (by decide +kernel) rfl ?_
  refine mx_B 5 29 [(3, .int 0), (2, .ref 36), (1, .ref 21), (0, .ref 0)] [.int 0, .ref 0] (by decide +kernel) ?_
  refine mx_scr 6 0 30 (by decide +kernel) (by decide +kernel) (by decide +kernel) ?_
  refine mx_S (.bipush 15) 2 [] 32 [(3, .int 0), (2, .ref 36), (1, .ref 21), (0, .ref 0)] [.int 15, .int (xs 0)] (by decide +kernel) rfl ?_
  refine mx_S (.iand) 1 [] 33 [(3, .int 0), (2, .ref 36), (1, .ref 21), (0, .ref 0)] [.int ((xs 0) &&& 15)] (by decide +kernel) rfl ?_
  refine mx_eq 5 hk ?_
  refine mx_B 6 254 [(3, .int 0), (2, .ref 36), (1, .ref 21), (0, .ref 0)] [.int 1, .ref 0, .ref 21] (by decide +kernel) ?_
  refine mx_scr 6 1 255 (by decide +kernel) (by decide +kernel) (by decide +kernel) ?_
  refine mx_eq 2 (mx_pt l1 u1 (by decide +kernel)) ?_
  refine mx_B 4 259 [(3, .int 0), (2, .ref 36), (1, .ref 21), (0, .ref 0)] [.int 2, .ref 0, .int 2, .ref 21] (by decide +kernel) ?_
  refine mx_scr 6 2 260 (by decide +kernel) (by decide +kernel) (by decide +kernel) ?_
  refine mx_eq 0 (mx_pt l2 u2 (by decide +kernel)) ?_
  refine mx_B 4 264 [(3, .int 0), (2, .ref 36), (1, .ref 21), (0, .ref 0)] [.int 3, .ref 0, .int 0, .int 2, .ref 21] (by decide +kernel) ?_
  refine mx_scr 6 3 265 (by decide +kernel) (by decide +kernel) (by decide +kernel) ?_
  refine mx_eq 3 (mx_pt l3 u3 (by decide +kernel)) ?_
  refine mx_call 221 3 [.ref 21, .int 2, .int 0, .int 3] [] [(0, .ref 21), (1, .int 2), (2, .int 0), (3, .int 3)] (some (.int 3)) hh_a203 0 0 1 22 0 0 268 [.int 3] ap_221 (by decide +kernel) (by decide +kernel) (iv_a497 6 xs zf hz) ?_
  refine mx_B 5 273 [(3, .int 0), (2, .ref 36), (1, .ref 21), (0, .ref 0)] [.int 1, .ref 0, .ref 36, .int 3] (by decide +kernel) ?_
  refine mx_scr 6 1 274 (by decide +kernel) (by decide +kernel) (by decide +kernel) ?_
  refine mx_eq 2 (mx_pt l1 u1 (by decide +kernel)) ?_
  refine mx_B 4 278 [(3, .int 0), (2, .ref 36), (1, .ref 21), (0, .ref 0)] [.int 2, .ref 0, .int 2, .ref 36, .int 3] (by decide +kernel) ?_
  refine mx_scr 6 2 279 (by decide +kernel) (by decide +kernel) (by decide +kernel) ?_
  refine mx_eq 0 (mx_pt l2 u2 (by decide +kernel)) ?_
  refine mx_B 4 283 [(3, .int 0), (2, .ref 36), (1, .ref 21), (0, .ref 0)] [.int 3, .ref 0, .int 0, .int 2, .ref 36, .int 3] (by decide +kernel) ?_
  refine mx_scr 6 3 284 (by decide +kernel) (by decide +kernel) (by decide +kernel) ?_
  refine mx_eq 3 (mx_pt l3 u3 (by decide +kernel)) ?_
  refine mx_call 289 3 [.ref 36, .int 2, .int 0, .int 3] [.int 3] [(0, .ref 36), (1, .int 2), (2, .int 0), (3, .int 3)] (some (.int 3)) hh_a203 0 0 1 21 0 0 287 [.int 3, .int 3] ap_289 (by decide +kernel) (by decide +kernel) (iv_a499 6 xs zf hz) ?_
  refine mx_B 5 20 [(3, .int 6), (2, .ref 36), (1, .ref 21), (0, .ref 0)] [.ref 0, .int 6] (by decide +kernel) ?_
  refine mx_S (.arraylength) 1 [] 21 [(3, .int 6), (2, .ref 36), (1, .ref 21), (0, .ref 0)] [.int 6, .int 6] (by decide +kernel) rfl ?_
  refine mx_B 4 543 [(3, .int 6), (2, .ref 36), (1, .ref 21), (0, .ref 0)] [.int 1] (by decide +kernel) ?_
  exact mx_ret (some (.int 1)) (by decide +kernel) ⟨rfl, rfl⟩
theorem iv_a501 (L : Nat) (xs : Nat → Int32) (zf : Value) (hz : zf.category = 1) : mx_R L xs zf ah_M190 0 [(0, .ref 3), (1, .int 0), (2, .int 4)] [] hh_a203 0 0 0 0 (fun v h' => v = some (.int (-1)) ∧ h' = hh_a203) := by
  refine mx_B 12 22 [(0, .ref 3), (1, .int 0), (2, .int 4)] [.int 0, .ref 3] (by decide +kernel) ?_
  refine mx_B 5 27 [(0, .ref 3), (1, .int 0), (2, .int 4)] [.int (-1)] (by decide +kernel) ?_
  exact mx_ret (some (.int (-1))) (by decide +kernel) ⟨rfl, rfl⟩
theorem iv_a502 (L : Nat) (xs : Nat → Int32) (zf : Value) (hz : zf.category = 1) : mx_R L xs zf ah_M221 0 [(0, .ref 21), (1, .int 2), (2, .int 0), (3, .int 4)] [] hh_a203 0 0 1 22 (fun v h' => v = some (.int (-1)) ∧ h' = hh_a203) := by
  refine mx_B 12 70 [(0, .ref 21), (1, .int 2), (2, .int 0), (3, .int 4)] [] (by decide +kernel) ?_
  refine mx_B 3 75 [(0, .ref 21), (1, .int 2), (2, .int 0), (3, .int 4)] [.int 4, .int 0, .ref 3] (by decide +kernel) ?_
  refine mx_call 190 3 [.ref 3, .int 0, .int 4] [] [(0, .ref 3), (1, .int 0), (2, .int 4)] (some (.int (-1))) hh_a203 0 0 0 0 0 0 78 [.int (-1)] ap_190 (by decide +kernel) (by decide +kernel) (iv_a501 L xs zf hz) ?_
  exact mx_ret (some (.int (-1))) (by decide +kernel) ⟨rfl, rfl⟩
theorem iv_a503 (L : Nat) (xs : Nat → Int32) (zf : Value) (hz : zf.category = 1) : mx_R L xs zf ah_M292 0 [(0, .int 0), (1, .int 4)] [] hh_a203 0 0 0 0 (fun v h' => v = some (.int (-1)) ∧ h' = hh_a203) := by
  refine mx_B 12 38 [(0, .int 0), (1, .int 4)] [.int 3, .int 4] (by decide +kernel) ?_
  refine mx_B 2 46 [(0, .int 0), (1, .int 4)] [.int (-1)] (by decide +kernel) ?_
  exact mx_ret (some (.int (-1))) (by decide +kernel) ⟨rfl, rfl⟩
theorem iv_a504 (L : Nat) (xs : Nat → Int32) (zf : Value) (hz : zf.category = 1) : mx_R L xs zf ah_M289 0 [(0, .ref 36), (1, .int 2), (2, .int 0), (3, .int 4)] [] hh_a203 0 0 1 21 (fun v h' => v = some (.int (-1)) ∧ h' = hh_a203) := by
  refine mx_B 12 22 [(0, .ref 36), (1, .int 2), (2, .int 0), (3, .int 4)] [] (by decide +kernel) ?_
  refine mx_B 12 64 [(0, .ref 36), (1, .int 2), (2, .int 0), (3, .int 4)] [.int 0] (by decide +kernel) ?_
  refine mx_B 1 65 [(0, .ref 36), (1, .int 2), (2, .int 0), (3, .int 4)] [.int 4, .int 0] (by decide +kernel) ?_
  refine mx_call 292 3 [.int 0, .int 4] [] [(0, .int 0), (1, .int 4)] (some (.int (-1))) hh_a203 0 0 0 0 0 0 68 [.int (-1)] ap_292 (by decide +kernel) (by decide +kernel) (iv_a503 L xs zf hz) ?_
  refine mx_B 1 84 [(0, .ref 36), (1, .int 2), (2, .int 0), (3, .int 4)] [.int (-1)] (by decide +kernel) ?_
  exact mx_ret (some (.int (-1))) (by decide +kernel) ⟨rfl, rfl⟩
theorem iv_a505 (xs : Nat → Int32) (zf : Value) (hz : zf.category = 1) (hk : xs 0 &&& 15 = 5) (l1 : 2 ≤ (xs 1).toInt) (u1 : (xs 1).toInt ≤ 2) (l2 : 0 ≤ (xs 2).toInt) (u2 : (xs 2).toInt ≤ 0) (l3 : 4 ≤ (xs 3).toInt) (u3 : (xs 3).toInt ≤ 4) : mx_R 6 xs zf ah_M0 18 [(3, .int 0), (2, .ref 36), (1, .ref 21), (0, .ref 0)] [] hh_a203 0 0 2 45 (fun v h' => v = some (.int 1) ∧ h' = hh_a203) := by
  refine mx_B 2 20 [(3, .int 0), (2, .ref 36), (1, .ref 21), (0, .ref 0)] [.ref 0, .int 0] (by decide +kernel) ?_
  refine mx_S (.arraylength) 1 [] 21 [(3, .int 0), (2, .ref 36), (1, .ref 21), (0, .ref 0)] [.int 6, .int 0] (by decide +kernel) rfl ?_
  refine mx_B 5 29 [(3, .int 0), (2, .ref 36), (1, .ref 21), (0, .ref 0)] [.int 0, .ref 0] (by decide +kernel) ?_
  refine mx_scr 6 0 30 (by decide +kernel) (by decide +kernel) (by decide +kernel) ?_
  refine mx_S (.bipush 15) 2 [] 32 [(3, .int 0), (2, .ref 36), (1, .ref 21), (0, .ref 0)] [.int 15, .int (xs 0)] (by decide +kernel) rfl ?_
  refine mx_S (.iand) 1 [] 33 [(3, .int 0), (2, .ref 36), (1, .ref 21), (0, .ref 0)] [.int ((xs 0) &&& 15)] (by decide +kernel) rfl ?_
  refine mx_eq 5 hk ?_
  refine mx_B 6 254 [(3, .int 0), (2, .ref 36), (1, .ref 21), (0, .ref 0)] [.int 1, .ref 0, .ref 21] (by decide +kernel) ?_
  refine mx_scr 6 1 255 (by decide +kernel) (by decide +kernel) (by decide +kernel) ?_
  refine mx_eq 2 (mx_pt l1 u1 (by decide +kernel)) ?_
  refine mx_B 4 259 [(3, .int 0), (2, .ref 36), (1, .ref 21), (0, .ref 0)] [.int 2, .ref 0, .int 2, .ref 21] (by decide +kernel) ?_
  refine mx_scr 6 2 260 (by decide +kernel) (by decide +kernel) (by decide +kernel) ?_
  refine mx_eq 0 (mx_pt l2 u2 (by decide +kernel)) ?_
  refine mx_B 4 264 [(3, .int 0), (2, .ref 36), (1, .ref 21), (0, .ref 0)] [.int 3, .ref 0, .int 0, .int 2, .ref 21] (by decide +kernel) ?_
  refine mx_scr 6 3 265 (by decide +kernel) (by decide +kernel) (by decide +kernel) ?_
  refine mx_eq 4 (mx_pt l3 u3 (by decide +kernel)) ?_
  refine mx_call 221 3 [.ref 21, .int 2, .int 0, .int 4] [] [(0, .ref 21), (1, .int 2), (2, .int 0), (3, .int 4)] (some (.int (-1))) hh_a203 0 0 1 22 0 0 268 [.int (-1)] ap_221 (by decide +kernel) (by decide +kernel) (iv_a502 6 xs zf hz) ?_
  refine mx_B 5 273 [(3, .int 0), (2, .ref 36), (1, .ref 21), (0, .ref 0)] [.int 1, .ref 0, .ref 36, .int (-1)] (by decide +kernel) ?_
  refine mx_scr 6 1 274 (by decide +kernel) (by decide +kernel) (by decide +kernel) ?_
  refine mx_eq 2 (mx_pt l1 u1 (by decide +kernel)) ?_
  refine mx_B 4 278 [(3, .int 0), (2, .ref 36), (1, .ref 21), (0, .ref 0)] [.int 2, .ref 0, .int 2, .ref 36, .int (-1)] (by decide +kernel) ?_
  refine mx_scr 6 2 279 (by decide +kernel) (by decide +kernel) (by decide +kernel) ?_
  refine mx_eq 0 (mx_pt l2 u2 (by decide +kernel)) ?_
  refine mx_B 4 283 [(3, .int 0), (2, .ref 36), (1, .ref 21), (0, .ref 0)] [.int 3, .ref 0, .int 0, .int 2, .ref 36, .int (-1)] (by decide +kernel) ?_
  refine mx_scr 6 3 284 (by decide +kernel) (by decide +kernel) (by decide +kernel) ?_
  refine mx_eq 4 (mx_pt l3 u3 (by decide +kernel)) ?_
  refine mx_call 289 3 [.ref 36, .int 2, .int 0, .int 4] [.int (-1)] [(0, .ref 36), (1, .int 2), (2, .int 0), (3, .int 4)] (some (.int (-1))) hh_a203 0 0 1 21 0 0 287 [.int (-1), .int (-1)] ap_289 (by decide +kernel) (by decide +kernel) (iv_a504 6 xs zf hz) ?_
  refine mx_B 5 20 [(3, .int 6), (2, .ref 36), (1, .ref 21), (0, .ref 0)] [.ref 0, .int 6] (by decide +kernel) ?_
  refine mx_S (.arraylength) 1 [] 21 [(3, .int 6), (2, .ref 36), (1, .ref 21), (0, .ref 0)] [.int 6, .int 6] (by decide +kernel) rfl ?_
  refine mx_B 4 543 [(3, .int 6), (2, .ref 36), (1, .ref 21), (0, .ref 0)] [.int 1] (by decide +kernel) ?_
  exact mx_ret (some (.int 1)) (by decide +kernel) ⟨rfl, rfl⟩
theorem iv_a506 (L : Nat) (xs : Nat → Int32) (zf : Value) (hz : zf.category = 1) : mx_R L xs zf ah_M190 0 [(0, .ref 3), (1, .int 1), (2, .int 0)] [] hh_a203 0 0 0 0 (fun v h' => v = some (.int 0) ∧ h' = hh_a203) := by
  refine mx_B 12 22 [(0, .ref 3), (1, .int 1), (2, .int 0)] [.int 1, .ref 3] (by decide +kernel) ?_
  refine mx_B 5 27 [(0, .ref 3), (1, .int 1), (2, .int 0)] [.int 0] (by decide +kernel) ?_
  exact mx_ret (some (.int 0)) (by decide +kernel) ⟨rfl, rfl⟩
theorem iv_a507 (L : Nat) (xs : Nat → Int32) (zf : Value) (hz : zf.category = 1) : mx_R L xs zf ah_M221 0 [(0, .ref 21), (1, .int 2), (2, .int 1), (3, .int 0)] [] hh_a203 0 0 1 22 (fun v h' => v = some (.int 0) ∧ h' = hh_a203) := by
  refine mx_B 12 70 [(0, .ref 21), (1, .int 2), (2, .int 1), (3, .int 0)] [] (by decide +kernel) ?_
  refine mx_B 3 75 [(0, .ref 21), (1, .int 2), (2, .int 1), (3, .int 0)] [.int 0, .int 1, .ref 3] (by decide +kernel) ?_
  refine mx_call 190 3 [.ref 3, .int 1, .int 0] [] [(0, .ref 3), (1, .int 1), (2, .int 0)] (some (.int 0)) hh_a203 0 0 0 0 0 0 78 [.int 0] ap_190 (by decide +kernel) (by decide +kernel) (iv_a506 L xs zf hz) ?_
  exact mx_ret (some (.int 0)) (by decide +kernel) ⟨rfl, rfl⟩
theorem iv_a508 (L : Nat) (xs : Nat → Int32) (zf : Value) (hz : zf.category = 1) : mx_R L xs zf ah_M292 0 [(0, .int 1), (1, .int 0)] [] hh_a203 0 0 0 0 (fun v h' => v = some (.int 0) ∧ h' = hh_a203) := by
  refine mx_B 12 26 [(0, .int 1), (1, .int 0)] [] (by decide +kernel) ?_
  refine mx_B 1 27 [(0, .int 1), (1, .int 0)] [.int 0] (by decide +kernel) ?_
  exact mx_ret (some (.int 0)) (by decide +kernel) ⟨rfl, rfl⟩
theorem iv_a509 (L : Nat) (xs : Nat → Int32) (zf : Value) (hz : zf.category = 1) : mx_R L xs zf ah_M289 0 [(0, .ref 36), (1, .int 2), (2, .int 1), (3, .int 0)] [] hh_a203 0 0 1 21 (fun v h' => v = some (.int 0) ∧ h' = hh_a203) := by
  refine mx_B 12 22 [(0, .ref 36), (1, .int 2), (2, .int 1), (3, .int 0)] [] (by decide +kernel) ?_
  refine mx_B 12 64 [(0, .ref 36), (1, .int 2), (2, .int 1), (3, .int 0)] [.int 1] (by decide +kernel) ?_
  refine mx_B 1 65 [(0, .ref 36), (1, .int 2), (2, .int 1), (3, .int 0)] [.int 0, .int 1] (by decide +kernel) ?_
  refine mx_call 292 3 [.int 1, .int 0] [] [(0, .int 1), (1, .int 0)] (some (.int 0)) hh_a203 0 0 0 0 0 0 68 [.int 0] ap_292 (by decide +kernel) (by decide +kernel) (iv_a508 L xs zf hz) ?_
  refine mx_B 1 84 [(0, .ref 36), (1, .int 2), (2, .int 1), (3, .int 0)] [.int 0] (by decide +kernel) ?_
  exact mx_ret (some (.int 0)) (by decide +kernel) ⟨rfl, rfl⟩
theorem iv_a510 (xs : Nat → Int32) (zf : Value) (hz : zf.category = 1) (hk : xs 0 &&& 15 = 5) (l1 : 2 ≤ (xs 1).toInt) (u1 : (xs 1).toInt ≤ 2) (l2 : 1 ≤ (xs 2).toInt) (u2 : (xs 2).toInt ≤ 1) (l3 : 0 ≤ (xs 3).toInt) (u3 : (xs 3).toInt ≤ 0) : mx_R 6 xs zf ah_M0 18 [(3, .int 0), (2, .ref 36), (1, .ref 21), (0, .ref 0)] [] hh_a203 0 0 2 45 (fun v h' => v = some (.int 1) ∧ h' = hh_a203) := by
  refine mx_B 2 20 [(3, .int 0), (2, .ref 36), (1, .ref 21), (0, .ref 0)] [.ref 0, .int 0] (by decide +kernel) ?_
  refine mx_S (.arraylength) 1 [] 21 [(3, .int 0), (2, .ref 36), (1, .ref 21), (0, .ref 0)] [.int 6, .int 0] (by decide +kernel) rfl ?_
  refine mx_B 5 29 [(3, .int 0), (2, .ref 36), (1, .ref 21), (0, .ref 0)] [.int 0, .ref 0] (by decide +kernel) ?_
  refine mx_scr 6 0 30 (by decide +kernel) (by decide +kernel) (by decide +kernel) ?_
  refine mx_S (.bipush 15) 2 [] 32 [(3, .int 0), (2, .ref 36), (1, .ref 21), (0, .ref 0)] [.int 15, .int (xs 0)] (by decide +kernel) rfl ?_
  refine mx_S (.iand) 1 [] 33 [(3, .int 0), (2, .ref 36), (1, .ref 21), (0, .ref 0)] [.int ((xs 0) &&& 15)] (by decide +kernel) rfl ?_
  refine mx_eq 5 hk ?_
  refine mx_B 6 254 [(3, .int 0), (2, .ref 36), (1, .ref 21), (0, .ref 0)] [.int 1, .ref 0, .ref 21] (by decide +kernel) ?_
  refine mx_scr 6 1 255 (by decide +kernel) (by decide +kernel) (by decide +kernel) ?_
  refine mx_eq 2 (mx_pt l1 u1 (by decide +kernel)) ?_
  refine mx_B 4 259 [(3, .int 0), (2, .ref 36), (1, .ref 21), (0, .ref 0)] [.int 2, .ref 0, .int 2, .ref 21] (by decide +kernel) ?_
  refine mx_scr 6 2 260 (by decide +kernel) (by decide +kernel) (by decide +kernel) ?_
  refine mx_eq 1 (mx_pt l2 u2 (by decide +kernel)) ?_
  refine mx_B 4 264 [(3, .int 0), (2, .ref 36), (1, .ref 21), (0, .ref 0)] [.int 3, .ref 0, .int 1, .int 2, .ref 21] (by decide +kernel) ?_
  refine mx_scr 6 3 265 (by decide +kernel) (by decide +kernel) (by decide +kernel) ?_
  refine mx_eq 0 (mx_pt l3 u3 (by decide +kernel)) ?_
  refine mx_call 221 3 [.ref 21, .int 2, .int 1, .int 0] [] [(0, .ref 21), (1, .int 2), (2, .int 1), (3, .int 0)] (some (.int 0)) hh_a203 0 0 1 22 0 0 268 [.int 0] ap_221 (by decide +kernel) (by decide +kernel) (iv_a507 6 xs zf hz) ?_
  refine mx_B 5 273 [(3, .int 0), (2, .ref 36), (1, .ref 21), (0, .ref 0)] [.int 1, .ref 0, .ref 36, .int 0] (by decide +kernel) ?_
  refine mx_scr 6 1 274 (by decide +kernel) (by decide +kernel) (by decide +kernel) ?_
  refine mx_eq 2 (mx_pt l1 u1 (by decide +kernel)) ?_
  refine mx_B 4 278 [(3, .int 0), (2, .ref 36), (1, .ref 21), (0, .ref 0)] [.int 2, .ref 0, .int 2, .ref 36, .int 0] (by decide +kernel) ?_
  refine mx_scr 6 2 279 (by decide +kernel) (by decide +kernel) (by decide +kernel) ?_
  refine mx_eq 1 (mx_pt l2 u2 (by decide +kernel)) ?_
  refine mx_B 4 283 [(3, .int 0), (2, .ref 36), (1, .ref 21), (0, .ref 0)] [.int 3, .ref 0, .int 1, .int 2, .ref 36, .int 0] (by decide +kernel) ?_
  refine mx_scr 6 3 284 (by decide +kernel) (by decide +kernel) (by decide +kernel) ?_
  refine mx_eq 0 (mx_pt l3 u3 (by decide +kernel)) ?_
  refine mx_call 289 3 [.ref 36, .int 2, .int 1, .int 0] [.int 0] [(0, .ref 36), (1, .int 2), (2, .int 1), (3, .int 0)] (some (.int 0)) hh_a203 0 0 1 21 0 0 287 [.int 0, .int 0] ap_289 (by decide +kernel) (by decide +kernel) (iv_a509 6 xs zf hz) ?_
  refine mx_B 5 20 [(3, .int 6), (2, .ref 36), (1, .ref 21), (0, .ref 0)] [.ref 0, .int 6] (by decide +kernel) ?_
  refine mx_S (.arraylength) 1 [] 21 [(3, .int 6), (2, .ref 36), (1, .ref 21), (0, .ref 0)] [.int 6, .int 6] (by decide +kernel) rfl ?_
  refine mx_B 4 543 [(3, .int 6), (2, .ref 36), (1, .ref 21), (0, .ref 0)] [.int 1] (by decide +kernel) ?_
  exact mx_ret (some (.int 1)) (by decide +kernel) ⟨rfl, rfl⟩
theorem iv_a511 (L : Nat) (xs : Nat → Int32) (zf : Value) (hz : zf.category = 1) : mx_R L xs zf ah_M190 0 [(0, .ref 3), (1, .int 1), (2, .int 1)] [] hh_a203 0 0 0 0 (fun v h' => v = some (.int 4) ∧ h' = hh_a203) := by
  refine mx_B 12 22 [(0, .ref 3), (1, .int 1), (2, .int 1)] [.int 1, .ref 3] (by decide +kernel) ?_
  refine mx_B 5 27 [(0, .ref 3), (1, .int 1), (2, .int 1)] [.int 4] (by decide +kernel) ?_
  exact mx_ret (some (.int 4)) (by decide +kernel) ⟨rfl, rfl⟩
theorem iv_a512 (L : Nat) (xs : Nat → Int32) (zf : Value) (hz : zf.category = 1) : mx_R L xs zf ah_M221 0 [(0, .ref 21), (1, .int 2), (2, .int 1), (3, .int 1)] [] hh_a203 0 0 1 22 (fun v h' => v = some (.int 4) ∧ h' = hh_a203) := by
  refine mx_B 12 70 [(0, .ref 21), (1, .int 2), (2, .int 1), (3, .int 1)] [] (by decide +kernel) ?_
  refine mx_B 3 75 [(0, .ref 21), (1, .int 2), (2, .int 1), (3, .int 1)] [.int 1, .int 1, .ref 3] (by decide +kernel) ?_
  refine mx_call 190 3 [.ref 3, .int 1, .int 1] [] [(0, .ref 3), (1, .int 1), (2, .int 1)] (some (.int 4)) hh_a203 0 0 0 0 0 0 78 [.int 4] ap_190 (by decide +kernel) (by decide +kernel) (iv_a511 L xs zf hz) ?_
  exact mx_ret (some (.int 4)) (by decide +kernel) ⟨rfl, rfl⟩
theorem iv_a513 (L : Nat) (xs : Nat → Int32) (zf : Value) (hz : zf.category = 1) : mx_R L xs zf ah_M292 0 [(0, .int 1), (1, .int 1)] [] hh_a203 0 0 0 0 (fun v h' => v = some (.int 4) ∧ h' = hh_a203) := by
  refine mx_B 11 27 [(0, .int 1), (1, .int 1)] [.int 4] (by decide +kernel) ?_
  exact mx_ret (some (.int 4)) (by decide +kernel) ⟨rfl, rfl⟩
theorem iv_a514 (L : Nat) (xs : Nat → Int32) (zf : Value) (hz : zf.category = 1) : mx_R L xs zf ah_M289 0 [(0, .ref 36), (1, .int 2), (2, .int 1), (3, .int 1)] [] hh_a203 0 0 1 21 (fun v h' => v = some (.int 4) ∧ h' = hh_a203) := by
  refine mx_B 12 22 [(0, .ref 36), (1, .int 2), (2, .int 1), (3, .int 1)] [] (by decide +kernel) ?_
  refine mx_B 12 64 [(0, .ref 36), (1, .int 2), (2, .int 1), (3, .int 1)] [.int 1] (by decide +kernel) ?_
  refine mx_B 1 65 [(0, .ref 36), (1, .int 2), (2, .int 1), (3, .int 1)] [.int 1, .int 1] (by decide +kernel) ?_
  refine mx_call 292 3 [.int 1, .int 1] [] [(0, .int 1), (1, .int 1)] (some (.int 4)) hh_a203 0 0 0 0 0 0 68 [.int 4] ap_292 (by decide +kernel) (by decide +kernel) (iv_a513 L xs zf hz) ?_
  refine mx_B 1 84 [(0, .ref 36), (1, .int 2), (2, .int 1), (3, .int 1)] [.int 4] (by decide +kernel) ?_
  exact mx_ret (some (.int 4)) (by decide +kernel) ⟨rfl, rfl⟩
theorem iv_a515 (xs : Nat → Int32) (zf : Value) (hz : zf.category = 1) (hk : xs 0 &&& 15 = 5) (l1 : 2 ≤ (xs 1).toInt) (u1 : (xs 1).toInt ≤ 2) (l2 : 1 ≤ (xs 2).toInt) (u2 : (xs 2).toInt ≤ 1) (l3 : 1 ≤ (xs 3).toInt) (u3 : (xs 3).toInt ≤ 1) : mx_R 6 xs zf ah_M0 18 [(3, .int 0), (2, .ref 36), (1, .ref 21), (0, .ref 0)] [] hh_a203 0 0 2 45 (fun v h' => v = some (.int 1) ∧ h' = hh_a203) := by
  refine mx_B 2 20 [(3, .int 0), (2, .ref 36), (1, .ref 21), (0, .ref 0)] [.ref 0, .int 0] (by decide +kernel) ?_
  refine mx_S (.arraylength) 1 [] 21 [(3, .int 0), (2, .ref 36), (1, .ref 21), (0, .ref 0)] [.int 6, .int 0] (by decide +kernel) rfl ?_
  refine mx_B 5 29 [(3, .int 0), (2, .ref 36), (1, .ref 21), (0, .ref 0)] [.int 0, .ref 0] (by decide +kernel) ?_
  refine mx_scr 6 0 30 (by decide +kernel) (by decide +kernel) (by decide +kernel) ?_
  refine mx_S (.bipush 15) 2 [] 32 [(3, .int 0), (2, .ref 36), (1, .ref 21), (0, .ref 0)] [.int 15, .int (xs 0)] (by decide +kernel) rfl ?_
  refine mx_S (.iand) 1 [] 33 [(3, .int 0), (2, .ref 36), (1, .ref 21), (0, .ref 0)] [.int ((xs 0) &&& 15)] (by decide +kernel) rfl ?_
  refine mx_eq 5 hk ?_
  refine mx_B 6 254 [(3, .int 0), (2, .ref 36), (1, .ref 21), (0, .ref 0)] [.int 1, .ref 0, .ref 21] (by decide +kernel) ?_
  refine mx_scr 6 1 255 (by decide +kernel) (by decide +kernel) (by decide +kernel) ?_
  refine mx_eq 2 (mx_pt l1 u1 (by decide +kernel)) ?_
  refine mx_B 4 259 [(3, .int 0), (2, .ref 36), (1, .ref 21), (0, .ref 0)] [.int 2, .ref 0, .int 2, .ref 21] (by decide +kernel) ?_
  refine mx_scr 6 2 260 (by decide +kernel) (by decide +kernel) (by decide +kernel) ?_
  refine mx_eq 1 (mx_pt l2 u2 (by decide +kernel)) ?_
  refine mx_B 4 264 [(3, .int 0), (2, .ref 36), (1, .ref 21), (0, .ref 0)] [.int 3, .ref 0, .int 1, .int 2, .ref 21] (by decide +kernel) ?_
  refine mx_scr 6 3 265 (by decide +kernel) (by decide +kernel) (by decide +kernel) ?_
  refine mx_eq 1 (mx_pt l3 u3 (by decide +kernel)) ?_
  refine mx_call 221 3 [.ref 21, .int 2, .int 1, .int 1] [] [(0, .ref 21), (1, .int 2), (2, .int 1), (3, .int 1)] (some (.int 4)) hh_a203 0 0 1 22 0 0 268 [.int 4] ap_221 (by decide +kernel) (by decide +kernel) (iv_a512 6 xs zf hz) ?_
  refine mx_B 5 273 [(3, .int 0), (2, .ref 36), (1, .ref 21), (0, .ref 0)] [.int 1, .ref 0, .ref 36, .int 4] (by decide +kernel) ?_
  refine mx_scr 6 1 274 (by decide +kernel) (by decide +kernel) (by decide +kernel) ?_
  refine mx_eq 2 (mx_pt l1 u1 (by decide +kernel)) ?_
  refine mx_B 4 278 [(3, .int 0), (2, .ref 36), (1, .ref 21), (0, .ref 0)] [.int 2, .ref 0, .int 2, .ref 36, .int 4] (by decide +kernel) ?_
  refine mx_scr 6 2 279 (by decide +kernel) (by decide +kernel) (by decide +kernel) ?_
  refine mx_eq 1 (mx_pt l2 u2 (by decide +kernel)) ?_
  refine mx_B 4 283 [(3, .int 0), (2, .ref 36), (1, .ref 21), (0, .ref 0)] [.int 3, .ref 0, .int 1, .int 2, .ref 36, .int 4] (by decide +kernel) ?_
  refine mx_scr 6 3 284 (by decide +kernel) (by decide +kernel) (by decide +kernel) ?_
  refine mx_eq 1 (mx_pt l3 u3 (by decide +kernel)) ?_
  refine mx_call 289 3 [.ref 36, .int 2, .int 1, .int 1] [.int 4] [(0, .ref 36), (1, .int 2), (2, .int 1), (3, .int 1)] (some (.int 4)) hh_a203 0 0 1 21 0 0 287 [.int 4, .int 4] ap_289 (by decide +kernel) (by decide +kernel) (iv_a514 6 xs zf hz) ?_
  refine mx_B 5 20 [(3, .int 6), (2, .ref 36), (1, .ref 21), (0, .ref 0)] [.ref 0, .int 6] (by decide +kernel) ?_
  refine mx_S (.arraylength) 1 [] 21 [(3, .int 6), (2, .ref 36), (1, .ref 21), (0, .ref 0)] [.int 6, .int 6] (by decide +kernel) rfl ?_
  refine mx_B 4 543 [(3, .int 6), (2, .ref 36), (1, .ref 21), (0, .ref 0)] [.int 1] (by decide +kernel) ?_
  exact mx_ret (some (.int 1)) (by decide +kernel) ⟨rfl, rfl⟩
theorem iv_a516 (L : Nat) (xs : Nat → Int32) (zf : Value) (hz : zf.category = 1) : mx_R L xs zf ah_M190 0 [(0, .ref 3), (1, .int 1), (2, .int 2)] [] hh_a203 0 0 0 0 (fun v h' => v = some (.int 4) ∧ h' = hh_a203) := by
  refine mx_B 12 22 [(0, .ref 3), (1, .int 1), (2, .int 2)] [.int 1, .ref 3] (by decide +kernel) ?_
  refine mx_B 5 27 [(0, .ref 3), (1, .int 1), (2, .int 2)] [.int 4] (by decide +kernel) ?_
  exact mx_ret (some (.int 4)) (by decide +kernel) ⟨rfl, rfl⟩
theorem iv_a517 (L : Nat) (xs : Nat → Int32) (zf : Value) (hz : zf.category = 1) : mx_R L xs zf ah_M221 0 [(0, .ref 21), (1, .int 2), (2, .int 1), (3, .int 2)] [] hh_a203 0 0 1 22 (fun v h' => v = some (.int 4) ∧ h' = hh_a203) := by
  refine mx_B 12 70 [(0, .ref 21), (1, .int 2), (2, .int 1), (3, .int 2)] [] (by decide +kernel) ?_
  refine mx_B 3 75 [(0, .ref 21), (1, .int 2), (2, .int 1), (3, .int 2)] [.int 2, .int 1, .ref 3] (by decide +kernel) ?_
  refine mx_call 190 3 [.ref 3, .int 1, .int 2] [] [(0, .ref 3), (1, .int 1), (2, .int 2)] (some (.int 4)) hh_a203 0 0 0 0 0 0 78 [.int 4] ap_190 (by decide +kernel) (by decide +kernel) (iv_a516 L xs zf hz) ?_
  exact mx_ret (some (.int 4)) (by decide +kernel) ⟨rfl, rfl⟩
theorem iv_a518 (L : Nat) (xs : Nat → Int32) (zf : Value) (hz : zf.category = 1) : mx_R L xs zf ah_M292 0 [(0, .int 1), (1, .int 2)] [] hh_a203 0 0 0 0 (fun v h' => v = some (.int 4) ∧ h' = hh_a203) := by
  refine mx_B 12 22 [(0, .int 1), (1, .int 2)] [] (by decide +kernel) ?_
  refine mx_B 2 27 [(0, .int 1), (1, .int 2)] [.int 4] (by decide +kernel) ?_
  exact mx_ret (some (.int 4)) (by decide +kernel) ⟨rfl, rfl⟩
theorem iv_a519 (L : Nat) (xs : Nat → Int32) (zf : Value) (hz : zf.category = 1) : mx_R L xs zf ah_M289 0 [(0, .ref 36), (1, .int 2), (2, .int 1), (3, .int 2)] [] hh_a203 0 0 1 21 (fun v h' => v = some (.int 4) ∧ h' = hh_a203) := by
  refine mx_B 12 22 [(0, .ref 36), (1, .int 2), (2, .int 1), (3, .int 2)] [] (by decide +kernel) ?_
  refine mx_B 12 64 [(0, .ref 36), (1, .int 2), (2, .int 1), (3, .int 2)] [.int 1] (by decide +kernel) ?_
  refine mx_B 1 65 [(0, .ref 36), (1, .int 2), (2, .int 1), (3, .int 2)] [.int 2, .int 1] (by decide +kernel) ?_
  refine mx_call 292 3 [.int 1, .int 2] [] [(0, .int 1), (1, .int 2)] (some (.int 4)) hh_a203 0 0 0 0 0 0 68 [.int 4] ap_292 (by decide +kernel) (by decide +kernel) (iv_a518 L xs zf hz) ?_
  refine mx_B 1 84 [(0, .ref 36), (1, .int 2), (2, .int 1), (3, .int 2)] [.int 4] (by decide +kernel) ?_
  exact mx_ret (some (.int 4)) (by decide +kernel) ⟨rfl, rfl⟩
theorem iv_a520 (xs : Nat → Int32) (zf : Value) (hz : zf.category = 1) (hk : xs 0 &&& 15 = 5) (l1 : 2 ≤ (xs 1).toInt) (u1 : (xs 1).toInt ≤ 2) (l2 : 1 ≤ (xs 2).toInt) (u2 : (xs 2).toInt ≤ 1) (l3 : 2 ≤ (xs 3).toInt) (u3 : (xs 3).toInt ≤ 2) : mx_R 6 xs zf ah_M0 18 [(3, .int 0), (2, .ref 36), (1, .ref 21), (0, .ref 0)] [] hh_a203 0 0 2 45 (fun v h' => v = some (.int 1) ∧ h' = hh_a203) := by
  refine mx_B 2 20 [(3, .int 0), (2, .ref 36), (1, .ref 21), (0, .ref 0)] [.ref 0, .int 0] (by decide +kernel) ?_
  refine mx_S (.arraylength) 1 [] 21 [(3, .int 0), (2, .ref 36), (1, .ref 21), (0, .ref 0)] [.int 6, .int 0] (by decide +kernel) rfl ?_
  refine mx_B 5 29 [(3, .int 0), (2, .ref 36), (1, .ref 21), (0, .ref 0)] [.int 0, .ref 0] (by decide +kernel) ?_
  refine mx_scr 6 0 30 (by decide +kernel) (by decide +kernel) (by decide +kernel) ?_
  refine mx_S (.bipush 15) 2 [] 32 [(3, .int 0), (2, .ref 36), (1, .ref 21), (0, .ref 0)] [.int 15, .int (xs 0)] (by decide +kernel) rfl ?_
  refine mx_S (.iand) 1 [] 33 [(3, .int 0), (2, .ref 36), (1, .ref 21), (0, .ref 0)] [.int ((xs 0) &&& 15)] (by decide +kernel) rfl ?_
  refine mx_eq 5 hk ?_
  refine mx_B 6 254 [(3, .int 0), (2, .ref 36), (1, .ref 21), (0, .ref 0)] [.int 1, .ref 0, .ref 21] (by decide +kernel) ?_
  refine mx_scr 6 1 255 (by decide +kernel) (by decide +kernel) (by decide +kernel) ?_
  refine mx_eq 2 (mx_pt l1 u1 (by decide +kernel)) ?_
  refine mx_B 4 259 [(3, .int 0), (2, .ref 36), (1, .ref 21), (0, .ref 0)] [.int 2, .ref 0, .int 2, .ref 21] (by decide +kernel) ?_
  refine mx_scr 6 2 260 (by decide +kernel) (by decide +kernel) (by decide +kernel) ?_
  refine mx_eq 1 (mx_pt l2 u2 (by decide +kernel)) ?_
  refine mx_B 4 264 [(3, .int 0), (2, .ref 36), (1, .ref 21), (0, .ref 0)] [.int 3, .ref 0, .int 1, .int 2, .ref 21] (by decide +kernel) ?_
  refine mx_scr 6 3 265 (by decide +kernel) (by decide +kernel) (by decide +kernel) ?_
  refine mx_eq 2 (mx_pt l3 u3 (by decide +kernel)) ?_
  refine mx_call 221 3 [.ref 21, .int 2, .int 1, .int 2] [] [(0, .ref 21), (1, .int 2), (2, .int 1), (3, .int 2)] (some (.int 4)) hh_a203 0 0 1 22 0 0 268 [.int 4] ap_221 (by decide +kernel) (by decide +kernel) (iv_a517 6 xs zf hz) ?_
  refine mx_B 5 273 [(3, .int 0), (2, .ref 36), (1, .ref 21), (0, .ref 0)] [.int 1, .ref 0, .ref 36, .int 4] (by decide +kernel) ?_
  refine mx_scr 6 1 274 (by decide +kernel) (by decide +kernel) (by decide +kernel) ?_
  refine mx_eq 2 (mx_pt l1 u1 (by decide +kernel)) ?_
  refine mx_B 4 278 [(3, .int 0), (2, .ref 36), (1, .ref 21), (0, .ref 0)] [.int 2, .ref 0, .int 2, .ref 36, .int 4] (by decide +kernel) ?_
  refine mx_scr 6 2 279 (by decide +kernel) (by decide +kernel) (by decide +kernel) ?_
  refine mx_eq 1 (mx_pt l2 u2 (by decide +kernel)) ?_
  refine mx_B 4 283 [(3, .int 0), (2, .ref 36), (1, .ref 21), (0, .ref 0)] [.int 3, .ref 0, .int 1, .int 2, .ref 36, .int 4] (by decide +kernel) ?_
  refine mx_scr 6 3 284 (by decide +kernel) (by decide +kernel) (by decide +kernel) ?_
  refine mx_eq 2 (mx_pt l3 u3 (by decide +kernel)) ?_
  refine mx_call 289 3 [.ref 36, .int 2, .int 1, .int 2] [.int 4] [(0, .ref 36), (1, .int 2), (2, .int 1), (3, .int 2)] (some (.int 4)) hh_a203 0 0 1 21 0 0 287 [.int 4, .int 4] ap_289 (by decide +kernel) (by decide +kernel) (iv_a519 6 xs zf hz) ?_
  refine mx_B 5 20 [(3, .int 6), (2, .ref 36), (1, .ref 21), (0, .ref 0)] [.ref 0, .int 6] (by decide +kernel) ?_
  refine mx_S (.arraylength) 1 [] 21 [(3, .int 6), (2, .ref 36), (1, .ref 21), (0, .ref 0)] [.int 6, .int 6] (by decide +kernel) rfl ?_
  refine mx_B 4 543 [(3, .int 6), (2, .ref 36), (1, .ref 21), (0, .ref 0)] [.int 1] (by decide +kernel) ?_
  exact mx_ret (some (.int 1)) (by decide +kernel) ⟨rfl, rfl⟩
theorem iv_a521 (L : Nat) (xs : Nat → Int32) (zf : Value) (hz : zf.category = 1) : mx_R L xs zf ah_M190 0 [(0, .ref 3), (1, .int 1), (2, .int 3)] [] hh_a203 0 0 0 0 (fun v h' => v = some (.int 3) ∧ h' = hh_a203) := by
  refine mx_B 12 22 [(0, .ref 3), (1, .int 1), (2, .int 3)] [.int 1, .ref 3] (by decide +kernel) ?_
  refine mx_B 5 27 [(0, .ref 3), (1, .int 1), (2, .int 3)] [.int 3] (by decide +kernel) ?_
  exact mx_ret (some (.int 3)) (by decide +kernel) ⟨rfl, rfl⟩
theorem iv_a522 (L : Nat) (xs : Nat → Int32) (zf : Value) (hz : zf.category = 1) : mx_R L xs zf ah_M221 0 [(0, .ref 21), (1, .int 2), (2, .int 1), (3, .int 3)] [] hh_a203 0 0 1 22 (fun v h' => v = some (.int 3) ∧ h' = hh_a203) := by
  refine mx_B 12 70 [(0, .ref 21), (1, .int 2), (2, .int 1), (3, .int 3)] [] (by decide +kernel) ?_
  refine mx_B 3 75 [(0, .ref 21), (1, .int 2), (2, .int 1), (3, .int 3)] [.int 3, .int 1, .ref 3] (by decide +kernel) ?_
  refine mx_call 190 3 [.ref 3, .int 1, .int 3] [] [(0, .ref 3), (1, .int 1), (2, .int 3)] (some (.int 3)) hh_a203 0 0 0 0 0 0 78 [.int 3] ap_190 (by decide +kernel) (by decide +kernel) (iv_a521 L xs zf hz) ?_
  exact mx_ret (some (.int 3)) (by decide +kernel) ⟨rfl, rfl⟩
theorem iv_a523 (L : Nat) (xs : Nat → Int32) (zf : Value) (hz : zf.category = 1) : mx_R L xs zf ah_M292 0 [(0, .int 1), (1, .int 3)] [] hh_a203 0 0 0 0 (fun v h' => v = some (.int 3) ∧ h' = hh_a203) := by
  refine mx_B 12 26 [(0, .int 1), (1, .int 3)] [] (by decide +kernel) ?_
  refine mx_B 1 27 [(0, .int 1), (1, .int 3)] [.int 3] (by decide +kernel) ?_
  exact mx_ret (some (.int 3)) (by decide +kernel) ⟨rfl, rfl⟩
theorem iv_a524 (L : Nat) (xs : Nat → Int32) (zf : Value) (hz : zf.category = 1) : mx_R L xs zf ah_M289 0 [(0, .ref 36), (1, .int 2), (2, .int 1), (3, .int 3)] [] hh_a203 0 0 1 21 (fun v h' => v = some (.int 3) ∧ h' = hh_a203) := by
  refine mx_B 12 22 [(0, .ref 36), (1, .int 2), (2, .int 1), (3, .int 3)] [] (by decide +kernel) ?_
  refine mx_B 12 64 [(0, .ref 36), (1, .int 2), (2, .int 1), (3, .int 3)] [.int 1] (by decide +kernel) ?_
  refine mx_B 1 65 [(0, .ref 36), (1, .int 2), (2, .int 1), (3, .int 3)] [.int 3, .int 1] (by decide +kernel) ?_
  refine mx_call 292 3 [.int 1, .int 3] [] [(0, .int 1), (1, .int 3)] (some (.int 3)) hh_a203 0 0 0 0 0 0 68 [.int 3] ap_292 (by decide +kernel) (by decide +kernel) (iv_a523 L xs zf hz) ?_
  refine mx_B 1 84 [(0, .ref 36), (1, .int 2), (2, .int 1), (3, .int 3)] [.int 3] (by decide +kernel) ?_
  exact mx_ret (some (.int 3)) (by decide +kernel) ⟨rfl, rfl⟩
theorem iv_a525 (xs : Nat → Int32) (zf : Value) (hz : zf.category = 1) (hk : xs 0 &&& 15 = 5) (l1 : 2 ≤ (xs 1).toInt) (u1 : (xs 1).toInt ≤ 2) (l2 : 1 ≤ (xs 2).toInt) (u2 : (xs 2).toInt ≤ 1) (l3 : 3 ≤ (xs 3).toInt) (u3 : (xs 3).toInt ≤ 3) : mx_R 6 xs zf ah_M0 18 [(3, .int 0), (2, .ref 36), (1, .ref 21), (0, .ref 0)] [] hh_a203 0 0 2 45 (fun v h' => v = some (.int 1) ∧ h' = hh_a203) := by
  refine mx_B 2 20 [(3, .int 0), (2, .ref 36), (1, .ref 21), (0, .ref 0)] [.ref 0, .int 0] (by decide +kernel) ?_
  refine mx_S (.arraylength) 1 [] 21 [(3, .int 0), (2, .ref 36), (1, .ref 21), (0, .ref 0)] [.int 6, .int 0] (by decide +kernel) rfl ?_
  refine mx_B 5 29 [(3, .int 0), (2, .ref 36), (1, .ref 21), (0, .ref 0)] [.int 0, .ref 0] (by decide +kernel) ?_
  refine mx_scr 6 0 30 (by decide +kernel) (by decide +kernel) (by decide +kernel) ?_
  refine mx_S (.bipush 15) 2 [] 32 [(3, .int 0), (2, .ref 36), (1, .ref 21), (0, .ref 0)] [.int 15, .int (xs 0)] (by decide +kernel) rfl ?_
  refine mx_S (.iand) 1 [] 33 [(3, .int 0), (2, .ref 36), (1, .ref 21), (0, .ref 0)] [.int ((xs 0) &&& 15)] (by decide +kernel) rfl ?_
  refine mx_eq 5 hk ?_
  refine mx_B 6 254 [(3, .int 0), (2, .ref 36), (1, .ref 21), (0, .ref 0)] [.int 1, .ref 0, .ref 21] (by decide +kernel) ?_
  refine mx_scr 6 1 255 (by decide +kernel) (by decide +kernel) (by decide +kernel) ?_
  refine mx_eq 2 (mx_pt l1 u1 (by decide +kernel)) ?_
  refine mx_B 4 259 [(3, .int 0), (2, .ref 36), (1, .ref 21), (0, .ref 0)] [.int 2, .ref 0, .int 2, .ref 21] (by decide +kernel) ?_
  refine mx_scr 6 2 260 (by decide +kernel) (by decide +kernel) (by decide +kernel) ?_
  refine mx_eq 1 (mx_pt l2 u2 (by decide +kernel)) ?_
  refine mx_B 4 264 [(3, .int 0), (2, .ref 36), (1, .ref 21), (0, .ref 0)] [.int 3, .ref 0, .int 1, .int 2, .ref 21] (by decide +kernel) ?_
  refine mx_scr 6 3 265 (by decide +kernel) (by decide +kernel) (by decide +kernel) ?_
  refine mx_eq 3 (mx_pt l3 u3 (by decide +kernel)) ?_
  refine mx_call 221 3 [.ref 21, .int 2, .int 1, .int 3] [] [(0, .ref 21), (1, .int 2), (2, .int 1), (3, .int 3)] (some (.int 3)) hh_a203 0 0 1 22 0 0 268 [.int 3] ap_221 (by decide +kernel) (by decide +kernel) (iv_a522 6 xs zf hz) ?_
  refine mx_B 5 273 [(3, .int 0), (2, .ref 36), (1, .ref 21), (0, .ref 0)] [.int 1, .ref 0, .ref 36, .int 3] (by decide +kernel) ?_
  refine mx_scr 6 1 274 (by decide +kernel) (by decide +kernel) (by decide +kernel) ?_
  refine mx_eq 2 (mx_pt l1 u1 (by decide +kernel)) ?_
  refine mx_B 4 278 [(3, .int 0), (2, .ref 36), (1, .ref 21), (0, .ref 0)] [.int 2, .ref 0, .int 2, .ref 36, .int 3] (by decide +kernel) ?_
  refine mx_scr 6 2 279 (by decide +kernel) (by decide +kernel) (by decide +kernel) ?_
  refine mx_eq 1 (mx_pt l2 u2 (by decide +kernel)) ?_
  refine mx_B 4 283 [(3, .int 0), (2, .ref 36), (1, .ref 21), (0, .ref 0)] [.int 3, .ref 0, .int 1, .int 2, .ref 36, .int 3] (by decide +kernel) ?_
  refine mx_scr 6 3 284 (by decide +kernel) (by decide +kernel) (by decide +kernel) ?_
  refine mx_eq 3 (mx_pt l3 u3 (by decide +kernel)) ?_
  refine mx_call 289 3 [.ref 36, .int 2, .int 1, .int 3] [.int 3] [(0, .ref 36), (1, .int 2), (2, .int 1), (3, .int 3)] (some (.int 3)) hh_a203 0 0 1 21 0 0 287 [.int 3, .int 3] ap_289 (by decide +kernel) (by decide +kernel) (iv_a524 6 xs zf hz) ?_
  refine mx_B 5 20 [(3, .int 6), (2, .ref 36), (1, .ref 21), (0, .ref 0)] [.ref 0, .int 6] (by decide +kernel) ?_
  refine mx_S (.arraylength) 1 [] 21 [(3, .int 6), (2, .ref 36), (1, .ref 21), (0, .ref 0)] [.int 6, .int 6] (by decide +kernel) rfl ?_
  refine mx_B 4 543 [(3, .int 6), (2, .ref 36), (1, .ref 21), (0, .ref 0)] [.int 1] (by decide +kernel) ?_
  exact mx_ret (some (.int 1)) (by decide +kernel) ⟨rfl, rfl⟩
theorem iv_a526 (L : Nat) (xs : Nat → Int32) (zf : Value) (hz : zf.category = 1) : mx_R L xs zf ah_M190 0 [(0, .ref 3), (1, .int 1), (2, .int 4)] [] hh_a203 0 0 0 0 (fun v h' => v = some (.int 4) ∧ h' = hh_a203) := by
  refine mx_B 12 22 [(0, .ref 3), (1, .int 1), (2, .int 4)] [.int 1, .ref 3] (by decide +kernel) ?_
  refine mx_B 5 27 [(0, .ref 3), (1, .int 1), (2, .int 4)] [.int 4] (by decide +kernel) ?_
  exact mx_ret (some (.int 4)) (by decide +kernel) ⟨rfl, rfl⟩
theorem iv_a527 (L : Nat) (xs : Nat → Int32) (zf : Value) (hz : zf.category = 1) : mx_R L xs zf ah_M221 0 [(0, .ref 21), (1, .int 2), (2, .int 1), (3, .int 4)] [] hh_a203 0 0 1 22 (fun v h' => v = some (.int 4) ∧ h' = hh_a203) := by
  refine mx_B 12 70 [(0, .ref 21), (1, .int 2), (2, .int 1), (3, .int 4)] [] (by decide +kernel) ?_
  refine mx_B 3 75 [(0, .ref 21), (1, .int 2), (2, .int 1), (3, .int 4)] [.int 4, .int 1, .ref 3] (by decide +kernel) ?_
  refine mx_call 190 3 [.ref 3, .int 1, .int 4] [] [(0, .ref 3), (1, .int 1), (2, .int 4)] (some (.int 4)) hh_a203 0 0 0 0 0 0 78 [.int 4] ap_190 (by decide +kernel) (by decide +kernel) (iv_a526 L xs zf hz) ?_
  exact mx_ret (some (.int 4)) (by decide +kernel) ⟨rfl, rfl⟩
theorem iv_a528 (L : Nat) (xs : Nat → Int32) (zf : Value) (hz : zf.category = 1) : mx_R L xs zf ah_M292 0 [(0, .int 1), (1, .int 4)] [] hh_a203 0 0 0 0 (fun v h' => v = some (.int 4) ∧ h' = hh_a203) := by
  refine mx_B 12 26 [(0, .int 1), (1, .int 4)] [] (by decide +kernel) ?_
  refine mx_B 1 27 [(0, .int 1), (1, .int 4)] [.int 4] (by decide +kernel) ?_
  exact mx_ret (some (.int 4)) (by decide +kernel) ⟨rfl, rfl⟩
theorem iv_a529 (L : Nat) (xs : Nat → Int32) (zf : Value) (hz : zf.category = 1) : mx_R L xs zf ah_M289 0 [(0, .ref 36), (1, .int 2), (2, .int 1), (3, .int 4)] [] hh_a203 0 0 1 21 (fun v h' => v = some (.int 4) ∧ h' = hh_a203) := by
  refine mx_B 12 22 [(0, .ref 36), (1, .int 2), (2, .int 1), (3, .int 4)] [] (by decide +kernel) ?_
  refine mx_B 12 64 [(0, .ref 36), (1, .int 2), (2, .int 1), (3, .int 4)] [.int 1] (by decide +kernel) ?_
  refine mx_B 1 65 [(0, .ref 36), (1, .int 2), (2, .int 1), (3, .int 4)] [.int 4, .int 1] (by decide +kernel) ?_
  refine mx_call 292 3 [.int 1, .int 4] [] [(0, .int 1), (1, .int 4)] (some (.int 4)) hh_a203 0 0 0 0 0 0 68 [.int 4] ap_292 (by decide +kernel) (by decide +kernel) (iv_a528 L xs zf hz) ?_
  refine mx_B 1 84 [(0, .ref 36), (1, .int 2), (2, .int 1), (3, .int 4)] [.int 4] (by decide +kernel) ?_
  exact mx_ret (some (.int 4)) (by decide +kernel) ⟨rfl, rfl⟩
theorem iv_a530 (xs : Nat → Int32) (zf : Value) (hz : zf.category = 1) (hk : xs 0 &&& 15 = 5) (l1 : 2 ≤ (xs 1).toInt) (u1 : (xs 1).toInt ≤ 2) (l2 : 1 ≤ (xs 2).toInt) (u2 : (xs 2).toInt ≤ 1) (l3 : 4 ≤ (xs 3).toInt) (u3 : (xs 3).toInt ≤ 4) : mx_R 6 xs zf ah_M0 18 [(3, .int 0), (2, .ref 36), (1, .ref 21), (0, .ref 0)] [] hh_a203 0 0 2 45 (fun v h' => v = some (.int 1) ∧ h' = hh_a203) := by
  refine mx_B 2 20 [(3, .int 0), (2, .ref 36), (1, .ref 21), (0, .ref 0)] [.ref 0, .int 0] (by decide +kernel) ?_
  refine mx_S (.arraylength) 1 [] 21 [(3, .int 0), (2, .ref 36), (1, .ref 21), (0, .ref 0)] [.int 6, .int 0] (by decide +kernel) rfl ?_
  refine mx_B 5 29 [(3, .int 0), (2, .ref 36), (1, .ref 21), (0, .ref 0)] [.int 0, .ref 0] (by decide +kernel) ?_
  refine mx_scr 6 0 30 (by decide +kernel) (by decide +kernel) (by decide +kernel) ?_
  refine mx_S (.bipush 15) 2 [] 32 [(3, .int 0), (2, .ref 36), (1, .ref 21), (0, .ref 0)] [.int 15, .int (xs 0)] (by decide +kernel) rfl ?_
  refine mx_S (.iand) 1 [] 33 [(3, .int 0), (2, .ref 36), (1, .ref 21), (0, .ref 0)] [.int ((xs 0) &&& 15)] (by decide +kernel) rfl ?_
  refine mx_eq 5 hk ?_
  refine mx_B 6 254 [(3, .int 0), (2, .ref 36), (1, .ref 21), (0, .ref 0)] [.int 1, .ref 0, .ref 21] (by decide +kernel) ?_
  refine mx_scr 6 1 255 (by decide +kernel) (by decide +kernel) (by decide +kernel) ?_
  refine mx_eq 2 (mx_pt l1 u1 (by decide +kernel)) ?_
  refine mx_B 4 259 [(3, .int 0), (2, .ref 36), (1, .ref 21), (0, .ref 0)] [.int 2, .ref 0, .int 2, .ref 21] (by decide +kernel) ?_
  refine mx_scr 6 2 260 (by decide +kernel) (by decide +kernel) (by decide +kernel) ?_
  refine mx_eq 1 (mx_pt l2 u2 (by decide +kernel)) ?_
  refine mx_B 4 264 [(3, .int 0), (2, .ref 36), (1, .ref 21), (0, .ref 0)] [.int 3, .ref 0, .int 1, .int 2, .ref 21] (by decide +kernel) ?_
  refine mx_scr 6 3 265 (by decide +kernel) (by decide +kernel) (by decide +kernel) ?_
  refine mx_eq 4 (mx_pt l3 u3 (by decide +kernel)) ?_
  refine mx_call 221 3 [.ref 21, .int 2, .int 1, .int 4] [] [(0, .ref 21), (1, .int 2), (2, .int 1), (3, .int 4)] (some (.int 4)) hh_a203 0 0 1 22 0 0 268 [.int 4] ap_221 (by decide +kernel) (by decide +kernel) (iv_a527 6 xs zf hz) ?_
  refine mx_B 5 273 [(3, .int 0), (2, .ref 36), (1, .ref 21), (0, .ref 0)] [.int 1, .ref 0, .ref 36, .int 4] (by decide +kernel) ?_
  refine mx_scr 6 1 274 (by decide +kernel) (by decide +kernel) (by decide +kernel) ?_
  refine mx_eq 2 (mx_pt l1 u1 (by decide +kernel)) ?_
  refine mx_B 4 278 [(3, .int 0), (2, .ref 36), (1, .ref 21), (0, .ref 0)] [.int 2, .ref 0, .int 2, .ref 36, .int 4] (by decide +kernel) ?_
  refine mx_scr 6 2 279 (by decide +kernel) (by decide +kernel) (by decide +kernel) ?_
  refine mx_eq 1 (mx_pt l2 u2 (by decide +kernel)) ?_
  refine mx_B 4 283 [(3, .int 0), (2, .ref 36), (1, .ref 21), (0, .ref 0)] [.int 3, .ref 0, .int 1, .int 2, .ref 36, .int 4] (by decide +kernel) ?_
  refine mx_scr 6 3 284 (by decide +kernel) (by decide +kernel) (by decide +kernel) ?_
  refine mx_eq 4 (mx_pt l3 u3 (by decide +kernel)) ?_
  refine mx_call 289 3 [.ref 36, .int 2, .int 1, .int 4] [.int 4] [(0, .ref 36), (1, .int 2), (2, .int 1), (3, .int 4)] (some (.int 4)) hh_a203 0 0 1 21 0 0 287 [.int 4, .int 4] ap_289 (by decide +kernel) (by decide +kernel) (iv_a529 6 xs zf hz) ?_
  refine mx_B 5 20 [(3, .int 6), (2, .ref 36), (1, .ref 21), (0, .ref 0)] [.ref 0, .int 6] (by decide +kernel) ?_
  refine mx_S (.arraylength) 1 [] 21 [(3, .int 6), (2, .ref 36), (1, .ref 21), (0, .ref 0)] [.int 6, .int 6] (by decide +kernel) rfl ?_
  refine mx_B 4 543 [(3, .int 6), (2, .ref 36), (1, .ref 21), (0, .ref 0)] [.int 1] (by decide +kernel) ?_
  exact mx_ret (some (.int 1)) (by decide +kernel) ⟨rfl, rfl⟩
theorem iv_a531 (L : Nat) (xs : Nat → Int32) (zf : Value) (hz : zf.category = 1) : mx_R L xs zf ah_M190 0 [(0, .ref 3), (1, .int 2), (2, .int 0)] [] hh_a203 0 0 0 0 (fun v h' => v = some (.int 0) ∧ h' = hh_a203) := by
  refine mx_B 12 22 [(0, .ref 3), (1, .int 2), (2, .int 0)] [.int 2, .ref 3] (by decide +kernel) ?_
  refine mx_B 5 27 [(0, .ref 3), (1, .int 2), (2, .int 0)] [.int 0] (by decide +kernel) ?_
  exact mx_ret (some (.int 0)) (by decide +kernel) ⟨rfl, rfl⟩
theorem iv_a532 (L : Nat) (xs : Nat → Int32) (zf : Value) (hz : zf.category = 1) : mx_R L xs zf ah_M221 0 [(0, .ref 21), (1, .int 2), (2, .int 2), (3, .int 0)] [] hh_a203 0 0 1 22 (fun v h' => v = some (.int 0) ∧ h' = hh_a203) := by
  refine mx_B 12 70 [(0, .ref 21), (1, .int 2), (2, .int 2), (3, .int 0)] [] (by decide +kernel) ?_
  refine mx_B 3 75 [(0, .ref 21), (1, .int 2), (2, .int 2), (3, .int 0)] [.int 0, .int 2, .ref 3] (by decide +kernel) ?_
  refine mx_call 190 3 [.ref 3, .int 2, .int 0] [] [(0, .ref 3), (1, .int 2), (2, .int 0)] (some (.int 0)) hh_a203 0 0 0 0 0 0 78 [.int 0] ap_190 (by decide +kernel) (by decide +kernel) (iv_a531 L xs zf hz) ?_
  exact mx_ret (some (.int 0)) (by decide +kernel) ⟨rfl, rfl⟩
theorem iv_a533 (L : Nat) (xs : Nat → Int32) (zf : Value) (hz : zf.category = 1) : mx_R L xs zf ah_M292 0 [(0, .int 2), (1, .int 0)] [] hh_a203 0 0 0 0 (fun v h' => v = some (.int 0) ∧ h' = hh_a203) := by
  refine mx_B 4 6 [(0, .int 2), (1, .int 0)] [.int 0] (by decide +kernel) ?_
  exact mx_ret (some (.int 0)) (by decide +kernel) ⟨rfl, rfl⟩
theorem iv_a534 (L : Nat) (xs : Nat → Int32) (zf : Value) (hz : zf.category = 1) : mx_R L xs zf ah_M289 0 [(0, .ref 36), (1, .int 2), (2, .int 2), (3, .int 0)] [] hh_a203 0 0 1 21 (fun v h' => v = some (.int 0) ∧ h' = hh_a203) := by
  refine mx_B 12 22 [(0, .ref 36), (1, .int 2), (2, .int 2), (3, .int 0)] [] (by decide +kernel) ?_
  refine mx_B 12 64 [(0, .ref 36), (1, .int 2), (2, .int 2), (3, .int 0)] [.int 2] (by decide +kernel) ?_
  refine mx_B 1 65 [(0, .ref 36), (1, .int 2), (2, .int 2), (3, .int 0)] [.int 0, .int 2] (by decide +kernel) ?_
  refine mx_call 292 3 [.int 2, .int 0] [] [(0, .int 2), (1, .int 0)] (some (.int 0)) hh_a203 0 0 0 0 0 0 68 [.int 0] ap_292 (by decide +kernel) (by decide +kernel) (iv_a533 L xs zf hz) ?_
  refine mx_B 1 84 [(0, .ref 36), (1, .int 2), (2, .int 2), (3, .int 0)] [.int 0] (by decide +kernel) ?_
  exact mx_ret (some (.int 0)) (by decide +kernel) ⟨rfl, rfl⟩
theorem iv_a535 (xs : Nat → Int32) (zf : Value) (hz : zf.category = 1) (hk : xs 0 &&& 15 = 5) (l1 : 2 ≤ (xs 1).toInt) (u1 : (xs 1).toInt ≤ 2) (l2 : 2 ≤ (xs 2).toInt) (u2 : (xs 2).toInt ≤ 2) (l3 : 0 ≤ (xs 3).toInt) (u3 : (xs 3).toInt ≤ 0) : mx_R 6 xs zf ah_M0 18 [(3, .int 0), (2, .ref 36), (1, .ref 21), (0, .ref 0)] [] hh_a203 0 0 2 45 (fun v h' => v = some (.int 1) ∧ h' = hh_a203) := by
  refine mx_B 2 20 [(3, .int 0), (2, .ref 36), (1, .ref 21), (0, .ref 0)] [.ref 0, .int 0] (by decide +kernel) ?_
  refine mx_S (.arraylength) 1 [] 21 [(3, .int 0), (2, .ref 36), (1, .ref 21), (0, .ref 0)] [.int 6, .int 0] (by decide +kernel) rfl ?_
  refine mx_B 5 29 [(3, .int 0), (2, .ref 36), (1, .ref 21), (0, .ref 0)] [.int 0, .ref 0] (by decide +kernel) ?_
  refine mx_scr 6 0 30 (by decide +kernel) (by decide +kernel) (by decide +kernel) ?_
  refine mx_S (.bipush 15) 2 [] 32 [(3, .int 0), (2, .ref 36), (1, .ref 21), (0, .ref 0)] [.int 15, .int (xs 0)] (by decide +kernel) rfl ?_
  refine mx_S (.iand) 1 [] 33 [(3, .int 0), (2, .ref 36), (1, .ref 21), (0, .ref 0)] [.int ((xs 0) &&& 15)] (by decide +kernel) rfl ?_
  refine mx_eq 5 hk ?_
  refine mx_B 6 254 [(3, .int 0), (2, .ref 36), (1, .ref 21), (0, .ref 0)] [.int 1, .ref 0, .ref 21] (by decide +kernel) ?_
  refine mx_scr 6 1 255 (by decide +kernel) (by decide +kernel) (by decide +kernel) ?_
  refine mx_eq 2 (mx_pt l1 u1 (by decide +kernel)) ?_
  refine mx_B 4 259 [(3, .int 0), (2, .ref 36), (1, .ref 21), (0, .ref 0)] [.int 2, .ref 0, .int 2, .ref 21] (by decide +kernel) ?_
  refine mx_scr 6 2 260 (by decide +kernel) (by decide +kernel) (by decide +kernel) ?_
  refine mx_eq 2 (mx_pt l2 u2 (by decide +kernel)) ?_
  refine mx_B 4 264 [(3, .int 0), (2, .ref 36), (1, .ref 21), (0, .ref 0)] [.int 3, .ref 0, .int 2, .int 2, .ref 21] (by decide +kernel) ?_
  refine mx_scr 6 3 265 (by decide +kernel) (by decide +kernel) (by decide +kernel) ?_
  refine mx_eq 0 (mx_pt l3 u3 (by decide +kernel)) ?_
  refine mx_call 221 3 [.ref 21, .int 2, .int 2, .int 0] [] [(0, .ref 21), (1, .int 2), (2, .int 2), (3, .int 0)] (some (.int 0)) hh_a203 0 0 1 22 0 0 268 [.int 0] ap_221 (by decide +kernel) (by decide +kernel) (iv_a532 6 xs zf hz) ?_
  refine mx_B 5 273 [(3, .int 0), (2, .ref 36), (1, .ref 21), (0, .ref 0)] [.int 1, .ref 0, .ref 36, .int 0] (by decide +kernel) ?_
  refine mx_scr 6 1 274 (by decide +kernel) (by decide +kernel) (by decide +kernel) ?_
  refine mx_eq 2 (mx_pt l1 u1 (by decide +kernel)) ?_
  refine mx_B 4 278 [(3, .int 0), (2, .ref 36), (1, .ref 21), (0, .ref 0)] [.int 2, .ref 0, .int 2, .ref 36, .int 0] (by decide +kernel) ?_
  refine mx_scr 6 2 279 (by decide +kernel) (by decide +kernel) (by decide +kernel) ?_
  refine mx_eq 2 (mx_pt l2 u2 (by decide +kernel)) ?_
  refine mx_B 4 283 [(3, .int 0), (2, .ref 36), (1, .ref 21), (0, .ref 0)] [.int 3, .ref 0, .int 2, .int 2, .ref 36, .int 0] (by decide +kernel) ?_
  refine mx_scr 6 3 284 (by decide +kernel) (by decide +kernel) (by decide +kernel) ?_
  refine mx_eq 0 (mx_pt l3 u3 (by decide +kernel)) ?_
  refine mx_call 289 3 [.ref 36, .int 2, .int 2, .int 0] [.int 0] [(0, .ref 36), (1, .int 2), (2, .int 2), (3, .int 0)] (some (.int 0)) hh_a203 0 0 1 21 0 0 287 [.int 0, .int 0] ap_289 (by decide +kernel) (by decide +kernel) (iv_a534 6 xs zf hz) ?_
  refine mx_B 5 20 [(3, .int 6), (2, .ref 36), (1, .ref 21), (0, .ref 0)] [.ref 0, .int 6] (by decide +kernel) ?_
  refine mx_S (.arraylength) 1 [] 21 [(3, .int 6), (2, .ref 36), (1, .ref 21), (0, .ref 0)] [.int 6, .int 6] (by decide +kernel) rfl ?_
  refine mx_B 4 543 [(3, .int 6), (2, .ref 36), (1, .ref 21), (0, .ref 0)] [.int 1] (by decide +kernel) ?_
  exact mx_ret (some (.int 1)) (by decide +kernel) ⟨rfl, rfl⟩
theorem iv_a536 (L : Nat) (xs : Nat → Int32) (zf : Value) (hz : zf.category = 1) : mx_R L xs zf ah_M190 0 [(0, .ref 3), (1, .int 2), (2, .int 1)] [] hh_a203 0 0 0 0 (fun v h' => v = some (.int 1) ∧ h' = hh_a203) := by
  refine mx_B 12 22 [(0, .ref 3), (1, .int 2), (2, .int 1)] [.int 2, .ref 3] (by decide +kernel) ?_
  refine mx_B 5 27 [(0, .ref 3), (1, .int 2), (2, .int 1)] [.int 1] (by decide +kernel) ?_
  exact mx_ret (some (.int 1)) (by decide +kernel) ⟨rfl, rfl⟩
theorem iv_a537 (L : Nat) (xs : Nat → Int32) (zf : Value) (hz : zf.category = 1) : mx_R L xs zf ah_M221 0 [(0, .ref 21), (1, .int 2), (2, .int 2), (3, .int 1)] [] hh_a203 0 0 1 22 (fun v h' => v = some (.int 1) ∧ h' = hh_a203) := by
  refine mx_B 12 70 [(0, .ref 21), (1, .int 2), (2, .int 2), (3, .int 1)] [] (by decide +kernel) ?_
  refine mx_B 3 75 [(0, .ref 21), (1, .int 2), (2, .int 2), (3, .int 1)] [.int 1, .int 2, .ref 3] (by decide +kernel) ?_
  refine mx_call 190 3 [.ref 3, .int 2, .int 1] [] [(0, .ref 3), (1, .int 2), (2, .int 1)] (some (.int 1)) hh_a203 0 0 0 0 0 0 78 [.int 1] ap_190 (by decide +kernel) (by decide +kernel) (iv_a536 L xs zf hz) ?_
  exact mx_ret (some (.int 1)) (by decide +kernel) ⟨rfl, rfl⟩
theorem iv_a538 (L : Nat) (xs : Nat → Int32) (zf : Value) (hz : zf.category = 1) : mx_R L xs zf ah_M292 0 [(0, .int 2), (1, .int 1)] [] hh_a203 0 0 0 0 (fun v h' => v = some (.int 1) ∧ h' = hh_a203) := by
  refine mx_B 4 6 [(0, .int 2), (1, .int 1)] [.int 1] (by decide +kernel) ?_
  exact mx_ret (some (.int 1)) (by decide +kernel) ⟨rfl, rfl⟩
theorem iv_a539 (L : Nat) (xs : Nat → Int32) (zf : Value) (hz : zf.category = 1) : mx_R L xs zf ah_M289 0 [(0, .ref 36), (1, .int 2), (2, .int 2), (3, .int 1)] [] hh_a203 0 0 1 21 (fun v h' => v = some (.int 1) ∧ h' = hh_a203) := by
  refine mx_B 12 22 [(0, .ref 36), (1, .int 2), (2, .int 2), (3, .int 1)] [] (by decide +kernel) ?_
  refine mx_B 12 64 [(0, .ref 36), (1, .int 2), (2, .int 2), (3, .int 1)] [.int 2] (by decide +kernel) ?_
  refine mx_B 1 65 [(0, .ref 36), (1, .int 2), (2, .int 2), (3, .int 1)] [.int 1, .int 2] (by decide +kernel) ?_
  refine mx_call 292 3 [.int 2, .int 1] [] [(0, .int 2), (1, .int 1)] (some (.int 1)) hh_a203 0 0 0 0 0 0 68 [.int 1] ap_292 (by decide +kernel) (by decide +kernel) (iv_a538 L xs zf hz) ?_
  refine mx_B 1 84 [(0, .ref 36), (1, .int 2), (2, .int 2), (3, .int 1)] [.int 1] (by decide +kernel) ?_
  exact mx_ret (some (.int 1)) (by decide +kernel) ⟨rfl, rfl⟩
theorem iv_a540 (xs : Nat → Int32) (zf : Value) (hz : zf.category = 1) (hk : xs 0 &&& 15 = 5) (l1 : 2 ≤ (xs 1).toInt) (u1 : (xs 1).toInt ≤ 2) (l2 : 2 ≤ (xs 2).toInt) (u2 : (xs 2).toInt ≤ 2) (l3 : 1 ≤ (xs 3).toInt) (u3 : (xs 3).toInt ≤ 1) : mx_R 6 xs zf ah_M0 18 [(3, .int 0), (2, .ref 36), (1, .ref 21), (0, .ref 0)] [] hh_a203 0 0 2 45 (fun v h' => v = some (.int 1) ∧ h' = hh_a203) := by
  refine mx_B 2 20 [(3, .int 0), (2, .ref 36), (1, .ref 21), (0, .ref 0)] [.ref 0, .int 0] (by decide +kernel) ?_
  refine mx_S (.arraylength) 1 [] 21 [(3, .int 0), (2, .ref 36), (1, .ref 21), (0, .ref 0)] [.int 6, .int 0] (by decide +kernel) rfl ?_
  refine mx_B 5 29 [(3, .int 0), (2, .ref 36), (1, .ref 21), (0, .ref 0)] [.int 0, .ref 0] (by decide +kernel) ?_
  refine mx_scr 6 0 30 (by decide +kernel) (by decide +kernel) (by decide +kernel) ?_
  refine mx_S (.bipush 15) 2 [] 32 [(3, .int 0), (2, .ref 36), (1, .ref 21), (0, .ref 0)] [.int 15, .int (xs 0)] (by decide +kernel) rfl ?_
  refine mx_S (.iand) 1 [] 33 [(3, .int 0), (2, .ref 36), (1, .ref 21), (0, .ref 0)] [.int ((xs 0) &&& 15)] (by decide +kernel) rfl ?_
  refine mx_eq 5 hk ?_
  refine mx_B 6 254 [(3, .int 0), (2, .ref 36), (1, .ref 21), (0, .ref 0)] [.int 1, .ref 0, .ref 21] (by decide +kernel) ?_
  refine mx_scr 6 1 255 (by decide +kernel) (by decide +kernel) (by decide +kernel) ?_
  refine mx_eq 2 (mx_pt l1 u1 (by decide +kernel)) ?_
  refine mx_B 4 259 [(3, .int 0), (2, .ref 36), (1, .ref 21), (0, .ref 0)] [.int 2, .ref 0, .int 2, .ref 21] (by decide +kernel) ?_
  refine mx_scr 6 2 260 (by decide +kernel) (by decide +kernel) (by decide +kernel) ?_
  refine mx_eq 2 (mx_pt l2 u2 (by decide +kernel)) ?_
  refine mx_B 4 264 [(3, .int 0), (2, .ref 36), (1, .ref 21), (0, .ref 0)] [.int 3, .ref 0, .int 2, .int 2, .ref 21] (by decide +kernel) ?_
  refine mx_scr 6 3 265 (by decide +kernel) (by decide +kernel) (by decide +kernel) ?_
  refine mx_eq 1 (mx_pt l3 u3 (by decide +kernel)) ?_
  refine mx_call 221 3 [.ref 21, .int 2, .int 2, .int 1] [] [(0, .ref 21), (1, .int 2), (2, .int 2), (3, .int 1)] (some (.int 1)) hh_a203 0 0 1 22 0 0 268 [.int 1] ap_221 (by decide +kernel) (by decide +kernel) (iv_a537 6 xs zf hz) ?_
  refine mx_B 5 273 [(3, .int 0), (2, .ref 36), (1, .ref 21), (0, .ref 0)] [.int 1, .ref 0, .ref 36, .int 1] (by decide +kernel) ?_
  refine mx_scr 6 1 274 (by decide +kernel) (by decide +kernel) (by decide +kernel) ?_
  refine mx_eq 2 (mx_pt l1 u1 (by decide +kernel)) ?_
  refine mx_B 4 278 [(3, .int 0), (2, .ref 36), (1, .ref 21), (0, .ref 0)] [.int 2, .ref 0, .int 2, .ref 36, .int 1] (by decide +kernel) ?_
  refine mx_scr 6 2 279 (by decide +kernel) (by decide +kernel) (by decide +kernel) ?_
  refine mx_eq 2 (mx_pt l2 u2 (by decide +kernel)) ?_
  refine mx_B 4 283 [(3, .int 0), (2, .ref 36), (1, .ref 21), (0, .ref 0)] [.int 3, .ref 0, .int 2, .int 2, .ref 36, .int 1] (by decide +kernel) ?_
  refine mx_scr 6 3 284 (by decide +kernel) (by decide +kernel) (by decide +kernel) ?_
  refine mx_eq 1 (mx_pt l3 u3 (by decide +kernel)) ?_
  refine mx_call 289 3 [.ref 36, .int 2, .int 2, .int 1] [.int 1] [(0, .ref 36), (1, .int 2), (2, .int 2), (3, .int 1)] (some (.int 1)) hh_a203 0 0 1 21 0 0 287 [.int 1, .int 1] ap_289 (by decide +kernel) (by decide +kernel) (iv_a539 6 xs zf hz) ?_
  refine mx_B 5 20 [(3, .int 6), (2, .ref 36), (1, .ref 21), (0, .ref 0)] [.ref 0, .int 6] (by decide +kernel) ?_
  refine mx_S (.arraylength) 1 [] 21 [(3, .int 6), (2, .ref 36), (1, .ref 21), (0, .ref 0)] [.int 6, .int 6] (by decide +kernel) rfl ?_
  refine mx_B 4 543 [(3, .int 6), (2, .ref 36), (1, .ref 21), (0, .ref 0)] [.int 1] (by decide +kernel) ?_
  exact mx_ret (some (.int 1)) (by decide +kernel) ⟨rfl, rfl⟩
theorem iv_a541 (L : Nat) (xs : Nat → Int32) (zf : Value) (hz : zf.category = 1) : mx_R L xs zf ah_M190 0 [(0, .ref 3), (1, .int 2), (2, .int 2)] [] hh_a203 0 0 0 0 (fun v h' => v = some (.int 2) ∧ h' = hh_a203) := by
  refine mx_B 12 22 [(0, .ref 3), (1, .int 2), (2, .int 2)] [.int 2, .ref 3] (by decide +kernel) ?_
  refine mx_B 5 27 [(0, .ref 3), (1, .int 2), (2, .int 2)] [.int 2] (by decide +kernel) ?_
  exact mx_ret (some (.int 2)) (by decide +kernel) ⟨rfl, rfl⟩
theorem iv_a542 (L : Nat) (xs : Nat → Int32) (zf : Value) (hz : zf.category = 1) : mx_R L xs zf ah_M221 0 [(0, .ref 21), (1, .int 2), (2, .int 2), (3, .int 2)] [] hh_a203 0 0 1 22 (fun v h' => v = some (.int 2) ∧ h' = hh_a203) := by
  refine mx_B 12 70 [(0, .ref 21), (1, .int 2), (2, .int 2), (3, .int 2)] [] (by decide +kernel) ?_
  refine mx_B 3 75 [(0, .ref 21), (1, .int 2), (2, .int 2), (3, .int 2)] [.int 2, .int 2, .ref 3] (by decide +kernel) ?_
  refine mx_call 190 3 [.ref 3, .int 2, .int 2] [] [(0, .ref 3), (1, .int 2), (2, .int 2)] (some (.int 2)) hh_a203 0 0 0 0 0 0 78 [.int 2] ap_190 (by decide +kernel) (by decide +kernel) (iv_a541 L xs zf hz) ?_
  exact mx_ret (some (.int 2)) (by decide +kernel) ⟨rfl, rfl⟩
theorem iv_a543 (L : Nat) (xs : Nat → Int32) (zf : Value) (hz : zf.category = 1) : mx_R L xs zf ah_M292 0 [(0, .int 2), (1, .int 2)] [] hh_a203 0 0 0 0 (fun v h' => v = some (.int 2) ∧ h' = hh_a203) := by
  refine mx_B 4 6 [(0, .int 2), (1, .int 2)] [.int 2] (by decide +kernel) ?_
  exact mx_ret (some (.int 2)) (by decide +kernel) ⟨rfl, rfl⟩
theorem iv_a544 (L : Nat) (xs : Nat → Int32) (zf : Value) (hz : zf.category = 1) : mx_R L xs zf ah_M289 0 [(0, .ref 36), (1, .int 2), (2, .int 2), (3, .int 2)] [] hh_a203 0 0 1 21 (fun v h' => v = some (.int 2) ∧ h' = hh_a203) := by
  refine mx_B 12 22 [(0, .ref 36), (1, .int 2), (2, .int 2), (3, .int 2)] [] (by decide +kernel) ?_
  refine mx_B 12 64 [(0, .ref 36), (1, .int 2), (2, .int 2), (3, .int 2)] [.int 2] (by decide +kernel) ?_
  refine mx_B 1 65 [(0, .ref 36), (1, .int 2), (2, .int 2), (3, .int 2)] [.int 2, .int 2] (by decide +kernel) ?_
  refine mx_call 292 3 [.int 2, .int 2] [] [(0, .int 2), (1, .int 2)] (some (.int 2)) hh_a203 0 0 0 0 0 0 68 [.int 2] ap_292 (by decide +kernel) (by decide +kernel) (iv_a543 L xs zf hz) ?_
  refine mx_B 1 84 [(0, .ref 36), (1, .int 2), (2, .int 2), (3, .int 2)] [.int 2] (by decide +kernel) ?_
  exact mx_ret (some (.int 2)) (by decide +kernel) ⟨rfl, rfl⟩
theorem iv_a545 (xs : Nat → Int32) (zf : Value) (hz : zf.category = 1) (hk : xs 0 &&& 15 = 5) (l1 : 2 ≤ (xs 1).toInt) (u1 : (xs 1).toInt ≤ 2) (l2 : 2 ≤ (xs 2).toInt) (u2 : (xs 2).toInt ≤ 2) (l3 : 2 ≤ (xs 3).toInt) (u3 : (xs 3).toInt ≤ 2) : mx_R 6 xs zf ah_M0 18 [(3, .int 0), (2, .ref 36), (1, .ref 21), (0, .ref 0)] [] hh_a203 0 0 2 45 (fun v h' => v = some (.int 1) ∧ h' = hh_a203) := by
  refine mx_B 2 20 [(3, .int 0), (2, .ref 36), (1, .ref 21), (0, .ref 0)] [.ref 0, .int 0] (by decide +kernel) ?_
  refine mx_S (.arraylength) 1 [] 21 [(3, .int 0), (2, .ref 36), (1, .ref 21), (0, .ref 0)] [.int 6, .int 0] (by decide +kernel) rfl ?_
  refine mx_B 5 29 [(3, .int 0), (2, .ref 36), (1, .ref 21), (0, .ref 0)] [.int 0, .ref 0] (by decide +kernel) ?_
  refine mx_scr 6 0 30 (by decide +kernel) (by decide +kernel) (by decide +kernel) ?_
  refine mx_S (.bipush 15) 2 [] 32 [(3, .int 0), (2, .ref 36), (1, .ref 21), (0, .ref 0)] [.int 15, .int (xs 0)] (by decide +kernel) rfl ?_
  refine mx_S (.iand) 1 [] 33 [(3, .int 0), (2, .ref 36), (1, .ref 21), (0, .ref 0)] [.int ((xs 0) &&& 15)] (by decide +kernel) rfl ?_
  refine mx_eq 5 hk ?_
  refine mx_B 6 254 [(3, .int 0), (2, .ref 36), (1, .ref 21), (0, .ref 0)] [.int 1, .ref 0, .ref 21] (by decide +kernel) ?_
  refine mx_scr 6 1 255 (by decide +kernel) (by decide +kernel) (by decide +kernel) ?_
  refine mx_eq 2 (mx_pt l1 u1 (by decide +kernel)) ?_
  refine mx_B 4 259 [(3, .int 0), (2, .ref 36), (1, .ref 21), (0, .ref 0)] [.int 2, .ref 0, .int 2, .ref 21] (by decide +kernel) ?_
  refine mx_scr 6 2 260 (by decide +kernel) (by decide +kernel) (by decide +kernel) ?_
  refine mx_eq 2 (mx_pt l2 u2 (by decide +kernel)) ?_
  refine mx_B 4 264 [(3, .int 0), (2, .ref 36), (1, .ref 21), (0, .ref 0)] [.int 3, .ref 0, .int 2, .int 2, .ref 21] (by decide +kernel) ?_
  refine mx_scr 6 3 265 (by decide +kernel) (by decide +kernel) (by decide +kernel) ?_
  refine mx_eq 2 (mx_pt l3 u3 (by decide +kernel)) ?_
  refine mx_call 221 3 [.ref 21, .int 2, .int 2, .int 2] [] [(0, .ref 21), (1, .int 2), (2, .int 2), (3, .int 2)] (some (.int 2)) hh_a203 0 0 1 22 0 0 268 [.int 2] ap_221 (by decide +kernel) (by decide +kernel) (iv_a542 6 xs zf hz) ?_
  refine mx_B 5 273 [(3, .int 0), (2, .ref 36), (1, .ref 21), (0, .ref 0)] [.int 1, .ref 0, .ref 36, .int 2] (by decide +kernel) ?_
  refine mx_scr 6 1 274 (by decide +kernel) (by decide +kernel) (by decide +kernel) ?_
  refine mx_eq 2 (mx_pt l1 u1 (by decide +kernel)) ?_
  refine mx_B 4 278 [(3, .int 0), (2, .ref 36), (1, .ref 21), (0, .ref 0)] [.int 2, .ref 0, .int 2, .ref 36, .int 2] (by decide +kernel) ?_
  refine mx_scr 6 2 279 (by decide +kernel) (by decide +kernel) (by decide +kernel) ?_
  refine mx_eq 2 (mx_pt l2 u2 (by decide +kernel)) ?_
  refine mx_B 4 283 [(3, .int 0), (2, .ref 36), (1, .ref 21), (0, .ref 0)] [.int 3, .ref 0, .int 2, .int 2, .ref 36, .int 2] (by decide +kernel) ?_
  refine mx_scr 6 3 284 (by decide +kernel) (by decide +kernel) (by decide +kernel) ?_
  refine mx_eq 2 (mx_pt l3 u3 (by decide +kernel)) ?_
  refine mx_call 289 3 [.ref 36, .int 2, .int 2, .int 2] [.int 2] [(0, .ref 36), (1, .int 2), (2, .int 2), (3, .int 2)] (some (.int 2)) hh_a203 0 0 1 21 0 0 287 [.int 2, .int 2] ap_289 (by decide +kernel) (by decide +kernel) (iv_a544 6 xs zf hz) ?_
  refine mx_B 5 20 [(3, .int 6), (2, .ref 36), (1, .ref 21), (0, .ref 0)] [.ref 0, .int 6] (by decide +kernel) ?_
  refine mx_S (.arraylength) 1 [] 21 [(3, .int 6), (2, .ref 36), (1, .ref 21), (0, .ref 0)] [.int 6, .int 6] (by decide +kernel) rfl ?_
  refine mx_B 4 543 [(3, .int 6), (2, .ref 36), (1, .ref 21), (0, .ref 0)] [.int 1] (by decide +kernel) ?_
  exact mx_ret (some (.int 1)) (by decide +kernel) ⟨rfl, rfl⟩
theorem iv_a546 (L : Nat) (xs : Nat → Int32) (zf : Value) (hz : zf.category = 1) : mx_R L xs zf ah_M190 0 [(0, .ref 3), (1, .int 2), (2, .int 3)] [] hh_a203 0 0 0 0 (fun v h' => v = some (.int 3) ∧ h' = hh_a203) := by
  refine mx_B 12 22 [(0, .ref 3), (1, .int 2), (2, .int 3)] [.int 2, .ref 3] (by decide +kernel) ?_
  refine mx_B 5 27 [(0, .ref 3), (1, .int 2), (2, .int 3)] [.int 3] (by decide +kernel) ?_
  exact mx_ret (some (.int 3)) (by decide +kernel) ⟨rfl, rfl⟩
theorem iv_a547 (L : Nat) (xs : Nat → Int32) (zf : Value) (hz : zf.category = 1) : mx_R L xs zf ah_M221 0 [(0, .ref 21), (1, .int 2), (2, .int 2), (3, .int 3)] [] hh_a203 0 0 1 22 (fun v h' => v = some (.int 3) ∧ h' = hh_a203) := by
  refine mx_B 12 70 [(0, .ref 21), (1, .int 2), (2, .int 2), (3, .int 3)] [] (by decide +kernel) ?_
  refine mx_B 3 75 [(0, .ref 21), (1, .int 2), (2, .int 2), (3, .int 3)] [.int 3, .int 2, .ref 3] (by decide +kernel) ?_
  refine mx_call 190 3 [.ref 3, .int 2, .int 3] [] [(0, .ref 3), (1, .int 2), (2, .int 3)] (some (.int 3)) hh_a203 0 0 0 0 0 0 78 [.int 3] ap_190 (by decide +kernel) (by decide +kernel) (iv_a546 L xs zf hz) ?_
  exact mx_ret (some (.int 3)) (by decide +kernel) ⟨rfl, rfl⟩
theorem iv_a548 (L : Nat) (xs : Nat → Int32) (zf : Value) (hz : zf.category = 1) : mx_R L xs zf ah_M292 0 [(0, .int 2), (1, .int 3)] [] hh_a203 0 0 0 0 (fun v h' => v = some (.int 3) ∧ h' = hh_a203) := by
  refine mx_B 4 6 [(0, .int 2), (1, .int 3)] [.int 3] (by decide +kernel) ?_
  exact mx_ret (some (.int 3)) (by decide +kernel) ⟨rfl, rfl⟩
theorem iv_a549 (L : Nat) (xs : Nat → Int32) (zf : Value) (hz : zf.category = 1) : mx_R L xs zf ah_M289 0 [(0, .ref 36), (1, .int 2), (2, .int 2), (3, .int 3)] [] hh_a203 0 0 1 21 (fun v h' => v = some (.int 3) ∧ h' = hh_a203) := by
  refine mx_B 12 22 [(0, .ref 36), (1, .int 2), (2, .int 2), (3, .int 3)] [] (by decide +kernel) ?_
  refine mx_B 12 64 [(0, .ref 36), (1, .int 2), (2, .int 2), (3, .int 3)] [.int 2] (by decide +kernel) ?_
  refine mx_B 1 65 [(0, .ref 36), (1, .int 2), (2, .int 2), (3, .int 3)] [.int 3, .int 2] (by decide +kernel) ?_
  refine mx_call 292 3 [.int 2, .int 3] [] [(0, .int 2), (1, .int 3)] (some (.int 3)) hh_a203 0 0 0 0 0 0 68 [.int 3] ap_292 (by decide +kernel) (by decide +kernel) (iv_a548 L xs zf hz) ?_
  refine mx_B 1 84 [(0, .ref 36), (1, .int 2), (2, .int 2), (3, .int 3)] [.int 3] (by decide +kernel) ?_
  exact mx_ret (some (.int 3)) (by decide +kernel) ⟨rfl, rfl⟩
theorem iv_a550 (xs : Nat → Int32) (zf : Value) (hz : zf.category = 1) (hk : xs 0 &&& 15 = 5) (l1 : 2 ≤ (xs 1).toInt) (u1 : (xs 1).toInt ≤ 2) (l2 : 2 ≤ (xs 2).toInt) (u2 : (xs 2).toInt ≤ 2) (l3 : 3 ≤ (xs 3).toInt) (u3 : (xs 3).toInt ≤ 3) : mx_R 6 xs zf ah_M0 18 [(3, .int 0), (2, .ref 36), (1, .ref 21), (0, .ref 0)] [] hh_a203 0 0 2 45 (fun v h' => v = some (.int 1) ∧ h' = hh_a203) := by
  refine mx_B 2 20 [(3, .int 0), (2, .ref 36), (1, .ref 21), (0, .ref 0)] [.ref 0, .int 0] (by decide +kernel) ?_
  refine mx_S (.arraylength) 1 [] 21 [(3, .int 0), (2, .ref 36), (1, .ref 21), (0, .ref 0)] [.int 6, .int 0] (by decide +kernel) rfl ?_
  refine mx_B 5 29 [(3, .int 0), (2, .ref 36), (1, .ref 21), (0, .ref 0)] [.int 0, .ref 0] (by decide +kernel) ?_
  refine mx_scr 6 0 30 (by decide +kernel) (by decide +kernel) (by decide +kernel) ?_
  refine mx_S (.bipush 15) 2 [] 32 [(3, .int 0), (2, .ref 36), (1, .ref 21), (0, .ref 0)] [.int 15, .int (xs 0)] (by decide +kernel) rfl ?_
  refine mx_S (.iand) 1 [] 33 [(3, .int 0), (2, .ref 36), (1, .ref 21), (0, .ref 0)] [.int ((xs 0) &&& 15)] (by decide +kernel) rfl ?_
  refine mx_eq 5 hk ?_
  refine mx_B 6 254 [(3, .int 0), (2, .ref 36), (1, .ref 21), (0, .ref 0)] [.int 1, .ref 0, .ref 21] (by decide +kernel) ?_
  refine mx_scr 6 1 255 (by decide +kernel) (by decide +kernel) (by decide +kernel) ?_
  refine mx_eq 2 (mx_pt l1 u1 (by decide +kernel)) ?_
  refine mx_B 4 259 [(3, .int 0), (2, .ref 36), (1, .ref 21), (0, .ref 0)] [.int 2, .ref 0, .int 2, .ref 21] (by decide +kernel) ?_
  refine mx_scr 6 2 260 (by decide +kernel) (by decide +kernel) (by decide +kernel) ?_
  refine mx_eq 2 (mx_pt l2 u2 (by decide +kernel)) ?_
  refine mx_B 4 264 [(3, .int 0), (2, .ref 36), (1, .ref 21), (0, .ref 0)] [.int 3, .ref 0, .int 2, .int 2, .ref 21] (by decide +kernel) ?_
  refine mx_scr 6 3 265 (by decide +kernel) (by decide +kernel) (by decide +kernel) ?_
  refine mx_eq 3 (mx_pt l3 u3 (by decide +kernel)) ?_
  refine mx_call 221 3 [.ref 21, .int 2, .int 2, .int 3] [] [(0, .ref 21), (1, .int 2), (2, .int 2), (3, .int 3)] (some (.int 3)) hh_a203 0 0 1 22 0 0 268 [.int 3] ap_221 (by decide +kernel) (by decide +kernel) (iv_a547 6 xs zf hz) ?_
  refine mx_B 5 273 [(3, .int 0), (2, .ref 36), (1, .ref 21), (0, .ref 0)] [.int 1, .ref 0, .ref 36, .int 3] (by decide +kernel) ?_
  refine mx_scr 6 1 274 (by decide +kernel) (by decide +kernel) (by decide +kernel) ?_
  refine mx_eq 2 (mx_pt l1 u1 (by decide +kernel)) ?_
  refine mx_B 4 278 [(3, .int 0), (2, .ref 36), (1, .ref 21), (0, .ref 0)] [.int 2, .ref 0, .int 2, .ref 36, .int 3] (by decide +kernel) ?_
  refine mx_scr 6 2 279 (by decide +kernel) (by decide +kernel) (by decide +kernel) ?_
  refine mx_eq 2 (mx_pt l2 u2 (by decide +kernel)) ?_
  refine mx_B 4 283 [(3, .int 0), (2, .ref 36), (1, .ref 21), (0, .ref 0)] [.int 3, .ref 0, .int 2, .int 2, .ref 36, .int 3] (by decide +kernel) ?_
  refine mx_scr 6 3 284 (by decide +kernel) (by decide +kernel) (by decide +kernel) ?_
  refine mx_eq 3 (mx_pt l3 u3 (by decide +kernel)) ?_
  refine mx_call 289 3 [.ref 36, .int 2, .int 2, .int 3] [.int 3] [(0, .ref 36), (1, .int 2), (2, .int 2), (3, .int 3)] (some (.int 3)) hh_a203 0 0 1 21 0 0 287 [.int 3, .int 3] ap_289 (by decide +kernel) (by decide +kernel) (iv_a549 6 xs zf hz) ?_
  refine mx_B 5 20 [(3, .int 6), (2, .ref 36), (1, .ref 21), (0, .ref 0)] [.ref 0, .int 6] (by decide +kernel) ?_
  refine mx_S (.arraylength) 1 [] 21 [(3, .int 6), (2, .ref 36), (1, .ref 21), (0, .ref 0)] [.int 6, .int 6] (by decide +kernel) rfl ?_
  refine mx_B 4 543 [(3, .int 6), (2, .ref 36), (1, .ref 21), (0, .ref 0)] [.int 1] (by decide +kernel) ?_
  exact mx_ret (some (.int 1)) (by decide +kernel) ⟨rfl, rfl⟩
theorem iv_a551 (L : Nat) (xs : Nat → Int32) (zf : Value) (hz : zf.category = 1) : mx_R L xs zf ah_M190 0 [(0, .ref 3), (1, .int 2), (2, .int 4)] [] hh_a203 0 0 0 0 (fun v h' => v = some (.int 4) ∧ h' = hh_a203) := by
  refine mx_B 12 22 [(0, .ref 3), (1, .int 2), (2, .int 4)] [.int 2, .ref 3] (by decide +kernel) ?_
  refine mx_B 5 27 [(0, .ref 3), (1, .int 2), (2, .int 4)] [.int 4] (by decide +kernel) ?_
  exact mx_ret (some (.int 4)) (by decide +kernel) ⟨rfl, rfl⟩
theorem iv_a552 (L : Nat) (xs : Nat → Int32) (zf : Value) (hz : zf.category = 1) : mx_R L xs zf ah_M221 0 [(0, .ref 21), (1, .int 2), (2, .int 2), (3, .int 4)] [] hh_a203 0 0 1 22 (fun v h' => v = some (.int 4) ∧ h' = hh_a203) := by
  refine mx_B 12 70 [(0, .ref 21), (1, .int 2), (2, .int 2), (3, .int 4)] [] (by decide +kernel) ?_
  refine mx_B 3 75 [(0, .ref 21), (1, .int 2), (2, .int 2), (3, .int 4)] [.int 4, .int 2, .ref 3] (by decide +kernel) ?_
  refine mx_call 190 3 [.ref 3, .int 2, .int 4] [] [(0, .ref 3), (1, .int 2), (2, .int 4)] (some (.int 4)) hh_a203 0 0 0 0 0 0 78 [.int 4] ap_190 (by decide +kernel) (by decide +kernel) (iv_a551 L xs zf hz) ?_
  exact mx_ret (some (.int 4)) (by decide +kernel) ⟨rfl, rfl⟩
theorem iv_a553 (L : Nat) (xs : Nat → Int32) (zf : Value) (hz : zf.category = 1) : mx_R L xs zf ah_M292 0 [(0, .int 2), (1, .int 4)] [] hh_a203 0 0 0 0 (fun v h' => v = some (.int 4) ∧ h' = hh_a203) := by
  refine mx_B 4 6 [(0, .int 2), (1, .int 4)] [.int 4] (by decide +kernel) ?_
  exact mx_ret (some (.int 4)) (by decide +kernel) ⟨rfl, rfl⟩
theorem iv_a554 (L : Nat) (xs : Nat → Int32) (zf : Value) (hz : zf.category = 1) : mx_R L xs zf ah_M289 0 [(0, .ref 36), (1, .int 2), (2, .int 2), (3, .int 4)] [] hh_a203 0 0 1 21 (fun v h' => v = some (.int 4) ∧ h' = hh_a203) := by
  refine mx_B 12 22 [(0, .ref 36), (1, .int 2), (2, .int 2), (3, .int 4)] [] (by decide +kernel) ?_
  refine mx_B 12 64 [(0, .ref 36), (1, .int 2), (2, .int 2), (3, .int 4)] [.int 2] (by decide +kernel) ?_
  refine mx_B 1 65 [(0, .ref 36), (1, .int 2), (2, .int 2), (3, .int 4)] [.int 4, .int 2] (by decide +kernel) ?_
  refine mx_call 292 3 [.int 2, .int 4] [] [(0, .int 2), (1, .int 4)] (some (.int 4)) hh_a203 0 0 0 0 0 0 68 [.int 4] ap_292 (by decide +kernel) (by decide +kernel) (iv_a553 L xs zf hz) ?_
  refine mx_B 1 84 [(0, .ref 36), (1, .int 2), (2, .int 2), (3, .int 4)] [.int 4] (by decide +kernel) ?_
  exact mx_ret (some (.int 4)) (by decide +kernel) ⟨rfl, rfl⟩
theorem iv_a555 (xs : Nat → Int32) (zf : Value) (hz : zf.category = 1) (hk : xs 0 &&& 15 = 5) (l1 : 2 ≤ (xs 1).toInt) (u1 : (xs 1).toInt ≤ 2) (l2 : 2 ≤ (xs 2).toInt) (u2 : (xs 2).toInt ≤ 2) (l3 : 4 ≤ (xs 3).toInt) (u3 : (xs 3).toInt ≤ 4) : mx_R 6 xs zf ah_M0 18 [(3, .int 0), (2, .ref 36), (1, .ref 21), (0, .ref 0)] [] hh_a203 0 0 2 45 (fun v h' => v = some (.int 1) ∧ h' = hh_a203) := by
  refine mx_B 2 20 [(3, .int 0), (2, .ref 36), (1, .ref 21), (0, .ref 0)] [.ref 0, .int 0] (by decide +kernel) ?_
  refine mx_S (.arraylength) 1 [] 21 [(3, .int 0), (2, .ref 36), (1, .ref 21), (0, .ref 0)] [.int 6, .int 0] (by decide +kernel) rfl ?_
  refine mx_B 5 29 [(3, .int 0), (2, .ref 36), (1, .ref 21), (0, .ref 0)] [.int 0, .ref 0] (by decide +kernel) ?_
  refine mx_scr 6 0 30 (by decide +kernel) (by decide +kernel) (by decide +kernel) ?_
  refine mx_S (.bipush 15) 2 [] 32 [(3, .int 0), (2, .ref 36), (1, .ref 21), (0, .ref 0)] [.int 15, .int (xs 0)] (by decide +kernel) rfl ?_
  refine mx_S (.iand) 1 [] 33 [(3, .int 0), (2, .ref 36), (1, .ref 21), (0, .ref 0)] [.int ((xs 0) &&& 15)] (by decide +kernel) rfl ?_
  refine mx_eq 5 hk ?_
  refine mx_B 6 254 [(3, .int 0), (2, .ref 36), (1, .ref 21), (0, .ref 0)] [.int 1, .ref 0, .ref 21] (by decide +kernel) ?_
  refine mx_scr 6 1 255 (by decide +kernel) (by decide +kernel) (by decide +kernel) ?_
  refine mx_eq 2 (mx_pt l1 u1 (by decide +kernel)) ?_
  refine mx_B 4 259 [(3, .int 0), (2, .ref 36), (1, .ref 21), (0, .ref 0)] [.int 2, .ref 0, .int 2, .ref 21] (by decide +kernel) ?_
  refine mx_scr 6 2 260 (by decide +kernel) (by decide +kernel) (by decide +kernel) ?_
  refine mx_eq 2 (mx_pt l2 u2 (by decide +kernel)) ?_
  refine mx_B 4 264 [(3, .int 0), (2, .ref 36), (1, .ref 21), (0, .ref 0)] [.int 3, .ref 0, .int 2, .int 2, .ref 21] (by decide +kernel) ?_
  refine mx_scr 6 3 265 (by decide +kernel) (by decide +kernel) (by decide +kernel) ?_
  refine mx_eq 4 (mx_pt l3 u3 (by decide +kernel)) ?_
  refine mx_call 221 3 [.ref 21, .int 2, .int 2, .int 4] [] [(0, .ref 21), (1, .int 2), (2, .int 2), (3, .int 4)] (some (.int 4)) hh_a203 0 0 1 22 0 0 268 [.int 4] ap_221 (by decide +kernel) (by decide +kernel) (iv_a552 6 xs zf hz) ?_
  refine mx_B 5 273 [(3, .int 0), (2, .ref 36), (1, .ref 21), (0, .ref 0)] [.int 1, .ref 0, .ref 36, .int 4] (by decide +kernel) ?_
  refine mx_scr 6 1 274 (by decide +kernel) (by decide +kernel) (by decide +kernel) ?_
  refine mx_eq 2 (mx_pt l1 u1 (by decide +kernel)) ?_
  refine mx_B 4 278 [(3, .int 0), (2, .ref 36), (1, .ref 21), (0, .ref 0)] [.int 2, .ref 0, .int 2, .ref 36, .int 4] (by decide +kernel) ?_
  refine mx_scr 6 2 279 (by decide +kernel) (by decide +kernel) (by decide +kernel) ?_
  refine mx_eq 2 (mx_pt l2 u2 (by decide +kernel)) ?_
  refine mx_B 4 283 [(3, .int 0), (2, .ref 36), (1, .ref 21), (0, .ref 0)] [.int 3, .ref 0, .int 2, .int 2, .ref 36, .int 4] (by decide +kernel) ?_
  refine mx_scr 6 3 284 (by decide +kernel) (by decide +kernel) (by decide +kernel) ?_
  refine mx_eq 4 (mx_pt l3 u3 (by decide +kernel)) ?_
  refine mx_call 289 3 [.ref 36, .int 2, .int 2, .int 4] [.int 4] [(0, .ref 36), (1, .int 2), (2, .int 2), (3, .int 4)] (some (.int 4)) hh_a203 0 0 1 21 0 0 287 [.int 4, .int 4] ap_289 (by decide +kernel) (by decide +kernel) (iv_a554 6 xs zf hz) ?_
  refine mx_B 5 20 [(3, .int 6), (2, .ref 36), (1, .ref 21), (0, .ref 0)] [.ref 0, .int 6] (by decide +kernel) ?_
  refine mx_S (.arraylength) 1 [] 21 [(3, .int 6), (2, .ref 36), (1, .ref 21), (0, .ref 0)] [.int 6, .int 6] (by decide +kernel) rfl ?_
  refine mx_B 4 543 [(3, .int 6), (2, .ref 36), (1, .ref 21), (0, .ref 0)] [.int 1] (by decide +kernel) ?_
  exact mx_ret (some (.int 1)) (by decide +kernel) ⟨rfl, rfl⟩
theorem iv_a556 (L : Nat) (xs : Nat → Int32) (zf : Value) (hz : zf.category = 1) : mx_R L xs zf ah_M190 0 [(0, .ref 3), (1, .int 3), (2, .int 0)] [] hh_a203 0 0 0 0 (fun v h' => v = some (.int (-1)) ∧ h' = hh_a203) := by
  refine mx_B 12 22 [(0, .ref 3), (1, .int 3), (2, .int 0)] [.int 3, .ref 3] (by decide +kernel) ?_
  refine mx_B 5 27 [(0, .ref 3), (1, .int 3), (2, .int 0)] [.int (-1)] (by decide +kernel) ?_
  exact mx_ret (some (.int (-1))) (by decide +kernel) ⟨rfl, rfl⟩
theorem iv_a557 (L : Nat) (xs : Nat → Int32) (zf : Value) (hz : zf.category = 1) : mx_R L xs zf ah_M221 0 [(0, .ref 21), (1, .int 2), (2, .int 3), (3, .int 0)] [] hh_a203 0 0 1 22 (fun v h' => v = some (.int (-1)) ∧ h' = hh_a203) := by
  refine mx_B 12 70 [(0, .ref 21), (1, .int 2), (2, .int 3), (3, .int 0)] [] (by decide +kernel) ?_
  refine mx_B 3 75 [(0, .ref 21), (1, .int 2), (2, .int 3), (3, .int 0)] [.int 0, .int 3, .ref 3] (by decide +kernel) ?_
  refine mx_call 190 3 [.ref 3, .int 3, .int 0] [] [(0, .ref 3), (1, .int 3), (2, .int 0)] (some (.int (-1))) hh_a203 0 0 0 0 0 0 78 [.int (-1)] ap_190 (by decide +kernel) (by decide +kernel) (iv_a556 L xs zf hz) ?_
  exact mx_ret (some (.int (-1))) (by decide +kernel) ⟨rfl, rfl⟩
theorem iv_a558 (L : Nat) (xs : Nat → Int32) (zf : Value) (hz : zf.category = 1) : mx_R L xs zf ah_M292 0 [(0, .int 3), (1, .int 0)] [] hh_a203 0 0 0 0 (fun v h' => v = some (.int (-1)) ∧ h' = hh_a203) := by
  refine mx_B 9 46 [(0, .int 3), (1, .int 0)] [.int (-1)] (by decide +kernel) ?_
  exact mx_ret (some (.int (-1))) (by decide +kernel) ⟨rfl, rfl⟩
theorem iv_a559 (L : Nat) (xs : Nat → Int32) (zf : Value) (hz : zf.category = 1) : mx_R L xs zf ah_M289 0 [(0, .ref 36), (1, .int 2), (2, .int 3), (3, .int 0)] [] hh_a203 0 0 1 21 (fun v h' => v = some (.int (-1)) ∧ h' = hh_a203) := by
  refine mx_B 12 22 [(0, .ref 36), (1, .int 2), (2, .int 3), (3, .int 0)] [] (by decide +kernel) ?_
  refine mx_B 12 64 [(0, .ref 36), (1, .int 2), (2, .int 3), (3, .int 0)] [.int 3] (by decide +kernel) ?_
  refine mx_B 1 65 [(0, .ref 36), (1, .int 2), (2, .int 3), (3, .int 0)] [.int 0, .int 3] (by decide +kernel) ?_
  refine mx_call 292 3 [.int 3, .int 0] [] [(0, .int 3), (1, .int 0)] (some (.int (-1))) hh_a203 0 0 0 0 0 0 68 [.int (-1)] ap_292 (by decide +kernel) (by decide +kernel) (iv_a558 L xs zf hz) ?_
  refine mx_B 1 84 [(0, .ref 36), (1, .int 2), (2, .int 3), (3, .int 0)] [.int (-1)] (by decide +kernel) ?_
  exact mx_ret (some (.int (-1))) (by decide +kernel) ⟨rfl, rfl⟩
theorem iv_a560 (xs : Nat → Int32) (zf : Value) (hz : zf.category = 1) (hk : xs 0 &&& 15 = 5) (l1 : 2 ≤ (xs 1).toInt) (u1 : (xs 1).toInt ≤ 2) (l2 : 3 ≤ (xs 2).toInt) (u2 : (xs 2).toInt ≤ 3) (l3 : 0 ≤ (xs 3).toInt) (u3 : (xs 3).toInt ≤ 0) : mx_R 6 xs zf ah_M0 18 [(3, .int 0), (2, .ref 36), (1, .ref 21), (0, .ref 0)] [] hh_a203 0 0 2 45 (fun v h' => v = some (.int 1) ∧ h' = hh_a203) := by
  refine mx_B 2 20 [(3, .int 0), (2, .ref 36), (1, .ref 21), (0, .ref 0)] [.ref 0, .int 0] (by decide +kernel) ?_
  refine mx_S (.arraylength) 1 [] 21 [(3, .int 0), (2, .ref 36), (1, .ref 21), (0, .ref 0)] [.int 6, .int 0] (by decide +kernel) rfl ?_
  refine mx_B 5 29 [(3, .int 0), (2, .ref 36), (1, .ref 21), (0, .ref 0)] [.int 0, .ref 0] (by decide +kernel) ?_
  refine mx_scr 6 0 30 (by decide +kernel) (by decide +kernel) (by decide +kernel) ?_
  refine mx_S (.bipush 15) 2 [] 32 [(3, .int 0), (2, .ref 36), (1, .ref 21), (0, .ref 0)] [.int 15, .int (xs 0)] (by decide +kernel) rfl ?_
  refine mx_S (.iand) 1 [] 33 [(3, .int 0), (2, .ref 36), (1, .ref 21), (0, .ref 0)] [.int ((xs 0) &&& 15)] (by decide +kernel) rfl ?_
  refine mx_eq 5 hk ?_
  refine mx_B 6 254 [(3, .int 0), (2, .ref 36), (1, .ref 21), (0, .ref 0)] [.int 1, .ref 0, .ref 21] (by decide +kernel) ?_
  refine mx_scr 6 1 255 (by decide +kernel) (by decide +kernel) (by decide +kernel) ?_
  refine mx_eq 2 (mx_pt l1 u1 (by decide +kernel)) ?_
  refine mx_B 4 259 [(3, .int 0), (2, .ref 36), (1, .ref 21), (0, .ref 0)] [.int 2, .ref 0, .int 2, .ref 21] (by decide +kernel) ?_
  refine mx_scr 6 2 260 (by decide +kernel) (by decide +kernel) (by decide +kernel) ?_
  refine mx_eq 3 (mx_pt l2 u2 (by decide +kernel)) ?_
  refine mx_B 4 264 [(3, .int 0), (2, .ref 36), (1, .ref 21), (0, .ref 0)] [.int 3, .ref 0, .int 3, .int 2, .ref 21] (by decide +kernel) ?_
  refine mx_scr 6 3 265 (by decide +kernel) (by decide +kernel) (by decide +kernel) ?_
  refine mx_eq 0 (mx_pt l3 u3 (by decide +kernel)) ?_
  refine mx_call 221 3 [.ref 21, .int 2, .int 3, .int 0] [] [(0, .ref 21), (1, .int 2), (2, .int 3), (3, .int 0)] (some (.int (-1))) hh_a203 0 0 1 22 0 0 268 [.int (-1)] ap_221 (by decide +kernel) (by decide +kernel) (iv_a557 6 xs zf hz) ?_
  refine mx_B 5 273 [(3, .int 0), (2, .ref 36), (1, .ref 21), (0, .ref 0)] [.int 1, .ref 0, .ref 36, .int (-1)] (by decide +kernel) ?_
  refine mx_scr 6 1 274 (by decide +kernel) (by decide +kernel) (by decide +kernel) ?_
  refine mx_eq 2 (mx_pt l1 u1 (by decide +kernel)) ?_
  refine mx_B 4 278 [(3, .int 0), (2, .ref 36), (1, .ref 21), (0, .ref 0)] [.int 2, .ref 0, .int 2, .ref 36, .int (-1)] (by decide +kernel) ?_
  refine mx_scr 6 2 279 (by decide +kernel) (by decide +kernel) (by decide +kernel) ?_
  refine mx_eq 3 (mx_pt l2 u2 (by decide +kernel)) ?_
  refine mx_B 4 283 [(3, .int 0), (2, .ref 36), (1, .ref 21), (0, .ref 0)] [.int 3, .ref 0, .int 3, .int 2, .ref 36, .int (-1)] (by decide +kernel) ?_
  refine mx_scr 6 3 284 (by decide +kernel) (by decide +kernel) (by decide +kernel) ?_
  refine mx_eq 0 (mx_pt l3 u3 (by decide +kernel)) ?_
  refine mx_call 289 3 [.ref 36, .int 2, .int 3, .int 0] [.int (-1)] [(0, .ref 36), (1, .int 2), (2, .int 3), (3, .int 0)] (some (.int (-1))) hh_a203 0 0 1 21 0 0 287 [.int (-1), .int (-1)] ap_289 (by decide +kernel) (by decide +kernel) (iv_a559 6 xs zf hz) ?_
  refine mx_B 5 20 [(3, .int 6), (2, .ref 36), (1, .ref 21), (0, .ref 0)] [.ref 0, .int 6] (by decide +kernel) ?_
  refine mx_S (.arraylength) 1 [] 21 [(3, .int 6), (2, .ref 36), (1, .ref 21), (0, .ref 0)] [.int 6, .int 6] (by decide +kernel) rfl ?_
  refine mx_B 4 543 [(3, .int 6), (2, .ref 36), (1, .ref 21), (0, .ref 0)] [.int 1] (by decide +kernel) ?_
  exact mx_ret (some (.int 1)) (by decide +kernel) ⟨rfl, rfl⟩
theorem iv_a561 (L : Nat) (xs : Nat → Int32) (zf : Value) (hz : zf.category = 1) : mx_R L xs zf ah_M190 0 [(0, .ref 3), (1, .int 3), (2, .int 1)] [] hh_a203 0 0 0 0 (fun v h' => v = some (.int (-1)) ∧ h' = hh_a203) := by
  refine mx_B 12 22 [(0, .ref 3), (1, .int 3), (2, .int 1)] [.int 3, .ref 3] (by decide +kernel) ?_
  refine mx_B 5 27 [(0, .ref 3), (1, .int 3), (2, .int 1)] [.int (-1)] (by decide +kernel) ?_
  exact mx_ret (some (.int (-1))) (by decide +kernel) ⟨rfl, rfl⟩
theorem iv_a562 (L : Nat) (xs : Nat → Int32) (zf : Value) (hz : zf.category = 1) : mx_R L xs zf ah_M221 0 [(0, .ref 21), (1, .int 2), (2, .int 3), (3, .int 1)] [] hh_a203 0 0 1 22 (fun v h' => v = some (.int (-1)) ∧ h' = hh_a203) := by
  refine mx_B 12 70 [(0, .ref 21), (1, .int 2), (2, .int 3), (3, .int 1)] [] (by decide +kernel) ?_
  refine mx_B 3 75 [(0, .ref 21), (1, .int 2), (2, .int 3), (3, .int 1)] [.int 1, .int 3, .ref 3] (by decide +kernel) ?_
  refine mx_call 190 3 [.ref 3, .int 3, .int 1] [] [(0, .ref 3), (1, .int 3), (2, .int 1)] (some (.int (-1))) hh_a203 0 0 0 0 0 0 78 [.int (-1)] ap_190 (by decide +kernel) (by decide +kernel) (iv_a561 L xs zf hz) ?_
  exact mx_ret (some (.int (-1))) (by decide +kernel) ⟨rfl, rfl⟩
theorem iv_a563 (L : Nat) (xs : Nat → Int32) (zf : Value) (hz : zf.category = 1) : mx_R L xs zf ah_M292 0 [(0, .int 3), (1, .int 1)] [] hh_a203 0 0 0 0 (fun v h' => v = some (.int (-1)) ∧ h' = hh_a203) := by
  refine mx_B 9 46 [(0, .int 3), (1, .int 1)] [.int (-1)] (by decide +kernel) ?_
  exact mx_ret (some (.int (-1))) (by decide +kernel) ⟨rfl, rfl⟩
theorem iv_a564 (L : Nat) (xs : Nat → Int32) (zf : Value) (hz : zf.category = 1) : mx_R L xs zf ah_M289 0 [(0, .ref 36), (1, .int 2), (2, .int 3), (3, .int 1)] [] hh_a203 0 0 1 21 (fun v h' => v = some (.int (-1)) ∧ h' = hh_a203) := by
  refine mx_B 12 22 [(0, .ref 36), (1, .int 2), (2, .int 3), (3, .int 1)] [] (by decide +kernel) ?_
  refine mx_B 12 64 [(0, .ref 36), (1, .int 2), (2, .int 3), (3, .int 1)] [.int 3] (by decide +kernel) ?_
  refine mx_B 1 65 [(0, .ref 36), (1, .int 2), (2, .int 3), (3, .int 1)] [.int 1, .int 3] (by decide +kernel) ?_
  refine mx_call 292 3 [.int 3, .int 1] [] [(0, .int 3), (1, .int 1)] (some (.int (-1))) hh_a203 0 0 0 0 0 0 68 [.int (-1)] ap_292 (by decide +kernel) (by decide +kernel) (iv_a563 L xs zf hz) ?_
  refine mx_B 1 84 [(0, .ref 36), (1, .int 2), (2, .int 3), (3, .int 1)] [.int (-1)] (by decide +kernel) ?_
  exact mx_ret (some (.int (-1))) (by decide +kernel) ⟨rfl, rfl⟩
theorem iv_a565 (xs : Nat → Int32) (zf : Value) (hz : zf.category = 1) (hk : xs 0 &&& 15 = 5) (l1 : 2 ≤ (xs 1).toInt) (u1 : (xs 1).toInt ≤ 2) (l2 : 3 ≤ (xs 2).toInt) (u2 : (xs 2).toInt ≤ 3) (l3 : 1 ≤ (xs 3).toInt) (u3 : (xs 3).toInt ≤ 1) : mx_R 6 xs zf ah_M0 18 [(3, .int 0), (2, .ref 36), (1, .ref 21), (0, .ref 0)] [] hh_a203 0 0 2 45 (fun v h' => v = some (.int 1) ∧ h' = hh_a203) := by
  refine mx_B 2 20 [(3, .int 0), (2, .ref 36), (1, .ref 21), (0, .ref 0)] [.ref 0, .int 0] (by decide +kernel) ?_
  refine mx_S (.arraylength) 1 [] 21 [(3, .int 0), (2, .ref 36), (1, .ref 21), (0, .ref 0)] [.int 6, .int 0] (by decide +kernel) rfl ?_
  refine mx_B 5 29 [(3, .int 0), (2, .ref 36), (1, .ref 21), (0, .ref 0)] [.int 0, .ref 0] (by decide +kernel) ?_
  refine mx_scr 6 0 30 (by decide +kernel) (by decide +kernel) (by decide +kernel) ?_
  refine mx_S (.bipush 15) 2 [] 32 [(3, .int 0), (2, .ref 36), (1, .ref 21), (0, .ref 0)] [.int 15, .int (xs 0)] (by decide +kernel) rfl ?_
  refine mx_S (.iand) 1 [] 33 [(3, .int 0), (2, .ref 36), (1, .ref 21), (0, .ref 0)] [.int ((xs 0) &&& 15)] (by decide +kernel) rfl ?_
  refine mx_eq 5 hk ?_
  refine mx_B 6 254 [(3, .int 0), (2, .ref 36), (1, .ref 21), (0, .ref 0)] [.int 1, .ref 0, .ref 21] (by decide +kernel) ?_
  refine mx_scr 6 1 255 (by decide +kernel) (by decide +kernel) (by decide +kernel) ?_
  refine mx_eq 2 (mx_pt l1 u1 (by decide +kernel)) ?_
  refine mx_B 4 259 [(3, .int 0), (2, .ref 36), (1, .ref 21), (0, .ref 0)] [.int 2, .ref 0, .int 2, .ref 21] (by decide +kernel) ?_
  refine mx_scr 6 2 260 (by decide +kernel) (by decide +kernel) (by decide +kernel) ?_
  refine mx_eq 3 (mx_pt l2 u2 (by decide +kernel)) ?_
  refine mx_B 4 264 [(3, .int 0), (2, .ref 36), (1, .ref 21), (0, .ref 0)] [.int 3, .ref 0, .int 3, .int 2, .ref 21] (by decide +kernel) ?_
  refine mx_scr 6 3 265 (by decide +kernel) (by decide +kernel) (by decide +kernel) ?_
  refine mx_eq 1 (mx_pt l3 u3 (by decide +kernel)) ?_
  refine mx_call 221 3 [.ref 21, .int 2, .int 3, .int 1] [] [(0, .ref 21), (1, .int 2), (2, .int 3), (3, .int 1)] (some (.int (-1))) hh_a203 0 0 1 22 0 0 268 [.int (-1)] ap_221 (by decide +kernel) (by decide +kernel) (iv_a562 6 xs zf hz) ?_
  refine mx_B 5 273 [(3, .int 0), (2, .ref 36), (1, .ref 21), (0, .ref 0)] [.int 1, .ref 0, .ref 36, .int (-1)] (by decide +kernel) ?_
  refine mx_scr 6 1 274 (by decide +kernel) (by decide +kernel) (by decide +kernel) ?_
  refine mx_eq 2 (mx_pt l1 u1 (by decide +kernel)) ?_
  refine mx_B 4 278 [(3, .int 0), (2, .ref 36), (1, .ref 21), (0, .ref 0)] [.int 2, .ref 0, .int 2, .ref 36, .int (-1)] (by decide +kernel) ?_
  refine mx_scr 6 2 279 (by decide +kernel) (by decide +kernel) (by decide +kernel) ?_
  refine mx_eq 3 (mx_pt l2 u2 (by decide +kernel)) ?_
  refine mx_B 4 283 [(3, .int 0), (2, .ref 36), (1, .ref 21), (0, .ref 0)] [.int 3, .ref 0, .int 3, .int 2, .ref 36, .int (-1)] (by decide +kernel) ?_
  refine mx_scr 6 3 284 (by decide +kernel) (by decide +kernel) (by decide +kernel) ?_
  refine mx_eq 1 (mx_pt l3 u3 (by decide +kernel)) ?_
  refine mx_call 289 3 [.ref 36, .int 2, .int 3, .int 1] [.int (-1)] [(0, .ref 36), (1, .int 2), (2, .int 3), (3, .int 1)] (some (.int (-1))) hh_a203 0 0 1 21 0 0 287 [.int (-1), .int (-1)] ap_289 (by decide +kernel) (by decide +kernel) (iv_a564 6 xs zf hz) ?_
  refine mx_B 5 20 [(3, .int 6), (2, .ref 36), (1, .ref 21), (0, .ref 0)] [.ref 0, .int 6] (by decide +kernel) ?_
  refine mx_S (.arraylength) 1 [] 21 [(3, .int 6), (2, .ref 36), (1, .ref 21), (0, .ref 0)] [.int 6, .int 6] (by decide +kernel) rfl ?_
  refine mx_B 4 543 [(3, .int 6), (2, .ref 36), (1, .ref 21), (0, .ref 0)] [.int 1] (by decide +kernel) ?_
  exact mx_ret (some (.int 1)) (by decide +kernel) ⟨rfl, rfl⟩
theorem iv_a566 (L : Nat) (xs : Nat → Int32) (zf : Value) (hz : zf.category = 1) : mx_R L xs zf ah_M190 0 [(0, .ref 3), (1, .int 3), (2, .int 2)] [] hh_a203 0 0 0 0 (fun v h' => v = some (.int (-1)) ∧ h' = hh_a203) := by
  refine mx_B 12 22 [(0, .ref 3), (1, .int 3), (2, .int 2)] [.int 3, .ref 3] (by decide +kernel) ?_
  refine mx_B 5 27 [(0, .ref 3), (1, .int 3), (2, .int 2)] [.int (-1)] (by decide +kernel) ?_
  exact mx_ret (some (.int (-1))) (by decide +kernel) ⟨rfl, rfl⟩
theorem iv_a567 (L : Nat) (xs : Nat → Int32) (zf : Value) (hz : zf.category = 1) : mx_R L xs zf ah_M221 0 [(0, .ref 21), (1, .int 2), (2, .int 3), (3, .int 2)] [] hh_a203 0 0 1 22 (fun v h' => v = some (.int (-1)) ∧ h' = hh_a203) := by
  refine mx_B 12 70 [(0, .ref 21), (1, .int 2), (2, .int 3), (3, .int 2)] [] (by decide +kernel) ?_
  refine mx_B 3 75 [(0, .ref 21), (1, .int 2), (2, .int 3), (3, .int 2)] [.int 2, .int 3, .ref 3] (by decide +kernel) ?_
  refine mx_call 190 3 [.ref 3, .int 3, .int 2] [] [(0, .ref 3), (1, .int 3), (2, .int 2)] (some (.int (-1))) hh_a203 0 0 0 0 0 0 78 [.int (-1)] ap_190 (by decide +kernel) (by decide +kernel) (iv_a566 L xs zf hz) ?_
  exact mx_ret (some (.int (-1))) (by decide +kernel) ⟨rfl, rfl⟩
theorem iv_a568 (L : Nat) (xs : Nat → Int32) (zf : Value) (hz : zf.category = 1) : mx_R L xs zf ah_M292 0 [(0, .int 3), (1, .int 2)] [] hh_a203 0 0 0 0 (fun v h' => v = some (.int (-1)) ∧ h' = hh_a203) := by
  refine mx_B 9 46 [(0, .int 3), (1, .int 2)] [.int (-1)] (by decide +kernel) ?_
  exact mx_ret (some (.int (-1))) (by decide +kernel) ⟨rfl, rfl⟩
theorem iv_a569 (L : Nat) (xs : Nat → Int32) (zf : Value) (hz : zf.category = 1) : mx_R L xs zf ah_M289 0 [(0, .ref 36), (1, .int 2), (2, .int 3), (3, .int 2)] [] hh_a203 0 0 1 21 (fun v h' => v = some (.int (-1)) ∧ h' = hh_a203) := by
  refine mx_B 12 22 [(0, .ref 36), (1, .int 2), (2, .int 3), (3, .int 2)] [] (by decide +kernel) ?_
  refine mx_B 12 64 [(0, .ref 36), (1, .int 2), (2, .int 3), (3, .int 2)] [.int 3] (by decide +kernel) ?_
  refine mx_B 1 65 [(0, .ref 36), (1, .int 2), (2, .int 3), (3, .int 2)] [.int 2, .int 3] (by decide +kernel) ?_
  refine mx_call 292 3 [.int 3, .int 2] [] [(0, .int 3), (1, .int 2)] (some (.int (-1))) hh_a203 0 0 0 0 0 0 68 [.int (-1)] ap_292 (by decide +kernel) (by decide +kernel) (iv_a568 L xs zf hz) ?_
  refine mx_B 1 84 [(0, .ref 36), (1, .int 2), (2, .int 3), (3, .int 2)] [.int (-1)] (by decide +kernel) ?_
  exact mx_ret (some (.int (-1))) (by decide +kernel) ⟨rfl, rfl⟩
theorem iv_a570 (xs : Nat → Int32) (zf : Value) (hz : zf.category = 1) (hk : xs 0 &&& 15 = 5) (l1 : 2 ≤ (xs 1).toInt) (u1 : (xs 1).toInt ≤ 2) (l2 : 3 ≤ (xs 2).toInt) (u2 : (xs 2).toInt ≤ 3) (l3 : 2 ≤ (xs 3).toInt) (u3 : (xs 3).toInt ≤ 2) : mx_R 6 xs zf ah_M0 18 [(3, .int 0), (2, .ref 36), (1, .ref 21), (0, .ref 0)] [] hh_a203 0 0 2 45 (fun v h' => v = some (.int 1) ∧ h' = hh_a203) := by
  refine mx_B 2 20 [(3, .int 0), (2, .ref 36), (1, .ref 21), (0, .ref 0)] [.ref 0, .int 0] (by decide +kernel) ?_
  refine mx_S (.arraylength) 1 [] 21 [(3, .int 0), (2, .ref 36), (1, .ref 21), (0, .ref 0)] [.int 6, .int 0] (by decide +kernel) rfl ?_
  refine mx_B 5 29 [(3, .int 0), (2, .ref 36), (1, .ref 21), (0, .ref 0)] [.int 0, .ref 0] (by decide +kernel) ?_
  refine mx_scr 6 0 30 (by decide +kernel) (by decide +kernel) (by decide +kernel) ?_
  refine mx_S (.bipush 15) 2 [] 32 [(3, .int 0), (2, .ref 36), (1, .ref 21), (0, .ref 0)] [.int 15, .int (xs 0)] (by decide +kernel) rfl ?_
  refine mx_S (.iand) 1 [] 33 [(3, .int 0), (2, .ref 36), (1, .ref 21), (0, .ref 0)] [.int ((xs 0) &&& 15)] (by decide +kernel) rfl ?_
  refine mx_eq 5 hk ?_
  refine mx_B 6 254 [(3, .int 0), (2, .ref 36), (1, .ref 21), (0, .ref 0)] [.int 1, .ref 0, .ref 21] (by decide +kernel) ?_
  refine mx_scr 6 1 255 (by decide +kernel) (by decide +kernel) (by decide +kernel) ?_
  refine mx_eq 2 (mx_pt l1 u1 (by decide +kernel)) ?_
  refine mx_B 4 259 [(3, .int 0), (2, .ref 36), (1, .ref 21), (0, .ref 0)] [.int 2, .ref 0, .int 2, .ref 21] (by decide +kernel) ?_
  refine mx_scr 6 2 260 (by decide +kernel) (by decide +kernel) (by decide +kernel) ?_
  refine mx_eq 3 (mx_pt l2 u2 (by decide +kernel)) ?_
  refine mx_B 4 264 [(3, .int 0), (2, .ref 36), (1, .ref 21), (0, .ref 0)] [.int 3, .ref 0, .int 3, .int 2, .ref 21] (by decide +kernel) ?_
  refine mx_scr 6 3 265 (by decide +kernel) (by decide +kernel) (by decide +kernel) ?_
  refine mx_eq 2 (mx_pt l3 u3 (by decide +kernel)) ?_
  refine mx_call 221 3 [.ref 21, .int 2, .int 3, .int 2] [] [(0, .ref 21), (1, .int 2), (2, .int 3), (3, .int 2)] (some (.int (-1))) hh_a203 0 0 1 22 0 0 268 [.int (-1)] ap_221 (by decide +kernel) (by decide +kernel) (iv_a567 6 xs zf hz) ?_
  refine mx_B 5 273 [(3, .int 0), (2, .ref 36), (1, .ref 21), (0, .ref 0)] [.int 1, .ref 0, .ref 36, .int (-1)] (by decide +kernel) ?_
  refine mx_scr 6 1 274 (by decide +kernel) (by decide +kernel) (by decide +kernel) ?_
  refine mx_eq 2 (mx_pt l1 u1 (by decide +kernel)) ?_
  refine mx_B 4 278 [(3, .int 0), (2, .ref 36), (1, .ref 21), (0, .ref 0)] [.int 2, .ref 0, .int 2, .ref 36, .int (-1)] (by decide +kernel) ?_
  refine mx_scr 6 2 279 (by decide +kernel) (by decide +kernel) (by decide +kernel) ?_
  refine mx_eq 3 (mx_pt l2 u2 (by decide +kernel)) ?_
  refine mx_B 4 283 [(3, .int 0), (2, .ref 36), (1, .ref 21), (0, .ref 0)] [.int 3, .ref 0, .int 3, .int 2, .ref 36, .int (-1)] (by decide +kernel) ?_
  refine mx_scr 6 3 284 (by decide +kernel) (by decide +kernel) (by decide +kernel) ?_
  refine mx_eq 2 (mx_pt l3 u3 (by decide +kernel)) ?_
  refine mx_call 289 3 [.ref 36, .int 2, .int 3, .int 2] [.int (-1)] [(0, .ref 36), (1, .int 2), (2, .int 3), (3, .int 2)] (some (.int (-1))) hh_a203 0 0 1 21 0 0 287 [.int (-1), .int (-1)] ap_289 (by decide +kernel) (by decide +kernel) (iv_a569 6 xs zf hz) ?_
  refine mx_B 5 20 [(3, .int 6), (2, .ref 36), (1, .ref 21), (0, .ref 0)] [.ref 0, .int 6] (by decide +kernel) ?_
  refine mx_S (.arraylength) 1 [] 21 [(3, .int 6), (2, .ref 36), (1, .ref 21), (0, .ref 0)] [.int 6, .int 6] (by decide +kernel) rfl ?_
  refine mx_B 4 543 [(3, .int 6), (2, .ref 36), (1, .ref 21), (0, .ref 0)] [.int 1] (by decide +kernel) ?_
  exact mx_ret (some (.int 1)) (by decide +kernel) ⟨rfl, rfl⟩
theorem iv_a571 (L : Nat) (xs : Nat → Int32) (zf : Value) (hz : zf.category = 1) : mx_R L xs zf ah_M190 0 [(0, .ref 3), (1, .int 3), (2, .int 3)] [] hh_a203 0 0 0 0 (fun v h' => v = some (.int (-1)) ∧ h' = hh_a203) := by
  refine mx_B 12 22 [(0, .ref 3), (1, .int 3), (2, .int 3)] [.int 3, .ref 3] (by decide +kernel) ?_
  refine mx_B 5 27 [(0, .ref 3), (1, .int 3), (2, .int 3)] [.int (-1)] (by decide +kernel) ?_
  exact mx_ret (some (.int (-1))) (by decide +kernel) ⟨rfl, rfl⟩
theorem iv_a572 (L : Nat) (xs : Nat → Int32) (zf : Value) (hz : zf.category = 1) : mx_R L xs zf ah_M221 0 [(0, .ref 21), (1, .int 2), (2, .int 3), (3, .int 3)] [] hh_a203 0 0 1 22 (fun v h' => v = some (.int (-1)) ∧ h' = hh_a203) := by
  refine mx_B 12 70 [(0, .ref 21), (1, .int 2), (2, .int 3), (3, .int 3)] [] (by decide +kernel) ?_
  refine mx_B 3 75 [(0, .ref 21), (1, .int 2), (2, .int 3), (3, .int 3)] [.int 3, .int 3, .ref 3] (by decide +kernel) ?_
  refine mx_call 190 3 [.ref 3, .int 3, .int 3] [] [(0, .ref 3), (1, .int 3), (2, .int 3)] (some (.int (-1))) hh_a203 0 0 0 0 0 0 78 [.int (-1)] ap_190 (by decide +kernel) (by decide +kernel) (iv_a571 L xs zf hz) ?_
  exact mx_ret (some (.int (-1))) (by decide +kernel) ⟨rfl, rfl⟩
theorem iv_a573 (L : Nat) (xs : Nat → Int32) (zf : Value) (hz : zf.category = 1) : mx_R L xs zf ah_M292 0 [(0, .int 3), (1, .int 3)] [] hh_a203 0 0 0 0 (fun v h' => v = some (.int (-1)) ∧ h' = hh_a203) := by
  refine mx_B 9 46 [(0, .int 3), (1, .int 3)] [.int (-1)] (by decide +kernel) ?_
  exact mx_ret (some (.int (-1))) (by decide +kernel) ⟨rfl, rfl⟩
theorem iv_a574 (L : Nat) (xs : Nat → Int32) (zf : Value) (hz : zf.category = 1) : mx_R L xs zf ah_M289 0 [(0, .ref 36), (1, .int 2), (2, .int 3), (3, .int 3)] [] hh_a203 0 0 1 21 (fun v h' => v = some (.int (-1)) ∧ h' = hh_a203) := by
  refine mx_B 12 22 [(0, .ref 36), (1, .int 2), (2, .int 3), (3, .int 3)] [] (by decide +kernel) ?_
  refine mx_B 12 64 [(0, .ref 36), (1, .int 2), (2, .int 3), (3, .int 3)] [.int 3] (by decide +kernel) ?_
  refine mx_B 1 65 [(0, .ref 36), (1, .int 2), (2, .int 3), (3, .int 3)] [.int 3, .int 3] (by decide +kernel) ?_
  refine mx_call 292 3 [.int 3, .int 3] [] [(0, .int 3), (1, .int 3)] (some (.int (-1))) hh_a203 0 0 0 0 0 0 68 [.int (-1)] ap_292 (by decide +kernel) (by decide +kernel) (iv_a573 L xs zf hz) ?_
  refine mx_B 1 84 [(0, .ref 36), (1, .int 2), (2, .int 3), (3, .int 3)] [.int (-1)] (by decide +kernel) ?_
  exact mx_ret (some (.int (-1))) (by decide +kernel) ⟨rfl, rfl⟩
theorem iv_a575 (xs : Nat → Int32) (zf : Value) (hz : zf.category = 1) (hk : xs 0 &&& 15 = 5) (l1 : 2 ≤ (xs 1).toInt) (u1 : (xs 1).toInt ≤ 2) (l2 : 3 ≤ (xs 2).toInt) (u2 : (xs 2).toInt ≤ 3) (l3 : 3 ≤ (xs 3).toInt) (u3 : (xs 3).toInt ≤ 3) : mx_R 6 xs zf ah_M0 18 [(3, .int 0), (2, .ref 36), (1, .ref 21), (0, .ref 0)] [] hh_a203 0 0 2 45 (fun v h' => v = some (.int 1) ∧ h' = hh_a203) := by
  refine mx_B 2 20 [(3, .int 0), (2, .ref 36), (1, .ref 21), (0, .ref 0)] [.ref 0, .int 0] (by decide +kernel) ?_
  refine mx_S (.arraylength) 1 [] 21 [(3, .int 0), (2, .ref 36), (1, .ref 21), (0, .ref 0)] [.int 6, .int 0] (by decide +kernel) rfl ?_
  refine mx_B 5 29 [(3, .int 0), (2, .ref 36), (1, .ref 21), (0, .ref 0)] [.int 0, .ref 0] (by decide +kernel) ?_
  refine mx_scr 6 0 30 (by decide +kernel) (by decide +kernel) (by decide +kernel) ?_
  refine mx_S (.bipush 15) 2 [] 32 [(3, .int 0), (2, .ref 36), (1, .ref 21), (0, .ref 0)] [.int 15, .int (xs 0)] (by decide +kernel) rfl ?_
  refine mx_S (.iand) 1 [] 33 [(3, .int 0), (2, .ref 36), (1, .ref 21), (0, .ref 0)] [.int ((xs 0) &&& 15)] (by decide +kernel) rfl ?_
  refine mx_eq 5 hk ?_
  refine mx_B 6 254 [(3, .int 0), (2, .ref 36), (1, .ref 21), (0, .ref 0)] [.int 1, .ref 0, .ref 21] (by decide +kernel) ?_
  refine mx_scr 6 1 255 (by decide +kernel) (by decide +kernel) (by decide +kernel) ?_
  refine mx_eq 2 (mx_pt l1 u1 (by decide +kernel)) ?_
  refine mx_B 4 259 [(3, .int 0), (2, .ref 36), (1, .ref 21), (0, .ref 0)] [.int 2, .ref 0, .int 2, .ref 21] (by decide +kernel) ?_
  refine mx_scr 6 2 260 (by decide +kernel) (by decide +kernel) (by decide +kernel) ?_
  refine mx_eq 3 (mx_pt l2 u2 (by decide +kernel)) ?_
  refine mx_B 4 264 [(3, .int 0), (2, .ref 36), (1, .ref 21), (0, .ref 0)] [.int 3, .ref 0, .int 3, .int 2, .ref 21] (by decide +kernel) ?_
  refine mx_scr 6 3 265 (by decide +kernel) (by decide +kernel) (by decide +kernel) ?_
  refine mx_eq 3 (mx_pt l3 u3 (by decide +kernel)) ?_
  refine mx_call 221 3 [.ref 21, .int 2, .int 3, .int 3] [] [(0, .ref 21), (1, .int 2), (2, .int 3), (3, .int 3)] (some (.int (-1))) hh_a203 0 0 1 22 0 0 268 [.int (-1)] ap_221 (by decide +kernel) (by decide +kernel) (iv_a572 6 xs zf hz) ?_
  refine mx_B 5 273 [(3, .int 0), (2, .ref 36), (1, .ref 21), (0, .ref 0)] [.int 1, .ref 0, .ref 36, .int (-1)] (by decide +kernel) ?_
  refine mx_scr 6 1 274 (by decide +kernel) (by decide +kernel) (by decide +kernel) ?_
  refine mx_eq 2 (mx_pt l1 u1 (by decide +kernel)) ?_
  refine mx_B 4 278 [(3, .int 0), (2, .ref 36), (1, .ref 21), (0, .ref 0)] [.int 2, .ref 0, .int 2, .ref 36, .int (-1)] (by decide +kernel) ?_
  refine mx_scr 6 2 279 (by decide +kernel) (by decide +kernel) (by decide +kernel) ?_
  refine mx_eq 3 (mx_pt l2 u2 (by decide +kernel)) ?_
  refine mx_B 4 283 [(3, .int 0), (2, .ref 36), (1, .ref 21), (0, .ref 0)] [.int 3, .ref 0, .int 3, .int 2, .ref 36, .int (-1)] (by decide +kernel) ?_
  refine mx_scr 6 3 284 (by decide +kernel) (by decide +kernel) (by decide +kernel) ?_
  refine mx_eq 3 (mx_pt l3 u3 (by decide +kernel)) ?_
  refine mx_call 289 3 [.ref 36, .int 2, .int 3, .int 3] [.int (-1)] [(0, .ref 36), (1, .int 2), (2, .int 3), (3, .int 3)] (some (.int (-1))) hh_a203 0 0 1 21 0 0 287 [.int (-1), .int (-1)] ap_289 (by decide +kernel) (by decide +kernel) (iv_a574 6 xs zf hz) ?_
  refine mx_B 5 20 [(3, .int 6), (2, .ref 36), (1, .ref 21), (0, .ref 0)] [.ref 0, .int 6] (by decide +kernel) ?_
  refine mx_S (.arraylength) 1 [] 21 [(3, .int 6), (2, .ref 36), (1, .ref 21), (0, .ref 0)] [.int 6, .int 6] (by decide +kernel) rfl ?_
  refine mx_B 4 543 [(3, .int 6), (2, .ref 36), (1, .ref 21), (0, .ref 0)] [.int 1] (by decide +kernel) ?_
  exact mx_ret (some (.int 1)) (by decide +kernel) ⟨rfl, rfl⟩
theorem iv_a576 (L : Nat) (xs : Nat → Int32) (zf : Value) (hz : zf.category = 1) : mx_R L xs zf ah_M190 0 [(0, .ref 3), (1, .int 3), (2, .int 4)] [] hh_a203 0 0 0 0 (fun v h' => v = some (.int (-1)) ∧ h' = hh_a203) := by
  refine mx_B 12 22 [(0, .ref 3), (1, .int 3), (2, .int 4)] [.int 3, .ref 3] (by decide +kernel) ?_
  refine mx_B 5 27 [(0, .ref 3), (1, .int 3), (2, .int 4)] [.int (-1)] (by decide +kernel) ?_
  exact mx_ret (some (.int (-1))) (by decide +kernel) ⟨rfl, rfl⟩
theorem iv_a577 (L : Nat) (xs : Nat → Int32) (zf : Value) (hz : zf.category = 1) : mx_R L xs zf ah_M221 0 [(0, .ref 21), (1, .int 2), (2, .int 3), (3, .int 4)] [] hh_a203 0 0 1 22 (fun v h' => v = some (.int (-1)) ∧ h' = hh_a203) := by
  refine mx_B 12 70 [(0, .ref 21), (1, .int 2), (2, .int 3), (3, .int 4)] [] (by decide +kernel) ?_
  refine mx_B 3 75 [(0, .ref 21), (1, .int 2), (2, .int 3), (3, .int 4)] [.int 4, .int 3, .ref 3] (by decide +kernel) ?_
  refine mx_call 190 3 [.ref 3, .int 3, .int 4] [] [(0, .ref 3), (1, .int 3), (2, .int 4)] (some (.int (-1))) hh_a203 0 0 0 0 0 0 78 [.int (-1)] ap_190 (by decide +kernel) (by decide +kernel) (iv_a576 L xs zf hz) ?_
  exact mx_ret (some (.int (-1))) (by decide +kernel) ⟨rfl, rfl⟩
theorem iv_a578 (L : Nat) (xs : Nat → Int32) (zf : Value) (hz : zf.category = 1) : mx_R L xs zf ah_M292 0 [(0, .int 3), (1, .int 4)] [] hh_a203 0 0 0 0 (fun v h' => v = some (.int (-1)) ∧ h' = hh_a203) := by
  refine mx_B 9 46 [(0, .int 3), (1, .int 4)] [.int (-1)] (by decide +kernel) ?_
  exact mx_ret (some (.int (-1))) (by decide +kernel) ⟨rfl, rfl⟩
theorem iv_a579 (L : Nat) (xs : Nat → Int32) (zf : Value) (hz : zf.category = 1) : mx_R L xs zf ah_M289 0 [(0, .ref 36), (1, .int 2), (2, .int 3), (3, .int 4)] [] hh_a203 0 0 1 21 (fun v h' => v = some (.int (-1)) ∧ h' = hh_a203) := by
  refine mx_B 12 22 [(0, .ref 36), (1, .int 2), (2, .int 3), (3, .int 4)] [] (by decide +kernel) ?_
  refine mx_B 12 64 [(0, .ref 36), (1, .int 2), (2, .int 3), (3, .int 4)] [.int 3] (by decide +kernel) ?_
  refine mx_B 1 65 [(0, .ref 36), (1, .int 2), (2, .int 3), (3, .int 4)] [.int 4, .int 3] (by decide +kernel) ?_
  refine mx_call 292 3 [.int 3, .int 4] [] [(0, .int 3), (1, .int 4)] (some (.int (-1))) hh_a203 0 0 0 0 0 0 68 [.int (-1)] ap_292 (by decide +kernel) (by decide +kernel) (iv_a578 L xs zf hz) ?_
  refine mx_B 1 84 [(0, .ref 36), (1, .int 2), (2, .int 3), (3, .int 4)] [.int (-1)] (by decide +kernel) ?_
  exact mx_ret (some (.int (-1))) (by decide +kernel) ⟨rfl, rfl⟩
theorem iv_a580 (xs : Nat → Int32) (zf : Value) (hz : zf.category = 1) (hk : xs 0 &&& 15 = 5) (l1 : 2 ≤ (xs 1).toInt) (u1 : (xs 1).toInt ≤ 2) (l2 : 3 ≤ (xs 2).toInt) (u2 : (xs 2).toInt ≤ 3) (l3 : 4 ≤ (xs 3).toInt) (u3 : (xs 3).toInt ≤ 4) : mx_R 6 xs zf ah_M0 18 [(3, .int 0), (2, .ref 36), (1, .ref 21), (0, .ref 0)] [] hh_a203 0 0 2 45 (fun v h' => v = some (.int 1) ∧ h' = hh_a203) := by
  refine mx_B 2 20 [(3, .int 0), (2, .ref 36), (1, .ref 21), (0, .ref 0)] [.ref 0, .int 0] (by decide +kernel) ?_
  refine mx_S (.arraylength) 1 [] 21 [(3, .int 0), (2, .ref 36), (1, .ref 21), (0, .ref 0)] [.int 6, .int 0] (by decide +kernel) rfl ?_
  refine mx_B 5 29 [(3, .int 0), (2, .ref 36), (1, .ref 21), (0, .ref 0)] [.int 0, .ref 0] (by decide +kernel) ?_
  refine mx_scr 6 0 30 (by decide +kernel) (by decide +kernel) (by decide +kernel) ?_
  refine mx_S (.bipush 15) 2 [] 32 [(3, .int 0), (2, .ref 36), (1, .ref 21), (0, .ref 0)] [.int 15, .int (xs 0)] (by decide +kernel) rfl ?_
  refine mx_S (.iand) 1 [] 33 [(3, .int 0), (2, .ref 36), (1, .ref 21), (0, .ref 0)] [.int ((xs 0) &&& 15)] (by decide +kernel) rfl ?_
  refine mx_eq 5 hk ?_
  refine mx_B 6 254 [(3, .int 0), (2, .ref 36), (1, .ref 21), (0, .ref 0)] [.int 1, .ref 0, .ref 21] (by decide +kernel) ?_
  refine mx_scr 6 1 255 (by decide +kernel) (by decide +kernel) (by decide +kernel) ?_
  refine mx_eq 2 (mx_pt l1 u1 (by decide +kernel)) ?_
  refine mx_B 4 259 [(3, .int 0), (2, .ref 36), (1, .ref 21), (0, .ref 0)] [.int 2, .ref 0, .int 2, .ref 21] (by decide +kernel) ?_
  refine mx_scr 6 2 260 (by decide +kernel) (by decide +kernel) (by decide +kernel) ?_
  refine mx_eq 3 (mx_pt l2 u2 (by decide +kernel)) ?_
  refine mx_B 4 264 [(3, .int 0), (2, .ref 36), (1, .ref 21), (0, .ref 0)] [.int 3, .ref 0, .int 3, .int 2, .ref 21] (by decide +kernel) ?_
  refine mx_scr 6 3 265 (by decide +kernel) (by decide +kernel) (by decide +kernel) ?_
  refine mx_eq 4 (mx_pt l3 u3 (by decide +kernel)) ?_
  refine mx_call 221 3 [.ref 21, .int 2, .int 3, .int 4] [] [(0, .ref 21), (1, .int 2), (2, .int 3), (3, .int 4)] (some (.int (-1))) hh_a203 0 0 1 22 0 0 268 [.int (-1)] ap_221 (by decide +kernel) (by decide +kernel) (iv_a577 6 xs zf hz) ?_
  refine mx_B 5 273 [(3, .int 0), (2, .ref 36), (1, .ref 21), (0, .ref 0)] [.int 1, .ref 0, .ref 36, .int (-1)] (by decide +kernel) ?_
  refine mx_scr 6 1 274 (by decide +kernel) (by decide +kernel) (by decide +kernel) ?_
  refine mx_eq 2 (mx_pt l1 u1 (by decide +kernel)) ?_
  refine mx_B 4 278 [(3, .int 0), (2, .ref 36), (1, .ref 21), (0, .ref 0)] [.int 2, .ref 0, .int 2, .ref 36, .int (-1)] (by decide +kernel) ?_
  refine mx_scr 6 2 279 (by decide +kernel) (by decide +kernel) (by decide +kernel) ?_
  refine mx_eq 3 (mx_pt l2 u2 (by decide +kernel)) ?_
  refine mx_B 4 283 [(3, .int 0), (2, .ref 36), (1, .ref 21), (0, .ref 0)] [.int 3, .ref 0, .int 3, .int 2, .ref 36, .int (-1)] (by decide +kernel) ?_
  refine mx_scr 6 3 284 (by decide +kernel) (by decide +kernel) (by decide +kernel) ?_
  refine mx_eq 4 (mx_pt l3 u3 (by decide +kernel)) ?_
  refine mx_call 289 3 [.ref 36, .int 2, .int 3, .int 4] [.int (-1)] [(0, .ref 36), (1, .int 2), (2, .int 3), (3, .int 4)] (some (.int (-1))) hh_a203 0 0 1 21 0 0 287 [.int (-1), .int (-1)] ap_289 (by decide +kernel) (by decide +kernel) (iv_a579 6 xs zf hz) ?_
  refine mx_B 5 20 [(3, .int 6), (2, .ref 36), (1, .ref 21), (0, .ref 0)] [.ref 0, .int 6] (by decide +kernel) ?_
  refine mx_S (.arraylength) 1 [] 21 [(3, .int 6), (2, .ref 36), (1, .ref 21), (0, .ref 0)] [.int 6, .int 6] (by decide +kernel) rfl ?_
  refine mx_B 4 543 [(3, .int 6), (2, .ref 36), (1, .ref 21), (0, .ref 0)] [.int 1] (by decide +kernel) ?_
  exact mx_ret (some (.int 1)) (by decide +kernel) ⟨rfl, rfl⟩
theorem iv_a581 (L : Nat) (xs : Nat → Int32) (zf : Value) (hz : zf.category = 1) : mx_R L xs zf ah_M190 0 [(0, .ref 3), (1, .int 4), (2, .int 0)] [] hh_a203 0 0 0 0 (fun v h' => v = some (.int (-1)) ∧ h' = hh_a203) := by
  refine mx_B 12 22 [(0, .ref 3), (1, .int 4), (2, .int 0)] [.int 4, .ref 3] (by decide +kernel) ?_
  refine mx_B 5 27 [(0, .ref 3), (1, .int 4), (2, .int 0)] [.int (-1)] (by decide +kernel) ?_
  exact mx_ret (some (.int (-1))) (by decide +kernel) ⟨rfl, rfl⟩
theorem iv_a582 (L : Nat) (xs : Nat → Int32) (zf : Value) (hz : zf.category = 1) : mx_R L xs zf ah_M221 0 [(0, .ref 21), (1, .int 2), (2, .int 4), (3, .int 0)] [] hh_a203 0 0 1 22 (fun v h' => v = some (.int (-1)) ∧ h' = hh_a203) := by
  refine mx_B 12 70 [(0, .ref 21), (1, .int 2), (2, .int 4), (3, .int 0)] [] (by decide +kernel) ?_
  refine mx_B 3 75 [(0, .ref 21), (1, .int 2), (2, .int 4), (3, .int 0)] [.int 0, .int 4, .ref 3] (by decide +kernel) ?_
  refine mx_call 190 3 [.ref 3, .int 4, .int 0] [] [(0, .ref 3), (1, .int 4), (2, .int 0)] (some (.int (-1))) hh_a203 0 0 0 0 0 0 78 [.int (-1)] ap_190 (by decide +kernel) (by decide +kernel) (iv_a581 L xs zf hz) ?_
  exact mx_ret (some (.int (-1))) (by decide +kernel) ⟨rfl, rfl⟩
theorem iv_a583 (L : Nat) (xs : Nat → Int32) (zf : Value) (hz : zf.category = 1) : mx_R L xs zf ah_M292 0 [(0, .int 4), (1, .int 0)] [] hh_a203 0 0 0 0 (fun v h' => v = some (.int (-1)) ∧ h' = hh_a203) := by
  refine mx_B 9 46 [(0, .int 4), (1, .int 0)] [.int (-1)] (by decide +kernel) ?_
  exact mx_ret (some (.int (-1))) (by decide +kernel) ⟨rfl, rfl⟩
theorem iv_a584 (L : Nat) (xs : Nat → Int32) (zf : Value) (hz : zf.category = 1) : mx_R L xs zf ah_M289 0 [(0, .ref 36), (1, .int 2), (2, .int 4), (3, .int 0)] [] hh_a203 0 0 1 21 (fun v h' => v = some (.int (-1)) ∧ h' = hh_a203) := by
  refine mx_B 12 22 [(0, .ref 36), (1, .int 2), (2, .int 4), (3, .int 0)] [] (by decide +kernel) ?_
  refine mx_B 12 64 [(0, .ref 36), (1, .int 2), (2, .int 4), (3, .int 0)] [.int 4] (by decide +kernel) ?_
  refine mx_B 1 65 [(0, .ref 36), (1, .int 2), (2, .int 4), (3, .int 0)] [.int 0, .int 4] (by decide +kernel) ?_
  refine mx_call 292 3 [.int 4, .int 0] [] [(0, .int 4), (1, .int 0)] (some (.int (-1))) hh_a203 0 0 0 0 0 0 68 [.int (-1)] ap_292 (by decide +kernel) (by decide +kernel) (iv_a583 L xs zf hz) ?_
  refine mx_B 1 84 [(0, .ref 36), (1, .int 2), (2, .int 4), (3, .int 0)] [.int (-1)] (by decide +kernel) ?_
  exact mx_ret (some (.int (-1))) (by decide +kernel) ⟨rfl, rfl⟩
theorem iv_a585 (xs : Nat → Int32) (zf : Value) (hz : zf.category = 1) (hk : xs 0 &&& 15 = 5) (l1 : 2 ≤ (xs 1).toInt) (u1 : (xs 1).toInt ≤ 2) (l2 : 4 ≤ (xs 2).toInt) (u2 : (xs 2).toInt ≤ 4) (l3 : 0 ≤ (xs 3).toInt) (u3 : (xs 3).toInt ≤ 0) : mx_R 6 xs zf ah_M0 18 [(3, .int 0), (2, .ref 36), (1, .ref 21), (0, .ref 0)] [] hh_a203 0 0 2 45 (fun v h' => v = some (.int 1) ∧ h' = hh_a203) := by
  refine mx_B 2 20 [(3, .int 0), (2, .ref 36), (1, .ref 21), (0, .ref 0)] [.ref 0, .int 0] (by decide +kernel) ?_
  refine mx_S (.arraylength) 1 [] 21 [(3, .int 0), (2, .ref 36), (1, .ref 21), (0, .ref 0)] [.int 6, .int 0] (by decide +kernel) rfl ?_
  refine mx_B 5 29 [(3, .int 0), (2, .ref 36), (1, .ref 21), (0, .ref 0)] [.int 0, .ref 0] (by decide +kernel) ?_
  refine mx_scr 6 0 30 (by decide +kernel) (by decide +kernel) (by decide +kernel) ?_
  refine mx_S (.bipush 15) 2 [] 32 [(3, .int 0), (2, .ref 36), (1, .ref 21), (0, .ref 0)] [.int 15, .int (xs 0)] (by decide +kernel) rfl ?_
  refine mx_S (.iand) 1 [] 33 [(3, .int 0), (2, .ref 36), (1, .ref 21), (0, .ref 0)] [.int ((xs 0) &&& 15)] (by decide +kernel) rfl ?_
  refine mx_eq 5 hk ?_
  refine mx_B 6 254 [(3, .int 0), (2, .ref 36), (1, .ref 21), (0, .ref 0)] [.int 1, .ref 0, .ref 21] (by decide +kernel) ?_
  refine mx_scr 6 1 255 (by decide +kernel) (by decide +kernel) (by decide +kernel) ?_
  refine mx_eq 2 (mx_pt l1 u1 (by decide +kernel)) ?_
  refine mx_B 4 259 [(3, .int 0), (2, .ref 36), (1, .ref 21), (0, .ref 0)] [.int 2, .ref 0, .int 2, .ref 21] (by decide +kernel) ?_
  refine mx_scr 6 2 260 (by decide +kernel) (by decide +kernel) (by decide +kernel) ?_
  refine mx_eq 4 (mx_pt l2 u2 (by decide +kernel)) ?_
  refine mx_B 4 264 [(3, .int 0), (2, .ref 36), (1, .ref 21), (0, .ref 0)] [.int 3, .ref 0, .int 4, .int 2, .ref 21] (by decide +kernel) ?_
  refine mx_scr 6 3 265 (by decide +kernel) (by decide +kernel) (by decide +kernel) ?_
  refine mx_eq 0 (mx_pt l3 u3 (by decide +kernel)) ?_
  refine mx_call 221 3 [.ref 21, .int 2, .int 4, .int 0] [] [(0, .ref 21), (1, .int 2), (2, .int 4), (3, .int 0)] (some (.int (-1))) hh_a203 0 0 1 22 0 0 268 [.int (-1)] ap_221 (by decide +kernel) (by decide +kernel) (iv_a582 6 xs zf hz) ?_
  refine mx_B 5 273 [(3, .int 0), (2, .ref 36), (1, .ref 21), (0, .ref 0)] [.int 1, .ref 0, .ref 36, .int (-1)] (by decide +kernel) ?_
  refine mx_scr 6 1 274 (by decide +kernel) (by decide +kernel) (by decide +kernel) ?_
  refine mx_eq 2 (mx_pt l1 u1 (by decide +kernel)) ?_
  refine mx_B 4 278 [(3, .int 0), (2, .ref 36), (1, .ref 21), (0, .ref 0)] [.int 2, .ref 0, .int 2, .ref 36, .int (-1)] (by decide +kernel) ?_
  refine mx_scr 6 2 279 (by decide +kernel) (by decide +kernel) (by decide +kernel) ?_
  refine mx_eq 4 (mx_pt l2 u2 (by decide +kernel)) ?_
  refine mx_B 4 283 [(3, .int 0), (2, .ref 36), (1, .ref 21), (0, .ref 0)] [.int 3, .ref 0, .int 4, .int 2, .ref 36, .int (-1)] (by decide +kernel) ?_
  refine mx_scr 6 3 284 (by decide +kernel) (by decide +kernel) (by decide +kernel) ?_
  refine mx_eq 0 (mx_pt l3 u3 (by decide +kernel)) ?_
  refine mx_call 289 3 [.ref 36, .int 2, .int 4, .int 0] [.int (-1)] [(0, .ref 36), (1, .int 2), (2, .int 4), (3, .int 0)] (some (.int (-1))) hh_a203 0 0 1 21 0 0 287 [.int (-1), .int (-1)] ap_289 (by decide +kernel) (by decide +kernel) (iv_a584 6 xs zf hz) ?_
  refine mx_B 5 20 [(3, .int 6), (2, .ref 36), (1, .ref 21), (0, .ref 0)] [.ref 0, .int 6] (by decide +kernel) ?_
  refine mx_S (.arraylength) 1 [] 21 [(3, .int 6), (2, .ref 36), (1, .ref 21), (0, .ref 0)] [.int 6, .int 6] (by decide +kernel) rfl ?_
  refine mx_B 4 543 [(3, .int 6), (2, .ref 36), (1, .ref 21), (0, .ref 0)] [.int 1] (by decide +kernel) ?_
  exact mx_ret (some (.int 1)) (by decide +kernel) ⟨rfl, rfl⟩
theorem iv_a586 (L : Nat) (xs : Nat → Int32) (zf : Value) (hz : zf.category = 1) : mx_R L xs zf ah_M190 0 [(0, .ref 3), (1, .int 4), (2, .int 1)] [] hh_a203 0 0 0 0 (fun v h' => v = some (.int (-1)) ∧ h' = hh_a203) := by
  refine mx_B 12 22 [(0, .ref 3), (1, .int 4), (2, .int 1)] [.int 4, .ref 3] (by decide +kernel) ?_
  refine mx_B 5 27 [(0, .ref 3), (1, .int 4), (2, .int 1)] [.int (-1)] (by decide +kernel) ?_
  exact mx_ret (some (.int (-1))) (by decide +kernel) ⟨rfl, rfl⟩
theorem iv_a587 (L : Nat) (xs : Nat → Int32) (zf : Value) (hz : zf.category = 1) : mx_R L xs zf ah_M221 0 [(0, .ref 21), (1, .int 2), (2, .int 4), (3, .int 1)] [] hh_a203 0 0 1 22 (fun v h' => v = some (.int (-1)) ∧ h' = hh_a203) := by
  refine mx_B 12 70 [(0, .ref 21), (1, .int 2), (2, .int 4), (3, .int 1)] [] (by decide +kernel) ?_
  refine mx_B 3 75 [(0, .ref 21), (1, .int 2), (2, .int 4), (3, .int 1)] [.int 1, .int 4, .ref 3] (by decide +kernel) ?_
  refine mx_call 190 3 [.ref 3, .int 4, .int 1] [] [(0, .ref 3), (1, .int 4), (2, .int 1)] (some (.int (-1))) hh_a203 0 0 0 0 0 0 78 [.int (-1)] ap_190 (by decide +kernel) (by decide +kernel) (iv_a586 L xs zf hz) ?_
  exact mx_ret (some (.int (-1))) (by decide +kernel) ⟨rfl, rfl⟩
theorem iv_a588 (L : Nat) (xs : Nat → Int32) (zf : Value) (hz : zf.category = 1) : mx_R L xs zf ah_M292 0 [(0, .int 4), (1, .int 1)] [] hh_a203 0 0 0 0 (fun v h' => v = some (.int (-1)) ∧ h' = hh_a203) := by
  refine mx_B 9 46 [(0, .int 4), (1, .int 1)] [.int (-1)] (by decide +kernel) ?_
  exact mx_ret (some (.int (-1))) (by decide +kernel) ⟨rfl, rfl⟩
theorem iv_a589 (L : Nat) (xs : Nat → Int32) (zf : Value) (hz : zf.category = 1) : mx_R L xs zf ah_M289 0 [(0, .ref 36), (1, .int 2), (2, .int 4), (3, .int 1)] [] hh_a203 0 0 1 21 (fun v h' => v = some (.int (-1)) ∧ h' = hh_a203) := by
  refine mx_B 12 22 [(0, .ref 36), (1, .int 2), (2, .int 4), (3, .int 1)] [] (by decide +kernel) ?_
  refine mx_B 12 64 [(0, .ref 36), (1, .int 2), (2, .int 4), (3, .int 1)] [.int 4] (by decide +kernel) ?_
  refine mx_B 1 65 [(0, .ref 36), (1, .int 2), (2, .int 4), (3, .int 1)] [.int 1, .int 4] (by decide +kernel) ?_
  refine mx_call 292 3 [.int 4, .int 1] [] [(0, .int 4), (1, .int 1)] (some (.int (-1))) hh_a203 0 0 0 0 0 0 68 [.int (-1)] ap_292 (by decide +kernel) (by decide +kernel) (iv_a588 L xs zf hz) ?_
  refine mx_B 1 84 [(0, .ref 36), (1, .int 2), (2, .int 4), (3, .int 1)] [.int (-1)] (by decide +kernel) ?_
  exact mx_ret (some (.int (-1))) (by decide +kernel) ⟨rfl, rfl⟩
theorem iv_a590 (xs : Nat → Int32) (zf : Value) (hz : zf.category = 1) (hk : xs 0 &&& 15 = 5) (l1 : 2 ≤ (xs 1).toInt) (u1 : (xs 1).toInt ≤ 2) (l2 : 4 ≤ (xs 2).toInt) (u2 : (xs 2).toInt ≤ 4) (l3 : 1 ≤ (xs 3).toInt) (u3 : (xs 3).toInt ≤ 1) : mx_R 6 xs zf ah_M0 18 [(3, .int 0), (2, .ref 36), (1, .ref 21), (0, .ref 0)] [] hh_a203 0 0 2 45 (fun v h' => v = some (.int 1) ∧ h' = hh_a203) := by
  refine mx_B 2 20 [(3, .int 0), (2, .ref 36), (1, .ref 21), (0, .ref 0)] [.ref 0, .int 0] (by decide +kernel) ?_
  refine mx_S (.arraylength) 1 [] 21 [(3, .int 0), (2, .ref 36), (1, .ref 21), (0, .ref 0)] [.int 6, .int 0] (by decide +kernel) rfl ?_
  refine mx_B 5 29 [(3, .int 0), (2, .ref 36), (1, .ref 21), (0, .ref 0)] [.int 0, .ref 0] (by decide +kernel) ?_
  refine mx_scr 6 0 30 (by decide +kernel) (by decide +kernel) (by decide +kernel) ?_
  refine mx_S (.bipush 15) 2 [] 32 [(3, .int 0), (2, .ref 36), (1, .ref 21), (0, .ref 0)] [.int 15, .int (xs 0)] (by decide +kernel) rfl ?_
  refine mx_S (.iand) 1 [] 33 [(3, .int 0), (2, .ref 36), (1, .ref 21), (0, .ref 0)] [.int ((xs 0) &&& 15)] (by decide +kernel) rfl ?_
  refine mx_eq 5 hk ?_
  refine mx_B 6 254 [(3, .int 0), (2, .ref 36), (1, .ref 21), (0, .ref 0)] [.int 1, .ref 0, .ref 21] (by decide +kernel) ?_
  refine mx_scr 6 1 255 (by decide +kernel) (by decide +kernel) (by decide +kernel) ?_
  refine mx_eq 2 (mx_pt l1 u1 (by decide +kernel)) ?_
  refine mx_B 4 259 [(3, .int 0), (2, .ref 36), (1, .ref 21), (0, .ref 0)] [.int 2, .ref 0, .int 2, .ref 21] (by decide +kernel) ?_
  refine mx_scr 6 2 260 (by decide +kernel) (by decide +kernel) (by decide +kernel) ?_
  refine mx_eq 4 (mx_pt l2 u2 (by decide +kernel)) ?_
  refine mx_B 4 264 [(3, .int 0), (2, .ref 36), (1, .ref 21), (0, .ref 0)] [.int 3, .ref 0, .int 4, .int 2, .ref 21] (by decide +kernel) ?_
  refine mx_scr 6 3 265 (by decide +kernel) (by decide +kernel) (by decide +kernel) ?_
  refine mx_eq 1 (mx_pt l3 u3 (by decide +kernel)) ?_
  refine mx_call 221 3 [.ref 21, .int 2, .int 4, .int 1] [] [(0, .ref 21), (1, .int 2), (2, .int 4), (3, .int 1)] (some (.int (-1))) hh_a203 0 0 1 22 0 0 268 [.int (-1)] ap_221 (by decide +kernel) (by decide +kernel) (iv_a587 6 xs zf hz) ?_
  refine mx_B 5 273 [(3, .int 0), (2, .ref 36), (1, .ref 21), (0, .ref 0)] [.int 1, .ref 0, .ref 36, .int (-1)] (by decide +kernel) ?_
  refine mx_scr 6 1 274 (by decide +kernel) (by decide +kernel) (by decide +kernel) ?_
  refine mx_eq 2 (mx_pt l1 u1 (by decide +kernel)) ?_
  refine mx_B 4 278 [(3, .int 0), (2, .ref 36), (1, .ref 21), (0, .ref 0)] [.int 2, .ref 0, .int 2, .ref 36, .int (-1)] (by decide +kernel) ?_
  refine mx_scr 6 2 279 (by decide +kernel) (by decide +kernel) (by decide +kernel) ?_
  refine mx_eq 4 (mx_pt l2 u2 (by decide +kernel)) ?_
  refine mx_B 4 283 [(3, .int 0), (2, .ref 36), (1, .ref 21), (0, .ref 0)] [.int 3, .ref 0, .int 4, .int 2, .ref 36, .int (-1)] (by decide +kernel) ?_
  refine mx_scr 6 3 284 (by decide +kernel) (by decide +kernel) (by decide +kernel) ?_
  refine mx_eq 1 (mx_pt l3 u3 (by decide +kernel)) ?_
  refine mx_call 289 3 [.ref 36, .int 2, .int 4, .int 1] [.int (-1)] [(0, .ref 36), (1, .int 2), (2, .int 4), (3, .int 1)] (some (.int (-1))) hh_a203 0 0 1 21 0 0 287 [.int (-1), .int (-1)] ap_289 (by decide +kernel) (by decide +kernel) (iv_a589 6 xs zf hz) ?_
  refine mx_B 5 20 [(3, .int 6), (2, .ref 36), (1, .ref 21), (0, .ref 0)] [.ref 0, .int 6] (by decide +kernel) ?_
  refine mx_S (.arraylength) 1 [] 21 [(3, .int 6), (2, .ref 36), (1, .ref 21), (0, .ref 0)] [.int 6, .int 6] (by decide +kernel) rfl ?_
  refine mx_B 4 543 [(3, .int 6), (2, .ref 36), (1, .ref 21), (0, .ref 0)] [.int 1] (by decide +kernel) ?_
  exact mx_ret (some (.int 1)) (by decide +kernel) ⟨rfl, rfl⟩
theorem iv_a591 (L : Nat) (xs : Nat → Int32) (zf : Value) (hz : zf.category = 1) : mx_R L xs zf ah_M190 0 [(0, .ref 3), (1, .int 4), (2, .int 2)] [] hh_a203 0 0 0 0 (fun v h' => v = some (.int (-1)) ∧ h' = hh_a203) := by
  refine mx_B 12 22 [(0, .ref 3), (1, .int 4), (2, .int 2)] [.int 4, .ref 3] (by decide +kernel) ?_
  refine mx_B 5 27 [(0, .ref 3), (1, .int 4), (2, .int 2)] [.int (-1)] (by decide +kernel) ?_
  exact mx_ret (some (.int (-1))) (by decide +kernel) ⟨rfl, rfl⟩
theorem iv_a592 (L : Nat) (xs : Nat → Int32) (zf : Value) (hz : zf.category = 1) : mx_R L xs zf ah_M221 0 [(0, .ref 21), (1, .int 2), (2, .int 4), (3, .int 2)] [] hh_a203 0 0 1 22 (fun v h' => v = some (.int (-1)) ∧ h' = hh_a203) := by
  refine mx_B 12 70 [(0, .ref 21), (1, .int 2), (2, .int 4), (3, .int 2)] [] (by decide +kernel) ?_
  refine mx_B 3 75 [(0, .ref 21), (1, .int 2), (2, .int 4), (3, .int 2)] [.int 2, .int 4, .ref 3] (by decide +kernel) ?_
  refine mx_call 190 3 [.ref 3, .int 4, .int 2] [] [(0, .ref 3), (1, .int 4), (2, .int 2)] (some (.int (-1))) hh_a203 0 0 0 0 0 0 78 [.int (-1)] ap_190 (by decide +kernel) (by decide +kernel) (iv_a591 L xs zf hz) ?_
  exact mx_ret (some (.int (-1))) (by decide +kernel) ⟨rfl, rfl⟩
theorem iv_a593 (L : Nat) (xs : Nat → Int32) (zf : Value) (hz : zf.category = 1) : mx_R L xs zf ah_M292 0 [(0, .int 4), (1, .int 2)] [] hh_a203 0 0 0 0 (fun v h' => v = some (.int (-1)) ∧ h' = hh_a203) := by
  refine mx_B 9 46 [(0, .int 4), (1, .int 2)] [.int (-1)] (by decide +kernel) ?_
  exact mx_ret (some (.int (-1))) (by decide +kernel) ⟨rfl, rfl⟩
theorem iv_a594 (L : Nat) (xs : Nat → Int32) (zf : Value) (hz : zf.category = 1) : mx_R L xs zf ah_M289 0 [(0, .ref 36), (1, .int 2), (2, .int 4), (3, .int 2)] [] hh_a203 0 0 1 21 (fun v h' => v = some (.int (-1)) ∧ h' = hh_a203) := by
  refine mx_B 12 22 [(0, .ref 36), (1, .int 2), (2, .int 4), (3, .int 2)] [] (by decide +kernel) ?_
  refine mx_B 12 64 [(0, .ref 36), (1, .int 2), (2, .int 4), (3, .int 2)] [.int 4] (by decide +kernel) ?_
  refine mx_B 1 65 [(0, .ref 36), (1, .int 2), (2, .int 4), (3, .int 2)] [.int 2, .int 4] (by decide +kernel) ?_
  refine mx_call 292 3 [.int 4, .int 2] [] [(0, .int 4), (1, .int 2)] (some (.int (-1))) hh_a203 0 0 0 0 0 0 68 [.int (-1)] ap_292 (by decide +kernel) (by decide +kernel) (iv_a593 L xs zf hz) ?_
  refine mx_B 1 84 [(0, .ref 36), (1, .int 2), (2, .int 4), (3, .int 2)] [.int (-1)] (by decide +kernel) ?_
  exact mx_ret (some (.int (-1))) (by decide +kernel) ⟨rfl, rfl⟩
theorem iv_a595 (xs : Nat → Int32) (zf : Value) (hz : zf.category = 1) (hk : xs 0 &&& 15 = 5) (l1 : 2 ≤ (xs 1).toInt) (u1 : (xs 1).toInt ≤ 2) (l2 : 4 ≤ (xs 2).toInt) (u2 : (xs 2).toInt ≤ 4) (l3 : 2 ≤ (xs 3).toInt) (u3 : (xs 3).toInt ≤ 2) : mx_R 6 xs zf ah_M0 18 [(3, .int 0), (2, .ref 36), (1, .ref 21), (0, .ref 0)] [] hh_a203 0 0 2 45 (fun v h' => v = some (.int 1) ∧ h' = hh_a203) := by
  refine mx_B 2 20 [(3, .int 0), (2, .ref 36), (1, .ref 21), (0, .ref 0)] [.ref 0, .int 0] (by decide +kernel) ?_
  refine mx_S (.arraylength) 1 [] 21 [(3, .int 0), (2, .ref 36), (1, .ref 21), (0, .ref 0)] [.int 6, .int 0] (by decide +kernel) rfl ?_
  refine mx_B 5 29 [(3, .int 0), (2, .ref 36), (1, .ref 21), (0, .ref 0)] [.int 0, .ref 0] (by decide +kernel) ?_
  refine mx_scr 6 0 30 (by decide +kernel) (by decide +kernel) (by decide +kernel) ?_
  refine mx_S (.bipush 15) 2 [] 32 [(3, .int 0), (2, .ref 36), (1, .ref 21), (0, .ref 0)] [.int 15, .int (xs 0)] (by decide +kernel) rfl ?_
  refine mx_S (.iand) 1 [] 33 [(3, .int 0), (2, .ref 36), (1, .ref 21), (0, .ref 0)] [.int ((xs 0) &&& 15)] (by decide +kernel) rfl ?_
  refine mx_eq 5 hk ?_
  refine mx_B 6 254 [(3, .int 0), (2, .ref 36), (1, .ref 21), (0, .ref 0)] [.int 1, .ref 0, .ref 21] (by decide +kernel) ?_
  refine mx_scr 6 1 255 (by decide +kernel) (by decide +kernel) (by decide +kernel) ?_
  refine mx_eq 2 (mx_pt l1 u1 (by decide +kernel)) ?_
  refine mx_B 4 259 [(3, .int 0), (2, .ref 36), (1, .ref 21), (0, .ref 0)] [.int 2, .ref 0, .int 2, .ref 21] (by decide +kernel) ?_
  refine mx_scr 6 2 260 (by decide +kernel) (by decide +kernel) (by decide +kernel) ?_
  refine mx_eq 4 (mx_pt l2 u2 (by decide +kernel)) ?_
  refine mx_B 4 264 [(3, .int 0), (2, .ref 36), (1, .ref 21), (0, .ref 0)] [.int 3, .ref 0, .int 4, .int 2, .ref 21] (by decide +kernel) ?_
  refine mx_scr 6 3 265 (by decide +kernel) (by decide +kernel) (by decide +kernel) ?_
  refine mx_eq 2 (mx_pt l3 u3 (by decide +kernel)) ?_
  refine mx_call 221 3 [.ref 21, .int 2, .int 4, .int 2] [] [(0, .ref 21), (1, .int 2), (2, .int 4), (3, .int 2)] (some (.int (-1))) hh_a203 0 0 1 22 0 0 268 [.int (-1)] ap_221 (by decide +kernel) (by decide +kernel) (iv_a592 6 xs zf hz) ?_
  refine mx_B 5 273 [(3, .int 0), (2, .ref 36), (1, .ref 21), (0, .ref 0)] [.int 1, .ref 0, .ref 36, .int (-1)] (by decide +kernel) ?_
  refine mx_scr 6 1 274 (by decide +kernel) (by decide +kernel) (by decide +kernel) ?_
  refine mx_eq 2 (mx_pt l1 u1 (by decide +kernel)) ?_
  refine mx_B 4 278 [(3, .int 0), (2, .ref 36), (1, .ref 21), (0, .ref 0)] [.int 2, .ref 0, .int 2, .ref 36, .int (-1)] (by decide +kernel) ?_
  refine mx_scr 6 2 279 (by decide +kernel) (by decide +kernel) (by decide +kernel) ?_
  refine mx_eq 4 (mx_pt l2 u2 (by decide +kernel)) ?_
  refine mx_B 4 283 [(3, .int 0), (2, .ref 36), (1, .ref 21), (0, .ref 0)] [.int 3, .ref 0, .int 4, .int 2, .ref 36, .int (-1)] (by decide +kernel) ?_
  refine mx_scr 6 3 284 (by decide +kernel) (by decide +kernel) (by decide +kernel) ?_
  refine mx_eq 2 (mx_pt l3 u3 (by decide +kernel)) ?_
  refine mx_call 289 3 [.ref 36, .int 2, .int 4, .int 2] [.int (-1)] [(0, .ref 36), (1, .int 2), (2, .int 4), (3, .int 2)] (some (.int (-1))) hh_a203 0 0 1 21 0 0 287 [.int (-1), .int (-1)] ap_289 (by decide +kernel) (by decide +kernel) (iv_a594 6 xs zf hz) ?_
  refine mx_B 5 20 [(3, .int 6), (2, .ref 36), (1, .ref 21), (0, .ref 0)] [.ref 0, .int 6] (by decide +kernel) ?_
  refine mx_S (.arraylength) 1 [] 21 [(3, .int 6), (2, .ref 36), (1, .ref 21), (0, .ref 0)] [.int 6, .int 6] (by decide +kernel) rfl ?_
  refine mx_B 4 543 [(3, .int 6), (2, .ref 36), (1, .ref 21), (0, .ref 0)] [.int 1] (by decide +kernel) ?_
  exact mx_ret (some (.int 1)) (by decide +kernel) ⟨rfl, rfl⟩
theorem iv_a596 (L : Nat) (xs : Nat → Int32) (zf : Value) (hz : zf.category = 1) : mx_R L xs zf ah_M190 0 [(0, .ref 3), (1, .int 4), (2, .int 3)] [] hh_a203 0 0 0 0 (fun v h' => v = some (.int (-1)) ∧ h' = hh_a203) := by
  refine mx_B 12 22 [(0, .ref 3), (1, .int 4), (2, .int 3)] [.int 4, .ref 3] (by decide +kernel) ?_
  refine mx_B 5 27 [(0, .ref 3), (1, .int 4), (2, .int 3)] [.int (-1)] (by decide +kernel) ?_
  exact mx_ret (some (.int (-1))) (by decide +kernel) ⟨rfl, rfl⟩
theorem iv_a597 (L : Nat) (xs : Nat → Int32) (zf : Value) (hz : zf.category = 1) : mx_R L xs zf ah_M221 0 [(0, .ref 21), (1, .int 2), (2, .int 4), (3, .int 3)] [] hh_a203 0 0 1 22 (fun v h' => v = some (.int (-1)) ∧ h' = hh_a203) := by
  refine mx_B 12 70 [(0, .ref 21), (1, .int 2), (2, .int 4), (3, .int 3)] [] (by decide +kernel) ?_
  refine mx_B 3 75 [(0, .ref 21), (1, .int 2), (2, .int 4), (3, .int 3)] [.int 3, .int 4, .ref 3] (by decide +kernel) ?_
  refine mx_call 190 3 [.ref 3, .int 4, .int 3] [] [(0, .ref 3), (1, .int 4), (2, .int 3)] (some (.int (-1))) hh_a203 0 0 0 0 0 0 78 [.int (-1)] ap_190 (by decide +kernel) (by decide +kernel) (iv_a596 L xs zf hz) ?_
  exact mx_ret (some (.int (-1))) (by decide +kernel) ⟨rfl, rfl⟩
theorem iv_a598 (L : Nat) (xs : Nat → Int32) (zf : Value) (hz : zf.category = 1) : mx_R L xs zf ah_M292 0 [(0, .int 4), (1, .int 3)] [] hh_a203 0 0 0 0 (fun v h' => v = some (.int (-1)) ∧ h' = hh_a203) := by
  refine mx_B 9 46 [(0, .int 4), (1, .int 3)] [.int (-1)] (by decide +kernel) ?_
  exact mx_ret (some (.int (-1))) (by decide +kernel) ⟨rfl, rfl⟩
theorem iv_a599 (L : Nat) (xs : Nat → Int32) (zf : Value) (hz : zf.category = 1) : mx_R L xs zf ah_M289 0 [(0, .ref 36), (1, .int 2), (2, .int 4), (3, .int 3)] [] hh_a203 0 0 1 21 (fun v h' => v = some (.int (-1)) ∧ h' = hh_a203) := by
  refine mx_B 12 22 [(0, .ref 36), (1, .int 2), (2, .int 4), (3, .int 3)] [] (by decide +kernel) ?_
  refine mx_B 12 64 [(0, .ref 36), (1, .int 2), (2, .int 4), (3, .int 3)] [.int 4] (by decide +kernel) ?_
  refine mx_B 1 65 [(0, .ref 36), (1, .int 2), (2, .int 4), (3, .int 3)] [.int 3, .int 4] (by decide +kernel) ?_
  refine mx_call 292 3 [.int 4, .int 3] [] [(0, .int 4), (1, .int 3)] (some (.int (-1))) hh_a203 0 0 0 0 0 0 68 [.int (-1)] ap_292 (by decide +kernel) (by decide +kernel) (iv_a598 L xs zf hz) ?_
  refine mx_B 1 84 [(0, .ref 36), (1, .int 2), (2, .int 4), (3, .int 3)] [.int (-1)] (by decide +kernel) ?_
  exact mx_ret (some (.int (-1))) (by decide +kernel) ⟨rfl, rfl⟩
theorem iv_a600 (xs : Nat → Int32) (zf : Value) (hz : zf.category = 1) (hk : xs 0 &&& 15 = 5) (l1 : 2 ≤ (xs 1).toInt) (u1 : (xs 1).toInt ≤ 2) (l2 : 4 ≤ (xs 2).toInt) (u2 : (xs 2).toInt ≤ 4) (l3 : 3 ≤ (xs 3).toInt) (u3 : (xs 3).toInt ≤ 3) : mx_R 6 xs zf ah_M0 18 [(3, .int 0), (2, .ref 36), (1, .ref 21), (0, .ref 0)] [] hh_a203 0 0 2 45 (fun v h' => v = some (.int 1) ∧ h' = hh_a203) := by
  refine mx_B 2 20 [(3, .int 0), (2, .ref 36), (1, .ref 21), (0, .ref 0)] [.ref 0, .int 0] (by decide +kernel) ?_
  refine mx_S (.arraylength) 1 [] 21 [(3, .int 0), (2, .ref 36), (1, .ref 21), (0, .ref 0)] [.int 6, .int 0] (by decide +kernel) rfl ?_
  refine mx_B 5 29 [(3, .int 0), (2, .ref 36), (1, .ref 21), (0, .ref 0)] [.int 0, .ref 0] (by decide +kernel) ?_
  refine mx_scr 6 0 30 (by decide +kernel) (by decide +kernel) (by decide +kernel) ?_
  refine mx_S (.bipush 15) 2 [] 32 [(3, .int 0), (2, .ref 36), (1, .ref 21), (0, .ref 0)] [.int 15, .int (xs 0)] (by decide +kernel) rfl ?_
  refine mx_S (.iand) 1 [] 33 [(3, .int 0), (2, .ref 36), (1, .ref 21), (0, .ref 0)] [.int ((xs 0) &&& 15)] (by decide +kernel) rfl ?_
  refine mx_eq 5 hk ?_
  refine mx_B 6 254 [(3, .int 0), (2, .ref 36), (1, .ref 21), (0, .ref 0)] [.int 1, .ref 0, .ref 21] (by decide +kernel) ?_
  refine mx_scr 6 1 255 (by decide +kernel) (by decide +kernel) (by decide +kernel) ?_
  refine mx_eq 2 (mx_pt l1 u1 (by decide +kernel)) ?_
  refine mx_B 4 259 [(3, .int 0), (2, .ref 36), (1, .ref 21), (0, .ref 0)] [.int 2, .ref 0, .int 2, .ref 21] (by decide +kernel) ?_
  refine mx_scr 6 2 260 (by decide +kernel) (by decide +kernel) (by decide +kernel) ?_
  refine mx_eq 4 (mx_pt l2 u2 (by decide +kernel)) ?_
  refine mx_B 4 264 [(3, .int 0), (2, .ref 36), (1, .ref 21), (0, .ref 0)] [.int 3, .ref 0, .int 4, .int 2, .ref 21] (by decide +kernel) ?_
  refine mx_scr 6 3 265 (by decide +kernel) (by decide +kernel) (by decide +kernel) ?_
  refine mx_eq 3 (mx_pt l3 u3 (by decide +kernel)) ?_
  refine mx_call 221 3 [.ref 21, .int 2, .int 4, .int 3] [] [(0, .ref 21), (1, .int 2), (2, .int 4), (3, .int 3)] (some (.int (-1))) hh_a203 0 0 1 22 0 0 268 [.int (-1)] ap_221 (by decide +kernel) (by decide +kernel) (iv_a597 6 xs zf hz) ?_
  refine mx_B 5 273 [(3, .int 0), (2, .ref 36), (1, .ref 21), (0, .ref 0)] [.int 1, .ref 0, .ref 36, .int (-1)] (by decide +kernel) ?_
  refine mx_scr 6 1 274 (by decide +kernel) (by decide +kernel) (by decide +kernel) ?_
  refine mx_eq 2 (mx_pt l1 u1 (by decide +kernel)) ?_
  refine mx_B 4 278 [(3, .int 0), (2, .ref 36), (1, .ref 21), (0, .ref 0)] [.int 2, .ref 0, .int 2, .ref 36, .int (-1)] (by decide +kernel) ?_
  refine mx_scr 6 2 279 (by decide +kernel) (by decide +kernel) (by decide +kernel) ?_
  refine mx_eq 4 (mx_pt l2 u2 (by decide +kernel)) ?_
  refine mx_B 4 283 [(3, .int 0), (2, .ref 36), (1, .ref 21), (0, .ref 0)] [.int 3, .ref 0, .int 4, .int 2, .ref 36, .int (-1)] (by decide +kernel) ?_
  refine mx_scr 6 3 284 (by decide +kernel) (by decide +kernel) (by decide +kernel) ?_
  refine mx_eq 3 (mx_pt l3 u3 (by decide +kernel)) ?_
  refine mx_call 289 3 [.ref 36, .int 2, .int 4, .int 3] [.int (-1)] [(0, .ref 36), (1, .int 2), (2, .int 4), (3, .int 3)] (some (.int (-1))) hh_a203 0 0 1 21 0 0 287 [.int (-1), .int (-1)] ap_289 (by decide +kernel) (by decide +kernel) (iv_a599 6 xs zf hz) ?_
  refine mx_B 5 20 [(3, .int 6), (2, .ref 36), (1, .ref 21), (0, .ref 0)] [.ref 0, .int 6] (by decide +kernel) ?_
  refine mx_S (.arraylength) 1 [] 21 [(3, .int 6), (2, .ref 36), (1, .ref 21), (0, .ref 0)] [.int 6, .int 6] (by decide +kernel) rfl ?_
  refine mx_B 4 543 [(3, .int 6), (2, .ref 36), (1, .ref 21), (0, .ref 0)] [.int 1] (by decide +kernel) ?_
  exact mx_ret (some (.int 1)) (by decide +kernel) ⟨rfl, rfl⟩
theorem iv_a601 (L : Nat) (xs : Nat → Int32) (zf : Value) (hz : zf.category = 1) : mx_R L xs zf ah_M190 0 [(0, .ref 3), (1, .int 4), (2, .int 4)] [] hh_a203 0 0 0 0 (fun v h' => v = some (.int (-1)) ∧ h' = hh_a203) := by
  refine mx_B 12 22 [(0, .ref 3), (1, .int 4), (2, .int 4)] [.int 4, .ref 3] (by decide +kernel) ?_
  refine mx_B 5 27 [(0, .ref 3), (1, .int 4), (2, .int 4)] [.int (-1)] (by decide +kernel) ?_
  exact mx_ret (some (.int (-1))) (by decide +kernel) ⟨rfl, rfl⟩
theorem iv_a602 (L : Nat) (xs : Nat → Int32) (zf : Value) (hz : zf.category = 1) : mx_R L xs zf ah_M221 0 [(0, .ref 21), (1, .int 2), (2, .int 4), (3, .int 4)] [] hh_a203 0 0 1 22 (fun v h' => v = some (.int (-1)) ∧ h' = hh_a203) := by
  refine mx_B 12 70 [(0, .ref 21), (1, .int 2), (2, .int 4), (3, .int 4)] [] (by decide +kernel) ?_
  refine mx_B 3 75 [(0, .ref 21), (1, .int 2), (2, .int 4), (3, .int 4)] [.int 4, .int 4, .ref 3] (by decide +kernel) ?_
  refine mx_call 190 3 [.ref 3, .int 4, .int 4] [] [(0, .ref 3), (1, .int 4), (2, .int 4)] (some (.int (-1))) hh_a203 0 0 0 0 0 0 78 [.int (-1)] ap_190 (by decide +kernel) (by decide +kernel) (iv_a601 L xs zf hz) ?_
  exact mx_ret (some (.int (-1))) (by decide +kernel) ⟨rfl, rfl⟩
theorem iv_a603 (L : Nat) (xs : Nat → Int32) (zf : Value) (hz : zf.category = 1) : mx_R L xs zf ah_M292 0 [(0, .int 4), (1, .int 4)] [] hh_a203 0 0 0 0 (fun v h' => v = some (.int (-1)) ∧ h' = hh_a203) := by
  refine mx_B 9 46 [(0, .int 4), (1, .int 4)] [.int (-1)] (by decide +kernel) ?_
  exact mx_ret (some (.int (-1))) (by decide +kernel) ⟨rfl, rfl⟩
theorem iv_a604 (L : Nat) (xs : Nat → Int32) (zf : Value) (hz : zf.category = 1) : mx_R L xs zf ah_M289 0 [(0, .ref 36), (1, .int 2), (2, .int 4), (3, .int 4)] [] hh_a203 0 0 1 21 (fun v h' => v = some (.int (-1)) ∧ h' = hh_a203) := by
  refine mx_B 12 22 [(0, .ref 36), (1, .int 2), (2, .int 4), (3, .int 4)] [] (by decide +kernel) ?_
  refine mx_B 12 64 [(0, .ref 36), (1, .int 2), (2, .int 4), (3, .int 4)] [.int 4] (by decide +kernel) ?_
  refine mx_B 1 65 [(0, .ref 36), (1, .int 2), (2, .int 4), (3, .int 4)] [.int 4, .int 4] (by decide +kernel) ?_
  refine mx_call 292 3 [.int 4, .int 4] [] [(0, .int 4), (1, .int 4)] (some (.int (-1))) hh_a203 0 0 0 0 0 0 68 [.int (-1)] ap_292 (by decide +kernel) (by decide +kernel) (iv_a603 L xs zf hz) ?_
  refine mx_B 1 84 [(0, .ref 36), (1, .int 2), (2, .int 4), (3, .int 4)] [.int (-1)] (by decide +kernel) ?_
  exact mx_ret (some (.int (-1))) (by decide +kernel) ⟨rfl, rfl⟩
theorem iv_a605 (xs : Nat → Int32) (zf : Value) (hz : zf.category = 1) (hk : xs 0 &&& 15 = 5) (l1 : 2 ≤ (xs 1).toInt) (u1 : (xs 1).toInt ≤ 2) (l2 : 4 ≤ (xs 2).toInt) (u2 : (xs 2).toInt ≤ 4) (l3 : 4 ≤ (xs 3).toInt) (u3 : (xs 3).toInt ≤ 4) : mx_R 6 xs zf ah_M0 18 [(3, .int 0), (2, .ref 36), (1, .ref 21), (0, .ref 0)] [] hh_a203 0 0 2 45 (fun v h' => v = some (.int 1) ∧ h' = hh_a203) := by
  refine mx_B 2 20 [(3, .int 0), (2, .ref 36), (1, .ref 21), (0, .ref 0)] [.ref 0, .int 0] (by decide +kernel) ?_
  refine mx_S (.arraylength) 1 [] 21 [(3, .int 0), (2, .ref 36), (1, .ref 21), (0, .ref 0)] [.int 6, .int 0] (by decide +kernel) rfl ?_
  refine mx_B 5 29 [(3, .int 0), (2, .ref 36), (1, .ref 21), (0, .ref 0)] [.int 0, .ref 0] (by decide +kernel) ?_
  refine mx_scr 6 0 30 (by decide +kernel) (by decide +kernel) (by decide +kernel) ?_
  refine mx_S (.bipush 15) 2 [] 32 [(3, .int 0), (2, .ref 36), (1, .ref 21), (0, .ref 0)] [.int 15, .int (xs 0)] (by decide +kernel) rfl ?_
  refine mx_S (.iand) 1 [] 33 [(3, .int 0), (2, .ref 36), (1, .ref 21), (0, .ref 0)] [.int ((xs 0) &&& 15)] (by decide +kernel) rfl ?_
  refine mx_eq 5 hk ?_
  refine mx_B 6 254 [(3, .int 0), (2, .ref 36), (1, .ref 21), (0, .ref 0)] [.int 1, .ref 0, .ref 21] (by decide +kernel) ?_
  refine mx_scr 6 1 255 (by decide +kernel) (by decide +kernel) (by decide +kernel) ?_
  refine mx_eq 2 (mx_pt l1 u1 (by decide +kernel)) ?_
  refine mx_B 4 259 [(3, .int 0), (2, .ref 36), (1, .ref 21), (0, .ref 0)] [.int 2, .ref 0, .int 2, .ref 21] (by decide +kernel) ?_
  refine mx_scr 6 2 260 (by decide +kernel) (by decide +kernel) (by decide +kernel) ?_
  refine mx_eq 4 (mx_pt l2 u2 (by decide +kernel)) ?_
  refine mx_B 4 264 [(3, .int 0), (2, .ref 36), (1, .ref 21), (0, .ref 0)] [.int 3, .ref 0, .int 4, .int 2, .ref 21] (by decide +kernel) ?_
  refine mx_scr 6 3 265 (by decide +kernel) (by decide +kernel) (by decide +kernel) ?_
  refine mx_eq 4 (mx_pt l3 u3 (by decide +kernel)) ?_
  refine mx_call 221 3 [.ref 21, .int 2, .int 4, .int 4] [] [(0, .ref 21), (1, .int 2), (2, .int 4), (3, .int 4)] (some (.int (-1))) hh_a203 0 0 1 22 0 0 268 [.int (-1)] ap_221 (by decide +kernel) (by decide +kernel) (iv_a602 6 xs zf hz) ?_
  refine mx_B 5 273 [(3, .int 0), (2, .ref 36), (1, .ref 21), (0, .ref 0)] [.int 1, .ref 0, .ref 36, .int (-1)] (by decide +kernel) ?_
  refine mx_scr 6 1 274 (by decide +kernel) (by decide +kernel) (by decide +kernel) ?_
  refine mx_eq 2 (mx_pt l1 u1 (by decide +kernel)) ?_
  refine mx_B 4 278 [(3, .int 0), (2, .ref 36), (1, .ref 21), (0, .ref 0)] [.int 2, .ref 0, .int 2, .ref 36, .int (-1)] (by decide +kernel) ?_
  refine mx_scr 6 2 279 (by decide +kernel) (by decide +kernel) (by decide +kernel) ?_
  refine mx_eq 4 (mx_pt l2 u2 (by decide +kernel)) ?_
  refine mx_B 4 283 [(3, .int 0), (2, .ref 36), (1, .ref 21), (0, .ref 0)] [.int 3, .ref 0, .int 4, .int 2, .ref 36, .int (-1)] (by decide +kernel) ?_
  refine mx_scr 6 3 284 (by decide +kernel) (by decide +kernel) (by decide +kernel) ?_
  refine mx_eq 4 (mx_pt l3 u3 (by decide +kernel)) ?_
  refine mx_call 289 3 [.ref 36, .int 2, .int 4, .int 4] [.int (-1)] [(0, .ref 36), (1, .int 2), (2, .int 4), (3, .int 4)] (some (.int (-1))) hh_a203 0 0 1 21 0 0 287 [.int (-1), .int (-1)] ap_289 (by decide +kernel) (by decide +kernel) (iv_a604 6 xs zf hz) ?_
  refine mx_B 5 20 [(3, .int 6), (2, .ref 36), (1, .ref 21), (0, .ref 0)] [.ref 0, .int 6] (by decide +kernel) ?_
  refine mx_S (.arraylength) 1 [] 21 [(3, .int 6), (2, .ref 36), (1, .ref 21), (0, .ref 0)] [.int 6, .int 6] (by decide +kernel) rfl ?_
  refine mx_B 4 543 [(3, .int 6), (2, .ref 36), (1, .ref 21), (0, .ref 0)] [.int 1] (by decide +kernel) ?_
  exact mx_ret (some (.int 1)) (by decide +kernel) ⟨rfl, rfl⟩
theorem iv_a606 (L : Nat) (xs : Nat → Int32) (zf : Value) (hz : zf.category = 1) : mx_R L xs zf ah_M190 0 [(0, .ref 2), (1, .int 0), (2, .int 0)] [] hh_a203 0 0 0 0 (fun v h' => v = some (.int 1) ∧ h' = hh_a203) := by
  refine mx_B 12 22 [(0, .ref 2), (1, .int 0), (2, .int 0)] [.int 0, .ref 2] (by decide +kernel) ?_
  refine mx_B 5 27 [(0, .ref 2), (1, .int 0), (2, .int 0)] [.int 1] (by decide +kernel) ?_
  exact mx_ret (some (.int 1)) (by decide +kernel) ⟨rfl, rfl⟩
theorem iv_a607 (L : Nat) (xs : Nat → Int32) (zf : Value) (hz : zf.category = 1) : mx_R L xs zf ah_M221 0 [(0, .ref 21), (1, .int 3), (2, .int 0), (3, .int 0)] [] hh_a203 0 0 1 22 (fun v h' => v = some (.int 1) ∧ h' = hh_a203) := by
  refine mx_B 12 79 [(0, .ref 21), (1, .int 3), (2, .int 0), (3, .int 0)] [] (by decide +kernel) ?_
  refine mx_B 3 84 [(0, .ref 21), (1, .int 3), (2, .int 0), (3, .int 0)] [.int 0, .int 0, .ref 2] (by decide +kernel) ?_
  refine mx_call 190 3 [.ref 2, .int 0, .int 0] [] [(0, .ref 2), (1, .int 0), (2, .int 0)] (some (.int 1)) hh_a203 0 0 0 0 0 0 87 [.int 1] ap_190 (by decide +kernel) (by decide +kernel) (iv_a606 L xs zf hz) ?_
  exact mx_ret (some (.int 1)) (by decide +kernel) ⟨rfl, rfl⟩
theorem iv_a608 (L : Nat) (xs : Nat → Int32) (zf : Value) (hz : zf.category = 1) : mx_R L xs zf ah_M293 0 [(0, .int 0), (1, .int 0)] [] hh_a203 0 0 0 0 (fun v h' => v = some (.int 1) ∧ h' = hh_a203) := by
  refine mx_B 12 38 [(0, .int 0), (1, .int 0)] [.int 1] (by decide +kernel) ?_
  exact mx_ret (some (.int 1)) (by decide +kernel) ⟨rfl, rfl⟩
theorem iv_a609 (L : Nat) (xs : Nat → Int32) (zf : Value) (hz : zf.category = 1) : mx_R L xs zf ah_M289 0 [(0, .ref 36), (1, .int 3), (2, .int 0), (3, .int 0)] [] hh_a203 0 0 1 21 (fun v h' => v = some (.int 1) ∧ h' = hh_a203) := by
  refine mx_B 12 22 [(0, .ref 36), (1, .int 3), (2, .int 0), (3, .int 0)] [] (by decide +kernel) ?_
  refine mx_B 12 72 [(0, .ref 36), (1, .int 3), (2, .int 0), (3, .int 0)] [.int 0] (by decide +kernel) ?_
  refine mx_B 1 73 [(0, .ref 36), (1, .int 3), (2, .int 0), (3, .int 0)] [.int 0, .int 0] (by decide +kernel) ?_
  refine mx_call 293 3 [.int 0, .int 0] [] [(0, .int 0), (1, .int 0)] (some (.int 1)) hh_a203 0 0 0 0 0 0 76 [.int 1] ap_293 (by decide +kernel) (by decide +kernel) (iv_a608 L xs zf hz) ?_
  refine mx_B 3 84 [(0, .ref 36), (1, .int 3), (2, .int 0), (3, .int 0)] [.int 1] (by decide +kernel) ?_
  exact mx_ret (some (.int 1)) (by decide +kernel) ⟨rfl, rfl⟩
theorem iv_a610 (xs : Nat → Int32) (zf : Value) (hz : zf.category = 1) (hk : xs 0 &&& 15 = 5) (l1 : 3 ≤ (xs 1).toInt) (u1 : (xs 1).toInt ≤ 3) (l2 : 0 ≤ (xs 2).toInt) (u2 : (xs 2).toInt ≤ 0) (l3 : 0 ≤ (xs 3).toInt) (u3 : (xs 3).toInt ≤ 0) : mx_R 6 xs zf ah_M0 18 [(3, .int 0), (2, .ref 36), (1, .ref 21), (0, .ref 0)] [] hh_a203 0 0 2 45 (fun v h' => v = some (.int 1) ∧ h' = hh_a203) := by
  refine mx_B 2 20 [(3, .int 0), (2, .ref 36), (1, .ref 21), (0, .ref 0)] [.ref 0, .int 0] (by decide +kernel) ?_
  refine mx_S (.arraylength) 1 [] 21 [(3, .int 0), (2, .ref 36), (1, .ref 21), (0, .ref 0)] [.int 6, .int 0] (by decide +kernel) rfl ?_
  refine mx_B 5 29 [(3, .int 0), (2, .ref 36), (1, .ref 21), (0, .ref 0)] [.int 0, .ref 0] (by decide +kernel) ?_
  refine mx_scr 6 0 30 (by decide +kernel) (by decide +kernel) (by decide +kernel) ?_
  refine mx_S (.bipush 15) 2 [] 32 [(3, .int 0), (2, .ref 36), (1, .ref 21), (0, .ref 0)] [.int 15, .int (xs 0)] (by decide +kernel) rfl ?_
  refine mx_S (.iand) 1 [] 33 [(3, .int 0), (2, .ref 36), (1, .ref 21), (0, .ref 0)] [.int ((xs 0) &&& 15)] (by decide +kernel) rfl ?_
  refine mx_eq 5 hk ?_
  refine mx_B 6 254 [(3, .int 0), (2, .ref 36), (1, .ref 21), (0, .ref 0)] [.int 1, .ref 0, .ref 21] (by decide +kernel) ?_
  refine mx_scr 6 1 255 (by decide +kernel) (by decide +kernel) (by decide +kernel) ?_
  refine mx_eq 3 (mx_pt l1 u1 (by decide +kernel)) ?_
  refine mx_B 4 259 [(3, .int 0), (2, .ref 36), (1, .ref 21), (0, .ref 0)] [.int 2, .ref 0, .int 3, .ref 21] (by decide +kernel) ?_
  refine mx_scr 6 2 260 (by decide +kernel) (by decide +kernel) (by decide +kernel) ?_
  refine mx_eq 0 (mx_pt l2 u2 (by decide +kernel)) ?_
  refine mx_B 4 264 [(3, .int 0), (2, .ref 36), (1, .ref 21), (0, .ref 0)] [.int 3, .ref 0, .int 0, .int 3, .ref 21] (by decide +kernel) ?_
  refine mx_scr 6 3 265 (by decide +kernel) (by decide +kernel) (by decide +kernel) ?_
  refine mx_eq 0 (mx_pt l3 u3 (by decide +kernel)) ?_
  refine mx_call 221 3 [.ref 21, .int 3, .int 0, .int 0] [] [(0, .ref 21), (1, .int 3), (2, .int 0), (3, .int 0)] (some (.int 1)) hh_a203 0 0 1 22 0 0 268 [.int 1] ap_221 (by decide +kernel) (by decide +kernel) (iv_a607 6 xs zf hz) ?_
  refine mx_B 5 273 [(3, .int 0), (2, .ref 36), (1, .ref 21), (0, .ref 0)] [.int 1, .ref 0, .ref 36, .int 1] (by decide +kernel) ?_
  refine mx_scr 6 1 274 (by decide +kernel) (by decide +kernel) (by decide +kernel) ?_
  refine mx_eq 3 (mx_pt l1 u1 (by decide +kernel)) ?_
  refine mx_B 4 278 [(3, .int 0), (2, .ref 36), (1, .ref 21), (0, .ref 0)] [.int 2, .ref 0, .int 3, .ref 36, .int 1] (by decide +kernel) ?_
  refine mx_scr 6 2 279 (by decide +kernel) (by decide +kernel) (by decide +kernel) ?_
  refine mx_eq 0 (mx_pt l2 u2 (by decide +kernel)) ?_
  refine mx_B 4 283 [(3, .int 0), (2, .ref 36), (1, .ref 21), (0, .ref 0)] [.int 3, .ref 0, .int 0, .int 3, .ref 36, .int 1] (by decide +kernel) ?_
  refine mx_scr 6 3 284 (by decide +kernel) (by decide +kernel) (by decide +kernel) ?_
  refine mx_eq 0 (mx_pt l3 u3 (by decide +kernel)) ?_
  refine mx_call 289 3 [.ref 36, .int 3, .int 0, .int 0] [.int 1] [(0, .ref 36), (1, .int 3), (2, .int 0), (3, .int 0)] (some (.int 1)) hh_a203 0 0 1 21 0 0 287 [.int 1, .int 1] ap_289 (by decide +kernel) (by decide +kernel) (iv_a609 6 xs zf hz) ?_
  refine mx_B 5 20 [(3, .int 6), (2, .ref 36), (1, .ref 21), (0, .ref 0)] [.ref 0, .int 6] (by decide +kernel) ?_
  refine mx_S (.arraylength) 1 [] 21 [(3, .int 6), (2, .ref 36), (1, .ref 21), (0, .ref 0)] [.int 6, .int 6] (by decide +kernel) rfl ?_
  refine mx_B 4 543 [(3, .int 6), (2, .ref 36), (1, .ref 21), (0, .ref 0)] [.int 1] (by decide +kernel) ?_
  exact mx_ret (some (.int 1)) (by decide +kernel) ⟨rfl, rfl⟩
theorem iv_a611 (L : Nat) (xs : Nat → Int32) (zf : Value) (hz : zf.category = 1) : mx_R L xs zf ah_M190 0 [(0, .ref 2), (1, .int 0), (2, .int 1)] [] hh_a203 0 0 0 0 (fun v h' => v = some (.int 0) ∧ h' = hh_a203) := by
  refine mx_B 12 22 [(0, .ref 2), (1, .int 0), (2, .int 1)] [.int 0, .ref 2] (by decide +kernel) ?_
  refine mx_B 5 27 [(0, .ref 2), (1, .int 0), (2, .int 1)] [.int 0] (by decide +kernel) ?_
  exact mx_ret (some (.int 0)) (by decide +kernel) ⟨rfl, rfl⟩
theorem iv_a612 (L : Nat) (xs : Nat → Int32) (zf : Value) (hz : zf.category = 1) : mx_R L xs zf ah_M221 0 [(0, .ref 21), (1, .int 3), (2, .int 0), (3, .int 1)] [] hh_a203 0 0 1 22 (fun v h' => v = some (.int 0) ∧ h' = hh_a203) := by
  refine mx_B 12 79 [(0, .ref 21), (1, .int 3), (2, .int 0), (3, .int 1)] [] (by decide +kernel) ?_
  refine mx_B 3 84 [(0, .ref 21), (1, .int 3), (2, .int 0), (3, .int 1)] [.int 1, .int 0, .ref 2] (by decide +kernel) ?_
  refine mx_call 190 3 [.ref 2, .int 0, .int 1] [] [(0, .ref 2), (1, .int 0), (2, .int 1)] (some (.int 0)) hh_a203 0 0 0 0 0 0 87 [.int 0] ap_190 (by decide +kernel) (by decide +kernel) (iv_a611 L xs zf hz) ?_
  exact mx_ret (some (.int 0)) (by decide +kernel) ⟨rfl, rfl⟩
theorem iv_a613 (L : Nat) (xs : Nat → Int32) (zf : Value) (hz : zf.category = 1) : mx_R L xs zf ah_M293 0 [(0, .int 0), (1, .int 1)] [] hh_a203 0 0 0 0 (fun v h' => v = some (.int 0) ∧ h' = hh_a203) := by
  refine mx_B 12 20 [(0, .int 0), (1, .int 1)] [.int 3, .int 1] (by decide +kernel) ?_
  refine mx_B 5 38 [(0, .int 0), (1, .int 1)] [.int 0] (by decide +kernel) ?_
  exact mx_ret (some (.int 0)) (by decide +kernel) ⟨rfl, rfl⟩
theorem iv_a614 (L : Nat) (xs : Nat → Int32) (zf : Value) (hz : zf.category = 1) : mx_R L xs zf ah_M289 0 [(0, .ref 36), (1, .int 3), (2, .int 0), (3, .int 1)] [] hh_a203 0 0 1 21 (fun v h' => v = some (.int 0) ∧ h' = hh_a203) := by
  refine mx_B 12 22 [(0, .ref 36), (1, .int 3), (2, .int 0), (3, .int 1)] [] (by decide +kernel) ?_
  refine mx_B 12 72 [(0, .ref 36), (1, .int 3), (2, .int 0), (3, .int 1)] [.int 0] (by decide +kernel) ?_
  refine mx_B 1 73 [(0, .ref 36), (1, .int 3), (2, .int 0), (3, .int 1)] [.int 1, .int 0] (by decide +kernel) ?_
  refine mx_call 293 3 [.int 0, .int 1] [] [(0, .int 0), (1, .int 1)] (some (.int 0)) hh_a203 0 0 0 0 0 0 76 [.int 0] ap_293 (by decide +kernel) (by decide +kernel) (iv_a613 L xs zf hz) ?_
  refine mx_B 2 84 [(0, .ref 36), (1, .int 3), (2, .int 0), (3, .int 1)] [.int 0] (by decide +kernel) ?_
  exact mx_ret (some (.int 0)) (by decide +kernel) ⟨rfl, rfl⟩
theorem iv_a615 (xs : Nat → Int32) (zf : Value) (hz : zf.category = 1) (hk : xs 0 &&& 15 = 5) (l1 : 3 ≤ (xs 1).toInt) (u1 : (xs 1).toInt ≤ 3) (l2 : 0 ≤ (xs 2).toInt) (u2 : (xs 2).toInt ≤ 0) (l3 : 1 ≤ (xs 3).toInt) (u3 : (xs 3).toInt ≤ 1) : mx_R 6 xs zf ah_M0 18 [(3, .int 0), (2, .ref 36), (1, .ref 21), (0, .ref 0)] [] hh_a203 0 0 2 45 (fun v h' => v = some (.int 1) ∧ h' = hh_a203) := by
  refine mx_B 2 20 [(3, .int 0), (2, .ref 36), (1, .ref 21), (0, .ref 0)] [.ref 0, .int 0] (by decide +kernel) ?_
  refine mx_S (.arraylength) 1 [] 21 [(3, .int 0), (2, .ref 36), (1, .ref 21), (0, .ref 0)] [.int 6, .int 0] (by decide +kernel) rfl ?_
  refine mx_B 5 29 [(3, .int 0), (2, .ref 36), (1, .ref 21), (0, .ref 0)] [.int 0, .ref 0] (by decide +kernel) ?_
  refine mx_scr 6 0 30 (by decide +kernel) (by decide +kernel) (by decide +kernel) ?_
  refine mx_S (.bipush 15) 2 [] 32 [(3, .int 0), (2, .ref 36), (1, .ref 21), (0, .ref 0)] [.int 15, .int (xs 0)] (by decide +kernel) rfl ?_
  refine mx_S (.iand) 1 [] 33 [(3, .int 0), (2, .ref 36), (1, .ref 21), (0, .ref 0)] [.int ((xs 0) &&& 15)] (by decide +kernel) rfl ?_
  refine mx_eq 5 hk ?_
  refine mx_B 6 254 [(3, .int 0), (2, .ref 36), (1, .ref 21), (0, .ref 0)] [.int 1, .ref 0, .ref 21] (by decide +kernel) ?_
  refine mx_scr 6 1 255 (by decide +kernel) (by decide +kernel) (by decide +kernel) ?_
  refine mx_eq 3 (mx_pt l1 u1 (by decide +kernel)) ?_
  refine mx_B 4 259 [(3, .int 0), (2, .ref 36), (1, .ref 21), (0, .ref 0)] [.int 2, .ref 0, .int 3, .ref 21] (by decide +kernel) ?_
  refine mx_scr 6 2 260 (by decide +kernel) (by decide +kernel) (by decide +kernel) ?_
  refine mx_eq 0 (mx_pt l2 u2 (by decide +kernel)) ?_
  refine mx_B 4 264 [(3, .int 0), (2, .ref 36), (1, .ref 21), (0, .ref 0)] [.int 3, .ref 0, .int 0, .int 3, .ref 21] (by decide +kernel) ?_
  refine mx_scr 6 3 265 (by decide +kernel) (by decide +kernel) (by decide +kernel) ?_
  refine mx_eq 1 (mx_pt l3 u3 (by decide +kernel)) ?_
  refine mx_call 221 3 [.ref 21, .int 3, .int 0, .int 1] [] [(0, .ref 21), (1, .int 3), (2, .int 0), (3, .int 1)] (some (.int 0)) hh_a203 0 0 1 22 0 0 268 [.int 0] ap_221 (by decide +kernel) (by decide +kernel) (iv_a612 6 xs zf hz) ?_
  refine mx_B 5 273 [(3, .int 0), (2, .ref 36), (1, .ref 21), (0, .ref 0)] [.int 1, .ref 0, .ref 36, .int 0] (by decide +kernel) ?_
  refine mx_scr 6 1 274 (by decide +kernel) (by decide +kernel) (by decide +kernel) ?_
  refine mx_eq 3 (mx_pt l1 u1 (by decide +kernel)) ?_
  refine mx_B 4 278 [(3, .int 0), (2, .ref 36), (1, .ref 21), (0, .ref 0)] [.int 2, .ref 0, .int 3, .ref 36, .int 0] (by decide +kernel) ?_
  refine mx_scr 6 2 279 (by decide +kernel) (by decide +kernel) (by decide +kernel) ?_
  refine mx_eq 0 (mx_pt l2 u2 (by decide +kernel)) ?_
  refine mx_B 4 283 [(3, .int 0), (2, .ref 36), (1, .ref 21), (0, .ref 0)] [.int 3, .ref 0, .int 0, .int 3, .ref 36, .int 0] (by decide +kernel) ?_
  refine mx_scr 6 3 284 (by decide +kernel) (by decide +kernel) (by decide +kernel) ?_
  refine mx_eq 1 (mx_pt l3 u3 (by decide +kernel)) ?_
  refine mx_call 289 3 [.ref 36, .int 3, .int 0, .int 1] [.int 0] [(0, .ref 36), (1, .int 3), (2, .int 0), (3, .int 1)] (some (.int 0)) hh_a203 0 0 1 21 0 0 287 [.int 0, .int 0] ap_289 (by decide +kernel) (by decide +kernel) (iv_a614 6 xs zf hz) ?_
  refine mx_B 5 20 [(3, .int 6), (2, .ref 36), (1, .ref 21), (0, .ref 0)] [.ref 0, .int 6] (by decide +kernel) ?_
  refine mx_S (.arraylength) 1 [] 21 [(3, .int 6), (2, .ref 36), (1, .ref 21), (0, .ref 0)] [.int 6, .int 6] (by decide +kernel) rfl ?_
  refine mx_B 4 543 [(3, .int 6), (2, .ref 36), (1, .ref 21), (0, .ref 0)] [.int 1] (by decide +kernel) ?_
  exact mx_ret (some (.int 1)) (by decide +kernel) ⟨rfl, rfl⟩
theorem iv_a616 (L : Nat) (xs : Nat → Int32) (zf : Value) (hz : zf.category = 1) : mx_R L xs zf ah_M190 0 [(0, .ref 2), (1, .int 0), (2, .int 2)] [] hh_a203 0 0 0 0 (fun v h' => v = some (.int 0) ∧ h' = hh_a203) := by
  refine mx_B 12 22 [(0, .ref 2), (1, .int 0), (2, .int 2)] [.int 0, .ref 2] (by decide +kernel) ?_
  refine mx_B 5 27 [(0, .ref 2), (1, .int 0), (2, .int 2)] [.int 0] (by decide +kernel) ?_
  exact mx_ret (some (.int 0)) (by decide +kernel) ⟨rfl, rfl⟩
theorem iv_a617 (L : Nat) (xs : Nat → Int32) (zf : Value) (hz : zf.category = 1) : mx_R L xs zf ah_M221 0 [(0, .ref 21), (1, .int 3), (2, .int 0), (3, .int 2)] [] hh_a203 0 0 1 22 (fun v h' => v = some (.int 0) ∧ h' = hh_a203) := by
  refine mx_B 12 79 [(0, .ref 21), (1, .int 3), (2, .int 0), (3, .int 2)] [] (by decide +kernel) ?_
  refine mx_B 3 84 [(0, .ref 21), (1, .int 3), (2, .int 0), (3, .int 2)] [.int 2, .int 0, .ref 2] (by decide +kernel) ?_
  refine mx_call 190 3 [.ref 2, .int 0, .int 2] [] [(0, .ref 2), (1, .int 0), (2, .int 2)] (some (.int 0)) hh_a203 0 0 0 0 0 0 87 [.int 0] ap_190 (by decide +kernel) (by decide +kernel) (iv_a616 L xs zf hz) ?_
  exact mx_ret (some (.int 0)) (by decide +kernel) ⟨rfl, rfl⟩
theorem iv_a618 (L : Nat) (xs : Nat → Int32) (zf : Value) (hz : zf.category = 1) : mx_R L xs zf ah_M293 0 [(0, .int 0), (1, .int 2)] [] hh_a203 0 0 0 0 (fun v h' => v = some (.int 0) ∧ h' = hh_a203) := by
  refine mx_B 12 20 [(0, .int 0), (1, .int 2)] [.int 3, .int 2] (by decide +kernel) ?_
  refine mx_B 5 38 [(0, .int 0), (1, .int 2)] [.int 0] (by decide +kernel) ?_
  exact mx_ret (some (.int 0)) (by decide +kernel) ⟨rfl, rfl⟩
theorem iv_a619 (L : Nat) (xs : Nat → Int32) (zf : Value) (hz : zf.category = 1) : mx_R L xs zf ah_M289 0 [(0, .ref 36), (1, .int 3), (2, .int 0), (3, .int 2)] [] hh_a203 0 0 1 21 (fun v h' => v = some (.int 0) ∧ h' = hh_a203) := by
  refine mx_B 12 22 [(0, .ref 36), (1, .int 3), (2, .int 0), (3, .int 2)] [] (by decide +kernel) ?_
  refine mx_B 12 72 [(0, .ref 36), (1, .int 3), (2, .int 0), (3, .int 2)] [.int 0] (by decide +kernel) ?_
  refine mx_B 1 73 [(0, .ref 36), (1, .int 3), (2, .int 0), (3, .int 2)] [.int 2, .int 0] (by decide +kernel) ?_
  refine mx_call 293 3 [.int 0, .int 2] [] [(0, .int 0), (1, .int 2)] (some (.int 0)) hh_a203 0 0 0 0 0 0 76 [.int 0] ap_293 (by decide +kernel) (by decide +kernel) (iv_a618 L xs zf hz) ?_
  refine mx_B 2 84 [(0, .ref 36), (1, .int 3), (2, .int 0), (3, .int 2)] [.int 0] (by decide +kernel) ?_
  exact mx_ret (some (.int 0)) (by decide +kernel) ⟨rfl, rfl⟩
theorem iv_a620 (xs : Nat → Int32) (zf : Value) (hz : zf.category = 1) (hk : xs 0 &&& 15 = 5) (l1 : 3 ≤ (xs 1).toInt) (u1 : (xs 1).toInt ≤ 3) (l2 : 0 ≤ (xs 2).toInt) (u2 : (xs 2).toInt ≤ 0) (l3 : 2 ≤ (xs 3).toInt) (u3 : (xs 3).toInt ≤ 2) : mx_R 6 xs zf ah_M0 18 [(3, .int 0), (2, .ref 36), (1, .ref 21), (0, .ref 0)] [] hh_a203 0 0 2 45 (fun v h' => v = some (.int 1) ∧ h' = hh_a203) := by
  refine mx_B 2 20 [(3, .int 0), (2, .ref 36), (1, .ref 21), (0, .ref 0)] [.ref 0, .int 0] (by decide +kernel) ?_
  refine mx_S (.arraylength) 1 [] 21 [(3, .int 0), (2, .ref 36), (1, .ref 21), (0, .ref 0)] [.int 6, .int 0] (by decide +kernel) rfl ?_
  refine mx_B 5 29 [(3, .int 0), (2, .ref 36), (1, .ref 21), (0, .ref 0)] [.int 0, .ref 0] (by decide +kernel) ?_
  refine mx_scr 6 0 30 (by decide +kernel) (by decide +kernel) (by decide +kernel) ?_
  refine mx_S (.bipush 15) 2 [] 32 [(3, .int 0), (2, .ref 36), (1, .ref 21), (0, .ref 0)] [.int 15, .int (xs 0)] (by decide +kernel) rfl ?_
  refine mx_S (.iand) 1 [] 33 [(3, .int 0), (2, .ref 36), (1, .ref 21), (0, .ref 0)] [.int ((xs 0) &&& 15)] (by decide +kernel) rfl ?_
  refine mx_eq 5 hk ?_
  refine mx_B 6 254 [(3, .int 0), (2, .ref 36), (1, .ref 21), (0, .ref 0)] [.int 1, .ref 0, .ref 21] (by decide +kernel) ?_
  refine mx_scr 6 1 255 (by decide +kernel) (by decide +kernel) (by decide +kernel) ?_
  refine mx_eq 3 (mx_pt l1 u1 (by decide +kernel)) ?_
  refine mx_B 4 259 [(3, .int 0), (2, .ref 36), (1, .ref 21), (0, .ref 0)] [.int 2, .ref 0, .int 3, .ref 21] (by decide +kernel) ?_
  refine mx_scr 6 2 260 (by decide +kernel) (by decide +kernel) (by decide +kernel) ?_
  refine mx_eq 0 (mx_pt l2 u2 (by decide +kernel)) ?_
  refine mx_B 4 264 [(3, .int 0), (2, .ref 36), (1, .ref 21), (0, .ref 0)] [.int 3, .ref 0, .int 0, .int 3, .ref 21] (by decide +kernel) ?_
  refine mx_scr 6 3 265 (by decide +kernel) (by decide +kernel) (by decide +kernel) ?_
  refine mx_eq 2 (mx_pt l3 u3 (by decide +kernel)) ?_
  refine mx_call 221 3 [.ref 21, .int 3, .int 0, .int 2] [] [(0, .ref 21), (1, .int 3), (2, .int 0), (3, .int 2)] (some (.int 0)) hh_a203 0 0 1 22 0 0 268 [.int 0] ap_221 (by decide +kernel) (by decide +kernel) (iv_a617 6 xs zf hz) ?_
  refine mx_B 5 273 [(3, .int 0), (2, .ref 36), (1, .ref 21), (0, .ref 0)] [.int 1, .ref 0, .ref 36, .int 0] (by decide +kernel) ?_
  refine mx_scr 6 1 274 (by decide +kernel) (by decide +kernel) (by decide +kernel) ?_
  refine mx_eq 3 (mx_pt l1 u1 (by decide +kernel)) ?_
  refine mx_B 4 278 [(3, .int 0), (2, .ref 36), (1, .ref 21), (0, .ref 0)] [.int 2, .ref 0, .int 3, .ref 36, .int 0] (by decide +kernel) ?_
  refine mx_scr 6 2 279 (by decide +kernel) (by decide +kernel) (by decide +kernel) ?_
  refine mx_eq 0 (mx_pt l2 u2 (by decide +kernel)) ?_
  refine mx_B 4 283 [(3, .int 0), (2, .ref 36), (1, .ref 21), (0, .ref 0)] [.int 3, .ref 0, .int 0, .int 3, .ref 36, .int 0] (by decide +kernel) ?_
  refine mx_scr 6 3 284 (by decide +kernel) (by decide +kernel) (by decide +kernel) ?_
  refine mx_eq 2 (mx_pt l3 u3 (by decide +kernel)) ?_
  refine mx_call 289 3 [.ref 36, .int 3, .int 0, .int 2] [.int 0] [(0, .ref 36), (1, .int 3), (2, .int 0), (3, .int 2)] (some (.int 0)) hh_a203 0 0 1 21 0 0 287 [.int 0, .int 0] ap_289 (by decide +kernel) (by decide +kernel) (iv_a619 6 xs zf hz) ?_
  refine mx_B 5 20 [(3, .int 6), (2, .ref 36), (1, .ref 21), (0, .ref 0)] [.ref 0, .int 6] (by decide +kernel) ?_
  refine mx_S (.arraylength) 1 [] 21 [(3, .int 6), (2, .ref 36), (1, .ref 21), (0, .ref 0)] [.int 6, .int 6] (by decide +kernel) rfl ?_
  refine mx_B 4 543 [(3, .int 6), (2, .ref 36), (1, .ref 21), (0, .ref 0)] [.int 1] (by decide +kernel) ?_
  exact mx_ret (some (.int 1)) (by decide +kernel) ⟨rfl, rfl⟩
theorem iv_a621 (L : Nat) (xs : Nat → Int32) (zf : Value) (hz : zf.category = 1) : mx_R L xs zf ah_M190 0 [(0, .ref 2), (1, .int 0), (2, .int 3)] [] hh_a203 0 0 0 0 (fun v h' => v = some (.int 1) ∧ h' = hh_a203) := by
  refine mx_B 12 22 [(0, .ref 2), (1, .int 0), (2, .int 3)] [.int 0, .ref 2] (by decide +kernel) ?_
  refine mx_B 5 27 [(0, .ref 2), (1, .int 0), (2, .int 3)] [.int 1] (by decide +kernel) ?_
  exact mx_ret (some (.int 1)) (by decide +kernel) ⟨rfl, rfl⟩
theorem iv_a622 (L : Nat) (xs : Nat → Int32) (zf : Value) (hz : zf.category = 1) : mx_R L xs zf ah_M221 0 [(0, .ref 21), (1, .int 3), (2, .int 0), (3, .int 3)] [] hh_a203 0 0 1 22 (fun v h' => v = some (.int 1) ∧ h' = hh_a203) := by
  refine mx_B 12 79 [(0, .ref 21), (1, .int 3), (2, .int 0), (3, .int 3)] [] (by decide +kernel) ?_
  refine mx_B 3 84 [(0, .ref 21), (1, .int 3), (2, .int 0), (3, .int 3)] [.int 3, .int 0, .ref 2] (by decide +kernel) ?_
  refine mx_call 190 3 [.ref 2, .int 0, .int 3] [] [(0, .ref 2), (1, .int 0), (2, .int 3)] (some (.int 1)) hh_a203 0 0 0 0 0 0 87 [.int 1] ap_190 (by decide +kernel) (by decide +kernel) (iv_a621 L xs zf hz) ?_
  exact mx_ret (some (.int 1)) (by decide +kernel) ⟨rfl, rfl⟩
theorem iv_a623 (L : Nat) (xs : Nat → Int32) (zf : Value) (hz : zf.category = 1) : mx_R L xs zf ah_M293 0 [(0, .int 0), (1, .int 3)] [] hh_a203 0 0 0 0 (fun v h' => v = some (.int 1) ∧ h' = hh_a203) := by
  refine mx_B 12 20 [(0, .int 0), (1, .int 3)] [.int 3, .int 3] (by decide +kernel) ?_
  refine mx_B 3 38 [(0, .int 0), (1, .int 3)] [.int 1] (by decide +kernel) ?_
  exact mx_ret (some (.int 1)) (by decide +kernel) ⟨rfl, rfl⟩
theorem iv_a624 (L : Nat) (xs : Nat → Int32) (zf : Value) (hz : zf.category = 1) : mx_R L xs zf ah_M289 0 [(0, .ref 36), (1, .int 3), (2, .int 0), (3, .int 3)] [] hh_a203 0 0 1 21 (fun v h' => v = some (.int 1) ∧ h' = hh_a203) := by
  refine mx_B 12 22 [(0, .ref 36), (1, .int 3), (2, .int 0), (3, .int 3)] [] (by decide +kernel) ?_
  refine mx_B 12 72 [(0, .ref 36), (1, .int 3), (2, .int 0), (3, .int 3)] [.int 0] (by decide +kernel) ?_
  refine mx_B 1 73 [(0, .ref 36), (1, .int 3), (2, .int 0), (3, .int 3)] [.int 3, .int 0] (by decide +kernel) ?_
  refine mx_call 293 3 [.int 0, .int 3] [] [(0, .int 0), (1, .int 3)] (some (.int 1)) hh_a203 0 0 0 0 0 0 76 [.int 1] ap_293 (by decide +kernel) (by decide +kernel) (iv_a623 L xs zf hz) ?_
  refine mx_B 3 84 [(0, .ref 36), (1, .int 3), (2, .int 0), (3, .int 3)] [.int 1] (by decide +kernel) ?_
  exact mx_ret (some (.int 1)) (by decide +kernel) ⟨rfl, rfl⟩
theorem iv_a625 (xs : Nat → Int32) (zf : Value) (hz : zf.category = 1) (hk : xs 0 &&& 15 = 5) (l1 : 3 ≤ (xs 1).toInt) (u1 : (xs 1).toInt ≤ 3) (l2 : 0 ≤ (xs 2).toInt) (u2 : (xs 2).toInt ≤ 0) (l3 : 3 ≤ (xs 3).toInt) (u3 : (xs 3).toInt ≤ 3) : mx_R 6 xs zf ah_M0 18 [(3, .int 0), (2, .ref 36), (1, .ref 21), (0, .ref 0)] [] hh_a203 0 0 2 45 (fun v h' => v = some (.int 1) ∧ h' = hh_a203) := by
  refine mx_B 2 20 [(3, .int 0), (2, .ref 36), (1, .ref 21), (0, .ref 0)] [.ref 0, .int 0] (by decide +kernel) ?_
  refine mx_S (.arraylength) 1 [] 21 [(3, .int 0), (2, .ref 36), (1, .ref 21), (0, .ref 0)] [.int 6, .int 0] (by decide +kernel) rfl ?_
  refine mx_B 5 29 [(3, .int 0), (2, .ref 36), (1, .ref 21), (0, .ref 0)] [.int 0, .ref 0] (by decide +kernel) ?_
  refine mx_scr 6 0 30 (by decide +kernel) (by decide +kernel) (by decide +kernel) ?_
  refine mx_S (.bipush 15) 2 [] 32 [(3, .int 0), (2, .ref 36), (1, .ref 21), (0, .ref 0)] [.int 15, .int (xs 0)] (by decide +kernel) rfl ?_
  refine mx_S (.iand) 1 [] 33 [(3, .int 0), (2, .ref 36), (1, .ref 21), (0, .ref 0)] [.int ((xs 0) &&& 15)] (by decide +kernel) rfl ?_
  refine mx_eq 5 hk ?_
  refine mx_B 6 254 [(3, .int 0), (2, .ref 36), (1, .ref 21), (0, .ref 0)] [.int 1, .ref 0, .ref 21] (by decide +kernel) ?_
  refine mx_scr 6 1 255 (by decide +kernel) (by decide +kernel) (by decide +kernel) ?_
  refine mx_eq 3 (mx_pt l1 u1 (by decide +kernel)) ?_
  refine mx_B 4 259 [(3, .int 0), (2, .ref 36), (1, .ref 21), (0, .ref 0)] [.int 2, .ref 0, .int 3, .ref 21] (by decide +kernel) ?_
  refine mx_scr 6 2 260 (by decide +kernel) (by decide +kernel) (by decide +kernel) ?_
  refine mx_eq 0 (mx_pt l2 u2 (by decide +kernel)) ?_
  refine mx_B 4 264 [(3, .int 0), (2, .ref 36), (1, .ref 21), (0, .ref 0)] [.int 3, .ref 0, .int 0, .int 3, .ref 21] (by decide +kernel) ?_
  refine mx_scr 6 3 265 (by decide +kernel) (by decide +kernel) (by decide +kernel) ?_
  refine mx_eq 3 (mx_pt l3 u3 (by decide +kernel)) ?_
  refine mx_call 221 3 [.ref 21, .int 3, .int 0, .int 3] [] [(0, .ref 21), (1, .int 3), (2, .int 0), (3, .int 3)] (some (.int 1)) hh_a203 0 0 1 22 0 0 268 [.int 1] ap_221 (by decide +kernel) (by decide +kernel) (iv_a622 6 xs zf hz) ?_
  refine mx_B 5 273 [(3, .int 0), (2, .ref 36), (1, .ref 21), (0, .ref 0)] [.int 1, .ref 0, .ref 36, .int 1] (by decide +kernel) ?_
  refine mx_scr 6 1 274 (by decide +kernel) (by decide +kernel) (by decide +kernel) ?_
  refine mx_eq 3 (mx_pt l1 u1 (by decide +kernel)) ?_
  refine mx_B 4 278 [(3, .int 0), (2, .ref 36), (1, .ref 21), (0, .ref 0)] [.int 2, .ref 0, .int 3, .ref 36, .int 1] (by decide +kernel) ?_
  refine mx_scr 6 2 279 (by decide +kernel) (by decide +kernel) (by decide +kernel) ?_
  refine mx_eq 0 (mx_pt l2 u2 (by decide +kernel)) ?_
  refine mx_B 4 283 [(3, .int 0), (2, .ref 36), (1, .ref 21), (0, .ref 0)] [.int 3, .ref 0, .int 0, .int 3, .ref 36, .int 1] (by decide +kernel) ?_
  refine mx_scr 6 3 284 (by decide +kernel) (by decide +kernel) (by decide +kernel) ?_
  refine mx_eq 3 (mx_pt l3 u3 (by decide +kernel)) ?_
  refine mx_call 289 3 [.ref 36, .int 3, .int 0, .int 3] [.int 1] [(0, .ref 36), (1, .int 3), (2, .int 0), (3, .int 3)] (some (.int 1)) hh_a203 0 0 1 21 0 0 287 [.int 1, .int 1] ap_289 (by decide +kernel) (by decide +kernel) (iv_a624 6 xs zf hz) ?_
  refine mx_B 5 20 [(3, .int 6), (2, .ref 36), (1, .ref 21), (0, .ref 0)] [.ref 0, .int 6] (by decide +kernel) ?_
  refine mx_S (.arraylength) 1 [] 21 [(3, .int 6), (2, .ref 36), (1, .ref 21), (0, .ref 0)] [.int 6, .int 6] (by decide +kernel) rfl ?_
  refine mx_B 4 543 [(3, .int 6), (2, .ref 36), (1, .ref 21), (0, .ref 0)] [.int 1] (by decide +kernel) ?_
  exact mx_ret (some (.int 1)) (by decide +kernel) ⟨rfl, rfl⟩
theorem iv_a626 (L : Nat) (xs : Nat → Int32) (zf : Value) (hz : zf.category = 1) : mx_R L xs zf ah_M190 0 [(0, .ref 2), (1, .int 0), (2, .int 4)] [] hh_a203 0 0 0 0 (fun v h' => v = some (.int 0) ∧ h' = hh_a203) := by
  refine mx_B 12 22 [(0, .ref 2), (1, .int 0), (2, .int 4)] [.int 0, .ref 2] (by decide +kernel) ?_
  refine mx_B 5 27 [(0, .ref 2), (1, .int 0), (2, .int 4)] [.int 0] (by decide +kernel) ?_
  exact mx_ret (some (.int 0)) (by decide +kernel) ⟨rfl, rfl⟩
theorem iv_a627 (L : Nat) (xs : Nat → Int32) (zf : Value) (hz : zf.category = 1) : mx_R L xs zf ah_M221 0 [(0, .ref 21), (1, .int 3), (2, .int 0), (3, .int 4)] [] hh_a203 0 0 1 22 (fun v h' => v = some (.int 0) ∧ h' = hh_a203) := by
  refine mx_B 12 79 [(0, .ref 21), (1, .int 3), (2, .int 0), (3, .int 4)] [] (by decide +kernel) ?_
  refine mx_B 3 84 [(0, .ref 21), (1, .int 3), (2, .int 0), (3, .int 4)] [.int 4, .int 0, .ref 2] (by decide +kernel) ?_
  refine mx_call 190 3 [.ref 2, .int 0, .int 4] [] [(0, .ref 2), (1, .int 0), (2, .int 4)] (some (.int 0)) hh_a203 0 0 0 0 0 0 87 [.int 0] ap_190 (by decide +kernel) (by decide +kernel) (iv_a626 L xs zf hz) ?_
  exact mx_ret (some (.int 0)) (by decide +kernel) ⟨rfl, rfl⟩
theorem iv_a628 (L : Nat) (xs : Nat → Int32) (zf : Value) (hz : zf.category = 1) : mx_R L xs zf ah_M293 0 [(0, .int 0), (1, .int 4)] [] hh_a203 0 0 0 0 (fun v h' => v = some (.int 0) ∧ h' = hh_a203) := by
  refine mx_B 12 20 [(0, .int 0), (1, .int 4)] [.int 3, .int 4] (by decide +kernel) ?_
  refine mx_B 5 38 [(0, .int 0), (1, .int 4)] [.int 0] (by decide +kernel) ?_
  exact mx_ret (some (.int 0)) (by decide +kernel) ⟨rfl, rfl⟩
theorem iv_a629 (L : Nat) (xs : Nat → Int32) (zf : Value) (hz : zf.category = 1) : mx_R L xs zf ah_M289 0 [(0, .ref 36), (1, .int 3), (2, .int 0), (3, .int 4)] [] hh_a203 0 0 1 21 (fun v h' => v = some (.int 0) ∧ h' = hh_a203) := by
  refine mx_B 12 22 [(0, .ref 36), (1, .int 3), (2, .int 0), (3, .int 4)] [] (by decide +kernel) ?_
  refine mx_B 12 72 [(0, .ref 36), (1, .int 3), (2, .int 0), (3, .int 4)] [.int 0] (by decide +kernel) ?_
  refine mx_B 1 73 [(0, .ref 36), (1, .int 3), (2, .int 0), (3, .int 4)] [.int 4, .int 0] (by decide +kernel) ?_
  refine mx_call 293 3 [.int 0, .int 4] [] [(0, .int 0), (1, .int 4)] (some (.int 0)) hh_a203 0 0 0 0 0 0 76 [.int 0] ap_293 (by decide +kernel) (by decide +kernel) (iv_a628 L xs zf hz) ?_
  refine mx_B 2 84 [(0, .ref 36), (1, .int 3), (2, .int 0), (3, .int 4)] [.int 0] (by decide +kernel) ?_
  exact mx_ret (some (.int 0)) (by decide +kernel) ⟨rfl, rfl⟩
theorem iv_a630 (xs : Nat → Int32) (zf : Value) (hz : zf.category = 1) (hk : xs 0 &&& 15 = 5) (l1 : 3 ≤ (xs 1).toInt) (u1 : (xs 1).toInt ≤ 3) (l2 : 0 ≤ (xs 2).toInt) (u2 : (xs 2).toInt ≤ 0) (l3 : 4 ≤ (xs 3).toInt) (u3 : (xs 3).toInt ≤ 4) : mx_R 6 xs zf ah_M0 18 [(3, .int 0), (2, .ref 36), (1, .ref 21), (0, .ref 0)] [] hh_a203 0 0 2 45 (fun v h' => v = some (.int 1) ∧ h' = hh_a203) := by
  refine mx_B 2 20 [(3, .int 0), (2, .ref 36), (1, .ref 21), (0, .ref 0)] [.ref 0, .int 0] (by decide +kernel) ?_
  refine mx_S (.arraylength) 1 [] 21 [(3, .int 0), (2, .ref 36), (1, .ref 21), (0, .ref 0)] [.int 6, .int 0] (by decide +kernel) rfl ?_
  refine mx_B 5 29 [(3, .int 0), (2, .ref 36), (1, .ref 21), (0, .ref 0)] [.int 0, .ref 0] (by decide +kernel) ?_
  refine mx_scr 6 0 30 (by decide +kernel) (by decide +kernel) (by decide +kernel) ?_
  refine mx_S (.bipush 15) 2 [] 32 [(3, .int 0), (2, .ref 36), (1, .ref 21), (0, .ref 0)] [.int 15, .int (xs 0)] (by decide +kernel) rfl ?_
  refine mx_S (.iand) 1 [] 33 [(3, .int 0), (2, .ref 36), (1, .ref 21), (0, .ref 0)] [.int ((xs 0) &&& 15)] (by decide +kernel) rfl ?_
  refine mx_eq 5 hk ?_
  refine mx_B 6 254 [(3, .int 0), (2, .ref 36), (1, .ref 21), (0, .ref 0)] [.int 1, .ref 0, .ref 21] (by decide +kernel) ?_
  refine mx_scr 6 1 255 (by decide +kernel) (by decide +kernel) (by decide +kernel) ?_
  refine mx_eq 3 (mx_pt l1 u1 (by decide +kernel)) ?_
  refine mx_B 4 259 [(3, .int 0), (2, .ref 36), (1, .ref 21), (0, .ref 0)] [.int 2, .ref 0, .int 3, .ref 21] (by decide +kernel) ?_
  refine mx_scr 6 2 260 (by decide +kernel) (by decide +kernel) (by decide +kernel) ?_
  refine mx_eq 0 (mx_pt l2 u2 (by decide +kernel)) ?_
  refine mx_B 4 264 [(3, .int 0), (2, .ref 36), (1, .ref 21), (0, .ref 0)] [.int 3, .ref 0, .int 0, .int 3, .ref 21] (by decide +kernel) ?_
  refine mx_scr 6 3 265 (by decide +kernel) (by decide +kernel) (by decide +kernel) ?_
  refine mx_eq 4 (mx_pt l3 u3 (by decide +kernel)) ?_
  refine mx_call 221 3 [.ref 21, .int 3, .int 0, .int 4] [] [(0, .ref 21), (1, .int 3), (2, .int 0), (3, .int 4)] (some (.int 0)) hh_a203 0 0 1 22 0 0 268 [.int 0] ap_221 (by decide +kernel) (by decide +kernel) (iv_a627 6 xs zf hz) ?_
  refine mx_B 5 273 [(3, .int 0), (2, .ref 36), (1, .ref 21), (0, .ref 0)] [.int 1, .ref 0, .ref 36, .int 0] (by decide +kernel) ?_
  refine mx_scr 6 1 274 (by decide +kernel) (by decide +kernel) (by decide +kernel) ?_
  refine mx_eq 3 (mx_pt l1 u1 (by decide +kernel)) ?_
  refine mx_B 4 278 [(3, .int 0), (2, .ref 36), (1, .ref 21), (0, .ref 0)] [.int 2, .ref 0, .int 3, .ref 36, .int 0] (by decide +kernel) ?_
  refine mx_scr 6 2 279 (by decide +kernel) (by decide +kernel) (by decide +kernel) ?_
  refine mx_eq 0 (mx_pt l2 u2 (by decide +kernel)) ?_
  refine mx_B 4 283 [(3, .int 0), (2, .ref 36), (1, .ref 21), (0, .ref 0)] [.int 3, .ref 0, .int 0, .int 3, .ref 36, .int 0] (by decide +kernel) ?_
  refine mx_scr 6 3 284 (by decide +kernel) (by decide +kernel) (by decide +kernel) ?_
  refine mx_eq 4 (mx_pt l3 u3 (by decide +kernel)) ?_
  refine mx_call 289 3 [.ref 36, .int 3, .int 0, .int 4] [.int 0] [(0, .ref 36), (1, .int 3), (2, .int 0), (3, .int 4)] (some (.int 0)) hh_a203 0 0 1 21 0 0 287 [.int 0, .int 0] ap_289 (by decide +kernel) (by decide +kernel) (iv_a629 6 xs zf hz) ?_
  refine mx_B 5 20 [(3, .int 6), (2, .ref 36), (1, .ref 21), (0, .ref 0)] [.ref 0, .int 6] (by decide +kernel) ?_
  refine mx_S (.arraylength) 1 [] 21 [(3, .int 6), (2, .ref 36), (1, .ref 21), (0, .ref 0)] [.int 6, .int 6] (by decide +kernel) rfl ?_
  refine mx_B 4 543 [(3, .int 6), (2, .ref 36), (1, .ref 21), (0, .ref 0)] [.int 1] (by decide +kernel) ?_
  exact mx_ret (some (.int 1)) (by decide +kernel) ⟨rfl, rfl⟩
theorem iv_a631 (L : Nat) (xs : Nat → Int32) (zf : Value) (hz : zf.category = 1) : mx_R L xs zf ah_M190 0 [(0, .ref 2), (1, .int 1), (2, .int 0)] [] hh_a203 0 0 0 0 (fun v h' => v = some (.int 1) ∧ h' = hh_a203) := by
  refine mx_B 12 22 [(0, .ref 2), (1, .int 1), (2, .int 0)] [.int 1, .ref 2] (by decide +kernel) ?_
  refine mx_B 5 27 [(0, .ref 2), (1, .int 1), (2, .int 0)] [.int 1] (by decide +kernel) ?_
  exact mx_ret (some (.int 1)) (by decide +kernel) ⟨rfl, rfl⟩
theorem iv_a632 (L : Nat) (xs : Nat → Int32) (zf : Value) (hz : zf.category = 1) : mx_R L xs zf ah_M221 0 [(0, .ref 21), (1, .int 3), (2, .int 1), (3, .int 0)] [] hh_a203 0 0 1 22 (fun v h' => v = some (.int 1) ∧ h' = hh_a203) := by
  refine mx_B 12 79 [(0, .ref 21), (1, .int 3), (2, .int 1), (3, .int 0)] [] (by decide +kernel) ?_
  refine mx_B 3 84 [(0, .ref 21), (1, .int 3), (2, .int 1), (3, .int 0)] [.int 0, .int 1, .ref 2] (by decide +kernel) ?_
  refine mx_call 190 3 [.ref 2, .int 1, .int 0] [] [(0, .ref 2), (1, .int 1), (2, .int 0)] (some (.int 1)) hh_a203 0 0 0 0 0 0 87 [.int 1] ap_190 (by decide +kernel) (by decide +kernel) (iv_a631 L xs zf hz) ?_
  exact mx_ret (some (.int 1)) (by decide +kernel) ⟨rfl, rfl⟩
theorem iv_a633 (L : Nat) (xs : Nat → Int32) (zf : Value) (hz : zf.category = 1) : mx_R L xs zf ah_M293 0 [(0, .int 1), (1, .int 0)] [] hh_a203 0 0 0 0 (fun v h' => v = some (.int 1) ∧ h' = hh_a203) := by
  refine mx_B 10 38 [(0, .int 1), (1, .int 0)] [.int 1] (by decide +kernel) ?_
  exact mx_ret (some (.int 1)) (by decide +kernel) ⟨rfl, rfl⟩
theorem iv_a634 (L : Nat) (xs : Nat → Int32) (zf : Value) (hz : zf.category = 1) : mx_R L xs zf ah_M289 0 [(0, .ref 36), (1, .int 3), (2, .int 1), (3, .int 0)] [] hh_a203 0 0 1 21 (fun v h' => v = some (.int 1) ∧ h' = hh_a203) := by
  refine mx_B 12 22 [(0, .ref 36), (1, .int 3), (2, .int 1), (3, .int 0)] [] (by decide +kernel) ?_
  refine mx_B 12 72 [(0, .ref 36), (1, .int 3), (2, .int 1), (3, .int 0)] [.int 1] (by decide +kernel) ?_
  refine mx_B 1 73 [(0, .ref 36), (1, .int 3), (2, .int 1), (3, .int 0)] [.int 0, .int 1] (by decide +kernel) ?_
  refine mx_call 293 3 [.int 1, .int 0] [] [(0, .int 1), (1, .int 0)] (some (.int 1)) hh_a203 0 0 0 0 0 0 76 [.int 1] ap_293 (by decide +kernel) (by decide +kernel) (iv_a633 L xs zf hz) ?_
  refine mx_B 3 84 [(0, .ref 36), (1, .int 3), (2, .int 1), (3, .int 0)] [.int 1] (by decide +kernel) ?_
  exact mx_ret (some (.int 1)) (by decide +kernel) ⟨rfl, rfl⟩
theorem iv_a635 (xs : Nat → Int32) (zf : Value) (hz : zf.category = 1) (hk : xs 0 &&& 15 = 5) (l1 : 3 ≤ (xs 1).toInt) (u1 : (xs 1).toInt ≤ 3) (l2 : 1 ≤ (xs 2).toInt) (u2 : (xs 2).toInt ≤ 1) (l3 : 0 ≤ (xs 3).toInt) (u3 : (xs 3).toInt ≤ 0) : mx_R 6 xs zf ah_M0 18 [(3, .int 0), (2, .ref 36), (1, .ref 21), (0, .ref 0)] [] hh_a203 0 0 2 45 (fun v h' => v = some (.int 1) ∧ h' = hh_a203) := by
  refine mx_B 2 20 [(3, .int 0), (2, .ref 36), (1, .ref 21), (0, .ref 0)] [.ref 0, .int 0] (by decide +kernel) ?_
  refine mx_S (.arraylength) 1 [] 21 [(3, .int 0), (2, .ref 36), (1, .ref 21), (0, .ref 0)] [.int 6, .int 0] (by decide +kernel) rfl ?_
  refine mx_B 5 29 [(3, .int 0), (2, .ref 36), (1, .ref 21), (0, .ref 0)] [.int 0, .ref 0] (by decide +kernel) ?_
  refine mx_scr 6 0 30 (by decide +kernel) (by decide +kernel) (by decide +kernel) ?_
  refine mx_S (.bipush 15) 2 [] 32 [(3, .int 0), (2, .ref 36), (1, .ref 21), (0, .ref 0)] [.int 15, .int (xs 0)] (by decide +kernel) rfl ?_
  refine mx_S (.iand) 1 [] 33 [(3, .int 0), (2, .ref 36), (1, .ref 21), (0, .ref 0)] [.int ((xs 0) &&& 15)] (by decide +kernel) rfl ?_
  refine mx_eq 5 hk ?_
  refine mx_B 6 254 [(3, .int 0), (2, .ref 36), (1, .ref 21), (0, .ref 0)] [.int 1, .ref 0, .ref 21] (by decide +kernel) ?_
  refine mx_scr 6 1 255 (by decide +kernel) (by decide +kernel) (by decide +kernel) ?_
  refine mx_eq 3 (mx_pt l1 u1 (by decide +kernel)) ?_
  refine mx_B 4 259 [(3, .int 0), (2, .ref 36), (1, .ref 21), (0, .ref 0)] [.int 2, .ref 0, .int 3, .ref 21] (by decide +kernel) ?_
  refine mx_scr 6 2 260 (by decide +kernel) (by decide +kernel) (by decide +kernel) ?_
  refine mx_eq 1 (mx_pt l2 u2 (by decide +kernel)) ?_
  refine mx_B 4 264 [(3, .int 0), (2, .ref 36), (1, .ref 21), (0, .ref 0)] [.int 3, .ref 0, .int 1, .int 3, .ref 21] (by decide +kernel) ?_
  refine mx_scr 6 3 265 (by decide +kernel) (by decide +kernel) (by decide +kernel) ?_
  refine mx_eq 0 (mx_pt l3 u3 (by decide +kernel)) ?_
  refine mx_call 221 3 [.ref 21, .int 3, .int 1, .int 0] [] [(0, .ref 21), (1, .int 3), (2, .int 1), (3, .int 0)] (some (.int 1)) hh_a203 0 0 1 22 0 0 268 [.int 1] ap_221 (by decide +kernel) (by decide +kernel) (iv_a632 6 xs zf hz) ?_
  refine mx_B 5 273 [(3, .int 0), (2, .ref 36), (1, .ref 21), (0, .ref 0)] [.int 1, .ref 0, .ref 36, .int 1] (by decide +kernel) ?_
  refine mx_scr 6 1 274 (by decide +kernel) (by decide +kernel) (by decide +kernel) ?_
  refine mx_eq 3 (mx_pt l1 u1 (by decide +kernel)) ?_
  refine mx_B 4 278 [(3, .int 0), (2, .ref 36), (1, .ref 21), (0, .ref 0)] [.int 2, .ref 0, .int 3, .ref 36, .int 1] (by decide +kernel) ?_
  refine mx_scr 6 2 279 (by decide +kernel) (by decide +kernel) (by decide +kernel) ?_
  refine mx_eq 1 (mx_pt l2 u2 (by decide +kernel)) ?_
  refine mx_B 4 283 [(3, .int 0), (2, .ref 36), (1, .ref 21), (0, .ref 0)] [.int 3, .ref 0, .int 1, .int 3, .ref 36, .int 1] (by decide +kernel) ?_
  refine mx_scr 6 3 284 (by decide +kernel) (by decide +kernel) (by decide +kernel) ?_
  refine mx_eq 0 (mx_pt l3 u3 (by decide +kernel)) ?_
  refine mx_call 289 3 [.ref 36, .int 3, .int 1, .int 0] [.int 1] [(0, .ref 36), (1, .int 3), (2, .int 1), (3, .int 0)] (some (.int 1)) hh_a203 0 0 1 21 0 0 287 [.int 1, .int 1] ap_289 (by decide +kernel) (by decide +kernel) (iv_a634 6 xs zf hz) ?_
  refine mx_B 5 20 [(3, .int 6), (2, .ref 36), (1, .ref 21), (0, .ref 0)] [.ref 0, .int 6] (by decide +kernel) ?_
  refine mx_S (.arraylength) 1 [] 21 [(3, .int 6), (2, .ref 36), (1, .ref 21), (0, .ref 0)] [.int 6, .int 6] (by decide +kernel) rfl ?_
  refine mx_B 4 543 [(3, .int 6), (2, .ref 36), (1, .ref 21), (0, .ref 0)] [.int 1] (by decide +kernel) ?_
  exact mx_ret (some (.int 1)) (by decide +kernel) ⟨rfl, rfl⟩
theorem iv_a636 (L : Nat) (xs : Nat → Int32) (zf : Value) (hz : zf.category = 1) : mx_R L xs zf ah_M190 0 [(0, .ref 2), (1, .int 1), (2, .int 1)] [] hh_a203 0 0 0 0 (fun v h' => v = some (.int 1) ∧ h' = hh_a203) := by
  refine mx_B 12 22 [(0, .ref 2), (1, .int 1), (2, .int 1)] [.int 1, .ref 2] (by decide +kernel) ?_
  refine mx_B 5 27 [(0, .ref 2), (1, .int 1), (2, .int 1)] [.int 1] (by decide +kernel) ?_
  exact mx_ret (some (.int 1)) (by decide +kernel) ⟨rfl, rfl⟩
theorem iv_a637 (L : Nat) (xs : Nat → Int32) (zf : Value) (hz : zf.category = 1) : mx_R L xs zf ah_M221 0 [(0, .ref 21), (1, .int 3), (2, .int 1), (3, .int 1)] [] hh_a203 0 0 1 22 (fun v h' => v = some (.int 1) ∧ h' = hh_a203) := by
  refine mx_B 12 79 [(0, .ref 21), (1, .int 3), (2, .int 1), (3, .int 1)] [] (by decide +kernel) ?_
  refine mx_B 3 84 [(0, .ref 21), (1, .int 3), (2, .int 1), (3, .int 1)] [.int 1, .int 1, .ref 2] (by decide +kernel) ?_
  refine mx_call 190 3 [.ref 2, .int 1, .int 1] [] [(0, .ref 2), (1, .int 1), (2, .int 1)] (some (.int 1)) hh_a203 0 0 0 0 0 0 87 [.int 1] ap_190 (by decide +kernel) (by decide +kernel) (iv_a636 L xs zf hz) ?_
  exact mx_ret (some (.int 1)) (by decide +kernel) ⟨rfl, rfl⟩
theorem iv_a638 (L : Nat) (xs : Nat → Int32) (zf : Value) (hz : zf.category = 1) : mx_R L xs zf ah_M293 0 [(0, .int 1), (1, .int 1)] [] hh_a203 0 0 0 0 (fun v h' => v = some (.int 1) ∧ h' = hh_a203) := by
  refine mx_B 12 24 [(0, .int 1), (1, .int 1)] [.int 1] (by decide +kernel) ?_
  refine mx_B 7 38 [(0, .int 1), (1, .int 1)] [.int 1] (by decide +kernel) ?_
  exact mx_ret (some (.int 1)) (by decide +kernel) ⟨rfl, rfl⟩
theorem iv_a639 (L : Nat) (xs : Nat → Int32) (zf : Value) (hz : zf.category = 1) : mx_R L xs zf ah_M289 0 [(0, .ref 36), (1, .int 3), (2, .int 1), (3, .int 1)] [] hh_a203 0 0 1 21 (fun v h' => v = some (.int 1) ∧ h' = hh_a203) := by
  refine mx_B 12 22 [(0, .ref 36), (1, .int 3), (2, .int 1), (3, .int 1)] [] (by decide +kernel) ?_
  refine mx_B 12 72 [(0, .ref 36), (1, .int 3), (2, .int 1), (3, .int 1)] [.int 1] (by decide +kernel) ?_
  refine mx_B 1 73 [(0, .ref 36), (1, .int 3), (2, .int 1), (3, .int 1)] [.int 1, .int 1] (by decide +kernel) ?_
  refine mx_call 293 3 [.int 1, .int 1] [] [(0, .int 1), (1, .int 1)] (some (.int 1)) hh_a203 0 0 0 0 0 0 76 [.int 1] ap_293 (by decide +kernel) (by decide +kernel) (iv_a638 L xs zf hz) ?_
  refine mx_B 3 84 [(0, .ref 36), (1, .int 3), (2, .int 1), (3, .int 1)] [.int 1] (by decide +kernel) ?_
  exact mx_ret (some (.int 1)) (by decide +kernel) ⟨rfl, rfl⟩
theorem iv_a640 (xs : Nat → Int32) (zf : Value) (hz : zf.category = 1) (hk : xs 0 &&& 15 = 5) (l1 : 3 ≤ (xs 1).toInt) (u1 : (xs 1).toInt ≤ 3) (l2 : 1 ≤ (xs 2).toInt) (u2 : (xs 2).toInt ≤ 1) (l3 : 1 ≤ (xs 3).toInt) (u3 : (xs 3).toInt ≤ 1) : mx_R 6 xs zf ah_M0 18 [(3, .int 0), (2, .ref 36), (1, .ref 21), (0, .ref 0)] [] hh_a203 0 0 2 45 (fun v h' => v = some (.int 1) ∧ h' = hh_a203) := by
  refine mx_B 2 20 [(3, .int 0), (2, .ref 36), (1, .ref 21), (0, .ref 0)] [.ref 0, .int 0] (by decide +kernel) ?_
  refine mx_S (.arraylength) 1 [] 21 [(3, .int 0), (2, .ref 36), (1, .ref 21), (0, .ref 0)] [.int 6, .int 0] (by decide +kernel) rfl ?_
  refine mx_B 5 29 [(3, .int 0), (2, .ref 36), (1, .ref 21), (0, .ref 0)] [.int 0, .ref 0] (by decide +kernel) ?_
  refine mx_scr 6 0 30 (by decide +kernel) (by decide +kernel) (by decide +kernel) ?_
  refine mx_S (.bipush 15) 2 [] 32 [(3, .int 0), (2, .ref 36), (1, .ref 21), (0, .ref 0)] [.int 15, .int (xs 0)] (by decide +kernel) rfl ?_
  refine mx_S (.iand) 1 [] 33 [(3, .int 0), (2, .ref 36), (1, .ref 21), (0, .ref 0)] [.int ((xs 0) &&& 15)] (by decide +kernel) rfl ?_
  refine mx_eq 5 hk ?_
  refine mx_B 6 254 [(3, .int 0), (2, .ref 36), (1, .ref 21), (0, .ref 0)] [.int 1, .ref 0, .ref 21] (by decide +kernel) ?_
  refine mx_scr 6 1 255 (by decide +kernel) (by decide +kernel) (by decide +kernel) ?_
  refine mx_eq 3 (mx_pt l1 u1 (by decide +kernel)) ?_
  refine mx_B 4 259 [(3, .int 0), (2, .ref 36), (1, .ref 21), (0, .ref 0)] [.int 2, .ref 0, .int 3, .ref 21] (by decide +kernel) ?_
  refine mx_scr 6 2 260 (by decide +kernel) (by decide +kernel) (by decide +kernel) ?_
  refine mx_eq 1 (mx_pt l2 u2 (by decide +kernel)) ?_
  refine mx_B 4 264 [(3, .int 0), (2, .ref 36), (1, .ref 21), (0, .ref 0)] [.int 3, .ref 0, .int 1, .int 3, .ref 21] (by decide +kernel) ?_
  refine mx_scr 6 3 265 (by decide +kernel) (by decide +kernel) (by decide +kernel) ?_
  refine mx_eq 1 (mx_pt l3 u3 (by decide +kernel)) ?_
  refine mx_call 221 3 [.ref 21, .int 3, .int 1, .int 1] [] [(0, .ref 21), (1, .int 3), (2, .int 1), (3, .int 1)] (some (.int 1)) hh_a203 0 0 1 22 0 0 268 [.int 1] ap_221 (by decide +kernel) (by decide +kernel) (iv_a637 6 xs zf hz) ?_
  refine mx_B 5 273 [(3, .int 0), (2, .ref 36), (1, .ref 21), (0, .ref 0)] [.int 1, .ref 0, .ref 36, .int 1] (by decide +kernel) ?_
  refine mx_scr 6 1 274 (by decide +kernel) (by decide +kernel) (by decide +kernel) ?_
  refine mx_eq 3 (mx_pt l1 u1 (by decide +kernel)) ?_
  refine mx_B 4 278 [(3, .int 0), (2, .ref 36), (1, .ref 21), (0, .ref 0)] [.int 2, .ref 0, .int 3, .ref 36, .int 1] (by decide +kernel) ?_
  refine mx_scr 6 2 279 (by decide +kernel) (by decide +kernel) (by decide +kernel) ?_
  refine mx_eq 1 (mx_pt l2 u2 (by decide +kernel)) ?_
  refine mx_B 4 283 [(3, .int 0), (2, .ref 36), (1, .ref 21), (0, .ref 0)] [.int 3, .ref 0, .int 1, .int 3, .ref 36, .int 1] (by decide +kernel) ?_
  refine mx_scr 6 3 284 (by decide +kernel) (by decide +kernel) (by decide +kernel) ?_
  refine mx_eq 1 (mx_pt l3 u3 (by decide +kernel)) ?_
  refine mx_call 289 3 [.ref 36, .int 3, .int 1, .int 1] [.int 1] [(0, .ref 36), (1, .int 3), (2, .int 1), (3, .int 1)] (some (.int 1)) hh_a203 0 0 1 21 0 0 287 [.int 1, .int 1] ap_289 (by decide +kernel) (by decide +kernel) (iv_a639 6 xs zf hz) ?_
  refine mx_B 5 20 [(3, .int 6), (2, .ref 36), (1, .ref 21), (0, .ref 0)] [.ref 0, .int 6] (by decide +kernel) ?_
  refine mx_S (.arraylength) 1 [] 21 [(3, .int 6), (2, .ref 36), (1, .ref 21), (0, .ref 0)] [.int 6, .int 6] (by decide +kernel) rfl ?_
  refine mx_B 4 543 [(3, .int 6), (2, .ref 36), (1, .ref 21), (0, .ref 0)] [.int 1] (by decide +kernel) ?_
  exact mx_ret (some (.int 1)) (by decide +kernel) ⟨rfl, rfl⟩
theorem iv_a641 (L : Nat) (xs : Nat → Int32) (zf : Value) (hz : zf.category = 1) : mx_R L xs zf ah_M190 0 [(0, .ref 2), (1, .int 1), (2, .int 2)] [] hh_a203 0 0 0 0 (fun v h' => v = some (.int 0) ∧ h' = hh_a203) := by
  refine mx_B 12 22 [(0, .ref 2), (1, .int 1), (2, .int 2)] [.int 1, .ref 2] (by decide +kernel) ?_
  refine mx_B 5 27 [(0, .ref 2), (1, .int 1), (2, .int 2)] [.int 0] (by decide +kernel) ?_
  exact mx_ret (some (.int 0)) (by decide +kernel) ⟨rfl, rfl⟩
theorem iv_a642 (L : Nat) (xs : Nat → Int32) (zf : Value) (hz : zf.category = 1) : mx_R L xs zf ah_M221 0 [(0, .ref 21), (1, .int 3), (2, .int 1), (3, .int 2)] [] hh_a203 0 0 1 22 (fun v h' => v = some (.int 0) ∧ h' = hh_a203) := by
  refine mx_B 12 79 [(0, .ref 21), (1, .int 3), (2, .int 1), (3, .int 2)] [] (by decide +kernel) ?_
  refine mx_B 3 84 [(0, .ref 21), (1, .int 3), (2, .int 1), (3, .int 2)] [.int 2, .int 1, .ref 2] (by decide +kernel) ?_
  refine mx_call 190 3 [.ref 2, .int 1, .int 2] [] [(0, .ref 2), (1, .int 1), (2, .int 2)] (some (.int 0)) hh_a203 0 0 0 0 0 0 87 [.int 0] ap_190 (by decide +kernel) (by decide +kernel) (iv_a641 L xs zf hz) ?_
  exact mx_ret (some (.int 0)) (by decide +kernel) ⟨rfl, rfl⟩
theorem iv_a643 (L : Nat) (xs : Nat → Int32) (zf : Value) (hz : zf.category = 1) : mx_R L xs zf ah_M293 0 [(0, .int 1), (1, .int 2)] [] hh_a203 0 0 0 0 (fun v h' => v = some (.int 0) ∧ h' = hh_a203) := by
  refine mx_B 12 24 [(0, .int 1), (1, .int 2)] [.int 1] (by decide +kernel) ?_
  refine mx_B 6 38 [(0, .int 1), (1, .int 2)] [.int 0] (by decide +kernel) ?_
  exact mx_ret (some (.int 0)) (by decide +kernel) ⟨rfl, rfl⟩
theorem iv_a644 (L : Nat) (xs : Nat → Int32) (zf : Value) (hz : zf.category = 1) : mx_R L xs zf ah_M289 0 [(0, .ref 36), (1, .int 3), (2, .int 1), (3, .int 2)] [] hh_a203 0 0 1 21 (fun v h' => v = some (.int 0) ∧ h' = hh_a203) := by
  refine mx_B 12 22 [(0, .ref 36), (1, .int 3), (2, .int 1), (3, .int 2)] [] (by decide +kernel) ?_
  refine mx_B 12 72 [(0, .ref 36), (1, .int 3), (2, .int 1), (3, .int 2)] [.int 1] (by decide +kernel) ?_
  refine mx_B 1 73 [(0, .ref 36), (1, .int 3), (2, .int 1), (3, .int 2)] [.int 2, .int 1] (by decide +kernel) ?_
  refine mx_call 293 3 [.int 1, .int 2] [] [(0, .int 1), (1, .int 2)] (some (.int 0)) hh_a203 0 0 0 0 0 0 76 [.int 0] ap_293 (by decide +kernel) (by decide +kernel) (iv_a643 L xs zf hz) ?_
  refine mx_B 2 84 [(0, .ref 36), (1, .int 3), (2, .int 1), (3, .int 2)] [.int 0] (by decide +kernel) ?_
  exact mx_ret (some (.int 0)) (by decide +kernel) ⟨rfl, rfl⟩
theorem iv_a645 (xs : Nat → Int32) (zf : Value) (hz : zf.category = 1) (hk : xs 0 &&& 15 = 5) (l1 : 3 ≤ (xs 1).toInt) (u1 : (xs 1).toInt ≤ 3) (l2 : 1 ≤ (xs 2).toInt) (u2 : (xs 2).toInt ≤ 1) (l3 : 2 ≤ (xs 3).toInt) (u3 : (xs 3).toInt ≤ 2) : mx_R 6 xs zf ah_M0 18 [(3, .int 0), (2, .ref 36), (1, .ref 21), (0, .ref 0)] [] hh_a203 0 0 2 45 (fun v h' => v = some (.int 1) ∧ h' = hh_a203) := by
  refine mx_B 2 20 [(3, .int 0), (2, .ref 36), (1, .ref 21), (0, .ref 0)] [.ref 0, .int 0] (by decide +kernel) ?_
  refine mx_S (.arraylength) 1 [] 21 [(3, .int 0), (2, .ref 36), (1, .ref 21), (0, .ref 0)] [.int 6, .int 0] (by decide +kernel) rfl ?_
  refine mx_B 5 29 [(3, .int 0), (2, .ref 36), (1, .ref 21), (0, .ref 0)] [.int 0, .ref 0] (by decide +kernel) ?_
  refine mx_scr 6 0 30 (by decide +kernel) (by decide +kernel) (by decide +kernel) ?_
  refine mx_S (.bipush 15) 2 [] 32 [(3, .int 0), (2, .ref 36), (1, .ref 21), (0, .ref 0)] [.int 15, .int (xs 0)] (by decide +kernel) rfl ?_
  refine mx_S (.iand) 1 [] 33 [(3, .int 0), (2, .ref 36), (1, .ref 21), (0, .ref 0)] [.int ((xs 0) &&& 15)] (by decide +kernel) rfl ?_
  refine mx_eq 5 hk ?_
  refine mx_B 6 254 [(3, .int 0), (2, .ref 36), (1, .ref 21), (0, .ref 0)] [.int 1, .ref 0, .ref 21] (by decide +kernel) ?_
  refine mx_scr 6 1 255 (by decide +kernel) (by decide +kernel) (by decide +kernel) ?_
  refine mx_eq 3 (mx_pt l1 u1 (by decide +kernel)) ?_
  refine mx_B 4 259 [(3, .int 0), (2, .ref 36), (1, .ref 21), (0, .ref 0)] [.int 2, .ref 0, .int 3, .ref 21] (by decide +kernel) ?_
  refine mx_scr 6 2 260 (by decide +kernel) (by decide +kernel) (by decide +kernel) ?_
  refine mx_eq 1 (mx_pt l2 u2 (by decide +kernel)) ?_
  refine mx_B 4 264 [(3, .int 0), (2, .ref 36), (1, .ref 21), (0, .ref 0)] [.int 3, .ref 0, .int 1, .int 3, .ref 21] (by decide +kernel) ?_
  refine mx_scr 6 3 265 (by decide +kernel) (by decide +kernel) (by decide +kernel) ?_
  refine mx_eq 2 (mx_pt l3 u3 (by decide +kernel)) ?_
  refine mx_call 221 3 [.ref 21, .int 3, .int 1, .int 2] [] [(0, .ref 21), (1, .int 3), (2, .int 1), (3, .int 2)] (some (.int 0)) hh_a203 0 0 1 22 0 0 268 [.int 0] ap_221 (by decide +kernel) (by decide +kernel) (iv_a642 6 xs zf hz) ?_
  refine mx_B 5 273 [(3, .int 0), (2, .ref 36), (1, .ref 21), (0, .ref 0)] [.int 1, .ref 0, .ref 36, .int 0] (by decide +kernel) ?_
  refine mx_scr 6 1 274 (by decide +kernel) (by decide +kernel) (by decide +kernel) ?_
  refine mx_eq 3 (mx_pt l1 u1 (by decide +kernel)) ?_
  refine mx_B 4 278 [(3, .int 0), (2, .ref 36), (1, .ref 21), (0, .ref 0)] [.int 2, .ref 0, .int 3, .ref 36, .int 0] (by decide +kernel) ?_
  refine mx_scr 6 2 279 (by decide +kernel) (by decide +kernel) (by decide +kernel) ?_
  refine mx_eq 1 (mx_pt l2 u2 (by decide +kernel)) ?_
  refine mx_B 4 283 [(3, .int 0), (2, .ref 36), (1, .ref 21), (0, .ref 0)] [.int 3, .ref 0, .int 1, .int 3, .ref 36, .int 0] (by decide +kernel) ?_
  refine mx_scr 6 3 284 (by decide +kernel) (by decide +kernel) (by decide +kernel) ?_
  refine mx_eq 2 (mx_pt l3 u3 (by decide +kernel)) ?_
  refine mx_call 289 3 [.ref 36, .int 3, .int 1, .int 2] [.int 0] [(0, .ref 36), (1, .int 3), (2, .int 1), (3, .int 2)] (some (.int 0)) hh_a203 0 0 1 21 0 0 287 [.int 0, .int 0] ap_289 (by decide +kernel) (by decide +kernel) (iv_a644 6 xs zf hz) ?_
  refine mx_B 5 20 [(3, .int 6), (2, .ref 36), (1, .ref 21), (0, .ref 0)] [.ref 0, .int 6] (by decide +kernel) ?_
  refine mx_S (.arraylength) 1 [] 21 [(3, .int 6), (2, .ref 36), (1, .ref 21), (0, .ref 0)] [.int 6, .int 6] (by decide +kernel) rfl ?_
  refine mx_B 4 543 [(3, .int 6), (2, .ref 36), (1, .ref 21), (0, .ref 0)] [.int 1] (by decide +kernel) ?_
  exact mx_ret (some (.int 1)) (by decide +kernel) ⟨rfl, rfl⟩
theorem iv_a646 (L : Nat) (xs : Nat → Int32) (zf : Value) (hz : zf.category = 1) : mx_R L xs zf ah_M190 0 [(0, .ref 2), (1, .int 1), (2, .int 3)] [] hh_a203 0 0 0 0 (fun v h' => v = some (.int 1) ∧ h' = hh_a203) := by
  refine mx_B 12 22 [(0, .ref 2), (1, .int 1), (2, .int 3)] [.int 1, .ref 2] (by decide +kernel) ?_
  refine mx_B 5 27 [(0, .ref 2), (1, .int 1), (2, .int 3)] [.int 1] (by decide +kernel) ?_
  exact mx_ret (some (.int 1)) (by decide +kernel) ⟨rfl, rfl⟩
theorem iv_a647 (L : Nat) (xs : Nat → Int32) (zf : Value) (hz : zf.category = 1) : mx_R L xs zf ah_M221 0 [(0, .ref 21), (1, .int 3), (2, .int 1), (3, .int 3)] [] hh_a203 0 0 1 22 (fun v h' => v = some (.int 1) ∧ h' = hh_a203) := by
  refine mx_B 12 79 [(0, .ref 21), (1, .int 3), (2, .int 1), (3, .int 3)] [] (by decide +kernel) ?_
  refine mx_B 3 84 [(0, .ref 21), (1, .int 3), (2, .int 1), (3, .int 3)] [.int 3, .int 1, .ref 2] (by decide +kernel) ?_
  refine mx_call 190 3 [.ref 2, .int 1, .int 3] [] [(0, .ref 2), (1, .int 1), (2, .int 3)] (some (.int 1)) hh_a203 0 0 0 0 0 0 87 [.int 1] ap_190 (by decide +kernel) (by decide +kernel) (iv_a646 L xs zf hz) ?_
  exact mx_ret (some (.int 1)) (by decide +kernel) ⟨rfl, rfl⟩
theorem iv_a648 (L : Nat) (xs : Nat → Int32) (zf : Value) (hz : zf.category = 1) : mx_R L xs zf ah_M293 0 [(0, .int 1), (1, .int 3)] [] hh_a203 0 0 0 0 (fun v h' => v = some (.int 1) ∧ h' = hh_a203) := by
  refine mx_B 12 34 [(0, .int 1), (1, .int 3)] [.int 1] (by decide +kernel) ?_
  refine mx_B 1 38 [(0, .int 1), (1, .int 3)] [.int 1] (by decide +kernel) ?_
  exact mx_ret (some (.int 1)) (by decide +kernel) ⟨rfl, rfl⟩
theorem iv_a649 (L : Nat) (xs : Nat → Int32) (zf : Value) (hz : zf.category = 1) : mx_R L xs zf ah_M289 0 [(0, .ref 36), (1, .int 3), (2, .int 1), (3, .int 3)] [] hh_a203 0 0 1 21 (fun v h' => v = some (.int 1) ∧ h' = hh_a203) := by
  refine mx_B 12 22 [(0, .ref 36), (1, .int 3), (2, .int 1), (3, .int 3)] [] (by decide +kernel) ?_
  refine mx_B 12 72 [(0, .ref 36), (1, .int 3), (2, .int 1), (3, .int 3)] [.int 1] (by decide +kernel) ?_
  refine mx_B 1 73 [(0, .ref 36), (1, .int 3), (2, .int 1), (3, .int 3)] [.int 3, .int 1] (by decide +kernel) ?_
  refine mx_call 293 3 [.int 1, .int 3] [] [(0, .int 1), (1, .int 3)] (some (.int 1)) hh_a203 0 0 0 0 0 0 76 [.int 1] ap_293 (by decide +kernel) (by decide +kernel) (iv_a648 L xs zf hz) ?_
  refine mx_B 3 84 [(0, .ref 36), (1, .int 3), (2, .int 1), (3, .int 3)] [.int 1] (by decide +kernel) ?_
  exact mx_ret (some (.int 1)) (by decide +kernel) ⟨rfl, rfl⟩
theorem iv_a650 (xs : Nat → Int32) (zf : Value) (hz : zf.category = 1) (hk : xs 0 &&& 15 = 5) (l1 : 3 ≤ (xs 1).toInt) (u1 : (xs 1).toInt ≤ 3) (l2 : 1 ≤ (xs 2).toInt) (u2 : (xs 2).toInt ≤ 1) (l3 : 3 ≤ (xs 3).toInt) (u3 : (xs 3).toInt ≤ 3) : mx_R 6 xs zf ah_M0 18 [(3, .int 0), (2, .ref 36), (1, .ref 21), (0, .ref 0)] [] hh_a203 0 0 2 45 (fun v h' => v = some (.int 1) ∧ h' = hh_a203) := by
  refine mx_B 2 20 [(3, .int 0), (2, .ref 36), (1, .ref 21), (0, .ref 0)] [.ref 0, .int 0] (by decide +kernel) ?_
  refine mx_S (.arraylength) 1 [] 21 [(3, .int 0), (2, .ref 36), (1, .ref 21), (0, .ref 0)] [.int 6, .int 0] (by decide +kernel) rfl ?_
  refine mx_B 5 29 [(3, .int 0), (2, .ref 36), (1, .ref 21), (0, .ref 0)] [.int 0, .ref 0] (by decide +kernel) ?_
  refine mx_scr 6 0 30 (by decide +kernel) (by decide +kernel) (by decide +kernel) ?_
  refine mx_S (.bipush 15) 2 [] 32 [(3, .int 0), (2, .ref 36), (1, .ref 21), (0, .ref 0)] [.int 15, .int (xs 0)] (by decide +kernel) rfl ?_
  refine mx_S (.iand) 1 [] 33 [(3, .int 0), (2, .ref 36), (1, .ref 21), (0, .ref 0)] [.int ((xs 0) &&& 15)] (by decide +kernel) rfl ?_
  refine mx_eq 5 hk ?_
  refine mx_B 6 254 [(3, .int 0), (2, .ref 36), (1, .ref 21), (0, .ref 0)] [.int 1, .ref 0, .ref 21] (by decide +kernel) ?_
  refine mx_scr 6 1 255 (by decide +kernel) (by decide +kernel) (by decide +kernel) ?_
  refine mx_eq 3 (mx_pt l1 u1 (by decide +kernel)) ?_
  refine mx_B 4 259 [(3, .int 0), (2, .ref 36), (1, .ref 21), (0, .ref 0)] [.int 2, .ref 0, .int 3, .ref 21] (by decide +kernel) ?_
  refine mx_scr 6 2 260 (by decide +kernel) (by decide +kernel) (by decide +kernel) ?_
  refine mx_eq 1 (mx_pt l2 u2 (by decide +kernel)) ?_
  refine mx_B 4 264 [(3, .int 0), (2, .ref 36), (1, .ref 21), (0, .ref 0)] [.int 3, .ref 0, .int 1, .int 3, .ref 21] (by decide +kernel) ?_
  refine mx_scr 6 3 265 (by decide +kernel) (by decide +kernel) (by decide +kernel) ?_
  refine mx_eq 3 (mx_pt l3 u3 (by decide +kernel)) ?_
  refine mx_call 221 3 [.ref 21, .int 3, .int 1, .int 3] [] [(0, .ref 21), (1, .int 3), (2, .int 1), (3, .int 3)] (some (.int 1)) hh_a203 0 0 1 22 0 0 268 [.int 1] ap_221 (by decide +kernel) (by decide +kernel) (iv_a647 6 xs zf hz) ?_
  refine mx_B 5 273 [(3, .int 0), (2, .ref 36), (1, .ref 21), (0, .ref 0)] [.int 1, .ref 0, .ref 36, .int 1] (by decide +kernel) ?_
  refine mx_scr 6 1 274 (by decide +kernel) (by decide +kernel) (by decide +kernel) ?_
  refine mx_eq 3 (mx_pt l1 u1 (by decide +kernel)) ?_
  refine mx_B 4 278 [(3, .int 0), (2, .ref 36), (1, .ref 21), (0, .ref 0)] [.int 2, .ref 0, .int 3, .ref 36, .int 1] (by decide +kernel) ?_
  refine mx_scr 6 2 279 (by decide +kernel) (by decide +kernel) (by decide +kernel) ?_
  refine mx_eq 1 (mx_pt l2 u2 (by decide +kernel)) ?_
  refine mx_B 4 283 [(3, .int 0), (2, .ref 36), (1, .ref 21), (0, .ref 0)] [.int 3, .ref 0, .int 1, .int 3, .ref 36, .int 1] (by decide +kernel) ?_
  refine mx_scr 6 3 284 (by decide +kernel) (by decide +kernel) (by decide +kernel) ?_
  refine mx_eq 3 (mx_pt l3 u3 (by decide +kernel)) ?_
  refine mx_call 289 3 [.ref 36, .int 3, .int 1, .int 3] [.int 1] [(0, .ref 36), (1, .int 3), (2, .int 1), (3, .int 3)] (some (.int 1)) hh_a203 0 0 1 21 0 0 287 [.int 1, .int 1] ap_289 (by decide +kernel) (by decide +kernel) (iv_a649 6 xs zf hz) ?_
  refine mx_B 5 20 [(3, .int 6), (2, .ref 36), (1, .ref 21), (0, .ref 0)] [.ref 0, .int 6] (by decide +kernel) ?_
  refine mx_S (.arraylength) 1 [] 21 [(3, .int 6), (2, .ref 36), (1, .ref 21), (0, .ref 0)] [.int 6, .int 6] (by decide +kernel) rfl ?_
  refine mx_B 4 543 [(3, .int 6), (2, .ref 36), (1, .ref 21), (0, .ref 0)] [.int 1] (by decide +kernel) ?_
  exact mx_ret (some (.int 1)) (by decide +kernel) ⟨rfl, rfl⟩
theorem iv_a651 (L : Nat) (xs : Nat → Int32) (zf : Value) (hz : zf.category = 1) : mx_R L xs zf ah_M190 0 [(0, .ref 2), (1, .int 1), (2, .int 4)] [] hh_a203 0 0 0 0 (fun v h' => v = some (.int 0) ∧ h' = hh_a203) := by
  refine mx_B 12 22 [(0, .ref 2), (1, .int 1), (2, .int 4)] [.int 1, .ref 2] (by decide +kernel) ?_
  refine mx_B 5 27 [(0, .ref 2), (1, .int 1), (2, .int 4)] [.int 0] (by decide +kernel) ?_
  exact mx_ret (some (.int 0)) (by decide +kernel) ⟨rfl, rfl⟩
theorem iv_a652 (L : Nat) (xs : Nat → Int32) (zf : Value) (hz : zf.category = 1) : mx_R L xs zf ah_M221 0 [(0, .ref 21), (1, .int 3), (2, .int 1), (3, .int 4)] [] hh_a203 0 0 1 22 (fun v h' => v = some (.int 0) ∧ h' = hh_a203) := by
  refine mx_B 12 79 [(0, .ref 21), (1, .int 3), (2, .int 1), (3, .int 4)] [] (by decide +kernel) ?_
  refine mx_B 3 84 [(0, .ref 21), (1, .int 3), (2, .int 1), (3, .int 4)] [.int 4, .int 1, .ref 2] (by decide +kernel) ?_
  refine mx_call 190 3 [.ref 2, .int 1, .int 4] [] [(0, .ref 2), (1, .int 1), (2, .int 4)] (some (.int 0)) hh_a203 0 0 0 0 0 0 87 [.int 0] ap_190 (by decide +kernel) (by decide +kernel) (iv_a651 L xs zf hz) ?_
  exact mx_ret (some (.int 0)) (by decide +kernel) ⟨rfl, rfl⟩
theorem iv_a653 (L : Nat) (xs : Nat → Int32) (zf : Value) (hz : zf.category = 1) : mx_R L xs zf ah_M293 0 [(0, .int 1), (1, .int 4)] [] hh_a203 0 0 0 0 (fun v h' => v = some (.int 0) ∧ h' = hh_a203) := by
  refine mx_B 12 24 [(0, .int 1), (1, .int 4)] [.int 1] (by decide +kernel) ?_
  refine mx_B 6 38 [(0, .int 1), (1, .int 4)] [.int 0] (by decide +kernel) ?_
  exact mx_ret (some (.int 0)) (by decide +kernel) ⟨rfl, rfl⟩
theorem iv_a654 (L : Nat) (xs : Nat → Int32) (zf : Value) (hz : zf.category = 1) : mx_R L xs zf ah_M289 0 [(0, .ref 36), (1, .int 3), (2, .int 1), (3, .int 4)] [] hh_a203 0 0 1 21 (fun v h' => v = some (.int 0) ∧ h' = hh_a203) := by
  refine mx_B 12 22 [(0, .ref 36), (1, .int 3), (2, .int 1), (3, .int 4)] [] (by decide +kernel) ?_
  refine mx_B 12 72 [(0, .ref 36), (1, .int 3), (2, .int 1), (3, .int 4)] [.int 1] (by decide +kernel) ?_
  refine mx_B 1 73 [(0, .ref 36), (1, .int 3), (2, .int 1), (3, .int 4)] [.int 4, .int 1] (by decide +kernel) ?_
  refine mx_call 293 3 [.int 1, .int 4] [] [(0, .int 1), (1, .int 4)] (some (.int 0)) hh_a203 0 0 0 0 0 0 76 [.int 0] ap_293 (by decide +kernel) (by decide +kernel) (iv_a653 L xs zf hz) ?_
  refine mx_B 2 84 [(0, .ref 36), (1, .int 3), (2, .int 1), (3, .int 4)] [.int 0] (by decide +kernel) ?_
  exact mx_ret (some (.int 0)) (by decide +kernel) ⟨rfl, rfl⟩
theorem iv_a655 (xs : Nat → Int32) (zf : Value) (hz : zf.category = 1) (hk : xs 0 &&& 15 = 5) (l1 : 3 ≤ (xs 1).toInt) (u1 : (xs 1).toInt ≤ 3) (l2 : 1 ≤ (xs 2).toInt) (u2 : (xs 2).toInt ≤ 1) (l3 : 4 ≤ (xs 3).toInt) (u3 : (xs 3).toInt ≤ 4) : mx_R 6 xs zf ah_M0 18 [(3, .int 0), (2, .ref 36), (1, .ref 21), (0, .ref 0)] [] hh_a203 0 0 2 45 (fun v h' => v = some (.int 1) ∧ h' = hh_a203) := by
  refine mx_B 2 20 [(3, .int 0), (2, .ref 36), (1, .ref 21), (0, .ref 0)] [.ref 0, .int 0] (by decide +kernel) ?_
  refine mx_S (.arraylength) 1 [] 21 [(3, .int 0), (2, .ref 36), (1, .ref 21), (0, .ref 0)] [.int 6, .int 0] (by decide +kernel) rfl ?_
  refine mx_B 5 29 [(3, .int 0), (2, .ref 36), (1, .ref 21), (0, .ref 0)] [.int 0, .ref 0] (by decide +kernel) ?_
  refine mx_scr 6 0 30 (by decide +kernel) (by decide +kernel) (by decide +kernel) ?_
  refine mx_S (.bipush 15) 2 [] 32 [(3, .int 0), (2, .ref 36), (1, .ref 21), (0, .ref 0)] [.int 15, .int (xs 0)] (by decide +kernel) rfl ?_
  refine mx_S (.iand) 1 [] 33 [(3, .int 0), (2, .ref 36), (1, .ref 21), (0, .ref 0)] [.int ((xs 0) &&& 15)] (by decide +kernel) rfl ?_
  refine mx_eq 5 hk ?_
  refine mx_B 6 254 [(3, .int 0), (2, .ref 36), (1, .ref 21), (0, .ref 0)] [.int 1, .ref 0, .ref 21] (by decide +kernel) ?_
  refine mx_scr 6 1 255 (by decide +kernel) (by decide +kernel) (by decide +kernel) ?_
  refine mx_eq 3 (mx_pt l1 u1 (by decide +kernel)) ?_
  refine mx_B 4 259 [(3, .int 0), (2, .ref 36), (1, .ref 21), (0, .ref 0)] [.int 2, .ref 0, .int 3, .ref 21] (by decide +kernel) ?_
  refine mx_scr 6 2 260 (by decide +kernel) (by decide +kernel) (by decide +kernel) ?_
  refine mx_eq 1 (mx_pt l2 u2 (by decide +kernel)) ?_
  refine mx_B 4 264 [(3, .int 0), (2, .ref 36), (1, .ref 21), (0, .ref 0)] [.int 3, .ref 0, .int 1, .int 3, .ref 21] (by decide +kernel) ?_
  refine mx_scr 6 3 265 (by decide +kernel) (by decide +kernel) (by decide +kernel) ?_
  refine mx_eq 4 (mx_pt l3 u3 (by decide +kernel)) ?_
  refine mx_call 221 3 [.ref 21, .int 3, .int 1, .int 4] [] [(0, .ref 21), (1, .int 3), (2, .int 1), (3, .int 4)] (some (.int 0)) hh_a203 0 0 1 22 0 0 268 [.int 0] ap_221 (by decide +kernel) (by decide +kernel) (iv_a652 6 xs zf hz) ?_
  refine mx_B 5 273 [(3, .int 0), (2, .ref 36), (1, .ref 21), (0, .ref 0)] [.int 1, .ref 0, .ref 36, .int 0] (by decide +kernel) ?_
  refine mx_scr 6 1 274 (by decide +kernel) (by decide +kernel) (by decide +kernel) ?_
  refine mx_eq 3 (mx_pt l1 u1 (by decide +kernel)) ?_
  refine mx_B 4 278 [(3, .int 0), (2, .ref 36), (1, .ref 21), (0, .ref 0)] [.int 2, .ref 0, .int 3, .ref 36, .int 0] (by decide +kernel) ?_
  refine mx_scr 6 2 279 (by decide +kernel) (by decide +kernel) (by decide +kernel) ?_
  refine mx_eq 1 (mx_pt l2 u2 (by decide +kernel)) ?_
  refine mx_B 4 283 [(3, .int 0), (2, .ref 36), (1, .ref 21), (0, .ref 0)] [.int 3, .ref 0, .int 1, .int 3, .ref 36, .int 0] (by decide +kernel) ?_
  refine mx_scr 6 3 284 (by decide +kernel) (by decide +kernel) (by decide +kernel) ?_
  refine mx_eq 4 (mx_pt l3 u3 (by decide +kernel)) ?_
  refine mx_call 289 3 [.ref 36, .int 3, .int 1, .int 4] [.int 0] [(0, .ref 36), (1, .int 3), (2, .int 1), (3, .int 4)] (some (.int 0)) hh_a203 0 0 1 21 0 0 287 [.int 0, .int 0] ap_289 (by decide +kernel) (by decide +kernel) (iv_a654 6 xs zf hz) ?_
  refine mx_B 5 20 [(3, .int 6), (2, .ref 36), (1, .ref 21), (0, .ref 0)] [.ref 0, .int 6] (by decide +kernel) ?_
  refine mx_S (.arraylength) 1 [] 21 [(3, .int 6), (2, .ref 36), (1, .ref 21), (0, .ref 0)] [.int 6, .int 6] (by decide +kernel) rfl ?_
  refine mx_B 4 543 [(3, .int 6), (2, .ref 36), (1, .ref 21), (0, .ref 0)] [.int 1] (by decide +kernel) ?_
  exact mx_ret (some (.int 1)) (by decide +kernel) ⟨rfl, rfl⟩
theorem iv_a656 (L : Nat) (xs : Nat → Int32) (zf : Value) (hz : zf.category = 1) : mx_R L xs zf ah_M190 0 [(0, .ref 2), (1, .int 2), (2, .int 0)] [] hh_a203 0 0 0 0 (fun v h' => v = some (.int 1) ∧ h' = hh_a203) := by
  refine mx_B 12 22 [(0, .ref 2), (1, .int 2), (2, .int 0)] [.int 2, .ref 2] (by decide +kernel) ?_
  refine mx_B 5 27 [(0, .ref 2), (1, .int 2), (2, .int 0)] [.int 1] (by decide +kernel) ?_
  exact mx_ret (some (.int 1)) (by decide +kernel) ⟨rfl, rfl⟩
theorem iv_a657 (L : Nat) (xs : Nat → Int32) (zf : Value) (hz : zf.category = 1) : mx_R L xs zf ah_M221 0 [(0, .ref 21), (1, .int 3), (2, .int 2), (3, .int 0)] [] hh_a203 0 0 1 22 (fun v h' => v = some (.int 1) ∧ h' = hh_a203) := by
  refine mx_B 12 79 [(0, .ref 21), (1, .int 3), (2, .int 2), (3, .int 0)] [] (by decide +kernel) ?_
  refine mx_B 3 84 [(0, .ref 21), (1, .int 3), (2, .int 2), (3, .int 0)] [.int 0, .int 2, .ref 2] (by decide +kernel) ?_
  refine mx_call 190 3 [.ref 2, .int 2, .int 0] [] [(0, .ref 2), (1, .int 2), (2, .int 0)] (some (.int 1)) hh_a203 0 0 0 0 0 0 87 [.int 1] ap_190 (by decide +kernel) (by decide +kernel) (iv_a656 L xs zf hz) ?_
  exact mx_ret (some (.int 1)) (by decide +kernel) ⟨rfl, rfl⟩
theorem iv_a658 (L : Nat) (xs : Nat → Int32) (zf : Value) (hz : zf.category = 1) : mx_R L xs zf ah_M293 0 [(0, .int 2), (1, .int 0)] [] hh_a203 0 0 0 0 (fun v h' => v = some (.int 1) ∧ h' = hh_a203) := by
  refine mx_B 5 38 [(0, .int 2), (1, .int 0)] [.int 1] (by decide +kernel) ?_
  exact mx_ret (some (.int 1)) (by decide +kernel) ⟨rfl, rfl⟩
theorem iv_a659 (L : Nat) (xs : Nat → Int32) (zf : Value) (hz : zf.category = 1) : mx_R L xs zf ah_M289 0 [(0, .ref 36), (1, .int 3), (2, .int 2), (3, .int 0)] [] hh_a203 0 0 1 21 (fun v h' => v = some (.int 1) ∧ h' = hh_a203) := by
  refine mx_B 12 22 [(0, .ref 36), (1, .int 3), (2, .int 2), (3, .int 0)] [] (by decide +kernel) ?_
  refine mx_B 12 72 [(0, .ref 36), (1, .int 3), (2, .int 2), (3, .int 0)] [.int 2] (by decide +kernel) ?_
  refine mx_B 1 73 [(0, .ref 36), (1, .int 3), (2, .int 2), (3, .int 0)] [.int 0, .int 2] (by decide +kernel) ?_
  refine mx_call 293 3 [.int 2, .int 0] [] [(0, .int 2), (1, .int 0)] (some (.int 1)) hh_a203 0 0 0 0 0 0 76 [.int 1] ap_293 (by decide +kernel) (by decide +kernel) (iv_a658 L xs zf hz) ?_
  refine mx_B 3 84 [(0, .ref 36), (1, .int 3), (2, .int 2), (3, .int 0)] [.int 1] (by decide +kernel) ?_
  exact mx_ret (some (.int 1)) (by decide +kernel) ⟨rfl, rfl⟩
theorem iv_a660 (xs : Nat → Int32) (zf : Value) (hz : zf.category = 1) (hk : xs 0 &&& 15 = 5) (l1 : 3 ≤ (xs 1).toInt) (u1 : (xs 1).toInt ≤ 3) (l2 : 2 ≤ (xs 2).toInt) (u2 : (xs 2).toInt ≤ 2) (l3 : 0 ≤ (xs 3).toInt) (u3 : (xs 3).toInt ≤ 0) : mx_R 6 xs zf ah_M0 18 [(3, .int 0), (2, .ref 36), (1, .ref 21), (0, .ref 0)] [] hh_a203 0 0 2 45 (fun v h' => v = some (.int 1) ∧ h' = hh_a203) := by
  refine mx_B 2 20 [(3, .int 0), (2, .ref 36), (1, .ref 21), (0, .ref 0)] [.ref 0, .int 0] (by decide +kernel) ?_
  refine mx_S (.arraylength) 1 [] 21 [(3, .int 0), (2, .ref 36), (1, .ref 21), (0, .ref 0)] [.int 6, .int 0] (by decide +kernel) rfl ?_
  refine mx_B 5 29 [(3, .int 0), (2, .ref 36), (1, .ref 21), (0, .ref 0)] [.int 0, .ref 0] (by decide +kernel) ?_
  refine mx_scr 6 0 30 (by decide +kernel) (by decide +kernel) (by decide +kernel) ?_
  refine mx_S (.bipush 15) 2 [] 32 [(3, .int 0), (2, .ref 36), (1, .ref 21), (0, .ref 0)] [.int 15, .int (xs 0)] (by decide +kernel) rfl ?_
  refine mx_S (.iand) 1 [] 33 [(3, .int 0), (2, .ref 36), (1, .ref 21), (0, .ref 0)] [.int ((xs 0) &&& 15)] (by decide +kernel) rfl ?_
  refine mx_eq 5 hk ?_
  refine mx_B 6 254 [(3, .int 0), (2, .ref 36), (1, .ref 21), (0, .ref 0)] [.int 1, .ref 0, .ref 21] (by decide +kernel) ?_
  refine mx_scr 6 1 255 (by decide +kernel) (by decide +kernel) (by decide +kernel) ?_
  refine mx_eq 3 (mx_pt l1 u1 (by decide +kernel)) ?_
  refine mx_B 4 259 [(3, .int 0), (2, .ref 36), (1, .ref 21), (0, .ref 0)] [.int 2, .ref 0, .int 3, .ref 21] (by decide +kernel) ?_
  refine mx_scr 6 2 260 (by decide +kernel) (by decide +kernel) (by decide +kernel) ?_
  refine mx_eq 2 (mx_pt l2 u2 (by decide +kernel)) ?_
  refine mx_B 4 264 [(3, .int 0), (2, .ref 36), (1, .ref 21), (0, .ref 0)] [.int 3, .ref 0, .int 2, .int 3, .ref 21] (by decide +kernel) ?_
  refine mx_scr 6 3 265 (by decide +kernel) (by decide +kernel) (by decide +kernel) ?_
  refine mx_eq 0 (mx_pt l3 u3 (by decide +kernel)) ?_
  refine mx_call 221 3 [.ref 21, .int 3, .int 2, .int 0] [] [(0, .ref 21), (1, .int 3), (2, .int 2), (3, .int 0)] (some (.int 1)) hh_a203 0 0 1 22 0 0 268 [.int 1] ap_221 (by decide +kernel) (by decide +kernel) (iv_a657 6 xs zf hz) ?_
  refine mx_B 5 273 [(3, .int 0), (2, .ref 36), (1, .ref 21), (0, .ref 0)] [.int 1, .ref 0, .ref 36, .int 1] (by decide +kernel) ?_
  refine mx_scr 6 1 274 (by decide +kernel) (by decide +kernel) (by decide +kernel) ?_
  refine mx_eq 3 (mx_pt l1 u1 (by decide +kernel)) ?_
  refine mx_B 4 278 [(3, .int 0), (2, .ref 36), (1, .ref 21), (0, .ref 0)] [.int 2, .ref 0, .int 3, .ref 36, .int 1] (by decide +kernel) ?_
  refine mx_scr 6 2 279 (by decide +kernel) (by decide +kernel) (by decide +kernel) ?_
  refine mx_eq 2 (mx_pt l2 u2 (by decide +kernel)) ?_
  refine mx_B 4 283 [(3, .int 0), (2, .ref 36), (1, .ref 21), (0, .ref 0)] [.int 3, .ref 0, .int 2, .int 3, .ref 36, .int 1] (by decide +kernel) ?_
  refine mx_scr 6 3 284 (by decide +kernel) (by decide +kernel) (by decide +kernel) ?_
  refine mx_eq 0 (mx_pt l3 u3 (by decide +kernel)) ?_
  refine mx_call 289 3 [.ref 36, .int 3, .int 2, .int 0] [.int 1] [(0, .ref 36), (1, .int 3), (2, .int 2), (3, .int 0)] (some (.int 1)) hh_a203 0 0 1 21 0 0 287 [.int 1, .int 1] ap_289 (by decide +kernel) (by decide +kernel) (iv_a659 6 xs zf hz) ?_
  refine mx_B 5 20 [(3, .int 6), (2, .ref 36), (1, .ref 21), (0, .ref 0)] [.ref 0, .int 6] (by decide +kernel) ?_
  refine mx_S (.arraylength) 1 [] 21 [(3, .int 6), (2, .ref 36), (1, .ref 21), (0, .ref 0)] [.int 6, .int 6] (by decide +kernel) rfl ?_
  refine mx_B 4 543 [(3, .int 6), (2, .ref 36), (1, .ref 21), (0, .ref 0)] [.int 1] (by decide +kernel) ?_
  exact mx_ret (some (.int 1)) (by decide +kernel) ⟨rfl, rfl⟩
theorem iv_a661 (L : Nat) (xs : Nat → Int32) (zf : Value) (hz : zf.category = 1) : mx_R L xs zf ah_M190 0 [(0, .ref 2), (1, .int 2), (2, .int 1)] [] hh_a203 0 0 0 0 (fun v h' => v = some (.int 1) ∧ h' = hh_a203) := by
  refine mx_B 12 22 [(0, .ref 2), (1, .int 2), (2, .int 1)] [.int 2, .ref 2] (by decide +kernel) ?_
  refine mx_B 5 27 [(0, .ref 2), (1, .int 2), (2, .int 1)] [.int 1] (by decide +kernel) ?_
  exact mx_ret (some (.int 1)) (by decide +kernel) ⟨rfl, rfl⟩
theorem iv_a662 (L : Nat) (xs : Nat → Int32) (zf : Value) (hz : zf.category = 1) : mx_R L xs zf ah_M221 0 [(0, .ref 21), (1, .int 3), (2, .int 2), (3, .int 1)] [] hh_a203 0 0 1 22 (fun v h' => v = some (.int 1) ∧ h' = hh_a203) := by
  refine mx_B 12 79 [(0, .ref 21), (1, .int 3), (2, .int 2), (3, .int 1)] [] (by decide +kernel) ?_
  refine mx_B 3 84 [(0, .ref 21), (1, .int 3), (2, .int 2), (3, .int 1)] [.int 1, .int 2, .ref 2] (by decide +kernel) ?_
  refine mx_call 190 3 [.ref 2, .int 2, .int 1] [] [(0, .ref 2), (1, .int 2), (2, .int 1)] (some (.int 1)) hh_a203 0 0 0 0 0 0 87 [.int 1] ap_190 (by decide +kernel) (by decide +kernel) (iv_a661 L xs zf hz) ?_
  exact mx_ret (some (.int 1)) (by decide +kernel) ⟨rfl, rfl⟩
theorem iv_a663 (L : Nat) (xs : Nat → Int32) (zf : Value) (hz : zf.category = 1) : mx_R L xs zf ah_M293 0 [(0, .int 2), (1, .int 1)] [] hh_a203 0 0 0 0 (fun v h' => v = some (.int 1) ∧ h' = hh_a203) := by
  refine mx_B 5 38 [(0, .int 2), (1, .int 1)] [.int 1] (by decide +kernel) ?_
  exact mx_ret (some (.int 1)) (by decide +kernel) ⟨rfl, rfl⟩
theorem iv_a664 (L : Nat) (xs : Nat → Int32) (zf : Value) (hz : zf.category = 1) : mx_R L xs zf ah_M289 0 [(0, .ref 36), (1, .int 3), (2, .int 2), (3, .int 1)] [] hh_a203 0 0 1 21 (fun v h' => v = some (.int 1) ∧ h' = hh_a203) := by
  refine mx_B 12 22 [(0, .ref 36), (1, .int 3), (2, .int 2), (3, .int 1)] [] (by decide +kernel) ?_
  refine mx_B 12 72 [(0, .ref 36), (1, .int 3), (2, .int 2), (3, .int 1)] [.int 2] (by decide +kernel) ?_
  refine mx_B 1 73 [(0, .ref 36), (1, .int 3), (2, .int 2), (3, .int 1)] [.int 1, .int 2] (by decide +kernel) ?_
  refine mx_call 293 3 [.int 2, .int 1] [] [(0, .int 2), (1, .int 1)] (some (.int 1)) hh_a203 0 0 0 0 0 0 76 [.int 1] ap_293 (by decide +kernel) (by decide +kernel) (iv_a663 L xs zf hz) ?_
  refine mx_B 3 84 [(0, .ref 36), (1, .int 3), (2, .int 2), (3, .int 1)] [.int 1] (by decide +kernel) ?_
  exact mx_ret (some (.int 1)) (by decide +kernel) ⟨rfl, rfl⟩
theorem iv_a665 (xs : Nat → Int32) (zf : Value) (hz : zf.category = 1) (hk : xs 0 &&& 15 = 5) (l1 : 3 ≤ (xs 1).toInt) (u1 : (xs 1).toInt ≤ 3) (l2 : 2 ≤ (xs 2).toInt) (u2 : (xs 2).toInt ≤ 2) (l3 : 1 ≤ (xs 3).toInt) (u3 : (xs 3).toInt ≤ 1) : mx_R 6 xs zf ah_M0 18 [(3, .int 0), (2, .ref 36), (1, .ref 21), (0, .ref 0)] [] hh_a203 0 0 2 45 (fun v h' => v = some (.int 1) ∧ h' = hh_a203) := by
  refine mx_B 2 20 [(3, .int 0), (2, .ref 36), (1, .ref 21), (0, .ref 0)] [.ref 0, .int 0] (by decide +kernel) ?_
  refine mx_S (.arraylength) 1 [] 21 [(3, .int 0), (2, .ref 36), (1, .ref 21), (0, .ref 0)] [.int 6, .int 0] (by decide +kernel) rfl ?_
  refine mx_B 5 29 [(3, .int 0), (2, .ref 36), (1, .ref 21), (0, .ref 0)] [.int 0, .ref 0] (by decide +kernel) ?_
  refine mx_scr 6 0 30 (by decide +kernel) (by decide +kernel) (by decide +kernel) ?_
  refine mx_S (.bipush 15) 2 [] 32 [(3, .int 0), (2, .ref 36), (1, .ref 21), (0, .ref 0)] [.int 15, .int (xs 0)] (by decide +kernel) rfl ?_
  refine mx_S (.iand) 1 [] 33 [(3, .int 0), (2, .ref 36), (1, .ref 21), (0, .ref 0)] [.int ((xs 0) &&& 15)] (by decide +kernel) rfl ?_
  refine mx_eq 5 hk ?_
  refine mx_B 6 254 [(3, .int 0), (2, .ref 36), (1, .ref 21), (0, .ref 0)] [.int 1, .ref 0, .ref 21] (by decide +kernel) ?_
  refine mx_scr 6 1 255 (by decide +kernel) (by decide +kernel) (by decide +kernel) ?_
  refine mx_eq 3 (mx_pt l1 u1 (by decide +kernel)) ?_
  refine mx_B 4 259 [(3, .int 0), (2, .ref 36), (1, .ref 21), (0, .ref 0)] [.int 2, .ref 0, .int 3, .ref 21] (by decide +kernel) ?_
  refine mx_scr 6 2 260 (by decide +kernel) (by decide +kernel) (by decide +kernel) ?_
  refine mx_eq 2 (mx_pt l2 u2 (by decide +kernel)) ?_
  refine mx_B 4 264 [(3, .int 0), (2, .ref 36), (1, .ref 21), (0, .ref 0)] [.int 3, .ref 0, .int 2, .int 3, .ref 21] (by decide +kernel) ?_
  refine mx_scr 6 3 265 (by decide +kernel) (by decide +kernel) (by decide +kernel) ?_
  refine mx_eq 1 (mx_pt l3 u3 (by decide +kernel)) ?_
  refine mx_call 221 3 [.ref 21, .int 3, .int 2, .int 1] [] [(0, .ref 21), (1, .int 3), (2, .int 2), (3, .int 1)] (some (.int 1)) hh_a203 0 0 1 22 0 0 268 [.int 1] ap_221 (by decide +kernel) (by decide +kernel) (iv_a662 6 xs zf hz) ?_
  refine mx_B 5 273 [(3, .int 0), (2, .ref 36), (1, .ref 21), (0, .ref 0)] [.int 1, .ref 0, .ref 36, .int 1] (by decide +kernel) ?_
  refine mx_scr 6 1 274 (by decide +kernel) (by decide +kernel) (by decide +kernel) ?_
  refine mx_eq 3 (mx_pt l1 u1 (by decide +kernel)) ?_
  refine mx_B 4 278 [(3, .int 0), (2, .ref 36), (1, .ref 21), (0, .ref 0)] [.int 2, .ref 0, .int 3, .ref 36, .int 1] (by decide +kernel) ?_
  refine mx_scr 6 2 279 (by decide +kernel) (by decide +kernel) (by decide +kernel) ?_
  refine mx_eq 2 (mx_pt l2 u2 (by decide +kernel)) ?_
  refine mx_B 4 283 [(3, .int 0), (2, .ref 36), (1, .ref 21), (0, .ref 0)] [.int 3, .ref 0, .int 2, .int 3, .ref 36, .int 1] (by decide +kernel) ?_
  refine mx_scr 6 3 284 (by decide +kernel) (by decide +kernel) (by decide +kernel) ?_
  refine mx_eq 1 (mx_pt l3 u3 (by decide +kernel)) ?_
  refine mx_call 289 3 [.ref 36, .int 3, .int 2, .int 1] [.int 1] [(0, .ref 36), (1, .int 3), (2, .int 2), (3, .int 1)] (some (.int 1)) hh_a203 0 0 1 21 0 0 287 [.int 1, .int 1] ap_289 (by decide +kernel) (by decide +kernel) (iv_a664 6 xs zf hz) ?_
  refine mx_B 5 20 [(3, .int 6), (2, .ref 36), (1, .ref 21), (0, .ref 0)] [.ref 0, .int 6] (by decide +kernel) ?_
  refine mx_S (.arraylength) 1 [] 21 [(3, .int 6), (2, .ref 36), (1, .ref 21), (0, .ref 0)] [.int 6, .int 6] (by decide +kernel) rfl ?_
  refine mx_B 4 543 [(3, .int 6), (2, .ref 36), (1, .ref 21), (0, .ref 0)] [.int 1] (by decide +kernel) ?_
  exact mx_ret (some (.int 1)) (by decide +kernel) ⟨rfl, rfl⟩
theorem iv_a666 (L : Nat) (xs : Nat → Int32) (zf : Value) (hz : zf.category = 1) : mx_R L xs zf ah_M190 0 [(0, .ref 2), (1, .int 2), (2, .int 2)] [] hh_a203 0 0 0 0 (fun v h' => v = some (.int 1) ∧ h' = hh_a203) := by
  refine mx_B 12 22 [(0, .ref 2), (1, .int 2), (2, .int 2)] [.int 2, .ref 2] (by decide +kernel) ?_
  refine mx_B 5 27 [(0, .ref 2), (1, .int 2), (2, .int 2)] [.int 1] (by decide +kernel) ?_
  exact mx_ret (some (.int 1)) (by decide +kernel) ⟨rfl, rfl⟩
theorem iv_a667 (L : Nat) (xs : Nat → Int32) (zf : Value) (hz : zf.category = 1) : mx_R L xs zf ah_M221 0 [(0, .ref 21), (1, .int 3), (2, .int 2), (3, .int 2)] [] hh_a203 0 0 1 22 (fun v h' => v = some (.int 1) ∧ h' = hh_a203) := by
  refine mx_B 12 79 [(0, .ref 21), (1, .int 3), (2, .int 2), (3, .int 2)] [] (by decide +kernel) ?_
  refine mx_B 3 84 [(0, .ref 21), (1, .int 3), (2, .int 2), (3, .int 2)] [.int 2, .int 2, .ref 2] (by decide +kernel) ?_
  refine mx_call 190 3 [.ref 2, .int 2, .int 2] [] [(0, .ref 2), (1, .int 2), (2, .int 2)] (some (.int 1)) hh_a203 0 0 0 0 0 0 87 [.int 1] ap_190 (by decide +kernel) (by decide +kernel) (iv_a666 L xs zf hz) ?_
  exact mx_ret (some (.int 1)) (by decide +kernel) ⟨rfl, rfl⟩
theorem iv_a668 (L : Nat) (xs : Nat → Int32) (zf : Value) (hz : zf.category = 1) : mx_R L xs zf ah_M293 0 [(0, .int 2), (1, .int 2)] [] hh_a203 0 0 0 0 (fun v h' => v = some (.int 1) ∧ h' = hh_a203) := by
  refine mx_B 5 38 [(0, .int 2), (1, .int 2)] [.int 1] (by decide +kernel) ?_
  exact mx_ret (some (.int 1)) (by decide +kernel) ⟨rfl, rfl⟩
theorem iv_a669 (L : Nat) (xs : Nat → Int32) (zf : Value) (hz : zf.category = 1) : mx_R L xs zf ah_M289 0 [(0, .ref 36), (1, .int 3), (2, .int 2), (3, .int 2)] [] hh_a203 0 0 1 21 (fun v h' => v = some (.int 1) ∧ h' = hh_a203) := by
  refine mx_B 12 22 [(0, .ref 36), (1, .int 3), (2, .int 2), (3, .int 2)] [] (by decide +kernel) ?_
  refine mx_B 12 72 [(0, .ref 36), (1, .int 3), (2, .int 2), (3, .int 2)] [.int 2] (by decide +kernel) ?_
  refine mx_B 1 73 [(0, .ref 36), (1, .int 3), (2, .int 2), (3, .int 2)] [.int 2, .int 2] (by decide +kernel) ?_
  refine mx_call 293 3 [.int 2, .int 2] [] [(0, .int 2), (1, .int 2)] (some (.int 1)) hh_a203 0 0 0 0 0 0 76 [.int 1] ap_293 (by decide +kernel) (by decide +kernel) (iv_a668 L xs zf hz) ?_
  refine mx_B 3 84 [(0, .ref 36), (1, .int 3), (2, .int 2), (3, .int 2)] [.int 1] (by decide +kernel) ?_
  exact mx_ret (some (.int 1)) (by decide +kernel) ⟨rfl, rfl⟩
theorem iv_a670 (xs : Nat → Int32) (zf : Value) (hz : zf.category = 1) (hk : xs 0 &&& 15 = 5) (l1 : 3 ≤ (xs 1).toInt) (u1 : (xs 1).toInt ≤ 3) (l2 : 2 ≤ (xs 2).toInt) (u2 : (xs 2).toInt ≤ 2) (l3 : 2 ≤ (xs 3).toInt) (u3 : (xs 3).toInt ≤ 2) : mx_R 6 xs zf ah_M0 18 [(3, .int 0), (2, .ref 36), (1, .ref 21), (0, .ref 0)] [] hh_a203 0 0 2 45 (fun v h' => v = some (.int 1) ∧ h' = hh_a203) := by
  refine mx_B 2 20 [(3, .int 0), (2, .ref 36), (1, .ref 21), (0, .ref 0)] [.ref 0, .int 0] (by decide +kernel) ?_
  refine mx_S (.arraylength) 1 [] 21 [(3, .int 0), (2, .ref 36), (1, .ref 21), (0, .ref 0)] [.int 6, .int 0] (by decide +kernel) rfl ?_
  refine mx_B 5 29 [(3, .int 0), (2, .ref 36), (1, .ref 21), (0, .ref 0)] [.int 0, .ref 0] (by decide +kernel) ?_
  refine mx_scr 6 0 30 (by decide +kernel) (by decide +kernel) (by decide +kernel) ?_
  refine mx_S (.bipush 15) 2 [] 32 [(3, .int 0), (2, .ref 36), (1, .ref 21), (0, .ref 0)] [.int 15, .int (xs 0)] (by decide +kernel) rfl ?_
  refine mx_S (.iand) 1 [] 33 [(3, .int 0), (2, .ref 36), (1, .ref 21), (0, .ref 0)] [.int ((xs 0) &&& 15)] (by decide +kernel) rfl ?_
  refine mx_eq 5 hk ?_
  refine mx_B 6 254 [(3, .int 0), (2, .ref 36), (1, .ref 21), (0, .ref 0)] [.int 1, .ref 0, .ref 21] (by decide +kernel) ?_
  refine mx_scr 6 1 255 (by decide +kernel) (by decide +kernel) (by decide +kernel) ?_
  refine mx_eq 3 (mx_pt l1 u1 (by decide +kernel)) ?_
  refine mx_B 4 259 [(3, .int 0), (2, .ref 36), (1, .ref 21), (0, .ref 0)] [.int 2, .ref 0, .int 3, .ref 21] (by decide +kernel) ?_
  refine mx_scr 6 2 260 (by decide +kernel) (by decide +kernel) (by decide +kernel) ?_
  refine mx_eq 2 (mx_pt l2 u2 (by decide +kernel)) ?_
  refine mx_B 4 264 [(3, .int 0), (2, .ref 36), (1, .ref 21), (0, .ref 0)] [.int 3, .ref 0, .int 2, .int 3, .ref 21] (by decide +kernel) ?_
  refine mx_scr 6 3 265 (by decide +kernel) (by decide +kernel) (by decide +kernel) ?_
  refine mx_eq 2 (mx_pt l3 u3 (by decide +kernel)) ?_
  refine mx_call 221 3 [.ref 21, .int 3, .int 2, .int 2] [] [(0, .ref 21), (1, .int 3), (2, .int 2), (3, .int 2)] (some (.int 1)) hh_a203 0 0 1 22 0 0 268 [.int 1] ap_221 (by decide +kernel) (by decide +kernel) (iv_a667 6 xs zf hz) ?_
  refine mx_B 5 273 [(3, .int 0), (2, .ref 36), (1, .ref 21), (0, .ref 0)] [.int 1, .ref 0, .ref 36, .int 1] (by decide +kernel) ?_
  refine mx_scr 6 1 274 (by decide +kernel) (by decide +kernel) (by decide +kernel) ?_
  refine mx_eq 3 (mx_pt l1 u1 (by decide +kernel)) ?_
  refine mx_B 4 278 [(3, .int 0), (2, .ref 36), (1, .ref 21), (0, .ref 0)] [.int 2, .ref 0, .int 3, .ref 36, .int 1] (by decide +kernel) ?_
  refine mx_scr 6 2 279 (by decide +kernel) (by decide +kernel) (by decide +kernel) ?_
  refine mx_eq 2 (mx_pt l2 u2 (by decide +kernel)) ?_
  refine mx_B 4 283 [(3, .int 0), (2, .ref 36), (1, .ref 21), (0, .ref 0)] [.int 3, .ref 0, .int 2, .int 3, .ref 36, .int 1] (by decide +kernel) ?_
  refine mx_scr 6 3 284 (by decide +kernel) (by decide +kernel) (by decide +kernel) ?_
  refine mx_eq 2 (mx_pt l3 u3 (by decide +kernel)) ?_
  refine mx_call 289 3 [.ref 36, .int 3, .int 2, .int 2] [.int 1] [(0, .ref 36), (1, .int 3), (2, .int 2), (3, .int 2)] (some (.int 1)) hh_a203 0 0 1 21 0 0 287 [.int 1, .int 1] ap_289 (by decide +kernel) (by decide +kernel) (iv_a669 6 xs zf hz) ?_
  refine mx_B 5 20 [(3, .int 6), (2, .ref 36), (1, .ref 21), (0, .ref 0)] [.ref 0, .int 6] (by decide +kernel) ?_
  refine mx_S (.arraylength) 1 [] 21 [(3, .int 6), (2, .ref 36), (1, .ref 21), (0, .ref 0)] [.int 6, .int 6] (by decide +kernel) rfl ?_
  refine mx_B 4 543 [(3, .int 6), (2, .ref 36), (1, .ref 21), (0, .ref 0)] [.int 1] (by decide +kernel) ?_
  exact mx_ret (some (.int 1)) (by decide +kernel) ⟨rfl, rfl⟩
theorem iv_a671 (L : Nat) (xs : Nat → Int32) (zf : Value) (hz : zf.category = 1) : mx_R L xs zf ah_M190 0 [(0, .ref 2), (1, .int 2), (2, .int 3)] [] hh_a203 0 0 0 0 (fun v h' => v = some (.int 1) ∧ h' = hh_a203) := by
  refine mx_B 12 22 [(0, .ref 2), (1, .int 2), (2, .int 3)] [.int 2, .ref 2] (by decide +kernel) ?_
  refine mx_B 5 27 [(0, .ref 2), (1, .int 2), (2, .int 3)] [.int 1] (by decide +kernel) ?_
  exact mx_ret (some (.int 1)) (by decide +kernel) ⟨rfl, rfl⟩
theorem iv_a672 (L : Nat) (xs : Nat → Int32) (zf : Value) (hz : zf.category = 1) : mx_R L xs zf ah_M221 0 [(0, .ref 21), (1, .int 3), (2, .int 2), (3, .int 3)] [] hh_a203 0 0 1 22 (fun v h' => v = some (.int 1) ∧ h' = hh_a203) := by
  refine mx_B 12 79 [(0, .ref 21), (1, .int 3), (2, .int 2), (3, .int 3)] [] (by decide +kernel) ?_
  refine mx_B 3 84 [(0, .ref 21), (1, .int 3), (2, .int 2), (3, .int 3)] [.int 3, .int 2, .ref 2] (by decide +kernel) ?_
  refine mx_call 190 3 [.ref 2, .int 2, .int 3] [] [(0, .ref 2), (1, .int 2), (2, .int 3)] (some (.int 1)) hh_a203 0 0 0 0 0 0 87 [.int 1] ap_190 (by decide +kernel) (by decide +kernel) (iv_a671 L xs zf hz) ?_
  exact mx_ret (some (.int 1)) (by decide +kernel) ⟨rfl, rfl⟩
theorem iv_a673 (L : Nat) (xs : Nat → Int32) (zf : Value) (hz : zf.category = 1) : mx_R L xs zf ah_M293 0 [(0, .int 2), (1, .int 3)] [] hh_a203 0 0 0 0 (fun v h' => v = some (.int 1) ∧ h' = hh_a203) := by
  refine mx_B 5 38 [(0, .int 2), (1, .int 3)] [.int 1] (by decide +kernel) ?_
  exact mx_ret (some (.int 1)) (by decide +kernel) ⟨rfl, rfl⟩
theorem iv_a674 (L : Nat) (xs : Nat → Int32) (zf : Value) (hz : zf.category = 1) : mx_R L xs zf ah_M289 0 [(0, .ref 36), (1, .int 3), (2, .int 2), (3, .int 3)] [] hh_a203 0 0 1 21 (fun v h' => v = some (.int 1) ∧ h' = hh_a203) := by
  refine mx_B 12 22 [(0, .ref 36), (1, .int 3), (2, .int 2), (3, .int 3)] [] (by decide +kernel) ?_
  refine mx_B 12 72 [(0, .ref 36), (1, .int 3), (2, .int 2), (3, .int 3)] [.int 2] (by decide +kernel) ?_
  refine mx_B 1 73 [(0, .ref 36), (1, .int 3), (2, .int 2), (3, .int 3)] [.int 3, .int 2] (by decide +kernel) ?_
  refine mx_call 293 3 [.int 2, .int 3] [] [(0, .int 2), (1, .int 3)] (some (.int 1)) hh_a203 0 0 0 0 0 0 76 [.int 1] ap_293 (by decide +kernel) (by decide +kernel) (iv_a673 L xs zf hz) ?_
  refine mx_B 3 84 [(0, .ref 36), (1, .int 3), (2, .int 2), (3, .int 3)] [.int 1] (by decide +kernel) ?_
  exact mx_ret (some (.int 1)) (by decide +kernel) ⟨rfl, rfl⟩
theorem iv_a675 (xs : Nat → Int32) (zf : Value) (hz : zf.category = 1) (hk : xs 0 &&& 15 = 5) (l1 : 3 ≤ (xs 1).toInt) (u1 : (xs 1).toInt ≤ 3) (l2 : 2 ≤ (xs 2).toInt) (u2 : (xs 2).toInt ≤ 2) (l3 : 3 ≤ (xs 3).toInt) (u3 : (xs 3).toInt ≤ 3) : mx_R 6 xs zf ah_M0 18 [(3, .int 0), (2, .ref 36), (1, .ref 21), (0, .ref 0)] [] hh_a203 0 0 2 45 (fun v h' => v = some (.int 1) ∧ h' = hh_a203) := by
  refine mx_B 2 20 [(3, .int 0), (2, .ref 36), (1, .ref 21), (0, .ref 0)] [.ref 0, .int 0] (by decide +kernel) ?_
  refine mx_S (.arraylength) 1 [] 21 [(3, .int 0), (2, .ref 36), (1, .ref 21), (0, .ref 0)] [.int 6, .int 0] (by decide +kernel) rfl ?_
  refine mx_B 5 29 [(3, .int 0), (2, .ref 36), (1, .ref 21), (0, .ref 0)] [.int 0, .ref 0] (by decide +kernel) ?_
  refine mx_scr 6 0 30 (by decide +kernel) (by decide +kernel) (by decide +kernel) ?_
  refine mx_S (.bipush 15) 2 [] 32 [(3, .int 0), (2, .ref 36), (1, .ref 21), (0, .ref 0)] [.int 15, .int (xs 0)] (by decide +kernel) rfl ?_
  refine mx_S (.iand) 1 [] 33 [(3, .int 0), (2, .ref 36), (1, .ref 21), (0, .ref 0)] [.int ((xs 0) &&& 15)] (by decide +kernel) rfl ?_
  refine mx_eq 5 hk ?_
  refine mx_B 6 254 [(3, .int 0), (2, .ref 36), (1, .ref 21), (0, .ref 0)] [.int 1, .ref 0, .ref 21] (by decide +kernel) ?_
  refine mx_scr 6 1 255 (by decide +kernel) (by decide +kernel) (by decide +kernel) ?_
  refine mx_eq 3 (mx_pt l1 u1 (by decide +kernel)) ?_
  refine mx_B 4 259 [(3, .int 0), (2, .ref 36), (1, .ref 21), (0, .ref 0)] [.int 2, .ref 0, .int 3, .ref 21] (by decide +kernel) ?_
  refine mx_scr 6 2 260 (by decide +kernel) (by decide +kernel) (by decide +kernel) ?_
  refine mx_eq 2 (mx_pt l2 u2 (by decide +kernel)) ?_
  refine mx_B 4 264 [(3, .int 0), (2, .ref 36), (1, .ref 21), (0, .ref 0)] [.int 3, .ref 0, .int 2, .int 3, .ref 21] (by decide +kernel) ?_
  refine mx_scr 6 3 265 (by decide +kernel) (by decide +kernel) (by decide +kernel) ?_
  refine mx_eq 3 (mx_pt l3 u3 (by decide +kernel)) ?_
  refine mx_call 221 3 [.ref 21, .int 3, .int 2, .int 3] [] [(0, .ref 21), (1, .int 3), (2, .int 2), (3, .int 3)] (some (.int 1)) hh_a203 0 0 1 22 0 0 268 [.int 1] ap_221 (by decide +kernel) (by decide +kernel) (iv_a672 6 xs zf hz) ?_
  refine mx_B 5 273 [(3, .int 0), (2, .ref 36), (1, .ref 21), (0, .ref 0)] [.int 1, .ref 0, .ref 36, .int 1] (by decide +kernel) ?_
  refine mx_scr 6 1 274 (by decide +kernel) (by decide +kernel) (by decide +kernel) ?_
  refine mx_eq 3 (mx_pt l1 u1 (by decide +kernel)) ?_
  refine mx_B 4 278 [(3, .int 0), (2, .ref 36), (1, .ref 21), (0, .ref 0)] [.int 2, .ref 0, .int 3, .ref 36, .int 1] (by decide +kernel) ?_
  refine mx_scr 6 2 279 (by decide +kernel) (by decide +kernel) (by decide +kernel) ?_
  refine mx_eq 2 (mx_pt l2 u2 (by decide +kernel)) ?_
  refine mx_B 4 283 [(3, .int 0), (2, .ref 36), (1, .ref 21), (0, .ref 0)] [.int 3, .ref 0, .int 2, .int 3, .ref 36, .int 1] (by decide +kernel) ?_
  refine mx_scr 6 3 284 (by decide +kernel) (by decide +kernel) (by decide +kernel) ?_
  refine mx_eq 3 (mx_pt l3 u3 (by decide +kernel)) ?_
  refine mx_call 289 3 [.ref 36, .int 3, .int 2, .int 3] [.int 1] [(0, .ref 36), (1, .int 3), (2, .int 2), (3, .int 3)] (some (.int 1)) hh_a203 0 0 1 21 0 0 287 [.int 1, .int 1] ap_289 (by decide +kernel) (by decide +kernel) (iv_a674 6 xs zf hz) ?_
  refine mx_B 5 20 [(3, .int 6), (2, .ref 36), (1, .ref 21), (0, .ref 0)] [.ref 0, .int 6] (by decide +kernel) ?_
  refine mx_S (.arraylength) 1 [] 21 [(3, .int 6), (2, .ref 36), (1, .ref 21), (0, .ref 0)] [.int 6, .int 6] (by decide +kernel) rfl ?_
  refine mx_B 4 543 [(3, .int 6), (2, .ref 36), (1, .ref 21), (0, .ref 0)] [.int 1] (by decide +kernel) ?_
  exact mx_ret (some (.int 1)) (by decide +kernel) ⟨rfl, rfl⟩
theorem iv_a676 (L : Nat) (xs : Nat → Int32) (zf : Value) (hz : zf.category = 1) : mx_R L xs zf ah_M190 0 [(0, .ref 2), (1, .int 2), (2, .int 4)] [] hh_a203 0 0 0 0 (fun v h' => v = some (.int 1) ∧ h' = hh_a203) := by
  refine mx_B 12 22 [(0, .ref 2), (1, .int 2), (2, .int 4)] [.int 2, .ref 2] (by decide +kernel) ?_
  refine mx_B 5 27 [(0, .ref 2), (1, .int 2), (2, .int 4)] [.int 1] (by decide +kernel) ?_
  exact mx_ret (some (.int 1)) (by decide +kernel) ⟨rfl, rfl⟩
theorem iv_a677 (L : Nat) (xs : Nat → Int32) (zf : Value) (hz : zf.category = 1) : mx_R L xs zf ah_M221 0 [(0, .ref 21), (1, .int 3), (2, .int 2), (3, .int 4)] [] hh_a203 0 0 1 22 (fun v h' => v = some (.int 1) ∧ h' = hh_a203) := by
  refine mx_B 12 79 [(0, .ref 21), (1, .int 3), (2, .int 2), (3, .int 4)] [] (by decide +kernel) ?_
  refine mx_B 3 84 [(0, .ref 21), (1, .int 3), (2, .int 2), (3, .int 4)] [.int 4, .int 2, .ref 2] (by decide +kernel) ?_
  refine mx_call 190 3 [.ref 2, .int 2, .int 4] [] [(0, .ref 2), (1, .int 2), (2, .int 4)] (some (.int 1)) hh_a203 0 0 0 0 0 0 87 [.int 1] ap_190 (by decide +kernel) (by decide +kernel) (iv_a676 L xs zf hz) ?_
  exact mx_ret (some (.int 1)) (by decide +kernel) ⟨rfl, rfl⟩
theorem iv_a678 (L : Nat) (xs : Nat → Int32) (zf : Value) (hz : zf.category = 1) : mx_R L xs zf ah_M293 0 [(0, .int 2), (1, .int 4)] [] hh_a203 0 0 0 0 (fun v h' => v = some (.int 1) ∧ h' = hh_a203) := by
  refine mx_B 5 38 [(0, .int 2), (1, .int 4)] [.int 1] (by decide +kernel) ?_
  exact mx_ret (some (.int 1)) (by decide +kernel) ⟨rfl, rfl⟩
theorem iv_a679 (L : Nat) (xs : Nat → Int32) (zf : Value) (hz : zf.category = 1) : mx_R L xs zf ah_M289 0 [(0, .ref 36), (1, .int 3), (2, .int 2), (3, .int 4)] [] hh_a203 0 0 1 21 (fun v h' => v = some (.int 1) ∧ h' = hh_a203) := by
  refine mx_B 12 22 [(0, .ref 36), (1, .int 3), (2, .int 2), (3, .int 4)] [] (by decide +kernel) ?_
  refine mx_B 12 72 [(0, .ref 36), (1, .int 3), (2, .int 2), (3, .int 4)] [.int 2] (by decide +kernel) ?_
  refine mx_B 1 73 [(0, .ref 36), (1, .int 3), (2, .int 2), (3, .int 4)] [.int 4, .int 2] (by decide +kernel) ?_
  refine mx_call 293 3 [.int 2, .int 4] [] [(0, .int 2), (1, .int 4)] (some (.int 1)) hh_a203 0 0 0 0 0 0 76 [.int 1] ap_293 (by decide +kernel) (by decide +kernel) (iv_a678 L xs zf hz) ?_
  refine mx_B 3 84 [(0, .ref 36), (1, .int 3), (2, .int 2), (3, .int 4)] [.int 1] (by decide +kernel) ?_
  exact mx_ret (some (.int 1)) (by decide +kernel) ⟨rfl, rfl⟩
theorem iv_a680 (xs : Nat → Int32) (zf : Value) (hz : zf.category = 1) (hk : xs 0 &&& 15 = 5) (l1 : 3 ≤ (xs 1).toInt) (u1 : (xs 1).toInt ≤ 3) (l2 : 2 ≤ (xs 2).toInt) (u2 : (xs 2).toInt ≤ 2) (l3 : 4 ≤ (xs 3).toInt) (u3 : (xs 3).toInt ≤ 4) : mx_R 6 xs zf ah_M0 18 [(3, .int 0), (2, .ref 36), (1, .ref 21), (0, .ref 0)] [] hh_a203 0 0 2 45 (fun v h' => v = some (.int 1) ∧ h' = hh_a203) := by
  refine mx_B 2 20 [(3, .int 0), (2, .ref 36), (1, .ref 21), (0, .ref 0)] [.ref 0, .int 0] (by decide +kernel) ?_
  refine mx_S (.arraylength) 1 [] 21 [(3, .int 0), (2, .ref 36), (1, .ref 21), (0, .ref 0)] [.int 6, .int 0] (by decide +kernel) rfl ?_
  refine mx_B 5 29 [(3, .int 0), (2, .ref 36), (1, .ref 21), (0, .ref 0)] [.int 0, .ref 0] (by decide +kernel) ?_
  refine mx_scr 6 0 30 (by decide +kernel) (by decide +kernel) (by decide +kernel) ?_
  refine mx_S (.bipush 15) 2 [] 32 [(3, .int 0), (2, .ref 36), (1, .ref 21), (0, .ref 0)] [.int 15, .int (xs 0)] (by decide +kernel) rfl ?_
  refine mx_S (.iand) 1 [] 33 [(3, .int 0), (2, .ref 36), (1, .ref 21), (0, .ref 0)] [.int ((xs 0) &&& 15)] (by decide +kernel) rfl ?_
  refine mx_eq 5 hk ?_
  refine mx_B 6 254 [(3, .int 0), (2, .ref 36), (1, .ref 21), (0, .ref 0)] [.int 1, .ref 0, .ref 21] (by decide +kernel) ?_
  refine mx_scr 6 1 255 (by decide +kernel) (by decide +kernel) (by decide +kernel) ?_
  refine mx_eq 3 (mx_pt l1 u1 (by decide +kernel)) ?_
  refine mx_B 4 259 [(3, .int 0), (2, .ref 36), (1, .ref 21), (0, .ref 0)] [.int 2, .ref 0, .int 3, .ref 21] (by decide +kernel) ?_
  refine mx_scr 6 2 260 (by decide +kernel) (by decide +kernel) (by decide +kernel) ?_
  refine mx_eq 2 (mx_pt l2 u2 (by decide +kernel)) ?_
  refine mx_B 4 264 [(3, .int 0), (2, .ref 36), (1, .ref 21), (0, .ref 0)] [.int 3, .ref 0, .int 2, .int 3, .ref 21] (by decide +kernel) ?_
  refine mx_scr 6 3 265 (by decide +kernel) (by decide +kernel) (by decide +kernel) ?_
  refine mx_eq 4 (mx_pt l3 u3 (by decide +kernel)) ?_
  refine mx_call 221 3 [.ref 21, .int 3, .int 2, .int 4] [] [(0, .ref 21), (1, .int 3), (2, .int 2), (3, .int 4)] (some (.int 1)) hh_a203 0 0 1 22 0 0 268 [.int 1] ap_221 (by decide +kernel) (by decide +kernel) (iv_a677 6 xs zf hz) ?_
  refine mx_B 5 273 [(3, .int 0), (2, .ref 36), (1, .ref 21), (0, .ref 0)] [.int 1, .ref 0, .ref 36, .int 1] (by decide +kernel) ?_
  refine mx_scr 6 1 274 (by decide +kernel) (by decide +kernel) (by decide +kernel) ?_
  refine mx_eq 3 (mx_pt l1 u1 (by decide +kernel)) ?_
  refine mx_B 4 278 [(3, .int 0), (2, .ref 36), (1, .ref 21), (0, .ref 0)] [.int 2, .ref 0, .int 3, .ref 36, .int 1] (by decide +kernel) ?_
  refine mx_scr 6 2 279 (by decide +kernel) (by decide +kernel) (by decide +kernel) ?_
  refine mx_eq 2 (mx_pt l2 u2 (by decide +kernel)) ?_
  refine mx_B 4 283 [(3, .int 0), (2, .ref 36), (1, .ref 21), (0, .ref 0)] [.int 3, .ref 0, .int 2, .int 3, .ref 36, .int 1] (by decide +kernel) ?_
  refine mx_scr 6 3 284 (by decide +kernel) (by decide +kernel) (by decide +kernel) ?_
  refine mx_eq 4 (mx_pt l3 u3 (by decide +kernel)) ?_
  refine mx_call 289 3 [.ref 36, .int 3, .int 2, .int 4] [.int 1] [(0, .ref 36), (1, .int 3), (2, .int 2), (3, .int 4)] (some (.int 1)) hh_a203 0 0 1 21 0 0 287 [.int 1, .int 1] ap_289 (by decide +kernel) (by decide +kernel) (iv_a679 6 xs zf hz) ?_
  refine mx_B 5 20 [(3, .int 6), (2, .ref 36), (1, .ref 21), (0, .ref 0)] [.ref 0, .int 6] (by decide +kernel) ?_
  refine mx_S (.arraylength) 1 [] 21 [(3, .int 6), (2, .ref 36), (1, .ref 21), (0, .ref 0)] [.int 6, .int 6] (by decide +kernel) rfl ?_
  refine mx_B 4 543 [(3, .int 6), (2, .ref 36), (1, .ref 21), (0, .ref 0)] [.int 1] (by decide +kernel) ?_
  exact mx_ret (some (.int 1)) (by decide +kernel) ⟨rfl, rfl⟩
theorem iv_a681 (L : Nat) (xs : Nat → Int32) (zf : Value) (hz : zf.category = 1) : mx_R L xs zf ah_M190 0 [(0, .ref 2), (1, .int 3), (2, .int 0)] [] hh_a203 0 0 0 0 (fun v h' => v = some (.int 0) ∧ h' = hh_a203) := by
  refine mx_B 12 22 [(0, .ref 2), (1, .int 3), (2, .int 0)] [.int 3, .ref 2] (by decide +kernel) ?_
  refine mx_B 5 27 [(0, .ref 2), (1, .int 3), (2, .int 0)] [.int 0] (by decide +kernel) ?_
  exact mx_ret (some (.int 0)) (by decide +kernel) ⟨rfl, rfl⟩
theorem iv_a682 (L : Nat) (xs : Nat → Int32) (zf : Value) (hz : zf.category = 1) : mx_R L xs zf ah_M221 0 [(0, .ref 21), (1, .int 3), (2, .int 3), (3, .int 0)] [] hh_a203 0 0 1 22 (fun v h' => v = some (.int 0) ∧ h' = hh_a203) := by
  refine mx_B 12 79 [(0, .ref 21), (1, .int 3), (2, .int 3), (3, .int 0)] [] (by decide +kernel) ?_
  refine mx_B 3 84 [(0, .ref 21), (1, .int 3), (2, .int 3), (3, .int 0)] [.int 0, .int 3, .ref 2] (by decide +kernel) ?_
  refine mx_call 190 3 [.ref 2, .int 3, .int 0] [] [(0, .ref 2), (1, .int 3), (2, .int 0)] (some (.int 0)) hh_a203 0 0 0 0 0 0 87 [.int 0] ap_190 (by decide +kernel) (by decide +kernel) (iv_a681 L xs zf hz) ?_
  exact mx_ret (some (.int 0)) (by decide +kernel) ⟨rfl, rfl⟩
theorem iv_a683 (L : Nat) (xs : Nat → Int32) (zf : Value) (hz : zf.category = 1) : mx_R L xs zf ah_M293 0 [(0, .int 3), (1, .int 0)] [] hh_a203 0 0 0 0 (fun v h' => v = some (.int 0) ∧ h' = hh_a203) := by
  refine mx_B 12 38 [(0, .int 3), (1, .int 0)] [.int 0] (by decide +kernel) ?_
  exact mx_ret (some (.int 0)) (by decide +kernel) ⟨rfl, rfl⟩
theorem iv_a684 (L : Nat) (xs : Nat → Int32) (zf : Value) (hz : zf.category = 1) : mx_R L xs zf ah_M289 0 [(0, .ref 36), (1, .int 3), (2, .int 3), (3, .int 0)] [] hh_a203 0 0 1 21 (fun v h' => v = some (.int 0) ∧ h' = hh_a203) := by
  refine mx_B 12 22 [(0, .ref 36), (1, .int 3), (2, .int 3), (3, .int 0)] [] (by decide +kernel) ?_
  refine mx_B 12 72 [(0, .ref 36), (1, .int 3), (2, .int 3), (3, .int 0)] [.int 3] (by decide +kernel) ?_
  refine mx_B 1 73 [(0, .ref 36), (1, .int 3), (2, .int 3), (3, .int 0)] [.int 0, .int 3] (by decide +kernel) ?_
  refine mx_call 293 3 [.int 3, .int 0] [] [(0, .int 3), (1, .int 0)] (some (.int 0)) hh_a203 0 0 0 0 0 0 76 [.int 0] ap_293 (by decide +kernel) (by decide +kernel) (iv_a683 L xs zf hz) ?_
  refine mx_B 2 84 [(0, .ref 36), (1, .int 3), (2, .int 3), (3, .int 0)] [.int 0] (by decide +kernel) ?_
  exact mx_ret (some (.int 0)) (by decide +kernel) ⟨rfl, rfl⟩
theorem iv_a685 (xs : Nat → Int32) (zf : Value) (hz : zf.category = 1) (hk : xs 0 &&& 15 = 5) (l1 : 3 ≤ (xs 1).toInt) (u1 : (xs 1).toInt ≤ 3) (l2 : 3 ≤ (xs 2).toInt) (u2 : (xs 2).toInt ≤ 3) (l3 : 0 ≤ (xs 3).toInt) (u3 : (xs 3).toInt ≤ 0) : mx_R 6 xs zf ah_M0 18 [(3, .int 0), (2, .ref 36), (1, .ref 21), (0, .ref 0)] [] hh_a203 0 0 2 45 (fun v h' => v = some (.int 1) ∧ h' = hh_a203) := by
  refine mx_B 2 20 [(3, .int 0), (2, .ref 36), (1, .ref 21), (0, .ref 0)] [.ref 0, .int 0] (by decide +kernel) ?_
  refine mx_S (.arraylength) 1 [] 21 [(3, .int 0), (2, .ref 36), (1, .ref 21), (0, .ref 0)] [.int 6, .int 0] (by decide +kernel) rfl ?_
  refine mx_B 5 29 [(3, .int 0), (2, .ref 36), (1, .ref 21), (0, .ref 0)] [.int 0, .ref 0] (by decide +kernel) ?_
  refine mx_scr 6 0 30 (by decide +kernel) (by decide +kernel) (by decide +kernel) ?_
  refine mx_S (.bipush 15) 2 [] 32 [(3, .int 0), (2, .ref 36), (1, .ref 21), (0, .ref 0)] [.int 15, .int (xs 0)] (by decide +kernel) rfl ?_
  refine mx_S (.iand) 1 [] 33 [(3, .int 0), (2, .ref 36), (1, .ref 21), (0, .ref 0)] [.int ((xs 0) &&& 15)] (by decide +kernel) rfl ?_
  refine mx_eq 5 hk ?_
  refine mx_B 6 254 [(3, .int 0), (2, .ref 36), (1, .ref 21), (0, .ref 0)] [.int 1, .ref 0, .ref 21] (by decide +kernel) ?_
  refine mx_scr 6 1 255 (by decide +kernel) (by decide +kernel) (by decide +kernel) ?_
  refine mx_eq 3 (mx_pt l1 u1 (by decide +kernel)) ?_
  refine mx_B 4 259 [(3, .int 0), (2, .ref 36), (1, .ref 21), (0, .ref 0)] [.int 2, .ref 0, .int 3, .ref 21] (by decide +kernel) ?_
  refine mx_scr 6 2 260 (by decide +kernel) (by decide +kernel) (by decide +kernel) ?_
  refine mx_eq 3 (mx_pt l2 u2 (by decide +kernel)) ?_
  refine mx_B 4 264 [(3, .int 0), (2, .ref 36), (1, .ref 21), (0, .ref 0)] [.int 3, .ref 0, .int 3, .int 3, .ref 21] (by decide +kernel) ?_
  refine mx_scr 6 3 265 (by decide +kernel) (by decide +kernel) (by decide +kernel) ?_
  refine mx_eq 0 (mx_pt l3 u3 (by decide +kernel)) ?_
  refine mx_call 221 3 [.ref 21, .int 3, .int 3, .int 0] [] [(0, .ref 21), (1, .int 3), (2, .int 3), (3, .int 0)] (some (.int 0)) hh_a203 0 0 1 22 0 0 268 [.int 0] ap_221 (by decide +kernel) (by decide +kernel) (iv_a682 6 xs zf hz) ?_
  refine mx_B 5 273 [(3, .int 0), (2, .ref 36), (1, .ref 21), (0, .ref 0)] [.int 1, .ref 0, .ref 36, .int 0] (by decide +kernel) ?_
  refine mx_scr 6 1 274 (by decide +kernel) (by decide +kernel) (by decide +kernel) ?_
  refine mx_eq 3 (mx_pt l1 u1 (by decide +kernel)) ?_
  refine mx_B 4 278 [(3, .int 0), (2, .ref 36), (1, .ref 21), (0, .ref 0)] [.int 2, .ref 0, .int 3, .ref 36, .int 0] (by decide +kernel) ?_
  refine mx_scr 6 2 279 (by decide +kernel) (by decide +kernel) (by decide +kernel) ?_
  refine mx_eq 3 (mx_pt l2 u2 (by decide +kernel)) ?_
  refine mx_B 4 283 [(3, .int 0), (2, .ref 36), (1, .ref 21), (0, .ref 0)] [.int 3, .ref 0, .int 3, .int 3, .ref 36, .int 0] (by decide +kernel) ?_
  refine mx_scr 6 3 284 (by decide +kernel) (by decide +kernel) (by decide +kernel) ?_
  refine mx_eq 0 (mx_pt l3 u3 (by decide +kernel)) ?_
  refine mx_call 289 3 [.ref 36, .int 3, .int 3, .int 0] [.int 0] [(0, .ref 36), (1, .int 3), (2, .int 3), (3, .int 0)] (some (.int 0)) hh_a203 0 0 1 21 0 0 287 [.int 0, .int 0] ap_289 (by decide +kernel) (by decide +kernel) (iv_a684 6 xs zf hz) ?_
  refine mx_B 5 20 [(3, .int 6), (2, .ref 36), (1, .ref 21), (0, .ref 0)] [.ref 0, .int 6] (by decide +kernel) ?_
  refine mx_S (.arraylength) 1 [] 21 [(3, .int 6), (2, .ref 36), (1, .ref 21), (0, .ref 0)] [.int 6, .int 6] (by decide +kernel) rfl ?_
  refine mx_B 4 543 [(3, .int 6), (2, .ref 36), (1, .ref 21), (0, .ref 0)] [.int 1] (by decide +kernel) ?_
  exact mx_ret (some (.int 1)) (by decide +kernel) ⟨rfl, rfl⟩
theorem iv_a686 (L : Nat) (xs : Nat → Int32) (zf : Value) (hz : zf.category = 1) : mx_R L xs zf ah_M190 0 [(0, .ref 2), (1, .int 3), (2, .int 1)] [] hh_a203 0 0 0 0 (fun v h' => v = some (.int 0) ∧ h' = hh_a203) := by
  refine mx_B 12 22 [(0, .ref 2), (1, .int 3), (2, .int 1)] [.int 3, .ref 2] (by decide +kernel) ?_
  refine mx_B 5 27 [(0, .ref 2), (1, .int 3), (2, .int 1)] [.int 0] (by decide +kernel) ?_
  exact mx_ret (some (.int 0)) (by decide +kernel) ⟨rfl, rfl⟩
theorem iv_a687 (L : Nat) (xs : Nat → Int32) (zf : Value) (hz : zf.category = 1) : mx_R L xs zf ah_M221 0 [(0, .ref 21), (1, .int 3), (2, .int 3), (3, .int 1)] [] hh_a203 0 0 1 22 (fun v h' => v = some (.int 0) ∧ h' = hh_a203) := by
  refine mx_B 12 79 [(0, .ref 21), (1, .int 3), (2, .int 3), (3, .int 1)] [] (by decide +kernel) ?_
  refine mx_B 3 84 [(0, .ref 21), (1, .int 3), (2, .int 3), (3, .int 1)] [.int 1, .int 3, .ref 2] (by decide +kernel) ?_
  refine mx_call 190 3 [.ref 2, .int 3, .int 1] [] [(0, .ref 2), (1, .int 3), (2, .int 1)] (some (.int 0)) hh_a203 0 0 0 0 0 0 87 [.int 0] ap_190 (by decide +kernel) (by decide +kernel) (iv_a686 L xs zf hz) ?_
  exact mx_ret (some (.int 0)) (by decide +kernel) ⟨rfl, rfl⟩
theorem iv_a688 (L : Nat) (xs : Nat → Int32) (zf : Value) (hz : zf.category = 1) : mx_R L xs zf ah_M293 0 [(0, .int 3), (1, .int 1)] [] hh_a203 0 0 0 0 (fun v h' => v = some (.int 0) ∧ h' = hh_a203) := by
  refine mx_B 12 38 [(0, .int 3), (1, .int 1)] [.int 0] (by decide +kernel) ?_
  exact mx_ret (some (.int 0)) (by decide +kernel) ⟨rfl, rfl⟩
theorem iv_a689 (L : Nat) (xs : Nat → Int32) (zf : Value) (hz : zf.category = 1) : mx_R L xs zf ah_M289 0 [(0, .ref 36), (1, .int 3), (2, .int 3), (3, .int 1)] [] hh_a203 0 0 1 21 (fun v h' => v = some (.int 0) ∧ h' = hh_a203) := by
  refine mx_B 12 22 [(0, .ref 36), (1, .int 3), (2, .int 3), (3, .int 1)] [] (by decide +kernel) ?_
  refine mx_B 12 72 [(0, .ref 36), (1, .int 3), (2, .int 3), (3, .int 1)] [.int 3] (by decide +kernel) ?_
  refine mx_B 1 73 [(0, .ref 36), (1, .int 3), (2, .int 3), (3, .int 1)] [.int 1, .int 3] (by decide +kernel) ?_
  refine mx_call 293 3 [.int 3, .int 1] [] [(0, .int 3), (1, .int 1)] (some (.int 0)) hh_a203 0 0 0 0 0 0 76 [.int 0] ap_293 (by decide +kernel) (by decide +kernel) (iv_a688 L xs zf hz) ?_
  refine mx_B 2 84 [(0, .ref 36), (1, .int 3), (2, .int 3), (3, .int 1)] [.int 0] (by decide +kernel) ?_
  exact mx_ret (some (.int 0)) (by decide +kernel) ⟨rfl, rfl⟩
theorem iv_a690 (xs : Nat → Int32) (zf : Value) (hz : zf.category = 1) (hk : xs 0 &&& 15 = 5) (l1 : 3 ≤ (xs 1).toInt) (u1 : (xs 1).toInt ≤ 3) (l2 : 3 ≤ (xs 2).toInt) (u2 : (xs 2).toInt ≤ 3) (l3 : 1 ≤ (xs 3).toInt) (u3 : (xs 3).toInt ≤ 1) : mx_R 6 xs zf ah_M0 18 [(3, .int 0), (2, .ref 36), (1, .ref 21), (0, .ref 0)] [] hh_a203 0 0 2 45 (fun v h' => v = some (.int 1) ∧ h' = hh_a203) := by
  refine mx_B 2 20 [(3, .int 0), (2, .ref 36), (1, .ref 21), (0, .ref 0)] [.ref 0, .int 0] (by decide +kernel) ?_
  refine mx_S (.arraylength) 1 [] 21 [(3, .int 0), (2, .ref 36), (1, .ref 21), (0, .ref 0)] [.int 6, .int 0] (by decide +kernel) rfl ?_
  refine mx_B 5 29 [(3, .int 0), (2, .ref 36), (1, .ref 21), (0, .ref 0)] [.int 0, .ref 0] (by decide +kernel) ?_
  refine mx_scr 6 0 30 (by decide +kernel) (by decide +kernel) (by decide +kernel) ?_
  refine mx_S (.bipush 15) 2 [] 32 [(3, .int 0), (2, .ref 36), (1, .ref 21), (0, .ref 0)] [.int 15, .int (xs 0)] (by decide +kernel) rfl ?_
  refine mx_S (.iand) 1 [] 33 [(3, .int 0), (2, .ref 36), (1, .ref 21), (0, .ref 0)] [.int ((xs 0) &&& 15)] (by decide +kernel) rfl ?_
  refine mx_eq 5 hk ?_
  refine mx_B 6 254 [(3, .int 0), (2, .ref 36), (1, .ref 21), (0, .ref 0)] [.int 1, .ref 0, .ref 21] (by decide +kernel) ?_
  refine mx_scr 6 1 255 (by decide +kernel) (by decide +kernel) (by decide +kernel) ?_
  refine mx_eq 3 (mx_pt l1 u1 (by decide +kernel)) ?_
  refine mx_B 4 259 [(3, .int 0), (2, .ref 36), (1, .ref 21), (0, .ref 0)] [.int 2, .ref 0, .int 3, .ref 21] (by decide +kernel) ?_
  refine mx_scr 6 2 260 (by decide +kernel) (by decide +kernel) (by decide +kernel) ?_
  refine mx_eq 3 (mx_pt l2 u2 (by decide +kernel)) ?_
  refine mx_B 4 264 [(3, .int 0), (2, .ref 36), (1, .ref 21), (0, .ref 0)] [.int 3, .ref 0, .int 3, .int 3, .ref 21] (by decide +kernel) ?_
  refine mx_scr 6 3 265 (by decide +kernel) (by decide +kernel) (by decide +kernel) ?_
  refine mx_eq 1 (mx_pt l3 u3 (by decide +kernel)) ?_
  refine mx_call 221 3 [.ref 21, .int 3, .int 3, .int 1] [] [(0, .ref 21), (1, .int 3), (2, .int 3), (3, .int 1)] (some (.int 0)) hh_a203 0 0 1 22 0 0 268 [.int 0] ap_221 (by decide +kernel) (by decide +kernel) (iv_a687 6 xs zf hz) ?_
  refine mx_B 5 273 [(3, .int 0), (2, .ref 36), (1, .ref 21), (0, .ref 0)] [.int 1, .ref 0, .ref 36, .int 0] (by decide +kernel) ?_
  refine mx_scr 6 1 274 (by decide +kernel) (by decide +kernel) (by decide +kernel) ?_
  refine mx_eq 3 (mx_pt l1 u1 (by decide +kernel)) ?_
  refine mx_B 4 278 [(3, .int 0), (2, .ref 36), (1, .ref 21), (0, .ref 0)] [.int 2, .ref 0, .int 3, .ref 36, .int 0] (by decide +kernel) ?_
  refine mx_scr 6 2 279 (by decide +kernel) (by decide +kernel) (by decide +kernel) ?_
  refine mx_eq 3 (mx_pt l2 u2 (by decide +kernel)) ?_
  refine mx_B 4 283 [(3, .int 0), (2, .ref 36), (1, .ref 21), (0, .ref 0)] [.int 3, .ref 0, .int 3, .int 3, .ref 36, .int 0] (by decide +kernel) ?_
  refine mx_scr 6 3 284 (by decide +kernel) (by decide +kernel) (by decide +kernel) ?_
  refine mx_eq 1 (mx_pt l3 u3 (by decide +kernel)) ?_
  refine mx_call 289 3 [.ref 36, .int 3, .int 3, .int 1] [.int 0] [(0, .ref 36), (1, .int 3), (2, .int 3), (3, .int 1)] (some (.int 0)) hh_a203 0 0 1 21 0 0 287 [.int 0, .int 0] ap_289 (by decide +kernel) (by decide +kernel) (iv_a689 6 xs zf hz) ?_
  refine mx_B 5 20 [(3, .int 6), (2, .ref 36), (1, .ref 21), (0, .ref 0)] [.ref 0, .int 6] (by decide +kernel) ?_
  refine mx_S (.arraylength) 1 [] 21 [(3, .int 6), (2, .ref 36), (1, .ref 21), (0, .ref 0)] [.int 6, .int 6] (by decide +kernel) rfl ?_
  refine mx_B 4 543 [(3, .int 6), (2, .ref 36), (1, .ref 21), (0, .ref 0)] [.int 1] (by decide +kernel) ?_
  exact mx_ret (some (.int 1)) (by decide +kernel) ⟨rfl, rfl⟩
theorem iv_a691 (L : Nat) (xs : Nat → Int32) (zf : Value) (hz : zf.category = 1) : mx_R L xs zf ah_M190 0 [(0, .ref 2), (1, .int 3), (2, .int 2)] [] hh_a203 0 0 0 0 (fun v h' => v = some (.int 0) ∧ h' = hh_a203) := by
  refine mx_B 12 22 [(0, .ref 2), (1, .int 3), (2, .int 2)] [.int 3, .ref 2] (by decide +kernel) ?_
  refine mx_B 5 27 [(0, .ref 2), (1, .int 3), (2, .int 2)] [.int 0] (by decide +kernel) ?_
  exact mx_ret (some (.int 0)) (by decide +kernel) ⟨rfl, rfl⟩
theorem iv_a692 (L : Nat) (xs : Nat → Int32) (zf : Value) (hz : zf.category = 1) : mx_R L xs zf ah_M221 0 [(0, .ref 21), (1, .int 3), (2, .int 3), (3, .int 2)] [] hh_a203 0 0 1 22 (fun v h' => v = some (.int 0) ∧ h' = hh_a203) := by
  refine mx_B 12 79 [(0, .ref 21), (1, .int 3), (2, .int 3), (3, .int 2)] [] (by decide +kernel) ?_
  refine mx_B 3 84 [(0, .ref 21), (1, .int 3), (2, .int 3), (3, .int 2)] [.int 2, .int 3, .ref 2] (by decide +kernel) ?_
  refine mx_call 190 3 [.ref 2, .int 3, .int 2] [] [(0, .ref 2), (1, .int 3), (2, .int 2)] (some (.int 0)) hh_a203 0 0 0 0 0 0 87 [.int 0] ap_190 (by decide +kernel) (by decide +kernel) (iv_a691 L xs zf hz) ?_
  exact mx_ret (some (.int 0)) (by decide +kernel) ⟨rfl, rfl⟩
theorem iv_a693 (L : Nat) (xs : Nat → Int32) (zf : Value) (hz : zf.category = 1) : mx_R L xs zf ah_M293 0 [(0, .int 3), (1, .int 2)] [] hh_a203 0 0 0 0 (fun v h' => v = some (.int 0) ∧ h' = hh_a203) := by
  refine mx_B 12 38 [(0, .int 3), (1, .int 2)] [.int 0] (by decide +kernel) ?_
  exact mx_ret (some (.int 0)) (by decide +kernel) ⟨rfl, rfl⟩
theorem iv_a694 (L : Nat) (xs : Nat → Int32) (zf : Value) (hz : zf.category = 1) : mx_R L xs zf ah_M289 0 [(0, .ref 36), (1, .int 3), (2, .int 3), (3, .int 2)] [] hh_a203 0 0 1 21 (fun v h' => v = some (.int 0) ∧ h' = hh_a203) := by
  refine mx_B 12 22 [(0, .ref 36), (1, .int 3), (2, .int 3), (3, .int 2)] [] (by decide +kernel) ?_
  refine mx_B 12 72 [(0, .ref 36), (1, .int 3), (2, .int 3), (3, .int 2)] [.int 3] (by decide +kernel) ?_
  refine mx_B 1 73 [(0, .ref 36), (1, .int 3), (2, .int 3), (3, .int 2)] [.int 2, .int 3] (by decide +kernel) ?_
  refine mx_call 293 3 [.int 3, .int 2] [] [(0, .int 3), (1, .int 2)] (some (.int 0)) hh_a203 0 0 0 0 0 0 76 [.int 0] ap_293 (by decide +kernel) (by decide +kernel) (iv_a693 L xs zf hz) ?_
  refine mx_B 2 84 [(0, .ref 36), (1, .int 3), (2, .int 3), (3, .int 2)] [.int 0] (by decide +kernel) ?_
  exact mx_ret (some (.int 0)) (by decide +kernel) ⟨rfl, rfl⟩
theorem iv_a695 (xs : Nat → Int32) (zf : Value) (hz : zf.category = 1) (hk : xs 0 &&& 15 = 5) (l1 : 3 ≤ (xs 1).toInt) (u1 : (xs 1).toInt ≤ 3) (l2 : 3 ≤ (xs 2).toInt) (u2 : (xs 2).toInt ≤ 3) (l3 : 2 ≤ (xs 3).toInt) (u3 : (xs 3).toInt ≤ 2) : mx_R 6 xs zf ah_M0 18 [(3, .int 0), (2, .ref 36), (1, .ref 21), (0, .ref 0)] [] hh_a203 0 0 2 45 (fun v h' => v = some (.int 1) ∧ h' = hh_a203) := by
  refine mx_B 2 20 [(3, .int 0), (2, .ref 36), (1, .ref 21), (0, .ref 0)] [.ref 0, .int 0] (by decide +kernel) ?_
  refine mx_S (.arraylength) 1 [] 21 [(3, .int 0), (2, .ref 36), (1, .ref 21), (0, .ref 0)] [.int 6, .int 0] (by decide +kernel) rfl ?_
  refine mx_B 5 29 [(3, .int 0), (2, .ref 36), (1, .ref 21), (0, .ref 0)] [.int 0, .ref 0] (by decide +kernel) ?_
  refine mx_scr 6 0 30 (by decide +kernel) (by decide +kernel) (by decide +kernel) ?_
  refine mx_S (.bipush 15) 2 [] 32 [(3, .int 0), (2, .ref 36), (1, .ref 21), (0, .ref 0)] [.int 15, .int (xs 0)] (by decide +kernel) rfl ?_
  refine mx_S (.iand) 1 [] 33 [(3, .int 0), (2, .ref 36), (1, .ref 21), (0, .ref 0)] [.int ((xs 0) &&& 15)] (by decide +kernel) rfl ?_
  refine mx_eq 5 hk ?_
  refine mx_B 6 254 [(3, .int 0), (2, .ref 36), (1, .ref 21), (0, .ref 0)] [.int 1, .ref 0, .ref 21] (by decide +kernel) ?_
  refine mx_scr 6 1 255 (by decide +kernel) (by decide +kernel) (by decide +kernel) ?_
  refine mx_eq 3 (mx_pt l1 u1 (by decide +kernel)) ?_
  refine mx_B 4 259 [(3, .int 0), (2, .ref 36), (1, .ref 21), (0, .ref 0)] [.int 2, .ref 0, .int 3, .ref 21] (by decide +kernel) ?_
  refine mx_scr 6 2 260 (by decide +kernel) (by decide +kernel) (by decide +kernel) ?_
  refine mx_eq 3 (mx_pt l2 u2 (by decide +kernel)) ?_
  refine mx_B 4 264 [(3, .int 0), (2, .ref 36), (1, .ref 21), (0, .ref 0)] [.int 3, .ref 0, .int 3, .int 3, .ref 21] (by decide +kernel) ?_
  refine mx_scr 6 3 265 (by decide +kernel) (by decide +kernel) (by decide +kernel) ?_
  refine mx_eq 2 (mx_pt l3 u3 (by decide +kernel)) ?_
  refine mx_call 221 3 [.ref 21, .int 3, .int 3, .int 2] [] [(0, .ref 21), (1, .int 3), (2, .int 3), (3, .int 2)] (some (.int 0)) hh_a203 0 0 1 22 0 0 268 [.int 0] ap_221 (by decide +kernel) (by decide +kernel) (iv_a692 6 xs zf hz) ?_
  refine mx_B 5 273 [(3, .int 0), (2, .ref 36), (1, .ref 21), (0, .ref 0)] [.int 1, .ref 0, .ref 36, .int 0] (by decide +kernel) ?_
  refine mx_scr 6 1 274 (by decide +kernel) (by decide +kernel) (by decide +kernel) ?_
  refine mx_eq 3 (mx_pt l1 u1 (by decide +kernel)) ?_
  refine mx_B 4 278 [(3, .int 0), (2, .ref 36), (1, .ref 21), (0, .ref 0)] [.int 2, .ref 0, .int 3, .ref 36, .int 0] (by decide +kernel) ?_
  refine mx_scr 6 2 279 (by decide +kernel) (by decide +kernel) (by decide +kernel) ?_
  refine mx_eq 3 (mx_pt l2 u2 (by decide +kernel)) ?_
  refine mx_B 4 283 [(3, .int 0), (2, .ref 36), (1, .ref 21), (0, .ref 0)] [.int 3, .ref 0, .int 3, .int 3, .ref 36, .int 0] (by decide +kernel) ?_
  refine mx_scr 6 3 284 (by decide +kernel) (by decide +kernel) (by decide +kernel) ?_
  refine mx_eq 2 (mx_pt l3 u3 (by decide +kernel)) ?_
  refine mx_call 289 3 [.ref 36, .int 3, .int 3, .int 2] [.int 0] [(0, .ref 36), (1, .int 3), (2, .int 3), (3, .int 2)] (some (.int 0)) hh_a203 0 0 1 21 0 0 287 [.int 0, .int 0] ap_289 (by decide +kernel) (by decide +kernel) (iv_a694 6 xs zf hz) ?_
  refine mx_B 5 20 [(3, .int 6), (2, .ref 36), (1, .ref 21), (0, .ref 0)] [.ref 0, .int 6] (by decide +kernel) ?_
  refine mx_S (.arraylength) 1 [] 21 [(3, .int 6), (2, .ref 36), (1, .ref 21), (0, .ref 0)] [.int 6, .int 6] (by decide +kernel) rfl ?_
  refine mx_B 4 543 [(3, .int 6), (2, .ref 36), (1, .ref 21), (0, .ref 0)] [.int 1] (by decide +kernel) ?_
  exact mx_ret (some (.int 1)) (by decide +kernel) ⟨rfl, rfl⟩
theorem iv_a696 (L : Nat) (xs : Nat → Int32) (zf : Value) (hz : zf.category = 1) : mx_R L xs zf ah_M190 0 [(0, .ref 2), (1, .int 3), (2, .int 3)] [] hh_a203 0 0 0 0 (fun v h' => v = some (.int 0) ∧ h' = hh_a203) := by
  refine mx_B 12 22 [(0, .ref 2), (1, .int 3), (2, .int 3)] [.int 3, .ref 2] (by decide +kernel) ?_
  refine mx_B 5 27 [(0, .ref 2), (1, .int 3), (2, .int 3)] [.int 0] (by decide +kernel) ?_
  exact mx_ret (some (.int 0)) (by decide +kernel) ⟨rfl, rfl⟩
theorem iv_a697 (L : Nat) (xs : Nat → Int32) (zf : Value) (hz : zf.category = 1) : mx_R L xs zf ah_M221 0 [(0, .ref 21), (1, .int 3), (2, .int 3), (3, .int 3)] [] hh_a203 0 0 1 22 (fun v h' => v = some (.int 0) ∧ h' = hh_a203) := by
  refine mx_B 12 79 [(0, .ref 21), (1, .int 3), (2, .int 3), (3, .int 3)] [] (by decide +kernel) ?_
  refine mx_B 3 84 [(0, .ref 21), (1, .int 3), (2, .int 3), (3, .int 3)] [.int 3, .int 3, .ref 2] (by decide +kernel) ?_
  refine mx_call 190 3 [.ref 2, .int 3, .int 3] [] [(0, .ref 2), (1, .int 3), (2, .int 3)] (some (.int 0)) hh_a203 0 0 0 0 0 0 87 [.int 0] ap_190 (by decide +kernel) (by decide +kernel) (iv_a696 L xs zf hz) ?_
  exact mx_ret (some (.int 0)) (by decide +kernel) ⟨rfl, rfl⟩
theorem iv_a698 (L : Nat) (xs : Nat → Int32) (zf : Value) (hz : zf.category = 1) : mx_R L xs zf ah_M293 0 [(0, .int 3), (1, .int 3)] [] hh_a203 0 0 0 0 (fun v h' => v = some (.int 0) ∧ h' = hh_a203) := by
  refine mx_B 12 38 [(0, .int 3), (1, .int 3)] [.int 0] (by decide +kernel) ?_
  exact mx_ret (some (.int 0)) (by decide +kernel) ⟨rfl, rfl⟩
theorem iv_a699 (L : Nat) (xs : Nat → Int32) (zf : Value) (hz : zf.category = 1) : mx_R L xs zf ah_M289 0 [(0, .ref 36), (1, .int 3), (2, .int 3), (3, .int 3)] [] hh_a203 0 0 1 21 (fun v h' => v = some (.int 0) ∧ h' = hh_a203) := by
  refine mx_B 12 22 [(0, .ref 36), (1, .int 3), (2, .int 3), (3, .int 3)] [] (by decide +kernel) ?_
  refine mx_B 12 72 [(0, .ref 36), (1, .int 3), (2, .int 3), (3, .int 3)] [.int 3] (by decide +kernel) ?_
  refine mx_B 1 73 [(0, .ref 36), (1, .int 3), (2, .int 3), (3, .int 3)] [.int 3, .int 3] (by decide +kernel) ?_
  refine mx_call 293 3 [.int 3, .int 3] [] [(0, .int 3), (1, .int 3)] (some (.int 0)) hh_a203 0 0 0 0 0 0 76 [.int 0] ap_293 (by decide +kernel) (by decide +kernel) (iv_a698 L xs zf hz) ?_
  refine mx_B 2 84 [(0, .ref 36), (1, .int 3), (2, .int 3), (3, .int 3)] [.int 0] (by decide +kernel) ?_
  exact mx_ret (some (.int 0)) (by decide +kernel) ⟨rfl, rfl⟩
theorem iv_a700 (xs : Nat → Int32) (zf : Value) (hz : zf.category = 1) (hk : xs 0 &&& 15 = 5) (l1 : 3 ≤ (xs 1).toInt) (u1 : (xs 1).toInt ≤ 3) (l2 : 3 ≤ (xs 2).toInt) (u2 : (xs 2).toInt ≤ 3) (l3 : 3 ≤ (xs 3).toInt) (u3 : (xs 3).toInt ≤ 3) : mx_R 6 xs zf ah_M0 18 [(3, .int 0), (2, .ref 36), (1, .ref 21), (0, .ref 0)] [] hh_a203 0 0 2 45 (fun v h' => v = some (.int 1) ∧ h' = hh_a203) := by
  refine mx_B 2 20 [(3, .int 0), (2, .ref 36), (1, .ref 21), (0, .ref 0)] [.ref 0, .int 0] (by decide +kernel) ?_
  refine mx_S (.arraylength) 1 [] 21 [(3, .int 0), (2, .ref 36), (1, .ref 21), (0, .ref 0)] [.int 6, .int 0] (by decide +kernel) rfl ?_
  refine mx_B 5 29 [(3, .int 0), (2, .ref 36), (1, .ref 21), (0, .ref 0)] [.int 0, .ref 0] (by decide +kernel) ?_
  refine mx_scr 6 0 30 (by decide +kernel) (by decide +kernel) (by decide +kernel) ?_
  refine mx_S (.bipush 15) 2 [] 32 [(3, .int 0), (2, .ref 36), (1, .ref 21), (0, .ref 0)] [.int 15, .int (xs 0)] (by decide +kernel) rfl ?_
  refine mx_S (.iand) 1 [] 33 [(3, .int 0), (2, .ref 36), (1, .ref 21), (0, .ref 0)] [.int ((xs 0) &&& 15)] (by decide +kernel) rfl ?_
  refine mx_eq 5 hk ?_
  refine mx_B 6 254 [(3, .int 0), (2, .ref 36), (1, .ref 21), (0, .ref 0)] [.int 1, .ref 0, .ref 21] (by decide +kernel) ?_
  refine mx_scr 6 1 255 (by decide +kernel) (by decide +kernel) (by decide +kernel) ?_
  refine mx_eq 3 (mx_pt l1 u1 (by decide +kernel)) ?_
  refine mx_B 4 259 [(3, .int 0), (2, .ref 36), (1, .ref 21), (0, .ref 0)] [.int 2, .ref 0, .int 3, .ref 21] (by decide +kernel) ?_
  refine mx_scr 6 2 260 (by decide +kernel) (by decide +kernel) (by decide +kernel) ?_
  refine mx_eq 3 (mx_pt l2 u2 (by decide +kernel)) ?_
  refine mx_B 4 264 [(3, .int 0), (2, .ref 36), (1, .ref 21), (0, .ref 0)] [.int 3, .ref 0, .int 3, .int 3, .ref 21] (by decide +kernel) ?_
  refine mx_scr 6 3 265 (by decide +kernel) (by decide +kernel) (by decide +kernel) ?_
  refine mx_eq 3 (mx_pt l3 u3 (by decide +kernel)) ?_
  refine mx_call 221 3 [.ref 21, .int 3, .int 3, .int 3] [] [(0, .ref 21), (1, .int 3), (2, .int 3), (3, .int 3)] (some (.int 0)) hh_a203 0 0 1 22 0 0 268 [.int 0] ap_221 (by decide +kernel) (by decide +kernel) (iv_a697 6 xs zf hz) ?_
  refine mx_B 5 273 [(3, .int 0), (2, .ref 36), (1, .ref 21), (0, .ref 0)] [.int 1, .ref 0, .ref 36, .int 0] (by decide +kernel) ?_
  refine mx_scr 6 1 274 (by decide +kernel) (by decide +kernel) (by decide +kernel) ?_
  refine mx_eq 3 (mx_pt l1 u1 (by decide +kernel)) ?_
  refine mx_B 4 278 [(3, .int 0), (2, .ref 36), (1, .ref 21), (0, .ref 0)] [.int 2, .ref 0, .int 3, .ref 36, .int 0] (by decide +kernel) ?_
  refine mx_scr 6 2 279 (by decide +kernel) (by decide +kernel) (by decide +kernel) ?_
  refine mx_eq 3 (mx_pt l2 u2 (by decide +kernel)) ?_
  refine mx_B 4 283 [(3, .int 0), (2, .ref 36), (1, .ref 21), (0, .ref 0)] [.int 3, .ref 0, .int 3, .int 3, .ref 36, .int 0] (by decide +kernel) ?_
  refine mx_scr 6 3 284 (by decide +kernel) (by decide +kernel) (by decide +kernel) ?_
  refine mx_eq 3 (mx_pt l3 u3 (by decide +kernel)) ?_
  refine mx_call 289 3 [.ref 36, .int 3, .int 3, .int 3] [.int 0] [(0, .ref 36), (1, .int 3), (2, .int 3), (3, .int 3)] (some (.int 0)) hh_a203 0 0 1 21 0 0 287 [.int 0, .int 0] ap_289 (by decide +kernel) (by decide +kernel) (iv_a699 6 xs zf hz) ?_
  refine mx_B 5 20 [(3, .int 6), (2, .ref 36), (1, .ref 21), (0, .ref 0)] [.ref 0, .int 6] (by decide +kernel) ?_
  refine mx_S (.arraylength) 1 [] 21 [(3, .int 6), (2, .ref 36), (1, .ref 21), (0, .ref 0)] [.int 6, .int 6] (by decide +kernel) rfl ?_
  refine mx_B 4 543 [(3, .int 6), (2, .ref 36), (1, .ref 21), (0, .ref 0)] [.int 1] (by decide +kernel) ?_
  exact mx_ret (some (.int 1)) (by decide +kernel) ⟨rfl, rfl⟩
theorem iv_a701 (L : Nat) (xs : Nat → Int32) (zf : Value) (hz : zf.category = 1) : mx_R L xs zf ah_M190 0 [(0, .ref 2), (1, .int 3), (2, .int 4)] [] hh_a203 0 0 0 0 (fun v h' => v = some (.int 0) ∧ h' = hh_a203) := by
  refine mx_B 12 22 [(0, .ref 2), (1, .int 3), (2, .int 4)] [.int 3, .ref 2] (by decide +kernel) ?_
  refine mx_B 5 27 [(0, .ref 2), (1, .int 3), (2, .int 4)] [.int 0] (by decide +kernel) ?_
  exact mx_ret (some (.int 0)) (by decide +kernel) ⟨rfl, rfl⟩
theorem iv_a702 (L : Nat) (xs : Nat → Int32) (zf : Value) (hz : zf.category = 1) : mx_R L xs zf ah_M221 0 [(0, .ref 21), (1, .int 3), (2, .int 3), (3, .int 4)] [] hh_a203 0 0 1 22 (fun v h' => v = some (.int 0) ∧ h' = hh_a203) := by
  refine mx_B 12 79 [(0, .ref 21), (1, .int 3), (2, .int 3), (3, .int 4)] [] (by decide +kernel) ?_
  refine mx_B 3 84 [(0, .ref 21), (1, .int 3), (2, .int 3), (3, .int 4)] [.int 4, .int 3, .ref 2] (by decide +kernel) ?_
  refine mx_call 190 3 [.ref 2, .int 3, .int 4] [] [(0, .ref 2), (1, .int 3), (2, .int 4)] (some (.int 0)) hh_a203 0 0 0 0 0 0 87 [.int 0] ap_190 (by decide +kernel) (by decide +kernel) (iv_a701 L xs zf hz) ?_
  exact mx_ret (some (.int 0)) (by decide +kernel) ⟨rfl, rfl⟩
theorem iv_a703 (L : Nat) (xs : Nat → Int32) (zf : Value) (hz : zf.category = 1) : mx_R L xs zf ah_M293 0 [(0, .int 3), (1, .int 4)] [] hh_a203 0 0 0 0 (fun v h' => v = some (.int 0) ∧ h' = hh_a203) := by
  refine mx_B 12 38 [(0, .int 3), (1, .int 4)] [.int 0] (by decide +kernel) ?_
  exact mx_ret (some (.int 0)) (by decide +kernel) ⟨rfl, rfl⟩
theorem iv_a704 (L : Nat) (xs : Nat → Int32) (zf : Value) (hz : zf.category = 1) : mx_R L xs zf ah_M289 0 [(0, .ref 36), (1, .int 3), (2, .int 3), (3, .int 4)] [] hh_a203 0 0 1 21 (fun v h' => v = some (.int 0) ∧ h' = hh_a203) := by
  refine mx_B 12 22 [(0, .ref 36), (1, .int 3), (2, .int 3), (3, .int 4)] [] (by decide +kernel) ?_
  refine mx_B 12 72 [(0, .ref 36), (1, .int 3), (2, .int 3), (3, .int 4)] [.int 3] (by decide +kernel) ?_
  refine mx_B 1 73 [(0, .ref 36), (1, .int 3), (2, .int 3), (3, .int 4)] [.int 4, .int 3] (by decide +kernel) ?_
  refine mx_call 293 3 [.int 3, .int 4] [] [(0, .int 3), (1, .int 4)] (some (.int 0)) hh_a203 0 0 0 0 0 0 76 [.int 0] ap_293 (by decide +kernel) (by decide +kernel) (iv_a703 L xs zf hz) ?_
  refine mx_B 2 84 [(0, .ref 36), (1, .int 3), (2, .int 3), (3, .int 4)] [.int 0] (by decide +kernel) ?_
  exact mx_ret (some (.int 0)) (by decide +kernel) ⟨rfl, rfl⟩
theorem iv_a705 (xs : Nat → Int32) (zf : Value) (hz : zf.category = 1) (hk : xs 0 &&& 15 = 5) (l1 : 3 ≤ (xs 1).toInt) (u1 : (xs 1).toInt ≤ 3) (l2 : 3 ≤ (xs 2).toInt) (u2 : (xs 2).toInt ≤ 3) (l3 : 4 ≤ (xs 3).toInt) (u3 : (xs 3).toInt ≤ 4) : mx_R 6 xs zf ah_M0 18 [(3, .int 0), (2, .ref 36), (1, .ref 21), (0, .ref 0)] [] hh_a203 0 0 2 45 (fun v h' => v = some (.int 1) ∧ h' = hh_a203) := by
  refine mx_B 2 20 [(3, .int 0), (2, .ref 36), (1, .ref 21), (0, .ref 0)] [.ref 0, .int 0] (by decide +kernel) ?_
  refine mx_S (.arraylength) 1 [] 21 [(3, .int 0), (2, .ref 36), (1, .ref 21), (0, .ref 0)] [.int 6, .int 0] (by decide +kernel) rfl ?_
  refine mx_B 5 29 [(3, .int 0), (2, .ref 36), (1, .ref 21), (0, .ref 0)] [.int 0, .ref 0] (by decide +kernel) ?_
  refine mx_scr 6 0 30 (by decide +kernel) (by decide +kernel) (by decide +kernel) ?_
  refine mx_S (.bipush 15) 2 [] 32 [(3, .int 0), (2, .ref 36), (1, .ref 21), (0, .ref 0)] [.int 15, .int (xs 0)] (by decide +kernel) rfl ?_
  refine mx_S (.iand) 1 [] 33 [(3, .int 0), (2, .ref 36), (1, .ref 21), (0, .ref 0)] [.int ((xs 0) &&& 15)] (by decide +kernel) rfl ?_
  refine mx_eq 5 hk ?_
  refine mx_B 6 254 [(3, .int 0), (2, .ref 36), (1, .ref 21), (0, .ref 0)] [.int 1, .ref 0, .ref 21] (by decide +kernel) ?_
  refine mx_scr 6 1 255 (by decide +kernel) (by decide +kernel) (by decide +kernel) ?_
  refine mx_eq 3 (mx_pt l1 u1 (by decide +kernel)) ?_
  refine mx_B 4 259 [(3, .int 0), (2, .ref 36), (1, .ref 21), (0, .ref 0)] [.int 2, .ref 0, .int 3, .ref 21] (by decide +kernel) ?_
  refine mx_scr 6 2 260 (by decide +kernel) (by decide +kernel) (by decide +kernel) ?_
  refine mx_eq 3 (mx_pt l2 u2 (by decide +kernel)) ?_
  refine mx_B 4 264 [(3, .int 0), (2, .ref 36), (1, .ref 21), (0, .ref 0)] [.int 3, .ref 0, .int 3, .int 3, .ref 21] (by decide +kernel) ?_
  refine mx_scr 6 3 265 (by decide +kernel) (by decide +kernel) (by decide +kernel) ?_
  refine mx_eq 4 (mx_pt l3 u3 (by decide +kernel)) ?_
  refine mx_call 221 3 [.ref 21, .int 3, .int 3, .int 4] [] [(0, .ref 21), (1, .int 3), (2, .int 3), (3, .int 4)] (some (.int 0)) hh_a203 0 0 1 22 0 0 268 [.int 0] ap_221 (by decide +kernel) (by decide +kernel) (iv_a702 6 xs zf hz) ?_
  refine mx_B 5 273 [(3, .int 0), (2, .ref 36), (1, .ref 21), (0, .ref 0)] [.int 1, .ref 0, .ref 36, .int 0] (by decide +kernel) ?_
  refine mx_scr 6 1 274 (by decide +kernel) (by decide +kernel) (by decide +kernel) ?_
  refine mx_eq 3 (mx_pt l1 u1 (by decide +kernel)) ?_
  refine mx_B 4 278 [(3, .int 0), (2, .ref 36), (1, .ref 21), (0, .ref 0)] [.int 2, .ref 0, .int 3, .ref 36, .int 0] (by decide +kernel) ?_
  refine mx_scr 6 2 279 (by decide +kernel) (by decide +kernel) (by decide +kernel) ?_
  refine mx_eq 3 (mx_pt l2 u2 (by decide +kernel)) ?_
  refine mx_B 4 283 [(3, .int 0), (2, .ref 36), (1, .ref 21), (0, .ref 0)] [.int 3, .ref 0, .int 3, .int 3, .ref 36, .int 0] (by decide +kernel) ?_
  refine mx_scr 6 3 284 (by decide +kernel) (by decide +kernel) (by decide +kernel) ?_
  refine mx_eq 4 (mx_pt l3 u3 (by decide +kernel)) ?_
  refine mx_call 289 3 [.ref 36, .int 3, .int 3, .int 4] [.int 0] [(0, .ref 36), (1, .int 3), (2, .int 3), (3, .int 4)] (some (.int 0)) hh_a203 0 0 1 21 0 0 287 [.int 0, .int 0] ap_289 (by decide +kernel) (by decide +kernel) (iv_a704 6 xs zf hz) ?_
  refine mx_B 5 20 [(3, .int 6), (2, .ref 36), (1, .ref 21), (0, .ref 0)] [.ref 0, .int 6] (by decide +kernel) ?_
  refine mx_S (.arraylength) 1 [] 21 [(3, .int 6), (2, .ref 36), (1, .ref 21), (0, .ref 0)] [.int 6, .int 6] (by decide +kernel) rfl ?_
  refine mx_B 4 543 [(3, .int 6), (2, .ref 36), (1, .ref 21), (0, .ref 0)] [.int 1] (by decide +kernel) ?_
  exact mx_ret (some (.int 1)) (by decide +kernel) ⟨rfl, rfl⟩
theorem iv_a706 (L : Nat) (xs : Nat → Int32) (zf : Value) (hz : zf.category = 1) : mx_R L xs zf ah_M190 0 [(0, .ref 2), (1, .int 4), (2, .int 0)] [] hh_a203 0 0 0 0 (fun v h' => v = some (.int 0) ∧ h' = hh_a203) := by
  refine mx_B 12 22 [(0, .ref 2), (1, .int 4), (2, .int 0)] [.int 4, .ref 2] (by decide +kernel) ?_
  refine mx_B 5 27 [(0, .ref 2), (1, .int 4), (2, .int 0)] [.int 0] (by decide +kernel) ?_
  exact mx_ret (some (.int 0)) (by decide +kernel) ⟨rfl, rfl⟩
theorem iv_a707 (L : Nat) (xs : Nat → Int32) (zf : Value) (hz : zf.category = 1) : mx_R L xs zf ah_M221 0 [(0, .ref 21), (1, .int 3), (2, .int 4), (3, .int 0)] [] hh_a203 0 0 1 22 (fun v h' => v = some (.int 0) ∧ h' = hh_a203) := by
  refine mx_B 12 79 [(0, .ref 21), (1, .int 3), (2, .int 4), (3, .int 0)] [] (by decide +kernel) ?_
  refine mx_B 3 84 [(0, .ref 21), (1, .int 3), (2, .int 4), (3, .int 0)] [.int 0, .int 4, .ref 2] (by decide +kernel) ?_
  refine mx_call 190 3 [.ref 2, .int 4, .int 0] [] [(0, .ref 2), (1, .int 4), (2, .int 0)] (some (.int 0)) hh_a203 0 0 0 0 0 0 87 [.int 0] ap_190 (by decide +kernel) (by decide +kernel) (iv_a706 L xs zf hz) ?_
  exact mx_ret (some (.int 0)) (by decide +kernel) ⟨rfl, rfl⟩
theorem iv_a708 (L : Nat) (xs : Nat → Int32) (zf : Value) (hz : zf.category = 1) : mx_R L xs zf ah_M293 0 [(0, .int 4), (1, .int 0)] [] hh_a203 0 0 0 0 (fun v h' => v = some (.int 0) ∧ h' = hh_a203) := by
  refine mx_B 12 38 [(0, .int 4), (1, .int 0)] [.int 0] (by decide +kernel) ?_
  exact mx_ret (some (.int 0)) (by decide +kernel) ⟨rfl, rfl⟩
theorem iv_a709 (L : Nat) (xs : Nat → Int32) (zf : Value) (hz : zf.category = 1) : mx_R L xs zf ah_M289 0 [(0, .ref 36), (1, .int 3), (2, .int 4), (3, .int 0)] [] hh_a203 0 0 1 21 (fun v h' => v = some (.int 0) ∧ h' = hh_a203) := by
  refine mx_B 12 22 [(0, .ref 36), (1, .int 3), (2, .int 4), (3, .int 0)] [] (by decide +kernel) ?_
  refine mx_B 12 72 [(0, .ref 36), (1, .int 3), (2, .int 4), (3, .int 0)] [.int 4] (by decide +kernel) ?_
  refine mx_B 1 73 [(0, .ref 36), (1, .int 3), (2, .int 4), (3, .int 0)] [.int 0, .int 4] (by decide +kernel) ?_
  refine mx_call 293 3 [.int 4, .int 0] [] [(0, .int 4), (1, .int 0)] (some (.int 0)) hh_a203 0 0 0 0 0 0 76 [.int 0] ap_293 (by decide +kernel) (by decide +kernel) (iv_a708 L xs zf hz) ?_
  refine mx_B 2 84 [(0, .ref 36), (1, .int 3), (2, .int 4), (3, .int 0)] [.int 0] (by decide +kernel) ?_
  exact mx_ret (some (.int 0)) (by decide +kernel) ⟨rfl, rfl⟩
theorem iv_a710 (xs : Nat → Int32) (zf : Value) (hz : zf.category = 1) (hk : xs 0 &&& 15 = 5) (l1 : 3 ≤ (xs 1).toInt) (u1 : (xs 1).toInt ≤ 3) (l2 : 4 ≤ (xs 2).toInt) (u2 : (xs 2).toInt ≤ 4) (l3 : 0 ≤ (xs 3).toInt) (u3 : (xs 3).toInt ≤ 0) : mx_R 6 xs zf ah_M0 18 [(3, .int 0), (2, .ref 36), (1, .ref 21), (0, .ref 0)] [] hh_a203 0 0 2 45 (fun v h' => v = some (.int 1) ∧ h' = hh_a203) := by
  refine mx_B 2 20 [(3, .int 0), (2, .ref 36), (1, .ref 21), (0, .ref 0)] [.ref 0, .int 0] (by decide +kernel) ?_
  refine mx_S (.arraylength) 1 [] 21 [(3, .int 0), (2, .ref 36), (1, .ref 21), (0, .ref 0)] [.int 6, .int 0] (by decide +kernel) rfl ?_
  refine mx_B 5 29 [(3, .int 0), (2, .ref 36), (1, .ref 21), (0, .ref 0)] [.int 0, .ref 0] (by decide +kernel) ?_
  refine mx_scr 6 0 30 (by decide +kernel) (by decide +kernel) (by decide +kernel) ?_
  refine mx_S (.bipush 15) 2 [] 32 [(3, .int 0), (2, .ref 36), (1, .ref 21), (0, .ref 0)] [.int 15, .int (xs 0)] (by decide +kernel) rfl ?_
  refine mx_S (.iand) 1 [] 33 [(3, .int 0), (2, .ref 36), (1, .ref 21), (0, .ref 0)] [.int ((xs 0) &&& 15)] (by decide +kernel) rfl ?_
  refine mx_eq 5 hk ?_
  refine mx_B 6 254 [(3, .int 0), (2, .ref 36), (1, .ref 21), (0, .ref 0)] [.int 1, .ref 0, .ref 21] (by decide +kernel) ?_
  refine mx_scr 6 1 255 (by decide +kernel) (by decide +kernel) (by decide +kernel) ?_
  refine mx_eq 3 (mx_pt l1 u1 (by decide +kernel)) ?_
  refine mx_B 4 259 [(3, .int 0), (2, .ref 36), (1, .ref 21), (0, .ref 0)] [.int 2, .ref 0, .int 3, .ref 21] (by decide +kernel) ?_
  refine mx_scr 6 2 260 (by decide +kernel) (by decide +kernel) (by decide +kernel) ?_
  refine mx_eq 4 (mx_pt l2 u2 (by decide +kernel)) ?_
  refine mx_B 4 264 [(3, .int 0), (2, .ref 36), (1, .ref 21), (0, .ref 0)] [.int 3, .ref 0, .int 4, .int 3, .ref 21] (by decide +kernel) ?_
  refine mx_scr 6 3 265 (by decide +kernel) (by decide +kernel) (by decide +kernel) ?_
  refine mx_eq 0 (mx_pt l3 u3 (by decide +kernel)) ?_
  refine mx_call 221 3 [.ref 21, .int 3, .int 4, .int 0] [] [(0, .ref 21), (1, .int 3), (2, .int 4), (3, .int 0)] (some (.int 0)) hh_a203 0 0 1 22 0 0 268 [.int 0] ap_221 (by decide +kernel) (by decide +kernel) (iv_a707 6 xs zf hz) ?_
  refine mx_B 5 273 [(3, .int 0), (2, .ref 36), (1, .ref 21), (0, .ref 0)] [.int 1, .ref 0, .ref 36, .int 0] (by decide +kernel) ?_
  refine mx_scr 6 1 274 (by decide +kernel) (by decide +kernel) (by decide +kernel) ?_
  refine mx_eq 3 (mx_pt l1 u1 (by decide +kernel)) ?_
  refine mx_B 4 278 [(3, .int 0), (2, .ref 36), (1, .ref 21), (0, .ref 0)] [.int 2, .ref 0, .int 3, .ref 36, .int 0] (by decide +kernel) ?_
  refine mx_scr 6 2 279 (by decide +kernel) (by decide +kernel) (by decide +kernel) ?_
  refine mx_eq 4 (mx_pt l2 u2 (by decide +kernel)) ?_
  refine mx_B 4 283 [(3, .int 0), (2, .ref 36), (1, .ref 21), (0, .ref 0)] [.int 3, .ref 0, .int 4, .int 3, .ref 36, .int 0] (by decide +kernel) ?_
  refine mx_scr 6 3 284 (by decide +kernel) (by decide +kernel) (by decide +kernel) ?_
  refine mx_eq 0 (mx_pt l3 u3 (by decide +kernel)) ?_
  refine mx_call 289 3 [.ref 36, .int 3, .int 4, .int 0] [.int 0] [(0, .ref 36), (1, .int 3), (2, .int 4), (3, .int 0)] (some (.int 0)) hh_a203 0 0 1 21 0 0 287 [.int 0, .int 0] ap_289 (by decide +kernel) (by decide +kernel) (iv_a709 6 xs zf hz) ?_
  refine mx_B 5 20 [(3, .int 6), (2, .ref 36), (1, .ref 21), (0, .ref 0)] [.ref 0, .int 6] (by decide +kernel) ?_
  refine mx_S (.arraylength) 1 [] 21 [(3, .int 6), (2, .ref 36), (1, .ref 21), (0, .ref 0)] [.int 6, .int 6] (by decide +kernel) rfl ?_
  refine mx_B 4 543 [(3, .int 6), (2, .ref 36), (1, .ref 21), (0, .ref 0)] [.int 1] (by decide +kernel) ?_
  exact mx_ret (some (.int 1)) (by decide +kernel) ⟨rfl, rfl⟩
theorem iv_a711 (L : Nat) (xs : Nat → Int32) (zf : Value) (hz : zf.category = 1) : mx_R L xs zf ah_M190 0 [(0, .ref 2), (1, .int 4), (2, .int 1)] [] hh_a203 0 0 0 0 (fun v h' => v = some (.int 0) ∧ h' = hh_a203) := by
  refine mx_B 12 22 [(0, .ref 2), (1, .int 4), (2, .int 1)] [.int 4, .ref 2] (by decide +kernel) ?_
  refine mx_B 5 27 [(0, .ref 2), (1, .int 4), (2, .int 1)] [.int 0] (by decide +kernel) ?_
  exact mx_ret (some (.int 0)) (by decide +kernel) ⟨rfl, rfl⟩
theorem iv_a712 (L : Nat) (xs : Nat → Int32) (zf : Value) (hz : zf.category = 1) : mx_R L xs zf ah_M221 0 [(0, .ref 21), (1, .int 3), (2, .int 4), (3, .int 1)] [] hh_a203 0 0 1 22 (fun v h' => v = some (.int 0) ∧ h' = hh_a203) := by
  refine mx_B 12 79 [(0, .ref 21), (1, .int 3), (2, .int 4), (3, .int 1)] [] (by decide +kernel) ?_
  refine mx_B 3 84 [(0, .ref 21), (1, .int 3), (2, .int 4), (3, .int 1)] [.int 1, .int 4, .ref 2] (by decide +kernel) ?_
  refine mx_call 190 3 [.ref 2, .int 4, .int 1] [] [(0, .ref 2), (1, .int 4), (2, .int 1)] (some (.int 0)) hh_a203 0 0 0 0 0 0 87 [.int 0] ap_190 (by decide +kernel) (by decide +kernel) (iv_a711 L xs zf hz) ?_
  exact mx_ret (some (.int 0)) (by decide +kernel) ⟨rfl, rfl⟩
theorem iv_a713 (L : Nat) (xs : Nat → Int32) (zf : Value) (hz : zf.category = 1) : mx_R L xs zf ah_M293 0 [(0, .int 4), (1, .int 1)] [] hh_a203 0 0 0 0 (fun v h' => v = some (.int 0) ∧ h' = hh_a203) := by
  refine mx_B 12 38 [(0, .int 4), (1, .int 1)] [.int 0] (by decide +kernel) ?_
  exact mx_ret (some (.int 0)) (by decide +kernel) ⟨rfl, rfl⟩
theorem iv_a714 (L : Nat) (xs : Nat → Int32) (zf : Value) (hz : zf.category = 1) : mx_R L xs zf ah_M289 0 [(0, .ref 36), (1, .int 3), (2, .int 4), (3, .int 1)] [] hh_a203 0 0 1 21 (fun v h' => v = some (.int 0) ∧ h' = hh_a203) := by
  refine mx_B 12 22 [(0, .ref 36), (1, .int 3), (2, .int 4), (3, .int 1)] [] (by decide +kernel) ?_
  refine mx_B 12 72 [(0, .ref 36), (1, .int 3), (2, .int 4), (3, .int 1)] [.int 4] (by decide +kernel) ?_
  refine mx_B 1 73 [(0, .ref 36), (1, .int 3), (2, .int 4), (3, .int 1)] [.int 1, .int 4] (by decide +kernel) ?_
  refine mx_call 293 3 [.int 4, .int 1] [] [(0, .int 4), (1, .int 1)] (some (.int 0)) hh_a203 0 0 0 0 0 0 76 [.int 0] ap_293 (by decide +kernel) (by decide +kernel) (iv_a713 L xs zf hz) ?_
  refine mx_B 2 84 [(0, .ref 36), (1, .int 3), (2, .int 4), (3, .int 1)] [.int 0] (by decide +kernel) ?_
  exact mx_ret (some (.int 0)) (by decide +kernel) ⟨rfl, rfl⟩
theorem iv_a715 (xs : Nat → Int32) (zf : Value) (hz : zf.category = 1) (hk : xs 0 &&& 15 = 5) (l1 : 3 ≤ (xs 1).toInt) (u1 : (xs 1).toInt ≤ 3) (l2 : 4 ≤ (xs 2).toInt) (u2 : (xs 2).toInt ≤ 4) (l3 : 1 ≤ (xs 3).toInt) (u3 : (xs 3).toInt ≤ 1) : mx_R 6 xs zf ah_M0 18 [(3, .int 0), (2, .ref 36), (1, .ref 21), (0, .ref 0)] [] hh_a203 0 0 2 45 (fun v h' => v = some (.int 1) ∧ h' = hh_a203) := by
  refine mx_B 2 20 [(3, .int 0), (2, .ref 36), (1, .ref 21), (0, .ref 0)] [.ref 0, .int 0] (by decide +kernel) ?_
  refine mx_S (.arraylength) 1 [] 21 [(3, .int 0), (2, .ref 36), (1, .ref 21), (0, .ref 0)] [.int 6, .int 0] (by decide +kernel) rfl ?_
  refine mx_B 5 29 [(3, .int 0), (2, .ref 36), (1, .ref 21), (0, .ref 0)] [.int 0, .ref 0] (by decide +kernel) ?_
  refine mx_scr 6 0 30 (by decide +kernel) (by decide +kernel) (by decide +kernel) ?_
  refine mx_S (.bipush 15) 2 [] 32 [(3, .int 0), (2, .ref 36), (1, .ref 21), (0, .ref 0)] [.int 15, .int (xs 0)] (by decide +kernel) rfl ?_
  refine mx_S (.iand) 1 [] 33 [(3, .int 0), (2, .ref 36), (1, .ref 21), (0, .ref 0)] [.int ((xs 0) &&& 15)] (by decide +kernel) rfl ?_
  refine mx_eq 5 hk ?_
  refine mx_B 6 254 [(3, .int 0), (2, .ref 36), (1, .ref 21), (0, .ref 0)] [.int 1, .ref 0, .ref 21] (by decide +kernel) ?_
  refine mx_scr 6 1 255 (by decide +kernel) (by decide +kernel) (by decide +kernel) ?_
  refine mx_eq 3 (mx_pt l1 u1 (by decide +kernel)) ?_
  refine mx_B 4 259 [(3, .int 0), (2, .ref 36), (1, .ref 21), (0, .ref 0)] [.int 2, .ref 0, .int 3, .ref 21] (by decide +kernel) ?_
  refine mx_scr 6 2 260 (by decide +kernel) (by decide +kernel) (by decide +kernel) ?_
  refine mx_eq 4 (mx_pt l2 u2 (by decide +kernel)) ?_
  refine mx_B 4 264 [(3, .int 0), (2, .ref 36), (1, .ref 21), (0, .ref 0)] [.int 3, .ref 0, .int 4, .int 3, .ref 21] (by decide +kernel) ?_
  refine mx_scr 6 3 265 (by decide +kernel) (by decide +kernel) (by decide +kernel) ?_
  refine mx_eq 1 (mx_pt l3 u3 (by decide +kernel)) ?_
  refine mx_call 221 3 [.ref 21, .int 3, .int 4, .int 1] [] [(0, .ref 21), (1, .int 3), (2, .int 4), (3, .int 1)] (some (.int 0)) hh_a203 0 0 1 22 0 0 268 [.int 0] ap_221 (by decide +kernel) (by decide +kernel) (iv_a712 6 xs zf hz) ?_
  refine mx_B 5 273 [(3, .int 0), (2, .ref 36), (1, .ref 21), (0, .ref 0)] [.int 1, .ref 0, .ref 36, .int 0] (by decide +kernel) ?_
  refine mx_scr 6 1 274 (by decide +kernel) (by decide +kernel) (by decide +kernel) ?_
  refine mx_eq 3 (mx_pt l1 u1 (by decide +kernel)) ?_
  refine mx_B 4 278 [(3, .int 0), (2, .ref 36), (1, .ref 21), (0, .ref 0)] [.int 2, .ref 0, .int 3, .ref 36, .int 0] (by decide +kernel) ?_
  refine mx_scr 6 2 279 (by decide +kernel) (by decide +kernel) (by decide +kernel) ?_
  refine mx_eq 4 (mx_pt l2 u2 (by decide +kernel)) ?_
  refine mx_B 4 283 [(3, .int 0), (2, .ref 36), (1, .ref 21), (0, .ref 0)] [.int 3, .ref 0, .int 4, .int 3, .ref 36, .int 0] (by decide +kernel) ?_
  refine mx_scr 6 3 284 (by decide +kernel) (by decide +kernel) (by decide +kernel) ?_
  refine mx_eq 1 (mx_pt l3 u3 (by decide +kernel)) ?_
  refine mx_call 289 3 [.ref 36, .int 3, .int 4, .int 1] [.int 0] [(0, .ref 36), (1, .int 3), (2, .int 4), (3, .int 1)] (some (.int 0)) hh_a203 0 0 1 21 0 0 287 [.int 0, .int 0] ap_289 (by decide +kernel) (by decide +kernel) (iv_a714 6 xs zf hz) ?_
  refine mx_B 5 20 [(3, .int 6), (2, .ref 36), (1, .ref 21), (0, .ref 0)] [.ref 0, .int 6] (by decide +kernel) ?_
  refine mx_S (.arraylength) 1 [] 21 [(3, .int 6), (2, .ref 36), (1, .ref 21), (0, .ref 0)] [.int 6, .int 6] (by decide +kernel) rfl ?_
  refine mx_B 4 543 [(3, .int 6), (2, .ref 36), (1, .ref 21), (0, .ref 0)] [.int 1] (by decide +kernel) ?_
  exact mx_ret (some (.int 1)) (by decide +kernel) ⟨rfl, rfl⟩
theorem iv_a716 (L : Nat) (xs : Nat → Int32) (zf : Value) (hz : zf.category = 1) : mx_R L xs zf ah_M190 0 [(0, .ref 2), (1, .int 4), (2, .int 2)] [] hh_a203 0 0 0 0 (fun v h' => v = some (.int 0) ∧ h' = hh_a203) := by
  refine mx_B 12 22 [(0, .ref 2), (1, .int 4), (2, .int 2)] [.int 4, .ref 2] (by decide +kernel) ?_
  refine mx_B 5 27 [(0, .ref 2), (1, .int 4), (2, .int 2)] [.int 0] (by decide +kernel) ?_
  exact mx_ret (some (.int 0)) (by decide +kernel) ⟨rfl, rfl⟩
theorem iv_a717 (L : Nat) (xs : Nat → Int32) (zf : Value) (hz : zf.category = 1) : mx_R L xs zf ah_M221 0 [(0, .ref 21), (1, .int 3), (2, .int 4), (3, .int 2)] [] hh_a203 0 0 1 22 (fun v h' => v = some (.int 0) ∧ h' = hh_a203) := by
  refine mx_B 12 79 [(0, .ref 21), (1, .int 3), (2, .int 4), (3, .int 2)] [] (by decide +kernel) ?_
  refine mx_B 3 84 [(0, .ref 21), (1, .int 3), (2, .int 4), (3, .int 2)] [.int 2, .int 4, .ref 2] (by decide +kernel) ?_
  refine mx_call 190 3 [.ref 2, .int 4, .int 2] [] [(0, .ref 2), (1, .int 4), (2, .int 2)] (some (.int 0)) hh_a203 0 0 0 0 0 0 87 [.int 0] ap_190 (by decide +kernel) (by decide +kernel) (iv_a716 L xs zf hz) ?_
  exact mx_ret (some (.int 0)) (by decide +kernel) ⟨rfl, rfl⟩
theorem iv_a718 (L : Nat) (xs : Nat → Int32) (zf : Value) (hz : zf.category = 1) : mx_R L xs zf ah_M293 0 [(0, .int 4), (1, .int 2)] [] hh_a203 0 0 0 0 (fun v h' => v = some (.int 0) ∧ h' = hh_a203) := by
  refine mx_B 12 38 [(0, .int 4), (1, .int 2)] [.int 0] (by decide +kernel) ?_
  exact mx_ret (some (.int 0)) (by decide +kernel) ⟨rfl, rfl⟩
theorem iv_a719 (L : Nat) (xs : Nat → Int32) (zf : Value) (hz : zf.category = 1) : mx_R L xs zf ah_M289 0 [(0, .ref 36), (1, .int 3), (2, .int 4), (3, .int 2)] [] hh_a203 0 0 1 21 (fun v h' => v = some (.int 0) ∧ h' = hh_a203) := by
  refine mx_B 12 22 [(0, .ref 36), (1, .int 3), (2, .int 4), (3, .int 2)] [] (by decide +kernel) ?_
  refine mx_B 12 72 [(0, .ref 36), (1, .int 3), (2, .int 4), (3, .int 2)] [.int 4] (by decide +kernel) ?_
  refine mx_B 1 73 [(0, .ref 36), (1, .int 3), (2, .int 4), (3, .int 2)] [.int 2, .int 4] (by decide +kernel) ?_
  refine mx_call 293 3 [.int 4, .int 2] [] [(0, .int 4), (1, .int 2)] (some (.int 0)) hh_a203 0 0 0 0 0 0 76 [.int 0] ap_293 (by decide +kernel) (by decide +kernel) (iv_a718 L xs zf hz) ?_
  refine mx_B 2 84 [(0, .ref 36), (1, .int 3), (2, .int 4), (3, .int 2)] [.int 0] (by decide +kernel) ?_
  exact mx_ret (some (.int 0)) (by decide +kernel) ⟨rfl, rfl⟩
theorem iv_a720 (xs : Nat → Int32) (zf : Value) (hz : zf.category = 1) (hk : xs 0 &&& 15 = 5) (l1 : 3 ≤ (xs 1).toInt) (u1 : (xs 1).toInt ≤ 3) (l2 : 4 ≤ (xs 2).toInt) (u2 : (xs 2).toInt ≤ 4) (l3 : 2 ≤ (xs 3).toInt) (u3 : (xs 3).toInt ≤ 2) : mx_R 6 xs zf ah_M0 18 [(3, .int 0), (2, .ref 36), (1, .ref 21), (0, .ref 0)] [] hh_a203 0 0 2 45 (fun v h' => v = some (.int 1) ∧ h' = hh_a203) := by
  refine mx_B 2 20 [(3, .int 0), (2, .ref 36), (1, .ref 21), (0, .ref 0)] [.ref 0, .int 0] (by decide +kernel) ?_
  refine mx_S (.arraylength) 1 [] 21 [(3, .int 0), (2, .ref 36), (1, .ref 21), (0, .ref 0)] [.int 6, .int 0] (by decide +kernel) rfl ?_
  refine mx_B 5 29 [(3, .int 0), (2, .ref 36), (1, .ref 21), (0, .ref 0)] [.int 0, .ref 0] (by decide +kernel) ?_
  refine mx_scr 6 0 30 (by decide +kernel) (by decide +kernel) (by decide +kernel) ?_
  refine mx_S (.bipush 15) 2 [] 32 [(3, .int 0), (2, .ref 36), (1, .ref 21), (0, .ref 0)] [.int 15, .int (xs 0)] (by decide +kernel) rfl ?_
  refine mx_S (.iand) 1 [] 33 [(3, .int 0), (2, .ref 36), (1, .ref 21), (0, .ref 0)] [.int ((xs 0) &&& 15)] (by decide +kernel) rfl ?_
  refine mx_eq 5 hk ?_
  refine mx_B 6 254 [(3, .int 0), (2, .ref 36), (1, .ref 21), (0, .ref 0)] [.int 1, .ref 0, .ref 21] (by decide +kernel) ?_
  refine mx_scr 6 1 255 (by decide +kernel) (by decide +kernel) (by decide +kernel) ?_
  refine mx_eq 3 (mx_pt l1 u1 (by decide +kernel)) ?_
  refine mx_B 4 259 [(3, .int 0), (2, .ref 36), (1, .ref 21), (0, .ref 0)] [.int 2, .ref 0, .int 3, .ref 21] (by decide +kernel) ?_
  refine mx_scr 6 2 260 (by decide +kernel) (by decide +kernel) (by decide +kernel) ?_
  refine mx_eq 4 (mx_pt l2 u2 (by decide +kernel)) ?_
  refine mx_B 4 264 [(3, .int 0), (2, .ref 36), (1, .ref 21), (0, .ref 0)] [.int 3, .ref 0, .int 4, .int 3, .ref 21] (by decide +kernel) ?_
  refine mx_scr 6 3 265 (by decide +kernel) (by decide +kernel) (by decide +kernel) ?_
  refine mx_eq 2 (mx_pt l3 u3 (by decide +kernel)) ?_
  refine mx_call 221 3 [.ref 21, .int 3, .int 4, .int 2] [] [(0, .ref 21), (1, .int 3), (2, .int 4), (3, .int 2)] (some (.int 0)) hh_a203 0 0 1 22 0 0 268 [.int 0] ap_221 (by decide +kernel) (by decide +kernel) (iv_a717 6 xs zf hz) ?_
  refine mx_B 5 273 [(3, .int 0), (2, .ref 36), (1, .ref 21), (0, .ref 0)] [.int 1, .ref 0, .ref 36, .int 0] (by decide +kernel) ?_
  refine mx_scr 6 1 274 (by decide +kernel) (by decide +kernel) (by decide +kernel) ?_
  refine mx_eq 3 (mx_pt l1 u1 (by decide +kernel)) ?_
  refine mx_B 4 278 [(3, .int 0), (2, .ref 36), (1, .ref 21), (0, .ref 0)] [.int 2, .ref 0, .int 3, .ref 36, .int 0] (by decide +kernel) ?_
  refine mx_scr 6 2 279 (by decide +kernel) (by decide +kernel) (by decide +kernel) ?_
  refine mx_eq 4 (mx_pt l2 u2 (by decide +kernel)) ?_
  refine mx_B 4 283 [(3, .int 0), (2, .ref 36), (1, .ref 21), (0, .ref 0)] [.int 3, .ref 0, .int 4, .int 3, .ref 36, .int 0] (by decide +kernel) ?_
  refine mx_scr 6 3 284 (by decide +kernel) (by decide +kernel) (by decide +kernel) ?_
  refine mx_eq 2 (mx_pt l3 u3 (by decide +kernel)) ?_
  refine mx_call 289 3 [.ref 36, .int 3, .int 4, .int 2] [.int 0] [(0, .ref 36), (1, .int 3), (2, .int 4), (3, .int 2)] (some (.int 0)) hh_a203 0 0 1 21 0 0 287 [.int 0, .int 0] ap_289 (by decide +kernel) (by decide +kernel) (iv_a719 6 xs zf hz) ?_
  refine mx_B 5 20 [(3, .int 6), (2, .ref 36), (1, .ref 21), (0, .ref 0)] [.ref 0, .int 6] (by decide +kernel) ?_
  refine mx_S (.arraylength) 1 [] 21 [(3, .int 6), (2, .ref 36), (1, .ref 21), (0, .ref 0)] [.int 6, .int 6] (by decide +kernel) rfl ?_
  refine mx_B 4 543 [(3, .int 6), (2, .ref 36), (1, .ref 21), (0, .ref 0)] [.int 1] (by decide +kernel) ?_
  exact mx_ret (some (.int 1)) (by decide +kernel) ⟨rfl, rfl⟩
theorem iv_a721 (L : Nat) (xs : Nat → Int32) (zf : Value) (hz : zf.category = 1) : mx_R L xs zf ah_M190 0 [(0, .ref 2), (1, .int 4), (2, .int 3)] [] hh_a203 0 0 0 0 (fun v h' => v = some (.int 0) ∧ h' = hh_a203) := by
  refine mx_B 12 22 [(0, .ref 2), (1, .int 4), (2, .int 3)] [.int 4, .ref 2] (by decide +kernel) ?_
  refine mx_B 5 27 [(0, .ref 2), (1, .int 4), (2, .int 3)] [.int 0] (by decide +kernel) ?_
  exact mx_ret (some (.int 0)) (by decide +kernel) ⟨rfl, rfl⟩
theorem iv_a722 (L : Nat) (xs : Nat → Int32) (zf : Value) (hz : zf.category = 1) : mx_R L xs zf ah_M221 0 [(0, .ref 21), (1, .int 3), (2, .int 4), (3, .int 3)] [] hh_a203 0 0 1 22 (fun v h' => v = some (.int 0) ∧ h' = hh_a203) := by
  refine mx_B 12 79 [(0, .ref 21), (1, .int 3), (2, .int 4), (3, .int 3)] [] (by decide +kernel) ?_
  refine mx_B 3 84 [(0, .ref 21), (1, .int 3), (2, .int 4), (3, .int 3)] [.int 3, .int 4, .ref 2] (by decide +kernel) ?_
  refine mx_call 190 3 [.ref 2, .int 4, .int 3] [] [(0, .ref 2), (1, .int 4), (2, .int 3)] (some (.int 0)) hh_a203 0 0 0 0 0 0 87 [.int 0] ap_190 (by decide +kernel) (by decide +kernel) (iv_a721 L xs zf hz) ?_
  exact mx_ret (some (.int 0)) (by decide +kernel) ⟨rfl, rfl⟩
theorem iv_a723 (L : Nat) (xs : Nat → Int32) (zf : Value) (hz : zf.category = 1) : mx_R L xs zf ah_M293 0 [(0, .int 4), (1, .int 3)] [] hh_a203 0 0 0 0 (fun v h' => v = some (.int 0) ∧ h' = hh_a203) := by
  refine mx_B 12 38 [(0, .int 4), (1, .int 3)] [.int 0] (by decide +kernel) ?_
  exact mx_ret (some (.int 0)) (by decide +kernel) ⟨rfl, rfl⟩
theorem iv_a724 (L : Nat) (xs : Nat → Int32) (zf : Value) (hz : zf.category = 1) : mx_R L xs zf ah_M289 0 [(0, .ref 36), (1, .int 3), (2, .int 4), (3, .int 3)] [] hh_a203 0 0 1 21 (fun v h' => v = some (.int 0) ∧ h' = hh_a203) := by
  refine mx_B 12 22 [(0, .ref 36), (1, .int 3), (2, .int 4), (3, .int 3)] [] (by decide +kernel) ?_
  refine mx_B 12 72 [(0, .ref 36), (1, .int 3), (2, .int 4), (3, .int 3)] [.int 4] (by decide +kernel) ?_
  refine mx_B 1 73 [(0, .ref 36), (1, .int 3), (2, .int 4), (3, .int 3)] [.int 3, .int 4] (by decide +kernel) ?_
  refine mx_call 293 3 [.int 4, .int 3] [] [(0, .int 4), (1, .int 3)] (some (.int 0)) hh_a203 0 0 0 0 0 0 76 [.int 0] ap_293 (by decide +kernel) (by decide +kernel) (iv_a723 L xs zf hz) ?_
  refine mx_B 2 84 [(0, .ref 36), (1, .int 3), (2, .int 4), (3, .int 3)] [.int 0] (by decide +kernel) ?_
  exact mx_ret (some (.int 0)) (by decide +kernel) ⟨rfl, rfl⟩
theorem iv_a725 (xs : Nat → Int32) (zf : Value) (hz : zf.category = 1) (hk : xs 0 &&& 15 = 5) (l1 : 3 ≤ (xs 1).toInt) (u1 : (xs 1).toInt ≤ 3) (l2 : 4 ≤ (xs 2).toInt) (u2 : (xs 2).toInt ≤ 4) (l3 : 3 ≤ (xs 3).toInt) (u3 : (xs 3).toInt ≤ 3) : mx_R 6 xs zf ah_M0 18 [(3, .int 0), (2, .ref 36), (1, .ref 21), (0, .ref 0)] [] hh_a203 0 0 2 45 (fun v h' => v = some (.int 1) ∧ h' = hh_a203) := by
  refine mx_B 2 20 [(3, .int 0), (2, .ref 36), (1, .ref 21), (0, .ref 0)] [.ref 0, .int 0] (by decide +kernel) ?_
  refine mx_S (.arraylength) 1 [] 21 [(3, .int 0), (2, .ref 36), (1, .ref 21), (0, .ref 0)] [.int 6, .int 0] (by decide +kernel) rfl ?_
  refine mx_B 5 29 [(3, .int 0), (2, .ref 36), (1, .ref 21), (0, .ref 0)] [.int 0, .ref 0] (by decide +kernel) ?_
  refine mx_scr 6 0 30 (by decide +kernel) (by decide +kernel) (by decide +kernel) ?_
  refine mx_S (.bipush 15) 2 [] 32 [(3, .int 0), (2, .ref 36), (1, .ref 21), (0, .ref 0)] [.int 15, .int (xs 0)] (by decide +kernel) rfl ?_
  refine mx_S (.iand) 1 [] 33 [(3, .int 0), (2, .ref 36), (1, .ref 21), (0, .ref 0)] [.int ((xs 0) &&& 15)] (by decide +kernel) rfl ?_
  refine mx_eq 5 hk ?_
  refine mx_B 6 254 [(3, .int 0), (2, .ref 36), (1, .ref 21), (0, .ref 0)] [.int 1, .ref 0, .ref 21] (by decide +kernel) ?_
  refine mx_scr 6 1 255 (by decide +kernel) (by decide +kernel) (by decide +kernel) ?_
  refine mx_eq 3 (mx_pt l1 u1 (by decide +kernel)) ?_
  refine mx_B 4 259 [(3, .int 0), (2, .ref 36), (1, .ref 21), (0, .ref 0)] [.int 2, .ref 0, .int 3, .ref 21] (by decide +kernel) ?_
  refine mx_scr 6 2 260 (by decide +kernel) (by decide +kernel) (by decide +kernel) ?_
  refine mx_eq 4 (mx_pt l2 u2 (by decide +kernel)) ?_
  refine mx_B 4 264 [(3, .int 0), (2, .ref 36), (1, .ref 21), (0, .ref 0)] [.int 3, .ref 0, .int 4, .int 3, .ref 21] (by decide +kernel) ?_
  refine mx_scr 6 3 265 (by decide +kernel) (by decide +kernel) (by decide +kernel) ?_
  refine mx_eq 3 (mx_pt l3 u3 (by decide +kernel)) ?_
  refine mx_call 221 3 [.ref 21, .int 3, .int 4, .int 3] [] [(0, .ref 21), (1, .int 3), (2, .int 4), (3, .int 3)] (some (.int 0)) hh_a203 0 0 1 22 0 0 268 [.int 0] ap_221 (by decide +kernel) (by decide +kernel) (iv_a722 6 xs zf hz) ?_
  refine mx_B 5 273 [(3, .int 0), (2, .ref 36), (1, .ref 21), (0, .ref 0)] [.int 1, .ref 0, .ref 36, .int 0] (by decide +kernel) ?_
  refine mx_scr 6 1 274 (by decide +kernel) (by decide +kernel) (by decide +kernel) ?_
  refine mx_eq 3 (mx_pt l1 u1 (by decide +kernel)) ?_
  refine mx_B 4 278 [(3, .int 0), (2, .ref 36), (1, .ref 21), (0, .ref 0)] [.int 2, .ref 0, .int 3, .ref 36, .int 0] (by decide +kernel) ?_
  refine mx_scr 6 2 279 (by decide +kernel) (by decide +kernel) (by decide +kernel) ?_
  refine mx_eq 4 (mx_pt l2 u2 (by decide +kernel)) ?_
  refine mx_B 4 283 [(3, .int 0), (2, .ref 36), (1, .ref 21), (0, .ref 0)] [.int 3, .ref 0, .int 4, .int 3, .ref 36, .int 0] (by decide +kernel) ?_
  refine mx_scr 6 3 284 (by decide +kernel) (by decide +kernel) (by decide +kernel) ?_
  refine mx_eq 3 (mx_pt l3 u3 (by decide +kernel)) ?_
  refine mx_call 289 3 [.ref 36, .int 3, .int 4, .int 3] [.int 0] [(0, .ref 36), (1, .int 3), (2, .int 4), (3, .int 3)] (some (.int 0)) hh_a203 0 0 1 21 0 0 287 [.int 0, .int 0] ap_289 (by decide +kernel) (by decide +kernel) (iv_a724 6 xs zf hz) ?_
  refine mx_B 5 20 [(3, .int 6), (2, .ref 36), (1, .ref 21), (0, .ref 0)] [.ref 0, .int 6] (by decide +kernel) ?_
  refine mx_S (.arraylength) 1 [] 21 [(3, .int 6), (2, .ref 36), (1, .ref 21), (0, .ref 0)] [.int 6, .int 6] (by decide +kernel) rfl ?_
  refine mx_B 4 543 [(3, .int 6), (2, .ref 36), (1, .ref 21), (0, .ref 0)] [.int 1] (by decide +kernel) ?_
  exact mx_ret (some (.int 1)) (by decide +kernel) ⟨rfl, rfl⟩
theorem iv_a726 (L : Nat) (xs : Nat → Int32) (zf : Value) (hz : zf.category = 1) : mx_R L xs zf ah_M190 0 [(0, .ref 2), (1, .int 4), (2, .int 4)] [] hh_a203 0 0 0 0 (fun v h' => v = some (.int 0) ∧ h' = hh_a203) := by
  refine mx_B 12 22 [(0, .ref 2), (1, .int 4), (2, .int 4)] [.int 4, .ref 2] (by decide +kernel) ?_
  refine mx_B 5 27 [(0, .ref 2), (1, .int 4), (2, .int 4)] [.int 0] (by decide +kernel) ?_
  exact mx_ret (some (.int 0)) (by decide +kernel) ⟨rfl, rfl⟩
theorem iv_a727 (L : Nat) (xs : Nat → Int32) (zf : Value) (hz : zf.category = 1) : mx_R L xs zf ah_M221 0 [(0, .ref 21), (1, .int 3), (2, .int 4), (3, .int 4)] [] hh_a203 0 0 1 22 (fun v h' => v = some (.int 0) ∧ h' = hh_a203) := by
  refine mx_B 12 79 [(0, .ref 21), (1, .int 3), (2, .int 4), (3, .int 4)] [] (by decide +kernel) ?_
  refine mx_B 3 84 [(0, .ref 21), (1, .int 3), (2, .int 4), (3, .int 4)] [.int 4, .int 4, .ref 2] (by decide +kernel) ?_
  refine mx_call 190 3 [.ref 2, .int 4, .int 4] [] [(0, .ref 2), (1, .int 4), (2, .int 4)] (some (.int 0)) hh_a203 0 0 0 0 0 0 87 [.int 0] ap_190 (by decide +kernel) (by decide +kernel) (iv_a726 L xs zf hz) ?_
  exact mx_ret (some (.int 0)) (by decide +kernel) ⟨rfl, rfl⟩
theorem iv_a728 (L : Nat) (xs : Nat → Int32) (zf : Value) (hz : zf.category = 1) : mx_R L xs zf ah_M293 0 [(0, .int 4), (1, .int 4)] [] hh_a203 0 0 0 0 (fun v h' => v = some (.int 0) ∧ h' = hh_a203) := by
  refine mx_B 12 38 [(0, .int 4), (1, .int 4)] [.int 0] (by decide +kernel) ?_
  exact mx_ret (some (.int 0)) (by decide +kernel) ⟨rfl, rfl⟩
theorem iv_a729 (L : Nat) (xs : Nat → Int32) (zf : Value) (hz : zf.category = 1) : mx_R L xs zf ah_M289 0 [(0, .ref 36), (1, .int 3), (2, .int 4), (3, .int 4)] [] hh_a203 0 0 1 21 (fun v h' => v = some (.int 0) ∧ h' = hh_a203) := by
  refine mx_B 12 22 [(0, .ref 36), (1, .int 3), (2, .int 4), (3, .int 4)] [] (by decide +kernel) ?_
  refine mx_B 12 72 [(0, .ref 36), (1, .int 3), (2, .int 4), (3, .int 4)] [.int 4] (by decide +kernel) ?_
  refine mx_B 1 73 [(0, .ref 36), (1, .int 3), (2, .int 4), (3, .int 4)] [.int 4, .int 4] (by decide +kernel) ?_
  refine mx_call 293 3 [.int 4, .int 4] [] [(0, .int 4), (1, .int 4)] (some (.int 0)) hh_a203 0 0 0 0 0 0 76 [.int 0] ap_293 (by decide +kernel) (by decide +kernel) (iv_a728 L xs zf hz) ?_
  refine mx_B 2 84 [(0, .ref 36), (1, .int 3), (2, .int 4), (3, .int 4)] [.int 0] (by decide +kernel) ?_
  exact mx_ret (some (.int 0)) (by decide +kernel) ⟨rfl, rfl⟩
theorem iv_a730 (xs : Nat → Int32) (zf : Value) (hz : zf.category = 1) (hk : xs 0 &&& 15 = 5) (l1 : 3 ≤ (xs 1).toInt) (u1 : (xs 1).toInt ≤ 3) (l2 : 4 ≤ (xs 2).toInt) (u2 : (xs 2).toInt ≤ 4) (l3 : 4 ≤ (xs 3).toInt) (u3 : (xs 3).toInt ≤ 4) : mx_R 6 xs zf ah_M0 18 [(3, .int 0), (2, .ref 36), (1, .ref 21), (0, .ref 0)] [] hh_a203 0 0 2 45 (fun v h' => v = some (.int 1) ∧ h' = hh_a203) := by
  refine mx_B 2 20 [(3, .int 0), (2, .ref 36), (1, .ref 21), (0, .ref 0)] [.ref 0, .int 0] (by decide +kernel) ?_
  refine mx_S (.arraylength) 1 [] 21 [(3, .int 0), (2, .ref 36), (1, .ref 21), (0, .ref 0)] [.int 6, .int 0] (by decide +kernel) rfl ?_
  refine mx_B 5 29 [(3, .int 0), (2, .ref 36), (1, .ref 21), (0, .ref 0)] [.int 0, .ref 0] (by decide +kernel) ?_
  refine mx_scr 6 0 30 (by decide +kernel) (by decide +kernel) (by decide +kernel) ?_
  refine mx_S (.bipush 15) 2 [] 32 [(3, .int 0), (2, .ref 36), (1, .ref 21), (0, .ref 0)] [.int 15, .int (xs 0)] (by decide +kernel) rfl ?_
  refine mx_S (.iand) 1 [] 33 [(3, .int 0), (2, .ref 36), (1, .ref 21), (0, .ref 0)] [.int ((xs 0) &&& 15)] (by decide +kernel) rfl ?_
  refine mx_eq 5 hk ?_
  refine mx_B 6 254 [(3, .int 0), (2, .ref 36), (1, .ref 21), (0, .ref 0)] [.int 1, .ref 0, .ref 21] (by decide +kernel) ?_
  refine mx_scr 6 1 255 (by decide +kernel) (by decide +kernel) (by decide +kernel) ?_
  refine mx_eq 3 (mx_pt l1 u1 (by decide +kernel)) ?_
  refine mx_B 4 259 [(3, .int 0), (2, .ref 36), (1, .ref 21), (0, .ref 0)] [.int 2, .ref 0, .int 3, .ref 21] (by decide +kernel) ?_
  refine mx_scr 6 2 260 (by decide +kernel) (by decide +kernel) (by decide +kernel) ?_
  refine mx_eq 4 (mx_pt l2 u2 (by decide +kernel)) ?_
  refine mx_B 4 264 [(3, .int 0), (2, .ref 36), (1, .ref 21), (0, .ref 0)] [.int 3, .ref 0, .int 4, .int 3, .ref 21] (by decide +kernel) ?_
  refine mx_scr 6 3 265 (by decide +kernel) (by decide +kernel) (by decide +kernel) ?_
  refine mx_eq 4 (mx_pt l3 u3 (by decide +kernel)) ?_
  refine mx_call 221 3 [.ref 21, .int 3, .int 4, .int 4] [] [(0, .ref 21), (1, .int 3), (2, .int 4), (3, .int 4)] (some (.int 0)) hh_a203 0 0 1 22 0 0 268 [.int 0] ap_221 (by decide +kernel) (by decide +kernel) (iv_a727 6 xs zf hz) ?_
  refine mx_B 5 273 [(3, .int 0), (2, .ref 36), (1, .ref 21), (0, .ref 0)] [.int 1, .ref 0, .ref 36, .int 0] (by decide +kernel) ?_
  refine mx_scr 6 1 274 (by decide +kernel) (by decide +kernel) (by decide +kernel) ?_
  refine mx_eq 3 (mx_pt l1 u1 (by decide +kernel)) ?_
  refine mx_B 4 278 [(3, .int 0), (2, .ref 36), (1, .ref 21), (0, .ref 0)] [.int 2, .ref 0, .int 3, .ref 36, .int 0] (by decide +kernel) ?_
  refine mx_scr 6 2 279 (by decide +kernel) (by decide +kernel) (by decide +kernel) ?_
  refine mx_eq 4 (mx_pt l2 u2 (by decide +kernel)) ?_
  refine mx_B 4 283 [(3, .int 0), (2, .ref 36), (1, .ref 21), (0, .ref 0)] [.int 3, .ref 0, .int 4, .int 3, .ref 36, .int 0] (by decide +kernel) ?_
  refine mx_scr 6 3 284 (by decide +kernel) (by decide +kernel) (by decide +kernel) ?_
  refine mx_eq 4 (mx_pt l3 u3 (by decide +kernel)) ?_
  refine mx_call 289 3 [.ref 36, .int 3, .int 4, .int 4] [.int 0] [(0, .ref 36), (1, .int 3), (2, .int 4), (3, .int 4)] (some (.int 0)) hh_a203 0 0 1 21 0 0 287 [.int 0, .int 0] ap_289 (by decide +kernel) (by decide +kernel) (iv_a729 6 xs zf hz) ?_
  refine mx_B 5 20 [(3, .int 6), (2, .ref 36), (1, .ref 21), (0, .ref 0)] [.ref 0, .int 6] (by decide +kernel) ?_
  refine mx_S (.arraylength) 1 [] 21 [(3, .int 6), (2, .ref 36), (1, .ref 21), (0, .ref 0)] [.int 6, .int 6] (by decide +kernel) rfl ?_
  refine mx_B 4 543 [(3, .int 6), (2, .ref 36), (1, .ref 21), (0, .ref 0)] [.int 1] (by decide +kernel) ?_
  exact mx_ret (some (.int 1)) (by decide +kernel) ⟨rfl, rfl⟩
theorem iv_a731 (L : Nat) (xs : Nat → Int32) (zf : Value) (hz : zf.category = 1) (hk : xs 0 &&& 15 = 5) (l1 : 4 ≤ (xs 1).toInt) (l2 : 0 ≤ (xs 2).toInt) (u2 : (xs 2).toInt ≤ 4) (l3 : 0 ≤ (xs 3).toInt) (u3 : (xs 3).toInt ≤ 4) : mx_R L xs zf ah_M221 0 [(0, .ref 21), (1, .int (xs 1)), (2, .int (xs 2)), (3, .int (xs 3))] [] hh_a203 0 0 0 0 (fun v h' => v = some (.int (-1)) ∧ h' = hh_a203) := by
  refine mx_S (.iload_n 2) 1 [] 1 [(0, .ref 21), (1, .int (xs 1)), (2, .int (xs 2)), (3, .int (xs 3))] [.int (xs 2)] (by decide +kernel) rfl ?_
  refine mx_1 .lt 17 false 4 (mx_v1 .lt (x := (xs 2)) 0 4  l2 u2 (by decide +kernel)) (by decide +kernel) ?_
  refine mx_S (.iload_n 2) 1 [] 5 [(0, .ref 21), (1, .int (xs 1)), (2, .int (xs 2)), (3, .int (xs 3))] [.int (xs 2)] (by decide +kernel) rfl ?_
  refine mx_S (.iconst 5) 1 [] 6 [(0, .ref 21), (1, .int (xs 1)), (2, .int (xs 2)), (3, .int (xs 3))] [.int 5, .int (xs 2)] (by decide +kernel) rfl ?_
  refine mx_2 .ge 12 false 9 (mx_v2 .ge (x := (xs 2)) (y := 5) 0 4 5  l2 u2 (by decide +kernel) (by decide +kernel)) (by decide +kernel) ?_
  refine mx_S (.iload_n 3) 1 [] 10 [(0, .ref 21), (1, .int (xs 1)), (2, .int (xs 2)), (3, .int (xs 3))] [.int (xs 3)] (by decide +kernel) rfl ?_
  refine mx_1 .lt 8 false 13 (mx_v1 .lt (x := (xs 3)) 0 4  l3 u3 (by decide +kernel)) (by decide +kernel) ?_
  refine mx_S (.iload_n 3) 1 [] 14 [(0, .ref 21), (1, .int (xs 1)), (2, .int (xs 2)), (3, .int (xs 3))] [.int (xs 3)] (by decide +kernel) rfl ?_
  refine mx_S (.iconst 5) 1 [] 15 [(0, .ref 21), (1, .int (xs 1)), (2, .int (xs 2)), (3, .int (xs 3))] [.int 5, .int (xs 3)] (by decide +kernel) rfl ?_
  refine mx_2 .lt 5 true 20 (mx_v2 .lt (x := (xs 3)) (y := 5) 0 4 5  l3 u3 (by decide +kernel) (by decide +kernel)) (by decide +kernel) ?_
  refine mx_S (.iload_n 1) 1 [] 21 [(0, .ref 21), (1, .int (xs 1)), (2, .int (xs 2)), (3, .int (xs 3))] [.int (xs 1)] (by decide +kernel) rfl ?_
  refine mx_sd 67 0 3 #[31, 40, 49, 58] 31 88 (by decide +kernel) (by decide +kernel) (mx_swd (x := (xs 1)) 0 3 4 2147483647 l1 (mx_hi _) (by decide +kernel)) ?_
  refine mx_S (.iconst (-1)) 1 [] 89 [(0, .ref 21), (1, .int (xs 1)), (2, .int (xs 2)), (3, .int (xs 3))] [.int (-1)] (by decide +kernel) rfl ?_
  exact mx_ret (some (.int (-1))) (by decide +kernel) ⟨rfl, rfl⟩
theorem iv_a732 (L : Nat) (xs : Nat → Int32) (zf : Value) (hz : zf.category = 1) (hk : xs 0 &&& 15 = 5) (l1 : 4 ≤ (xs 1).toInt) (l2 : 0 ≤ (xs 2).toInt) (u2 : (xs 2).toInt ≤ 4) (l3 : 0 ≤ (xs 3).toInt) (u3 : (xs 3).toInt ≤ 4) : mx_R L xs zf ah_M289 0 [(0, .ref 36), (1, .int (xs 1)), (2, .int (xs 2)), (3, .int (xs 3))] [] hh_a203 0 0 0 0 (fun v h' => v = some (.int (-1)) ∧ h' = hh_a203) := by
  refine mx_S (.iload_n 1) 1 [] 1 [(0, .ref 36), (1, .int (xs 1)), (2, .int (xs 2)), (3, .int (xs 3))] [.int (xs 1)] (by decide +kernel) rfl ?_
  refine mx_1 .lt 26 false 4 (mx_v1 .lt (x := (xs 1)) 4 2147483647  l1 (mx_hi _) (by decide +kernel)) (by decide +kernel) ?_
  refine mx_S (.iload_n 1) 1 [] 5 [(0, .ref 36), (1, .int (xs 1)), (2, .int (xs 2)), (3, .int (xs 3))] [.int (xs 1)] (by decide +kernel) rfl ?_
  refine mx_S (.iconst 3) 1 [] 6 [(0, .ref 36), (1, .int (xs 1)), (2, .int (xs 2)), (3, .int (xs 3))] [.int 3, .int (xs 1)] (by decide +kernel) rfl ?_
  refine mx_2 .gt 21 true 27 (mx_v2 .gt (x := (xs 1)) (y := 3) 4 2147483647 3  l1 (mx_hi _) (by decide +kernel) (by decide +kernel)) (by decide +kernel) ?_
  refine mx_S (.iconst (-1)) 1 [] 28 [(0, .ref 36), (1, .int (xs 1)), (2, .int (xs 2)), (3, .int (xs 3))] [.int (-1)] (by decide +kernel) rfl ?_
  exact mx_ret (some (.int (-1))) (by decide +kernel) ⟨rfl, rfl⟩
theorem iv_a733 (xs : Nat → Int32) (zf : Value) (hz : zf.category = 1) (hk : xs 0 &&& 15 = 5) (l1 : 4 ≤ (xs 1).toInt) (l2 : 0 ≤ (xs 2).toInt) (u2 : (xs 2).toInt ≤ 4) (l3 : 0 ≤ (xs 3).toInt) (u3 : (xs 3).toInt ≤ 4) : mx_R 6 xs zf ah_M0 18 [(3, .int 0), (2, .ref 36), (1, .ref 21), (0, .ref 0)] [] hh_a203 0 0 1 23 (fun v h' => v = some (.int 1) ∧ h' = hh_a203) := by
  refine mx_B 2 20 [(3, .int 0), (2, .ref 36), (1, .ref 21), (0, .ref 0)] [.ref 0, .int 0] (by decide +kernel) ?_
  refine mx_S (.arraylength) 1 [] 21 [(3, .int 0), (2, .ref 36), (1, .ref 21), (0, .ref 0)] [.int 6, .int 0] (by decide +kernel) rfl ?_
  refine mx_B 5 29 [(3, .int 0), (2, .ref 36), (1, .ref 21), (0, .ref 0)] [.int 0, .ref 0] (by decide +kernel) ?_
  refine mx_scr 6 0 30 (by decide +kernel) (by decide +kernel) (by decide +kernel) ?_
  refine mx_S (.bipush 15) 2 [] 32 [(3, .int 0), (2, .ref 36), (1, .ref 21), (0, .ref 0)] [.int 15, .int (xs 0)] (by decide +kernel) rfl ?_
  refine mx_S (.iand) 1 [] 33 [(3, .int 0), (2, .ref 36), (1, .ref 21), (0, .ref 0)] [.int ((xs 0) &&& 15)] (by decide +kernel) rfl ?_
  refine mx_eq 5 hk ?_
  refine mx_B 6 254 [(3, .int 0), (2, .ref 36), (1, .ref 21), (0, .ref 0)] [.int 1, .ref 0, .ref 21] (by decide +kernel) ?_
  refine mx_scr 6 1 255 (by decide +kernel) (by decide +kernel) (by decide +kernel) ?_
  refine mx_S (.aload_n 0) 1 [] 256 [(3, .int 0), (2, .ref 36), (1, .ref 21), (0, .ref 0)] [.ref 0, .int (xs 1), .ref 21] (by decide +kernel) rfl ?_
  refine mx_S (.iload_n 3) 1 [] 257 [(3, .int 0), (2, .ref 36), (1, .ref 21), (0, .ref 0)] [.int 0, .ref 0, .int (xs 1), .ref 21] (by decide +kernel) rfl ?_
  refine mx_S (.iconst 2) 1 [] 258 [(3, .int 0), (2, .ref 36), (1, .ref 21), (0, .ref 0)] [.int 2, .int 0, .ref 0, .int (xs 1), .ref 21] (by decide +kernel) rfl ?_
  refine mx_S (.iadd) 1 [] 259 [(3, .int 0), (2, .ref 36), (1, .ref 21), (0, .ref 0)] [.int 2, .ref 0, .int (xs 1), .ref 21] (by decide +kernel) rfl ?_
  refine mx_scr 6 2 260 (by decide +kernel) (by decide +kernel) (by decide +kernel) ?_
  refine mx_S (.aload_n 0) 1 [] 261 [(3, .int 0), (2, .ref 36), (1, .ref 21), (0, .ref 0)] [.ref 0, .int (xs 2), .int (xs 1), .ref 21] (by decide +kernel) rfl ?_
  refine mx_S (.iload_n 3) 1 [] 262 [(3, .int 0), (2, .ref 36), (1, .ref 21), (0, .ref 0)] [.int 0, .ref 0, .int (xs 2), .int (xs 1), .ref 21] (by decide +kernel) rfl ?_
  refine mx_S (.iconst 3) 1 [] 263 [(3, .int 0), (2, .ref 36), (1, .ref 21), (0, .ref 0)] [.int 3, .int 0, .ref 0, .int (xs 2), .int (xs 1), .ref 21] (by decide +kernel) rfl ?_
  refine mx_S (.iadd) 1 [] 264 [(3, .int 0), (2, .ref 36), (1, .ref 21), (0, .ref 0)] [.int 3, .ref 0, .int (xs 2), .int (xs 1), .ref 21] (by decide +kernel) rfl ?_
  refine mx_scr 6 3 265 (by decide +kernel) (by decide +kernel) (by decide +kernel) ?_
  refine mx_calls (.invokevirtual 36) [221, 5, 3, 0] 221 3 [.ref 21, .int (xs 1), .int (xs 2), .int (xs 3)] [] [(0, .ref 21), (1, .int (xs 1)), (2, .int (xs 2)), (3, .int (xs 3))] (some (.int (-1))) hh_a203 0 0 0 0 0 0 268 [.int (-1)] ap_221 (by decide +kernel) rfl ⟨by decide +kernel, rfl, rfl, rfl, rfl⟩ (iv_a731 6 xs zf hz hk l1 l2 u2 l3 u3) ?_
  refine mx_B 5 273 [(3, .int 0), (2, .ref 36), (1, .ref 21), (0, .ref 0)] [.int 1, .ref 0, .ref 36, .int (-1)] (by decide +kernel) ?_
  refine mx_scr 6 1 274 (by decide +kernel) (by decide +kernel) (by decide +kernel) ?_
  refine mx_S (.aload_n 0) 1 [] 275 [(3, .int 0), (2, .ref 36), (1, .ref 21), (0, .ref 0)] [.ref 0, .int (xs 1), .ref 36, .int (-1)] (by decide +kernel) rfl ?_
  refine mx_S (.iload_n 3) 1 [] 276 [(3, .int 0), (2, .ref 36), (1, .ref 21), (0, .ref 0)] [.int 0, .ref 0, .int (xs 1), .ref 36, .int (-1)] (by decide +kernel) rfl ?_
  refine mx_S (.iconst 2) 1 [] 277 [(3, .int 0), (2, .ref 36), (1, .ref 21), (0, .ref 0)] [.int 2, .int 0, .ref 0, .int (xs 1), .ref 36, .int (-1)] (by decide +kernel) rfl ?_
  refine mx_S (.iadd) 1 [] 278 [(3, .int 0), (2, .ref 36), (1, .ref 21), (0, .ref 0)] [.int 2, .ref 0, .int (xs 1), .ref 36, .int (-1)] (by decide +kernel) rfl ?_
  refine mx_scr 6 2 279 (by decide +kernel) (by decide +kernel) (by decide +kernel) ?_
  refine mx_S (.aload_n 0) 1 [] 280 [(3, .int 0), (2, .ref 36), (1, .ref 21), (0, .ref 0)] [.ref 0, .int (xs 2), .int (xs 1), .ref 36, .int (-1)] (by decide +kernel) rfl ?_
  refine mx_S (.iload_n 3) 1 [] 281 [(3, .int 0), (2, .ref 36), (1, .ref 21), (0, .ref 0)] [.int 0, .ref 0, .int (xs 2), .int (xs 1), .ref 36, .int (-1)] (by decide +kernel) rfl ?_
  refine mx_S (.iconst 3) 1 [] 282 [(3, .int 0), (2, .ref 36), (1, .ref 21), (0, .ref 0)] [.int 3, .int 0, .ref 0, .int (xs 2), .int (xs 1), .ref 36, .int (-1)] (by decide +kernel) rfl ?_
  refine mx_S (.iadd) 1 [] 283 [(3, .int 0), (2, .ref 36), (1, .ref 21), (0, .ref 0)] [.int 3, .ref 0, .int (xs 2), .int (xs 1), .ref 36, .int (-1)] (by decide +kernel) rfl ?_
  refine mx_scr 6 3 284 (by decide +kernel) (by decide +kernel) (by decide +kernel) ?_
  refine mx_calls (.invokevirtual 40) [289, 5, 3, 15] 289 3 [.ref 36, .int (xs 1), .int (xs 2), .int (xs 3)] [.int (-1)] [(0, .ref 36), (1, .int (xs 1)), (2, .int (xs 2)), (3, .int (xs 3))] (some (.int (-1))) hh_a203 0 0 0 0 0 0 287 [.int (-1), .int (-1)] ap_289 (by decide +kernel) rfl ⟨by decide +kernel, rfl, rfl, rfl, rfl⟩ (iv_a732 6 xs zf hz hk l1 l2 u2 l3 u3) ?_
  refine mx_B 5 20 [(3, .int 6), (2, .ref 36), (1, .ref 21), (0, .ref 0)] [.ref 0, .int 6] (by decide +kernel) ?_
  refine mx_S (.arraylength) 1 [] 21 [(3, .int 6), (2, .ref 36), (1, .ref 21), (0, .ref 0)] [.int 6, .int 6] (by decide +kernel) rfl ?_
  refine mx_B 4 543 [(3, .int 6), (2, .ref 36), (1, .ref 21), (0, .ref 0)] [.int 1] (by decide +kernel) ?_
  exact mx_ret (some (.int 1)) (by decide +kernel) ⟨rfl, rfl⟩
theorem iv_a734 (L : Nat) (xs : Nat → Int32) (zf : Value) (hz : zf.category = 1) (hk : xs 0 &&& 15 = 5) (l2 : 0 ≤ (xs 2).toInt) (u2 : (xs 2).toInt ≤ 4) (l3 : 5 ≤ (xs 3).toInt) : mx_R L xs zf ah_M221 0 [(0, .ref 21), (1, .int (xs 1)), (2, .int (xs 2)), (3, .int (xs 3))] [] hh_a203 0 0 0 0 (fun v h' => v = some (.int (-1)) ∧ h' = hh_a203) := by
  refine mx_S (.iload_n 2) 1 [] 1 [(0, .ref 21), (1, .int (xs 1)), (2, .int (xs 2)), (3, .int (xs 3))] [.int (xs 2)] (by decide +kernel) rfl ?_
  refine mx_1 .lt 17 false 4 (mx_v1 .lt (x := (xs 2)) 0 4  l2 u2 (by decide +kernel)) (by decide +kernel) ?_
  refine mx_S (.iload_n 2) 1 [] 5 [(0, .ref 21), (1, .int (xs 1)), (2, .int (xs 2)), (3, .int (xs 3))] [.int (xs 2)] (by decide +kernel) rfl ?_
  refine mx_S (.iconst 5) 1 [] 6 [(0, .ref 21), (1, .int (xs 1)), (2, .int (xs 2)), (3, .int (xs 3))] [.int 5, .int (xs 2)] (by decide +kernel) rfl ?_
  refine mx_2 .ge 12 false 9 (mx_v2 .ge (x := (xs 2)) (y := 5) 0 4 5  l2 u2 (by decide +kernel) (by decide +kernel)) (by decide +kernel) ?_
  refine mx_S (.iload_n 3) 1 [] 10 [(0, .ref 21), (1, .int (xs 1)), (2, .int (xs 2)), (3, .int (xs 3))] [.int (xs 3)] (by decide +kernel) rfl ?_
  refine mx_1 .lt 8 false 13 (mx_v1 .lt (x := (xs 3)) 5 2147483647  l3 (mx_hi _) (by decide +kernel)) (by decide +kernel) ?_
  refine mx_S (.iload_n 3) 1 [] 14 [(0, .ref 21), (1, .int (xs 1)), (2, .int (xs 2)), (3, .int (xs 3))] [.int (xs 3)] (by decide +kernel) rfl ?_
  refine mx_S (.iconst 5) 1 [] 15 [(0, .ref 21), (1, .int (xs 1)), (2, .int (xs 2)), (3, .int (xs 3))] [.int 5, .int (xs 3)] (by decide +kernel) rfl ?_
  refine mx_2 .lt 5 false 18 (mx_v2 .lt (x := (xs 3)) (y := 5) 5 2147483647 5  l3 (mx_hi _) (by decide +kernel) (by decide +kernel)) (by decide +kernel) ?_
  refine mx_S (.iconst (-1)) 1 [] 19 [(0, .ref 21), (1, .int (xs 1)), (2, .int (xs 2)), (3, .int (xs 3))] [.int (-1)] (by decide +kernel) rfl ?_
  exact mx_ret (some (.int (-1))) (by decide +kernel) ⟨rfl, rfl⟩
theorem iv_a735 (L : Nat) (xs : Nat → Int32) (zf : Value) (hz : zf.category = 1) (hk : xs 0 &&& 15 = 5) (u1 : (xs 1).toInt ≤ (-1)) (l2 : 0 ≤ (xs 2).toInt) (u2 : (xs 2).toInt ≤ 4) (l3 : 5 ≤ (xs 3).toInt) : mx_R L xs zf ah_M221 0 [(0, .ref 21), (1, .int (xs 1)), (2, .int (xs 2)), (3, .int (xs 3))] [] hh_a203 0 0 0 0 (fun v h' => v = some (.int (-1)) ∧ h' = hh_a203) := by
  refine mx_S (.iload_n 2) 1 [] 1 [(0, .ref 21), (1, .int (xs 1)), (2, .int (xs 2)), (3, .int (xs 3))] [.int (xs 2)] (by decide +kernel) rfl ?_
  refine mx_1 .lt 17 false 4 (mx_v1 .lt (x := (xs 2)) 0 4  l2 u2 (by decide +kernel)) (by decide +kernel) ?_
  refine mx_S (.iload_n 2) 1 [] 5 [(0, .ref 21), (1, .int (xs 1)), (2, .int (xs 2)), (3, .int (xs 3))] [.int (xs 2)] (by decide +kernel) rfl ?_
  refine mx_S (.iconst 5) 1 [] 6 [(0, .ref 21), (1, .int (xs 1)), (2, .int (xs 2)), (3, .int (xs 3))] [.int 5, .int (xs 2)] (by decide +kernel) rfl ?_
  refine mx_2 .ge 12 false 9 (mx_v2 .ge (x := (xs 2)) (y := 5) 0 4 5  l2 u2 (by decide +kernel) (by decide +kernel)) (by decide +kernel) ?_
  refine mx_S (.iload_n 3) 1 [] 10 [(0, .ref 21), (1, .int (xs 1)), (2, .int (xs 2)), (3, .int (xs 3))] [.int (xs 3)] (by decide +kernel) rfl ?_
  refine mx_1 .lt 8 false 13 (mx_v1 .lt (x := (xs 3)) 5 2147483647  l3 (mx_hi _) (by decide +kernel)) (by decide +kernel) ?_
  refine mx_S (.iload_n 3) 1 [] 14 [(0, .ref 21), (1, .int (xs 1)), (2, .int (xs 2)), (3, .int (xs 3))] [.int (xs 3)] (by decide +kernel) rfl ?_
  refine mx_S (.iconst 5) 1 [] 15 [(0, .ref 21), (1, .int (xs 1)), (2, .int (xs 2)), (3, .int (xs 3))] [.int 5, .int (xs 3)] (by decide +kernel) rfl ?_
  refine mx_2 .lt 5 false 18 (mx_v2 .lt (x := (xs 3)) (y := 5) 5 2147483647 5  l3 (mx_hi _) (by decide +kernel) (by decide +kernel)) (by decide +kernel) ?_
  refine mx_S (.iconst (-1)) 1 [] 19 [(0, .ref 21), (1, .int (xs 1)), (2, .int (xs 2)), (3, .int (xs 3))] [.int (-1)] (by decide +kernel) rfl ?_
  exact mx_ret (some (.int (-1))) (by decide +kernel) ⟨rfl, rfl⟩
theorem iv_a736 (L : Nat) (xs : Nat → Int32) (zf : Value) (hz : zf.category = 1) (hk : xs 0 &&& 15 = 5) (u1 : (xs 1).toInt ≤ (-1)) (l2 : 0 ≤ (xs 2).toInt) (u2 : (xs 2).toInt ≤ 4) (l3 : 5 ≤ (xs 3).toInt) : mx_R L xs zf ah_M289 0 [(0, .ref 36), (1, .int (xs 1)), (2, .int (xs 2)), (3, .int (xs 3))] [] hh_a203 0 0 0 0 (fun v h' => v = some (.int (-1)) ∧ h' = hh_a203) := by
  refine mx_S (.iload_n 1) 1 [] 1 [(0, .ref 36), (1, .int (xs 1)), (2, .int (xs 2)), (3, .int (xs 3))] [.int (xs 1)] (by decide +kernel) rfl ?_
  refine mx_1 .lt 26 true 27 (mx_v1 .lt (x := (xs 1)) (-2147483648) (-1)  (mx_lo _) u1 (by decide +kernel)) (by decide +kernel) ?_
  refine mx_S (.iconst (-1)) 1 [] 28 [(0, .ref 36), (1, .int (xs 1)), (2, .int (xs 2)), (3, .int (xs 3))] [.int (-1)] (by decide +kernel) rfl ?_
  exact mx_ret (some (.int (-1))) (by decide +kernel) ⟨rfl, rfl⟩
theorem iv_a737 (xs : Nat → Int32) (zf : Value) (hz : zf.category = 1) (hk : xs 0 &&& 15 = 5) (u1 : (xs 1).toInt ≤ (-1)) (l2 : 0 ≤ (xs 2).toInt) (u2 : (xs 2).toInt ≤ 4) (l3 : 5 ≤ (xs 3).toInt) : mx_R 6 xs zf ah_M0 18 [(3, .int 0), (2, .ref 36), (1, .ref 21), (0, .ref 0)] [] hh_a203 0 0 1 23 (fun v h' => v = some (.int 1) ∧ h' = hh_a203) := by
  refine mx_B 2 20 [(3, .int 0), (2, .ref 36), (1, .ref 21), (0, .ref 0)] [.ref 0, .int 0] (by decide +kernel) ?_
  refine mx_S (.arraylength) 1 [] 21 [(3, .int 0), (2, .ref 36), (1, .ref 21), (0, .ref 0)] [.int 6, .int 0] (by decide +kernel) rfl ?_
  refine mx_B 5 29 [(3, .int 0), (2, .ref 36), (1, .ref 21), (0, .ref 0)] [.int 0, .ref 0] (by decide +kernel) ?_
  refine mx_scr 6 0 30 (by decide +kernel) (by decide +kernel) (by decide +kernel) ?_
  refine mx_S (.bipush 15) 2 [] 32 [(3, .int 0), (2, .ref 36), (1, .ref 21), (0, .ref 0)] [.int 15, .int (xs 0)] (by decide +kernel) rfl ?_
  refine mx_S (.iand) 1 [] 33 [(3, .int 0), (2, .ref 36), (1, .ref 21), (0, .ref 0)] [.int ((xs 0) &&& 15)] (by decide +kernel) rfl ?_
  refine mx_eq 5 hk ?_
  refine mx_B 6 254 [(3, .int 0), (2, .ref 36), (1, .ref 21), (0, .ref 0)] [.int 1, .ref 0, .ref 21] (by decide +kernel) ?_
  refine mx_scr 6 1 255 (by decide +kernel) (by decide +kernel) (by decide +kernel) ?_
  refine mx_S (.aload_n 0) 1 [] 256 [(3, .int 0), (2, .ref 36), (1, .ref 21), (0, .ref 0)] [.ref 0, .int (xs 1), .ref 21] (by decide +kernel) rfl ?_
  refine mx_S (.iload_n 3) 1 [] 257 [(3, .int 0), (2, .ref 36), (1, .ref 21), (0, .ref 0)] [.int 0, .ref 0, .int (xs 1), .ref 21] (by decide +kernel) rfl ?_
  refine mx_S (.iconst 2) 1 [] 258 [(3, .int 0), (2, .ref 36), (1, .ref 21), (0, .ref 0)] [.int 2, .int 0, .ref 0, .int (xs 1), .ref 21] (by decide +kernel) rfl ?_
  refine mx_S (.iadd) 1 [] 259 [(3, .int 0), (2, .ref 36), (1, .ref 21), (0, .ref 0)] [.int 2, .ref 0, .int (xs 1), .ref 21] (by decide +kernel) rfl ?_
  refine mx_scr 6 2 260 (by decide +kernel) (by decide +kernel) (by decide +kernel) ?_
  refine mx_S (.aload_n 0) 1 [] 261 [(3, .int 0), (2, .ref 36), (1, .ref 21), (0, .ref 0)] [.ref 0, .int (xs 2), .int (xs 1), .ref 21] (by decide +kernel) rfl ?_
  refine mx_S (.iload_n 3) 1 [] 262 [(3, .int 0), (2, .ref 36), (1, .ref 21), (0, .ref 0)] [.int 0, .ref 0, .int (xs 2), .int (xs 1), .ref 21] (by decide +kernel) rfl ?_
  refine mx_S (.iconst 3) 1 [] 263 [(3, .int 0), (2, .ref 36), (1, .ref 21), (0, .ref 0)] [.int 3, .int 0, .ref 0, .int (xs 2), .int (xs 1), .ref 21] (by decide +kernel) rfl ?_
  refine mx_S (.iadd) 1 [] 264 [(3, .int 0), (2, .ref 36), (1, .ref 21), (0, .ref 0)] [.int 3, .ref 0, .int (xs 2), .int (xs 1), .ref 21] (by decide +kernel) rfl ?_
  refine mx_scr 6 3 265 (by decide +kernel) (by decide +kernel) (by decide +kernel) ?_
  refine mx_calls (.invokevirtual 36) [221, 5, 3, 0] 221 3 [.ref 21, .int (xs 1), .int (xs 2), .int (xs 3)] [] [(0, .ref 21), (1, .int (xs 1)), (2, .int (xs 2)), (3, .int (xs 3))] (some (.int (-1))) hh_a203 0 0 0 0 0 0 268 [.int (-1)] ap_221 (by decide +kernel) rfl ⟨by decide +kernel, rfl, rfl, rfl, rfl⟩ (iv_a735 6 xs zf hz hk u1 l2 u2 l3) ?_
  refine mx_B 5 273 [(3, .int 0), (2, .ref 36), (1, .ref 21), (0, .ref 0)] [.int 1, .ref 0, .ref 36, .int (-1)] (by decide +kernel) ?_
  refine mx_scr 6 1 274 (by decide +kernel) (by decide +kernel) (by decide +kernel) ?_
  refine mx_S (.aload_n 0) 1 [] 275 [(3, .int 0), (2, .ref 36), (1, .ref 21), (0, .ref 0)] [.ref 0, .int (xs 1), .ref 36, .int (-1)] (by decide +kernel) rfl ?_
  refine mx_S (.iload_n 3) 1 [] 276 [(3, .int 0), (2, .ref 36), (1, .ref 21), (0, .ref 0)] [.int 0, .ref 0, .int (xs 1), .ref 36, .int (-1)] (by decide +kernel) rfl ?_
  refine mx_S (.iconst 2) 1 [] 277 [(3, .int 0), (2, .ref 36), (1, .ref 21), (0, .ref 0)] [.int 2, .int 0, .ref 0, .int (xs 1), .ref 36, .int (-1)] (by decide +kernel) rfl ?_
  refine mx_S (.iadd) 1 [] 278 [(3, .int 0), (2, .ref 36), (1, .ref 21), (0, .ref 0)] [.int 2, .ref 0, .int (xs 1), .ref 36, .int (-1)] (by decide +kernel) rfl ?_
  refine mx_scr 6 2 279 (by decide +kernel) (by decide +kernel) (by decide +kernel) ?_
  refine mx_S (.aload_n 0) 1 [] 280 [(3, .int 0), (2, .ref 36), (1, .ref 21), (0, .ref 0)] [.ref 0, .int (xs 2), .int (xs 1), .ref 36, .int (-1)] (by decide +kernel) rfl ?_
  refine mx_S (.iload_n 3) 1 [] 281 [(3, .int 0), (2, .ref 36), (1, .ref 21), (0, .ref 0)] [.int 0, .ref 0, .int (xs 2), .int (xs 1), .ref 36, .int (-1)] (by decide +kernel) rfl ?_
  refine mx_S (.iconst 3) 1 [] 282 [(3, .int 0), (2, .ref 36), (1, .ref 21), (0, .ref 0)] [.int 3, .int 0, .ref 0, .int (xs 2), .int (xs 1), .ref 36, .int (-1)] (by decide +kernel) rfl ?_
  refine mx_S (.iadd) 1 [] 283 [(3, .int 0), (2, .ref 36), (1, .ref 21), (0, .ref 0)] [.int 3, .ref 0, .int (xs 2), .int (xs 1), .ref 36, .int (-1)] (by decide +kernel) rfl ?_
  refine mx_scr 6 3 284 (by decide +kernel) (by decide +kernel) (by decide +kernel) ?_
  refine mx_calls (.invokevirtual 40) [289, 5, 3, 15] 289 3 [.ref 36, .int (xs 1), .int (xs 2), .int (xs 3)] [.int (-1)] [(0, .ref 36), (1, .int (xs 1)), (2, .int (xs 2)), (3, .int (xs 3))] (some (.int (-1))) hh_a203 0 0 0 0 0 0 287 [.int (-1), .int (-1)] ap_289 (by decide +kernel) rfl ⟨by decide +kernel, rfl, rfl, rfl, rfl⟩ (iv_a736 6 xs zf hz hk u1 l2 u2 l3) ?_
  refine mx_B 5 20 [(3, .int 6), (2, .ref 36), (1, .ref 21), (0, .ref 0)] [.ref 0, .int 6] (by decide +kernel) ?_
  refine mx_S (.arraylength) 1 [] 21 [(3, .int 6), (2, .ref 36), (1, .ref 21), (0, .ref 0)] [.int 6, .int 6] (by decide +kernel) rfl ?_
  refine mx_B 4 543 [(3, .int 6), (2, .ref 36), (1, .ref 21), (0, .ref 0)] [.int 1] (by decide +kernel) ?_
  exact mx_ret (some (.int 1)) (by decide +kernel) ⟨rfl, rfl⟩
theorem iv_a738 (L : Nat) (xs : Nat → Int32) (zf : Value) (hz : zf.category = 1) (hk : xs 0 &&& 15 = 5) (l1 : 0 ≤ (xs 1).toInt) (l2 : 0 ≤ (xs 2).toInt) (u2 : (xs 2).toInt ≤ 4) (l3 : 5 ≤ (xs 3).toInt) : mx_R L xs zf ah_M221 0 [(0, .ref 21), (1, .int (xs 1)), (2, .int (xs 2)), (3, .int (xs 3))] [] hh_a203 0 0 0 0 (fun v h' => v = some (.int (-1)) ∧ h' = hh_a203) := by
  refine mx_S (.iload_n 2) 1 [] 1 [(0, .ref 21), (1, .int (xs 1)), (2, .int (xs 2)), (3, .int (xs 3))] [.int (xs 2)] (by decide +kernel) rfl ?_
  refine mx_1 .lt 17 false 4 (mx_v1 .lt (x := (xs 2)) 0 4  l2 u2 (by decide +kernel)) (by decide +kernel) ?_
  refine mx_S (.iload_n 2) 1 [] 5 [(0, .ref 21), (1, .int (xs 1)), (2, .int (xs 2)), (3, .int (xs 3))] [.int (xs 2)] (by decide +kernel) rfl ?_
  refine mx_S (.iconst 5) 1 [] 6 [(0, .ref 21), (1, .int (xs 1)), (2, .int (xs 2)), (3, .int (xs 3))] [.int 5, .int (xs 2)] (by decide +kernel) rfl ?_
  refine mx_2 .ge 12 false 9 (mx_v2 .ge (x := (xs 2)) (y := 5) 0 4 5  l2 u2 (by decide +kernel) (by decide +kernel)) (by decide +kernel) ?_
  refine mx_S (.iload_n 3) 1 [] 10 [(0, .ref 21), (1, .int (xs 1)), (2, .int (xs 2)), (3, .int (xs 3))] [.int (xs 3)] (by decide +kernel) rfl ?_
  refine mx_1 .lt 8 false 13 (mx_v1 .lt (x := (xs 3)) 5 2147483647  l3 (mx_hi _) (by decide +kernel)) (by decide +kernel) ?_
  refine mx_S (.iload_n 3) 1 [] 14 [(0, .ref 21), (1, .int (xs 1)), (2, .int (xs 2)), (3, .int (xs 3))] [.int (xs 3)] (by decide +kernel) rfl ?_
  refine mx_S (.iconst 5) 1 [] 15 [(0, .ref 21), (1, .int (xs 1)), (2, .int (xs 2)), (3, .int (xs 3))] [.int 5, .int (xs 3)] (by decide +kernel) rfl ?_
  refine mx_2 .lt 5 false 18 (mx_v2 .lt (x := (xs 3)) (y := 5) 5 2147483647 5  l3 (mx_hi _) (by decide +kernel) (by decide +kernel)) (by decide +kernel) ?_
  refine mx_S (.iconst (-1)) 1 [] 19 [(0, .ref 21), (1, .int (xs 1)), (2, .int (xs 2)), (3, .int (xs 3))] [.int (-1)] (by decide +kernel) rfl ?_
  exact mx_ret (some (.int (-1))) (by decide +kernel) ⟨rfl, rfl⟩
theorem iv_a739 (L : Nat) (xs : Nat → Int32) (zf : Value) (hz : zf.category = 1) (hk : xs 0 &&& 15 = 5) (l1 : 0 ≤ (xs 1).toInt) (u1 : (xs 1).toInt ≤ 3) (l2 : 0 ≤ (xs 2).toInt) (u2 : (xs 2).toInt ≤ 4) (l3 : 5 ≤ (xs 3).toInt) : mx_R L xs zf ah_M221 0 [(0, .ref 21), (1, .int (xs 1)), (2, .int (xs 2)), (3, .int (xs 3))] [] hh_a203 0 0 0 0 (fun v h' => v = some (.int (-1)) ∧ h' = hh_a203) := by
  refine mx_S (.iload_n 2) 1 [] 1 [(0, .ref 21), (1, .int (xs 1)), (2, .int (xs 2)), (3, .int (xs 3))] [.int (xs 2)] (by decide +kernel) rfl ?_
  refine mx_1 .lt 17 false 4 (mx_v1 .lt (x := (xs 2)) 0 4  l2 u2 (by decide +kernel)) (by decide +kernel) ?_
  refine mx_S (.iload_n 2) 1 [] 5 [(0, .ref 21), (1, .int (xs 1)), (2, .int (xs 2)), (3, .int (xs 3))] [.int (xs 2)] (by decide +kernel) rfl ?_
  refine mx_S (.iconst 5) 1 [] 6 [(0, .ref 21), (1, .int (xs 1)), (2, .int (xs 2)), (3, .int (xs 3))] [.int 5, .int (xs 2)] (by decide +kernel) rfl ?_
  refine mx_2 .ge 12 false 9 (mx_v2 .ge (x := (xs 2)) (y := 5) 0 4 5  l2 u2 (by decide +kernel) (by decide +kernel)) (by decide +kernel) ?_
  refine mx_S (.iload_n 3) 1 [] 10 [(0, .ref 21), (1, .int (xs 1)), (2, .int (xs 2)), (3, .int (xs 3))] [.int (xs 3)] (by decide +kernel) rfl ?_
  refine mx_1 .lt 8 false 13 (mx_v1 .lt (x := (xs 3)) 5 2147483647  l3 (mx_hi _) (by decide +kernel)) (by decide +kernel) ?_
  refine mx_S (.iload_n 3) 1 [] 14 [(0, .ref 21), (1, .int (xs 1)), (2, .int (xs 2)), (3, .int (xs 3))] [.int (xs 3)] (by decide +kernel) rfl ?_
  refine mx_S (.iconst 5) 1 [] 15 [(0, .ref 21), (1, .int (xs 1)), (2, .int (xs 2)), (3, .int (xs 3))] [.int 5, .int (xs 3)] (by decide +kernel) rfl ?_
  refine mx_2 .lt 5 false 18 (mx_v2 .lt (x := (xs 3)) (y := 5) 5 2147483647 5  l3 (mx_hi _) (by decide +kernel) (by decide +kernel)) (by decide +kernel) ?_
  refine mx_S (.iconst (-1)) 1 [] 19 [(0, .ref 21), (1, .int (xs 1)), (2, .int (xs 2)), (3, .int (xs 3))] [.int (-1)] (by decide +kernel) rfl ?_
  exact mx_ret (some (.int (-1))) (by decide +kernel) ⟨rfl, rfl⟩
theorem iv_a740 (L : Nat) (xs : Nat → Int32) (zf : Value) (hz : zf.category = 1) (hk : xs 0 &&& 15 = 5) (l1 : 0 ≤ (xs 1).toInt) (u1 : (xs 1).toInt ≤ 3) (l2 : 0 ≤ (xs 2).toInt) (u2 : (xs 2).toInt ≤ 4) (l3 : 5 ≤ (xs 3).toInt) : mx_R L xs zf ah_M289 0 [(0, .ref 36), (1, .int (xs 1)), (2, .int (xs 2)), (3, .int (xs 3))] [] hh_a203 0 0 0 0 (fun v h' => v = some (.int (-1)) ∧ h' = hh_a203) := by
  refine mx_S (.iload_n 1) 1 [] 1 [(0, .ref 36), (1, .int (xs 1)), (2, .int (xs 2)), (3, .int (xs 3))] [.int (xs 1)] (by decide +kernel) rfl ?_
  refine mx_1 .lt 26 false 4 (mx_v1 .lt (x := (xs 1)) 0 3  l1 u1 (by decide +kernel)) (by decide +kernel) ?_
  refine mx_S (.iload_n 1) 1 [] 5 [(0, .ref 36), (1, .int (xs 1)), (2, .int (xs 2)), (3, .int (xs 3))] [.int (xs 1)] (by decide +kernel) rfl ?_
  refine mx_S (.iconst 3) 1 [] 6 [(0, .ref 36), (1, .int (xs 1)), (2, .int (xs 2)), (3, .int (xs 3))] [.int 3, .int (xs 1)] (by decide +kernel) rfl ?_
  refine mx_2 .gt 21 false 9 (mx_v2 .gt (x := (xs 1)) (y := 3) 0 3 3  l1 u1 (by decide +kernel) (by decide +kernel)) (by decide +kernel) ?_
  refine mx_S (.iload_n 2) 1 [] 10 [(0, .ref 36), (1, .int (xs 1)), (2, .int (xs 2)), (3, .int (xs 3))] [.int (xs 2)] (by decide +kernel) rfl ?_
  refine mx_1 .lt 17 false 13 (mx_v1 .lt (x := (xs 2)) 0 4  l2 u2 (by decide +kernel)) (by decide +kernel) ?_
  refine mx_S (.iload_n 2) 1 [] 14 [(0, .ref 36), (1, .int (xs 1)), (2, .int (xs 2)), (3, .int (xs 3))] [.int (xs 2)] (by decide +kernel) rfl ?_
  refine mx_S (.iconst 4) 1 [] 15 [(0, .ref 36), (1, .int (xs 1)), (2, .int (xs 2)), (3, .int (xs 3))] [.int 4, .int (xs 2)] (by decide +kernel) rfl ?_
  refine mx_2 .gt 12 false 18 (mx_v2 .gt (x := (xs 2)) (y := 4) 0 4 4  l2 u2 (by decide +kernel) (by decide +kernel)) (by decide +kernel) ?_
  refine mx_S (.iload_n 3) 1 [] 19 [(0, .ref 36), (1, .int (xs 1)), (2, .int (xs 2)), (3, .int (xs 3))] [.int (xs 3)] (by decide +kernel) rfl ?_
  refine mx_1 .lt 8 false 22 (mx_v1 .lt (x := (xs 3)) 5 2147483647  l3 (mx_hi _) (by decide +kernel)) (by decide +kernel) ?_
  refine mx_S (.iload_n 3) 1 [] 23 [(0, .ref 36), (1, .int (xs 1)), (2, .int (xs 2)), (3, .int (xs 3))] [.int (xs 3)] (by decide +kernel) rfl ?_
  refine mx_S (.iconst 4) 1 [] 24 [(0, .ref 36), (1, .int (xs 1)), (2, .int (xs 2)), (3, .int (xs 3))] [.int 4, .int (xs 3)] (by decide +kernel) rfl ?_
  refine mx_2 .le 5 false 27 (mx_v2 .le (x := (xs 3)) (y := 4) 5 2147483647 4  l3 (mx_hi _) (by decide +kernel) (by decide +kernel)) (by decide +kernel) ?_
  refine mx_S (.iconst (-1)) 1 [] 28 [(0, .ref 36), (1, .int (xs 1)), (2, .int (xs 2)), (3, .int (xs 3))] [.int (-1)] (by decide +kernel) rfl ?_
  exact mx_ret (some (.int (-1))) (by decide +kernel) ⟨rfl, rfl⟩
theorem iv_a741 (xs : Nat → Int32) (zf : Value) (hz : zf.category = 1) (hk : xs 0 &&& 15 = 5) (l1 : 0 ≤ (xs 1).toInt) (u1 : (xs 1).toInt ≤ 3) (l2 : 0 ≤ (xs 2).toInt) (u2 : (xs 2).toInt ≤ 4) (l3 : 5 ≤ (xs 3).toInt) : mx_R 6 xs zf ah_M0 18 [(3, .int 0), (2, .ref 36), (1, .ref 21), (0, .ref 0)] [] hh_a203 0 0 1 23 (fun v h' => v = some (.int 1) ∧ h' = hh_a203) := by
  refine mx_B 2 20 [(3, .int 0), (2, .ref 36), (1, .ref 21), (0, .ref 0)] [.ref 0, .int 0] (by decide +kernel) ?_
  refine mx_S (.arraylength) 1 [] 21 [(3, .int 0), (2, .ref 36), (1, .ref 21), (0, .ref 0)] [.int 6, .int 0] (by decide +kernel) rfl ?_
  refine mx_B 5 29 [(3, .int 0), (2, .ref 36), (1, .ref 21), (0, .ref 0)] [.int 0, .ref 0] (by decide +kernel) ?_
  refine mx_scr 6 0 30 (by decide +kernel) (by decide +kernel) (by decide +kernel) ?_
  refine mx_S (.bipush 15) 2 [] 32 [(3, .int 0), (2, .ref 36), (1, .ref 21), (0, .ref 0)] [.int 15, .int (xs 0)] (by decide +kernel) rfl ?_
  refine mx_S (.iand) 1 [] 33 [(3, .int 0), (2, .ref 36), (1, .ref 21), (0, .ref 0)] [.int ((xs 0) &&& 15)] (by decide +kernel) rfl ?_
  refine mx_eq 5 hk ?_
  refine mx_B 6 254 [(3, .int 0), (2, .ref 36), (1, .ref 21), (0, .ref 0)] [.int 1, .ref 0, .ref 21] (by decide +kernel) ?_
  refine mx_scr 6 1 255 (by decide +kernel) (by decide +kernel) (by decide +kernel) ?_
  refine mx_S (.aload_n 0) 1 [] 256 [(3, .int 0), (2, .ref 36), (1, .ref 21), (0, .ref 0)] [.ref 0, .int (xs 1), .ref 21] (by decide +kernel) rfl ?_
  refine mx_S (.iload_n 3) 1 [] 257 [(3, .int 0), (2, .ref 36), (1, .ref 21), (0, .ref 0)] [.int 0, .ref 0, .int (xs 1), .ref 21] (by decide +kernel) rfl ?_
  refine mx_S (.iconst 2) 1 [] 258 [(3, .int 0), (2, .ref 36), (1, .ref 21), (0, .ref 0)] [.int 2, .int 0, .ref 0, .int (xs 1), .ref 21] (by decide +kernel) rfl ?_
  refine mx_S (.iadd) 1 [] 259 [(3, .int 0), (2, .ref 36), (1, .ref 21), (0, .ref 0)] [.int 2, .ref 0, .int (xs 1), .ref 21] (by decide +kernel) rfl ?_
  refine mx_scr 6 2 260 (by decide +kernel) (by decide +kernel) (by decide +kernel) ?_
  refine mx_S (.aload_n 0) 1 [] 261 [(3, .int 0), (2, .ref 36), (1, .ref 21), (0, .ref 0)] [.ref 0, .int (xs 2), .int (xs 1), .ref 21] (by decide +kernel) rfl ?_
  refine mx_S (.iload_n 3) 1 [] 262 [(3, .int 0), (2, .ref 36), (1, .ref 21), (0, .ref 0)] [.int 0, .ref 0, .int (xs 2), .int (xs 1), .ref 21] (by decide +kernel) rfl ?_
  refine mx_S (.iconst 3) 1 [] 263 [(3, .int 0), (2, .ref 36), (1, .ref 21), (0, .ref 0)] [.int 3, .int 0, .ref 0, .int (xs 2), .int (xs 1), .ref 21] (by decide +kernel) rfl ?_
  refine mx_S (.iadd) 1 [] 264 [(3, .int 0), (2, .ref 36), (1, .ref 21), (0, .ref 0)] [.int 3, .ref 0, .int (xs 2), .int (xs 1), .ref 21] (by decide +kernel) rfl ?_
  refine mx_scr 6 3 265 (by decide +kernel) (by decide +kernel) (by decide +kernel) ?_
  refine mx_calls (.invokevirtual 36) [221, 5, 3, 0] 221 3 [.ref 21, .int (xs 1), .int (xs 2), .int (xs 3)] [] [(0, .ref 21), (1, .int (xs 1)), (2, .int (xs 2)), (3, .int (xs 3))] (some (.int (-1))) hh_a203 0 0 0 0 0 0 268 [.int (-1)] ap_221 (by decide +kernel) rfl ⟨by decide +kernel, rfl, rfl, rfl, rfl⟩ (iv_a739 6 xs zf hz hk l1 u1 l2 u2 l3) ?_
  refine mx_B 5 273 [(3, .int 0), (2, .ref 36), (1, .ref 21), (0, .ref 0)] [.int 1, .ref 0, .ref 36, .int (-1)] (by decide +kernel) ?_
  refine mx_scr 6 1 274 (by decide +kernel) (by decide +kernel) (by decide +kernel) ?_
  refine mx_S (.aload_n 0) 1 [] 275 [(3, .int 0), (2, .ref 36), (1, .ref 21), (0, .ref 0)] [.ref 0, .int (xs 1), .ref 36, .int (-1)] (by decide +kernel) rfl ?_
  refine mx_S (.iload_n 3) 1 [] 276 [(3, .int 0), (2, .ref 36), (1, .ref 21), (0, .ref 0)] [.int 0, .ref 0, .int (xs 1), .ref 36, .int (-1)] (by decide +kernel) rfl ?_
  refine mx_S (.iconst 2) 1 [] 277 [(3, .int 0), (2, .ref 36), (1, .ref 21), (0, .ref 0)] [.int 2, .int 0, .ref 0, .int (xs 1), .ref 36, .int (-1)] (by decide +kernel) rfl ?_
  refine mx_S (.iadd) 1 [] 278 [(3, .int 0), (2, .ref 36), (1, .ref 21), (0, .ref 0)] [.int 2, .ref 0, .int (xs 1), .ref 36, .int (-1)] (by decide +kernel) rfl ?_
  refine mx_scr 6 2 279 (by decide +kernel) (by decide +kernel) (by decide +kernel) ?_
  refine mx_S (.aload_n 0) 1 [] 280 [(3, .int 0), (2, .ref 36), (1, .ref 21), (0, .ref 0)] [.ref 0, .int (xs 2), .int (xs 1), .ref 36, .int (-1)] (by decide +kernel) rfl ?_
  refine mx_S (.iload_n 3) 1 [] 281 [(3, .int 0), (2, .ref 36), (1, .ref 21), (0, .ref 0)] [.int 0, .ref 0, .int (xs 2), .int (xs 1), .ref 36, .int (-1)] (by decide +kernel) rfl ?_
  refine mx_S (.iconst 3) 1 [] 282 [(3, .int 0), (2, .ref 36), (1, .ref 21), (0, .ref 0)] [.int 3, .int 0, .ref 0, .int (xs 2), .int (xs 1), .ref 36, .int (-1)] (by decide +kernel) rfl ?_
  refine mx_S (.iadd) 1 [] 283 [(3, .int 0), (2, .ref 36), (1, .ref 21), (0, .ref 0)] [.int 3, .ref 0, .int (xs 2), .int (xs 1), .ref 36, .int (-1)] (by decide +kernel) rfl ?_
  refine mx_scr 6 3 284 (by decide +kernel) (by decide +kernel) (by decide +kernel) ?_
  refine mx_calls (.invokevirtual 40) [289, 5, 3, 15] 289 3 [.ref 36, .int (xs 1), .int (xs 2), .int (xs 3)] [.int (-1)] [(0, .ref 36), (1, .int (xs 1)), (2, .int (xs 2)), (3, .int (xs 3))] (some (.int (-1))) hh_a203 0 0 0 0 0 0 287 [.int (-1), .int (-1)] ap_289 (by decide +kernel) rfl ⟨by decide +kernel, rfl, rfl, rfl, rfl⟩ (iv_a740 6 xs zf hz hk l1 u1 l2 u2 l3) ?_
  refine mx_B 5 20 [(3, .int 6), (2, .ref 36), (1, .ref 21), (0, .ref 0)] [.ref 0, .int 6] (by decide +kernel) ?_
  refine mx_S (.arraylength) 1 [] 21 [(3, .int 6), (2, .ref 36), (1, .ref 21), (0, .ref 0)] [.int 6, .int 6] (by decide +kernel) rfl ?_
  refine mx_B 4 543 [(3, .int 6), (2, .ref 36), (1, .ref 21), (0, .ref 0)] [.int 1] (by decide +kernel) ?_
  exact mx_ret (some (.int 1)) (by decide +kernel) ⟨rfl, rfl⟩
theorem iv_a742 (L : Nat) (xs : Nat → Int32) (zf : Value) (hz : zf.category = 1) (hk : xs 0 &&& 15 = 5) (l1 : 4 ≤ (xs 1).toInt) (l2 : 0 ≤ (xs 2).toInt) (u2 : (xs 2).toInt ≤ 4) (l3 : 5 ≤ (xs 3).toInt) : mx_R L xs zf ah_M221 0 [(0, .ref 21), (1, .int (xs 1)), (2, .int (xs 2)), (3, .int (xs 3))] [] hh_a203 0 0 0 0 (fun v h' => v = some (.int (-1)) ∧ h' = hh_a203) := by
  refine mx_S (.iload_n 2) 1 [] 1 [(0, .ref 21), (1, .int (xs 1)), (2, .int (xs 2)), (3, .int (xs 3))] [.int (xs 2)] (by decide +kernel) rfl ?_
  refine mx_1 .lt 17 false 4 (mx_v1 .lt (x := (xs 2)) 0 4  l2 u2 (by decide +kernel)) (by decide +kernel) ?_
  refine mx_S (.iload_n 2) 1 [] 5 [(0, .ref 21), (1, .int (xs 1)), (2, .int (xs 2)), (3, .int (xs 3))] [.int (xs 2)] (by decide +kernel) rfl ?_
  refine mx_S (.iconst 5) 1 [] 6 [(0, .ref 21), (1, .int (xs 1)), (2, .int (xs 2)), (3, .int (xs 3))] [.int 5, .int (xs 2)] (by decide +kernel) rfl ?_
  refine mx_2 .ge 12 false 9 (mx_v2 .ge (x := (xs 2)) (y := 5) 0 4 5  l2 u2 (by decide +kernel) (by decide +kernel)) (by decide +kernel) ?_
  refine mx_S (.iload_n 3) 1 [] 10 [(0, .ref 21), (1, .int (xs 1)), (2, .int (xs 2)), (3, .int (xs 3))] [.int (xs 3)] (by decide +kernel) rfl ?_
  refine mx_1 .lt 8 false 13 (mx_v1 .lt (x := (xs 3)) 5 2147483647  l3 (mx_hi _) (by decide +kernel)) (by decide +kernel) ?_
  refine mx_S (.iload_n 3) 1 [] 14 [(0, .ref 21), (1, .int (xs 1)), (2, .int (xs 2)), (3, .int (xs 3))] [.int (xs 3)] (by decide +kernel) rfl ?_
  refine mx_S (.iconst 5) 1 [] 15 [(0, .ref 21), (1, .int (xs 1)), (2, .int (xs 2)), (3, .int (xs 3))] [.int 5, .int (xs 3)] (by decide +kernel) rfl ?_
  refine mx_2 .lt 5 false 18 (mx_v2 .lt (x := (xs 3)) (y := 5) 5 2147483647 5  l3 (mx_hi _) (by decide +kernel) (by decide +kernel)) (by decide +kernel) ?_
  refine mx_S (.iconst (-1)) 1 [] 19 [(0, .ref 21), (1, .int (xs 1)), (2, .int (xs 2)), (3, .int (xs 3))] [.int (-1)] (by decide +kernel) rfl ?_
  exact mx_ret (some (.int (-1))) (by decide +kernel) ⟨rfl, rfl⟩
theorem iv_a743 (L : Nat) (xs : Nat → Int32) (zf : Value) (hz : zf.category = 1) (hk : xs 0 &&& 15 = 5) (l1 : 4 ≤ (xs 1).toInt) (l2 : 0 ≤ (xs 2).toInt) (u2 : (xs 2).toInt ≤ 4) (l3 : 5 ≤ (xs 3).toInt) : mx_R L xs zf ah_M289 0 [(0, .ref 36), (1, .int (xs 1)), (2, .int (xs 2)), (3, .int (xs 3))] [] hh_a203 0 0 0 0 (fun v h' => v = some (.int (-1)) ∧ h' = hh_a203) := by
  refine mx_S (.iload_n 1) 1 [] 1 [(0, .ref 36), (1, .int (xs 1)), (2, .int (xs 2)), (3, .int (xs 3))] [.int (xs 1)] (by decide +kernel) rfl ?_
  refine mx_1 .lt 26 false 4 (mx_v1 .lt (x := (xs 1)) 4 2147483647  l1 (mx_hi _) (by decide +kernel)) (by decide +kernel) ?_
  refine mx_S (.iload_n 1) 1 [] 5 [(0, .ref 36), (1, .int (xs 1)), (2, .int (xs 2)), (3, .int (xs 3))] [.int (xs 1)] (by decide +kernel) rfl ?_
  refine mx_S (.iconst 3) 1 [] 6 [(0, .ref 36), (1, .int (xs 1)), (2, .int (xs 2)), (3, .int (xs 3))] [.int 3, .int (xs 1)] (by decide +kernel) rfl ?_
  refine mx_2 .gt 21 true 27 (mx_v2 .gt (x := (xs 1)) (y := 3) 4 2147483647 3  l1 (mx_hi _) (by decide +kernel) (by decide +kernel)) (by decide +kernel) ?_
  refine mx_S (.iconst (-1)) 1 [] 28 [(0, .ref 36), (1, .int (xs 1)), (2, .int (xs 2)), (3, .int (xs 3))] [.int (-1)] (by decide +kernel) rfl ?_
  exact mx_ret (some (.int (-1))) (by decide +kernel) ⟨rfl, rfl⟩
theorem iv_a744 (xs : Nat → Int32) (zf : Value) (hz : zf.category = 1) (hk : xs 0 &&& 15 = 5) (l1 : 4 ≤ (xs 1).toInt) (l2 : 0 ≤ (xs 2).toInt) (u2 : (xs 2).toInt ≤ 4) (l3 : 5 ≤ (xs 3).toInt) : mx_R 6 xs zf ah_M0 18 [(3, .int 0), (2, .ref 36), (1, .ref 21), (0, .ref 0)] [] hh_a203 0 0 1 23 (fun v h' => v = some (.int 1) ∧ h' = hh_a203) := by
  refine mx_B 2 20 [(3, .int 0), (2, .ref 36), (1, .ref 21), (0, .ref 0)] [.ref 0, .int 0] (by decide +kernel) ?_
  refine mx_S (.arraylength) 1 [] 21 [(3, .int 0), (2, .ref 36), (1, .ref 21), (0, .ref 0)] [.int 6, .int 0] (by decide +kernel) rfl ?_
  refine mx_B 5 29 [(3, .int 0), (2, .ref 36), (1, .ref 21), (0, .ref 0)] [.int 0, .ref 0] (by decide +kernel) ?_
  refine mx_scr 6 0 30 (by decide +kernel) (by decide +kernel) (by decide +kernel) ?_
  refine mx_S (.bipush 15) 2 [] 32 [(3, .int 0), (2, .ref 36), (1, .ref 21), (0, .ref 0)] [.int 15, .int (xs 0)] (by decide +kernel) rfl ?_
  refine mx_S (.iand) 1 [] 33 [(3, .int 0), (2, .ref 36), (1, .ref 21), (0, .ref 0)] [.int ((xs 0) &&& 15)] (by decide +kernel) rfl ?_
  refine mx_eq 5 hk ?_
  refine mx_B 6 254 [(3, .int 0), (2, .ref 36), (1, .ref 21), (0, .ref 0)] [.int 1, .ref 0, .ref 21] (by decide +kernel) ?_
  refine mx_scr 6 1 255 (by decide +kernel) (by decide +kernel) (by decide +kernel) ?_
  refine mx_S (.aload_n 0) 1 [] 256 [(3, .int 0), (2, .ref 36), (1, .ref 21), (0, .ref 0)] [.ref 0, .int (xs 1), .ref 21] (by decide +kernel) rfl ?_
  refine mx_S (.iload_n 3) 1 [] 257 [(3, .int 0), (2, .ref 36), (1, .ref 21), (0, .ref 0)] [.int 0, .ref 0, .int (xs 1), .ref 21] (by decide +kernel) rfl ?_
  refine mx_S (.iconst 2) 1 [] 258 [(3, .int 0), (2, .ref 36), (1, .ref 21), (0, .ref 0)] [.int 2, .int 0, .ref 0, .int (xs 1), .ref 21] (by decide +kernel) rfl ?_
  refine mx_S (.iadd) 1 [] 259 [(3, .int 0), (2, .ref 36), (1, .ref 21), (0, .ref 0)] [.int 2, .ref 0, .int (xs 1), .ref 21] (by decide +kernel) rfl ?_
  refine mx_scr 6 2 260 (by decide +kernel) (by decide +kernel) (by decide +kernel) ?_
  refine mx_S (.aload_n 0) 1 [] 261 [(3, .int 0), (2, .ref 36), (1, .ref 21), (0, .ref 0)] [.ref 0, .int (xs 2), .int (xs 1), .ref 21] (by decide +kernel) rfl ?_
  refine mx_S (.iload_n 3) 1 [] 262 [(3, .int 0), (2, .ref 36), (1, .ref 21), (0, .ref 0)] [.int 0, .ref 0, .int (xs 2), .int (xs 1), .ref 21] (by decide +kernel) rfl ?_
  refine mx_S (.iconst 3) 1 [] 263 [(3, .int 0), (2, .ref 36), (1, .ref 21), (0, .ref 0)] [.int 3, .int 0, .ref 0, .int (xs 2), .int (xs 1), .ref 21] (by decide +kernel) rfl ?_
  refine mx_S (.iadd) 1 [] 264 [(3, .int 0), (2, .ref 36), (1, .ref 21), (0, .ref 0)] [.int 3, .ref 0, .int (xs 2), .int (xs 1), .ref 21] (by decide +kernel) rfl ?_
  refine mx_scr 6 3 265 (by decide +kernel) (by decide +kernel) (by decide +kernel) ?_
  refine mx_calls (.invokevirtual 36) [221, 5, 3, 0] 221 3 [.ref 21, .int (xs 1), .int (xs 2), .int (xs 3)] [] [(0, .ref 21), (1, .int (xs 1)), (2, .int (xs 2)), (3, .int (xs 3))] (some (.int (-1))) hh_a203 0 0 0 0 0 0 268 [.int (-1)] ap_221 (by decide +kernel) rfl ⟨by decide +kernel, rfl, rfl, rfl, rfl⟩ (iv_a742 6 xs zf hz hk l1 l2 u2 l3) ?_
  refine mx_B 5 273 [(3, .int 0), (2, .ref 36), (1, .ref 21), (0, .ref 0)] [.int 1, .ref 0, .ref 36, .int (-1)] (by decide +kernel) ?_
  refine mx_scr 6 1 274 (by decide +kernel) (by decide +kernel) (by decide +kernel) ?_
  refine mx_S (.aload_n 0) 1 [] 275 [(3, .int 0), (2, .ref 36), (1, .ref 21), (0, .ref 0)] [.ref 0, .int (xs 1), .ref 36, .int (-1)] (by decide +kernel) rfl ?_
  refine mx_S (.iload_n 3) 1 [] 276 [(3, .int 0), (2, .ref 36), (1, .ref 21), (0, .ref 0)] [.int 0, .ref 0, .int (xs 1), .ref 36, .int (-1)] (by decide +kernel) rfl ?_
  refine mx_S (.iconst 2) 1 [] 277 [(3, .int 0), (2, .ref 36), (1, .ref 21), (0, .ref 0)] [.int 2, .int 0, .ref 0, .int (xs 1), .ref 36, .int (-1)] (by decide +kernel) rfl ?_
  refine mx_S (.iadd) 1 [] 278 [(3, .int 0), (2, .ref 36), (1, .ref 21), (0, .ref 0)] [.int 2, .ref 0, .int (xs 1), .ref 36, .int (-1)] (by decide +kernel) rfl ?_
  refine mx_scr 6 2 279 (by decide +kernel) (by decide +kernel) (by decide +kernel) ?_
  refine mx_S (.aload_n 0) 1 [] 280 [(3, .int 0), (2, .ref 36), (1, .ref 21), (0, .ref 0)] [.ref 0, .int (xs 2), .int (xs 1), .ref 36, .int (-1)] (by decide +kernel) rfl ?_
  refine mx_S (.iload_n 3) 1 [] 281 [(3, .int 0), (2, .ref 36), (1, .ref 21), (0, .ref 0)] [.int 0, .ref 0, .int (xs 2), .int (xs 1), .ref 36, .int (-1)] (by decide +kernel) rfl ?_
  refine mx_S (.iconst 3) 1 [] 282 [(3, .int 0), (2, .ref 36), (1, .ref 21), (0, .ref 0)] [.int 3, .int 0, .ref 0, .int (xs 2), .int (xs 1), .ref 36, .int (-1)] (by decide +kernel) rfl ?_
  refine mx_S (.iadd) 1 [] 283 [(3, .int 0), (2, .ref 36), (1, .ref 21), (0, .ref 0)] [.int 3, .ref 0, .int (xs 2), .int (xs 1), .ref 36, .int (-1)] (by decide +kernel) rfl ?_
  refine mx_scr 6 3 284 (by decide +kernel) (by decide +kernel) (by decide +kernel) ?_
  refine mx_calls (.invokevirtual 40) [289, 5, 3, 15] 289 3 [.ref 36, .int (xs 1), .int (xs 2), .int (xs 3)] [.int (-1)] [(0, .ref 36), (1, .int (xs 1)), (2, .int (xs 2)), (3, .int (xs 3))] (some (.int (-1))) hh_a203 0 0 0 0 0 0 287 [.int (-1), .int (-1)] ap_289 (by decide +kernel) rfl ⟨by decide +kernel, rfl, rfl, rfl, rfl⟩ (iv_a743 6 xs zf hz hk l1 l2 u2 l3) ?_
  refine mx_B 5 20 [(3, .int 6), (2, .ref 36), (1, .ref 21), (0, .ref 0)] [.ref 0, .int 6] (by decide +kernel) ?_
  refine mx_S (.arraylength) 1 [] 21 [(3, .int 6), (2, .ref 36), (1, .ref 21), (0, .ref 0)] [.int 6, .int 6] (by decide +kernel) rfl ?_
  refine mx_B 4 543 [(3, .int 6), (2, .ref 36), (1, .ref 21), (0, .ref 0)] [.int 1] (by decide +kernel) ?_
  exact mx_ret (some (.int 1)) (by decide +kernel) ⟨rfl, rfl⟩
theorem iv_a745 (L : Nat) (xs : Nat → Int32) (zf : Value) (hz : zf.category = 1) (hk : xs 0 &&& 15 = 5) (l2 : 5 ≤ (xs 2).toInt) : mx_R L xs zf ah_M221 0 [(0, .ref 21), (1, .int (xs 1)), (2, .int (xs 2)), (3, .int (xs 3))] [] hh_a203 0 0 0 0 (fun v h' => v = some (.int (-1)) ∧ h' = hh_a203) := by
  refine mx_S (.iload_n 2) 1 [] 1 [(0, .ref 21), (1, .int (xs 1)), (2, .int (xs 2)), (3, .int (xs 3))] [.int (xs 2)] (by decide +kernel) rfl ?_
  refine mx_1 .lt 17 false 4 (mx_v1 .lt (x := (xs 2)) 5 2147483647  l2 (mx_hi _) (by decide +kernel)) (by decide +kernel) ?_
  refine mx_S (.iload_n 2) 1 [] 5 [(0, .ref 21), (1, .int (xs 1)), (2, .int (xs 2)), (3, .int (xs 3))] [.int (xs 2)] (by decide +kernel) rfl ?_
  refine mx_S (.iconst 5) 1 [] 6 [(0, .ref 21), (1, .int (xs 1)), (2, .int (xs 2)), (3, .int (xs 3))] [.int 5, .int (xs 2)] (by decide +kernel) rfl ?_
  refine mx_2 .ge 12 true 18 (mx_v2 .ge (x := (xs 2)) (y := 5) 5 2147483647 5  l2 (mx_hi _) (by decide +kernel) (by decide +kernel)) (by decide +kernel) ?_
  refine mx_S (.iconst (-1)) 1 [] 19 [(0, .ref 21), (1, .int (xs 1)), (2, .int (xs 2)), (3, .int (xs 3))] [.int (-1)] (by decide +kernel) rfl ?_
  exact mx_ret (some (.int (-1))) (by decide +kernel) ⟨rfl, rfl⟩
theorem iv_a746 (L : Nat) (xs : Nat → Int32) (zf : Value) (hz : zf.category = 1) (hk : xs 0 &&& 15 = 5) (u1 : (xs 1).toInt ≤ (-1)) (l2 : 5 ≤ (xs 2).toInt) : mx_R L xs zf ah_M221 0 [(0, .ref 21), (1, .int (xs 1)), (2, .int (xs 2)), (3, .int (xs 3))] [] hh_a203 0 0 0 0 (fun v h' => v = some (.int (-1)) ∧ h' = hh_a203) := by
  refine mx_S (.iload_n 2) 1 [] 1 [(0, .ref 21), (1, .int (xs 1)), (2, .int (xs 2)), (3, .int (xs 3))] [.int (xs 2)] (by decide +kernel) rfl ?_
  refine mx_1 .lt 17 false 4 (mx_v1 .lt (x := (xs 2)) 5 2147483647  l2 (mx_hi _) (by decide +kernel)) (by decide +kernel) ?_
  refine mx_S (.iload_n 2) 1 [] 5 [(0, .ref 21), (1, .int (xs 1)), (2, .int (xs 2)), (3, .int (xs 3))] [.int (xs 2)] (by decide +kernel) rfl ?_
  refine mx_S (.iconst 5) 1 [] 6 [(0, .ref 21), (1, .int (xs 1)), (2, .int (xs 2)), (3, .int (xs 3))] [.int 5, .int (xs 2)] (by decide +kernel) rfl ?_
  refine mx_2 .ge 12 true 18 (mx_v2 .ge (x := (xs 2)) (y := 5) 5 2147483647 5  l2 (mx_hi _) (by decide +kernel) (by decide +kernel)) (by decide +kernel) ?_
  refine mx_S (.iconst (-1)) 1 [] 19 [(0, .ref 21), (1, .int (xs 1)), (2, .int (xs 2)), (3, .int (xs 3))] [.int (-1)] (by decide +kernel) rfl ?_
  exact mx_ret (some (.int (-1))) (by decide +kernel) ⟨rfl, rfl⟩
theorem iv_a747 (L : Nat) (xs : Nat → Int32) (zf : Value) (hz : zf.category = 1) (hk : xs 0 &&& 15 = 5) (u1 : (xs 1).toInt ≤ (-1)) (l2 : 5 ≤ (xs 2).toInt) : mx_R L xs zf ah_M289 0 [(0, .ref 36), (1, .int (xs 1)), (2, .int (xs 2)), (3, .int (xs 3))] [] hh_a203 0 0 0 0 (fun v h' => v = some (.int (-1)) ∧ h' = hh_a203) := by
  refine mx_S (.iload_n 1) 1 [] 1 [(0, .ref 36), (1, .int (xs 1)), (2, .int (xs 2)), (3, .int (xs 3))] [.int (xs 1)] (by decide +kernel) rfl ?_
  refine mx_1 .lt 26 true 27 (mx_v1 .lt (x := (xs 1)) (-2147483648) (-1)  (mx_lo _) u1 (by decide +kernel)) (by decide +kernel) ?_
  refine mx_S (.iconst (-1)) 1 [] 28 [(0, .ref 36), (1, .int (xs 1)), (2, .int (xs 2)), (3, .int (xs 3))] [.int (-1)] (by decide +kernel) rfl ?_
  exact mx_ret (some (.int (-1))) (by decide +kernel) ⟨rfl, rfl⟩
theorem iv_a748 (xs : Nat → Int32) (zf : Value) (hz : zf.category = 1) (hk : xs 0 &&& 15 = 5) (u1 : (xs 1).toInt ≤ (-1)) (l2 : 5 ≤ (xs 2).toInt) : mx_R 6 xs zf ah_M0 18 [(3, .int 0), (2, .ref 36), (1, .ref 21), (0, .ref 0)] [] hh_a203 0 0 1 23 (fun v h' => v = some (.int 1) ∧ h' = hh_a203) := by
  refine mx_B 2 20 [(3, .int 0), (2, .ref 36), (1, .ref 21), (0, .ref 0)] [.ref 0, .int 0] (by decide +kernel) ?_
  refine mx_S (.arraylength) 1 [] 21 [(3, .int 0), (2, .ref 36), (1, .ref 21), (0, .ref 0)] [.int 6, .int 0] (by decide +kernel) rfl ?_
  refine mx_B 5 29 [(3, .int 0), (2, .ref 36), (1, .ref 21), (0, .ref 0)] [.int 0, .ref 0] (by decide +kernel) ?_
  refine mx_scr 6 0 30 (by decide +kernel) (by decide +kernel) (by decide +kernel) ?_
  refine mx_S (.bipush 15) 2 [] 32 [(3, .int 0), (2, .ref 36), (1, .ref 21), (0, .ref 0)] [.int 15, .int (xs 0)] (by decide +kernel) rfl ?_
  refine mx_S (.iand) 1 [] 33 [(3, .int 0), (2, .ref 36), (1, .ref 21), (0, .ref 0)] [.int ((xs 0) &&& 15)] (by decide +kernel) rfl ?_
  refine mx_eq 5 hk ?_
  refine mx_B 6 254 [(3, .int 0), (2, .ref 36), (1, .ref 21), (0, .ref 0)] [.int 1, .ref 0, .ref 21] (by decide +kernel) ?_
  refine mx_scr 6 1 255 (by decide +kernel) (by decide +kernel) (by decide +kernel) ?_
  refine mx_S (.aload_n 0) 1 [] 256 [(3, .int 0), (2, .ref 36), (1, .ref 21), (0, .ref 0)] [.ref 0, .int (xs 1), .ref 21] (by decide +kernel) rfl ?_
  refine mx_S (.iload_n 3) 1 [] 257 [(3, .int 0), (2, .ref 36), (1, .ref 21), (0, .ref 0)] [.int 0, .ref 0, .int (xs 1), .ref 21] (by decide +kernel) rfl ?_
  refine mx_S (.iconst 2) 1 [] 258 [(3, .int 0), (2, .ref 36), (1, .ref 21), (0, .ref 0)] [.int 2, .int 0, .ref 0, .int (xs 1), .ref 21] (by decide +kernel) rfl ?_
  refine mx_S (.iadd) 1 [] 259 [(3, .int 0), (2, .ref 36), (1, .ref 21), (0, .ref 0)] [.int 2, .ref 0, .int (xs 1), .ref 21] (by decide +kernel) rfl ?_
  refine mx_scr 6 2 260 (by decide +kernel) (by decide +kernel) (by decide +kernel) ?_
  refine mx_S (.aload_n 0) 1 [] 261 [(3, .int 0), (2, .ref 36), (1, .ref 21), (0, .ref 0)] [.ref 0, .int (xs 2), .int (xs 1), .ref 21] (by decide +kernel) rfl ?_
  refine mx_S (.iload_n 3) 1 [] 262 [(3, .int 0), (2, .ref 36), (1, .ref 21), (0, .ref 0)] [.int 0, .ref 0, .int (xs 2), .int (xs 1), .ref 21] (by decide +kernel) rfl ?_
  refine mx_S (.iconst 3) 1 [] 263 [(3, .int 0), (2, .ref 36), (1, .ref 21), (0, .ref 0)] [.int 3, .int 0, .ref 0, .int (xs 2), .int (xs 1), .ref 21] (by decide +kernel) rfl ?_
  refine mx_S (.iadd) 1 [] 264 [(3, .int 0), (2, .ref 36), (1, .ref 21), (0, .ref 0)] [.int 3, .ref 0, .int (xs 2), .int (xs 1), .ref 21] (by decide +kernel) rfl ?_
  refine mx_scr 6 3 265 (by decide +kernel) (by decide +kernel) (by decide +kernel) ?_
  refine mx_calls (.invokevirtual 36) [221, 5, 3, 0] 221 3 [.ref 21, .int (xs 1), .int (xs 2), .int (xs 3)] [] [(0, .ref 21), (1, .int (xs 1)), (2, .int (xs 2)), (3, .int (xs 3))] (some (.int (-1))) hh_a203 0 0 0 0 0 0 268 [.int (-1)] ap_221 (by decide +kernel) rfl ⟨by decide +kernel, rfl, rfl, rfl, rfl⟩ (iv_a746 6 xs zf hz hk u1 l2) ?_
  refine mx_B 5 273 [(3, .int 0), (2, .ref 36), (1, .ref 21), (0, .ref 0)] [.int 1, .ref 0, .ref 36, .int (-1)] (by decide +kernel) ?_
  refine mx_scr 6 1 274 (by decide +kernel) (by decide +kernel) (by decide +kernel) ?_
  refine mx_S (.aload_n 0) 1 [] 275 [(3, .int 0), (2, .ref 36), (1, .ref 21), (0, .ref 0)] [.ref 0, .int (xs 1), .ref 36, .int (-1)] (by decide +kernel) rfl ?_
  refine mx_S (.iload_n 3) 1 [] 276 [(3, .int 0), (2, .ref 36), (1, .ref 21), (0, .ref 0)] [.int 0, .ref 0, .int (xs 1), .ref 36, .int (-1)] (by decide +kernel) rfl ?_
  refine mx_S (.iconst 2) 1 [] 277 [(3, .int 0), (2, .ref 36), (1, .ref 21), (0, .ref 0)] [.int 2, .int 0, .ref 0, .int (xs 1), .ref 36, .int (-1)] (by decide +kernel) rfl ?_
  refine mx_S (.iadd) 1 [] 278 [(3, .int 0), (2, .ref 36), (1, .ref 21), (0, .ref 0)] [.int 2, .ref 0, .int (xs 1), .ref 36, .int (-1)] (by decide +kernel) rfl ?_
  refine mx_scr 6 2 279 (by decide +kernel) (by decide +kernel) (by decide +kernel) ?_
  refine mx_S (.aload_n 0) 1 [] 280 [(3, .int 0), (2, .ref 36), (1, .ref 21), (0, .ref 0)] [.ref 0, .int (xs 2), .int (xs 1), .ref 36, .int (-1)] (by decide +kernel) rfl ?_
  refine mx_S (.iload_n 3) 1 [] 281 [(3, .int 0), (2, .ref 36), (1, .ref 21), (0, .ref 0)] [.int 0, .ref 0, .int (xs 2), .int (xs 1), .ref 36, .int (-1)] (by decide +kernel) rfl ?_
  refine mx_S (.iconst 3) 1 [] 282 [(3, .int 0), (2, .ref 36), (1, .ref 21), (0, .ref 0)] [.int 3, .int 0, .ref 0, .int (xs 2), .int (xs 1), .ref 36, .int (-1)] (by decide +kernel) rfl ?_
  refine mx_S (.iadd) 1 [] 283 [(3, .int 0), (2, .ref 36), (1, .ref 21), (0, .ref 0)] [.int 3, .ref 0, .int (xs 2), .int (xs 1), .ref 36, .int (-1)] (by decide +kernel) rfl ?_
  refine mx_scr 6 3 284 (by decide +kernel) (by decide +kernel) (by decide +kernel) ?_
  refine mx_calls (.invokevirtual 40) [289, 5, 3, 15] 289 3 [.ref 36, .int (xs 1), .int (xs 2), .int (xs 3)] [.int (-1)] [(0, .ref 36), (1, .int (xs 1)), (2, .int (xs 2)), (3, .int (xs 3))] (some (.int (-1))) hh_a203 0 0 0 0 0 0 287 [.int (-1), .int (-1)] ap_289 (by decide +kernel) rfl ⟨by decide +kernel, rfl, rfl, rfl, rfl⟩ (iv_a747 6 xs zf hz hk u1 l2) ?_
  refine mx_B 5 20 [(3, .int 6), (2, .ref 36), (1, .ref 21), (0, .ref 0)] [.ref 0, .int 6] (by decide +kernel) ?_
  refine mx_S (.arraylength) 1 [] 21 [(3, .int 6), (2, .ref 36), (1, .ref 21), (0, .ref 0)] [.int 6, .int 6] (by decide +kernel) rfl ?_
  refine mx_B 4 543 [(3, .int 6), (2, .ref 36), (1, .ref 21), (0, .ref 0)] [.int 1] (by decide +kernel) ?_
  exact mx_ret (some (.int 1)) (by decide +kernel) ⟨rfl, rfl⟩
theorem iv_a749 (L : Nat) (xs : Nat → Int32) (zf : Value) (hz : zf.category = 1) (hk : xs 0 &&& 15 = 5) (l1 : 0 ≤ (xs 1).toInt) (l2 : 5 ≤ (xs 2).toInt) : mx_R L xs zf ah_M221 0 [(0, .ref 21), (1, .int (xs 1)), (2, .int (xs 2)), (3, .int (xs 3))] [] hh_a203 0 0 0 0 (fun v h' => v = some (.int (-1)) ∧ h' = hh_a203) := by
  refine mx_S (.iload_n 2) 1 [] 1 [(0, .ref 21), (1, .int (xs 1)), (2, .int (xs 2)), (3, .int (xs 3))] [.int (xs 2)] (by decide +kernel) rfl ?_
  refine mx_1 .lt 17 false 4 (mx_v1 .lt (x := (xs 2)) 5 2147483647  l2 (mx_hi _) (by decide +kernel)) (by decide +kernel) ?_
  refine mx_S (.iload_n 2) 1 [] 5 [(0, .ref 21), (1, .int (xs 1)), (2, .int (xs 2)), (3, .int (xs 3))] [.int (xs 2)] (by decide +kernel) rfl ?_
  refine mx_S (.iconst 5) 1 [] 6 [(0, .ref 21), (1, .int (xs 1)), (2, .int (xs 2)), (3, .int (xs 3))] [.int 5, .int (xs 2)] (by decide +kernel) rfl ?_
  refine mx_2 .ge 12 true 18 (mx_v2 .ge (x := (xs 2)) (y := 5) 5 2147483647 5  l2 (mx_hi _) (by decide +kernel) (by decide +kernel)) (by decide +kernel) ?_
  refine mx_S (.iconst (-1)) 1 [] 19 [(0, .ref 21), (1, .int (xs 1)), (2, .int (xs 2)), (3, .int (xs 3))] [.int (-1)] (by decide +kernel) rfl ?_
  exact mx_ret (some (.int (-1))) (by decide +kernel) ⟨rfl, rfl⟩
theorem iv_a750 (L : Nat) (xs : Nat → Int32) (zf : Value) (hz : zf.category = 1) (hk : xs 0 &&& 15 = 5) (l1 : 0 ≤ (xs 1).toInt) (u1 : (xs 1).toInt ≤ 3) (l2 : 5 ≤ (xs 2).toInt) : mx_R L xs zf ah_M221 0 [(0, .ref 21), (1, .int (xs 1)), (2, .int (xs 2)), (3, .int (xs 3))] [] hh_a203 0 0 0 0 (fun v h' => v = some (.int (-1)) ∧ h' = hh_a203) := by
  refine mx_S (.iload_n 2) 1 [] 1 [(0, .ref 21), (1, .int (xs 1)), (2, .int (xs 2)), (3, .int (xs 3))] [.int (xs 2)] (by decide +kernel) rfl ?_
  refine mx_1 .lt 17 false 4 (mx_v1 .lt (x := (xs 2)) 5 2147483647  l2 (mx_hi _) (by decide +kernel)) (by decide +kernel) ?_
  refine mx_S (.iload_n 2) 1 [] 5 [(0, .ref 21), (1, .int (xs 1)), (2, .int (xs 2)), (3, .int (xs 3))] [.int (xs 2)] (by decide +kernel) rfl ?_
  refine mx_S (.iconst 5) 1 [] 6 [(0, .ref 21), (1, .int (xs 1)), (2, .int (xs 2)), (3, .int (xs 3))] [.int 5, .int (xs 2)] (by decide +kernel) rfl ?_
  refine mx_2 .ge 12 true 18 (mx_v2 .ge (x := (xs 2)) (y := 5) 5 2147483647 5  l2 (mx_hi _) (by decide +kernel) (by decide +kernel)) (by decide +kernel) ?_
  refine mx_S (.iconst (-1)) 1 [] 19 [(0, .ref 21), (1, .int (xs 1)), (2, .int (xs 2)), (3, .int (xs 3))] [.int (-1)] (by decide +kernel) rfl ?_
  exact mx_ret (some (.int (-1))) (by decide +kernel) ⟨rfl, rfl⟩
theorem iv_a751 (L : Nat) (xs : Nat → Int32) (zf : Value) (hz : zf.category = 1) (hk : xs 0 &&& 15 = 5) (l1 : 0 ≤ (xs 1).toInt) (u1 : (xs 1).toInt ≤ 3) (l2 : 5 ≤ (xs 2).toInt) : mx_R L xs zf ah_M289 0 [(0, .ref 36), (1, .int (xs 1)), (2, .int (xs 2)), (3, .int (xs 3))] [] hh_a203 0 0 0 0 (fun v h' => v = some (.int (-1)) ∧ h' = hh_a203) := by
  refine mx_S (.iload_n 1) 1 [] 1 [(0, .ref 36), (1, .int (xs 1)), (2, .int (xs 2)), (3, .int (xs 3))] [.int (xs 1)] (by decide +kernel) rfl ?_
  refine mx_1 .lt 26 false 4 (mx_v1 .lt (x := (xs 1)) 0 3  l1 u1 (by decide +kernel)) (by decide +kernel) ?_
  refine mx_S (.iload_n 1) 1 [] 5 [(0, .ref 36), (1, .int (xs 1)), (2, .int (xs 2)), (3, .int (xs 3))] [.int (xs 1)] (by decide +kernel) rfl ?_
  refine mx_S (.iconst 3) 1 [] 6 [(0, .ref 36), (1, .int (xs 1)), (2, .int (xs 2)), (3, .int (xs 3))] [.int 3, .int (xs 1)] (by decide +kernel) rfl ?_
  refine mx_2 .gt 21 false 9 (mx_v2 .gt (x := (xs 1)) (y := 3) 0 3 3  l1 u1 (by decide +kernel) (by decide +kernel)) (by decide +kernel) ?_
  refine mx_S (.iload_n 2) 1 [] 10 [(0, .ref 36), (1, .int (xs 1)), (2, .int (xs 2)), (3, .int (xs 3))] [.int (xs 2)] (by decide +kernel) rfl ?_
  refine mx_1 .lt 17 false 13 (mx_v1 .lt (x := (xs 2)) 5 2147483647  l2 (mx_hi _) (by decide +kernel)) (by decide +kernel) ?_
  refine mx_S (.iload_n 2) 1 [] 14 [(0, .ref 36), (1, .int (xs 1)), (2, .int (xs 2)), (3, .int (xs 3))] [.int (xs 2)] (by decide +kernel) rfl ?_
  refine mx_S (.iconst 4) 1 [] 15 [(0, .ref 36), (1, .int (xs 1)), (2, .int (xs 2)), (3, .int (xs 3))] [.int 4, .int (xs 2)] (by decide +kernel) rfl ?_
  refine mx_2 .gt 12 true 27 (mx_v2 .gt (x := (xs 2)) (y := 4) 5 2147483647 4  l2 (mx_hi _) (by decide +kernel) (by decide +kernel)) (by decide +kernel) ?_
  refine mx_S (.iconst (-1)) 1 [] 28 [(0, .ref 36), (1, .int (xs 1)), (2, .int (xs 2)), (3, .int (xs 3))] [.int (-1)] (by decide +kernel) rfl ?_
  exact mx_ret (some (.int (-1))) (by decide +kernel) ⟨rfl, rfl⟩
theorem iv_a752 (xs : Nat → Int32) (zf : Value) (hz : zf.category = 1) (hk : xs 0 &&& 15 = 5) (l1 : 0 ≤ (xs 1).toInt) (u1 : (xs 1).toInt ≤ 3) (l2 : 5 ≤ (xs 2).toInt) : mx_R 6 xs zf ah_M0 18 [(3, .int 0), (2, .ref 36), (1, .ref 21), (0, .ref 0)] [] hh_a203 0 0 1 23 (fun v h' => v = some (.int 1) ∧ h' = hh_a203) := by
  refine mx_B 2 20 [(3, .int 0), (2, .ref 36), (1, .ref 21), (0, .ref 0)] [.ref 0, .int 0] (by decide +kernel) ?_
  refine mx_S (.arraylength) 1 [] 21 [(3, .int 0), (2, .ref 36), (1, .ref 21), (0, .ref 0)] [.int 6, .int 0] (by decide +kernel) rfl ?_
  refine mx_B 5 29 [(3, .int 0), (2, .ref 36), (1, .ref 21), (0, .ref 0)] [.int 0, .ref 0] (by decide +kernel) ?_
  refine mx_scr 6 0 30 (by decide +kernel) (by decide +kernel) (by decide +kernel) ?_
  refine mx_S (.bipush 15) 2 [] 32 [(3, .int 0), (2, .ref 36), (1, .ref 21), (0, .ref 0)] [.int 15, .int (xs 0)] (by decide +kernel) rfl ?_
  refine mx_S (.iand) 1 [] 33 [(3, .int 0), (2, .ref 36), (1, .ref 21), (0, .ref 0)] [.int ((xs 0) &&& 15)] (by decide +kernel) rfl ?_
  refine mx_eq 5 hk ?_
  refine mx_B 6 254 [(3, .int 0), (2, .ref 36), (1, .ref 21), (0, .ref 0)] [.int 1, .ref 0, .ref 21] (by decide +kernel) ?_
  refine mx_scr 6 1 255 (by decide +kernel) (by decide +kernel) (by decide +kernel) ?_
  refine mx_S (.aload_n 0) 1 [] 256 [(3, .int 0), (2, .ref 36), (1, .ref 21), (0, .ref 0)] [.ref 0, .int (xs 1), .ref 21] (by decide +kernel) rfl ?_
  refine mx_S (.iload_n 3) 1 [] 257 [(3, .int 0), (2, .ref 36), (1, .ref 21), (0, .ref 0)] [.int 0, .ref 0, .int (xs 1), .ref 21] (by decide +kernel) rfl ?_
  refine mx_S (.iconst 2) 1 [] 258 [(3, .int 0), (2, .ref 36), (1, .ref 21), (0, .ref 0)] [.int 2, .int 0, .ref 0, .int (xs 1), .ref 21] (by decide +kernel) rfl ?_
  refine mx_S (.iadd) 1 [] 259 [(3, .int 0), (2, .ref 36), (1, .ref 21), (0, .ref 0)] [.int 2, .ref 0, .int (xs 1), .ref 21] (by decide +kernel) rfl ?_
  refine mx_scr 6 2 260 (by decide +kernel) (by decide +kernel) (by decide +kernel) ?_
  refine mx_S (.aload_n 0) 1 [] 261 [(3, .int 0), (2, .ref 36), (1, .ref 21), (0, .ref 0)] [.ref 0, .int (xs 2), .int (xs 1), .ref 21] (by decide +kernel) rfl ?_
  refine mx_S (.iload_n 3) 1 [] 262 [(3, .int 0), (2, .ref 36), (1, .ref 21), (0, .ref 0)] [.int 0, .ref 0, .int (xs 2), .int (xs 1), .ref 21] (by decide +kernel) rfl ?_
  refine mx_S (.iconst 3) 1 [] 263 [(3, .int 0), (2, .ref 36), (1, .ref 21), (0, .ref 0)] [.int 3, .int 0, .ref 0, .int (xs 2), .int (xs 1), .ref 21] (by decide +kernel) rfl ?_
  refine mx_S (.iadd) 1 [] 264 [(3, .int 0), (2, .ref 36), (1, .ref 21), (0, .ref 0)] [.int 3, .ref 0, .int (xs 2), .int (xs 1), .ref 21] (by decide +kernel) rfl ?_
  refine mx_scr 6 3 265 (by decide +kernel) (by decide +kernel) (by decide +kernel) ?_
  refine mx_calls (.invokevirtual 36) [221, 5, 3, 0] 221 3 [.ref 21, .int (xs 1), .int (xs 2), .int (xs 3)] [] [(0, .ref 21), (1, .int (xs 1)), (2, .int (xs 2)), (3, .int (xs 3))] (some (.int (-1))) hh_a203 0 0 0 0 0 0 268 [.int (-1)] ap_221 (by decide +kernel) rfl ⟨by decide +kernel, rfl, rfl, rfl, rfl⟩ (iv_a750 6 xs zf hz hk l1 u1 l2) ?_
  refine mx_B 5 273 [(3, .int 0), (2, .ref 36), (1, .ref 21), (0, .ref 0)] [.int 1, .ref 0, .ref 36, .int (-1)] (by decide +kernel) ?_
  refine mx_scr 6 1 274 (by decide +kernel) (by decide +kernel) (by decide +kernel) ?_
  refine mx_S (.aload_n 0) 1 [] 275 [(3, .int 0), (2, .ref 36), (1, .ref 21), (0, .ref 0)] [.ref 0, .int (xs 1), .ref 36, .int (-1)] (by decide +kernel) rfl ?_
  refine mx_S (.iload_n 3) 1 [] 276 [(3, .int 0), (2, .ref 36), (1, .ref 21), (0, .ref 0)] [.int 0, .ref 0, .int (xs 1), .ref 36, .int (-1)] (by decide +kernel) rfl ?_
  refine mx_S (.iconst 2) 1 [] 277 [(3, .int 0), (2, .ref 36), (1, .ref 21), (0, .ref 0)] [.int 2, .int 0, .ref 0, .int (xs 1), .ref 36, .int (-1)] (by decide +kernel) rfl ?_
  refine mx_S (.iadd) 1 [] 278 [(3, .int 0), (2, .ref 36), (1, .ref 21), (0, .ref 0)] [.int 2, .ref 0, .int (xs 1), .ref 36, .int (-1)] (by decide +kernel) rfl ?_
  refine mx_scr 6 2 279 (by decide +kernel) (by decide +kernel) (by decide +kernel) ?_
  refine mx_S (.aload_n 0) 1 [] 280 [(3, .int 0), (2, .ref 36), (1, .ref 21), (0, .ref 0)] [.ref 0, .int (xs 2), .int (xs 1), .ref 36, .int (-1)] (by decide +kernel) rfl ?_
  refine mx_S (.iload_n 3) 1 [] 281 [(3, .int 0), (2, .ref 36), (1, .ref 21), (0, .ref 0)] [.int 0, .ref 0, .int (xs 2), .int (xs 1), .ref 36, .int (-1)] (by decide +kernel) rfl ?_
  refine mx_S (.iconst 3) 1 [] 282 [(3, .int 0), (2, .ref 36), (1, .ref 21), (0, .ref 0)] [.int 3, .int 0, .ref 0, .int (xs 2), .int (xs 1), .ref 36, .int (-1)] (by decide +kernel) rfl ?_
  refine mx_S (.iadd) 1 [] 283 [(3, .int 0), (2, .ref 36), (1, .ref 21), (0, .ref 0)] [.int 3, .ref 0, .int (xs 2), .int (xs 1), .ref 36, .int (-1)] (by decide +kernel) rfl ?_
  refine mx_scr 6 3 284 (by decide +kernel) (by decide +kernel) (by decide +kernel) ?_
  refine mx_calls (.invokevirtual 40) [289, 5, 3, 15] 289 3 [.ref 36, .int (xs 1), .int (xs 2), .int (xs 3)] [.int (-1)] [(0, .ref 36), (1, .int (xs 1)), (2, .int (xs 2)), (3, .int (xs 3))] (some (.int (-1))) hh_a203 0 0 0 0 0 0 287 [.int (-1), .int (-1)] ap_289 (by decide +kernel) rfl ⟨by decide +kernel, rfl, rfl, rfl, rfl⟩ (iv_a751 6 xs zf hz hk l1 u1 l2) ?_
  refine mx_B 5 20 [(3, .int 6), (2, .ref 36), (1, .ref 21), (0, .ref 0)] [.ref 0, .int 6] (by decide +kernel) ?_
  refine mx_S (.arraylength) 1 [] 21 [(3, .int 6), (2, .ref 36), (1, .ref 21), (0, .ref 0)] [.int 6, .int 6] (by decide +kernel) rfl ?_
  refine mx_B 4 543 [(3, .int 6), (2, .ref 36), (1, .ref 21), (0, .ref 0)] [.int 1] (by decide +kernel) ?_
  exact mx_ret (some (.int 1)) (by decide +kernel) ⟨rfl, rfl⟩
theorem iv_a753 (L : Nat) (xs : Nat → Int32) (zf : Value) (hz : zf.category = 1) (hk : xs 0 &&& 15 = 5) (l1 : 4 ≤ (xs 1).toInt) (l2 : 5 ≤ (xs 2).toInt) : mx_R L xs zf ah_M221 0 [(0, .ref 21), (1, .int (xs 1)), (2, .int (xs 2)), (3, .int (xs 3))] [] hh_a203 0 0 0 0 (fun v h' => v = some (.int (-1)) ∧ h' = hh_a203) := by
  refine mx_S (.iload_n 2) 1 [] 1 [(0, .ref 21), (1, .int (xs 1)), (2, .int (xs 2)), (3, .int (xs 3))] [.int (xs 2)] (by decide +kernel) rfl ?_
  refine mx_1 .lt 17 false 4 (mx_v1 .lt (x := (xs 2)) 5 2147483647  l2 (mx_hi _) (by decide +kernel)) (by decide +kernel) ?_
  refine mx_S (.iload_n 2) 1 [] 5 [(0, .ref 21), (1, .int (xs 1)), (2, .int (xs 2)), (3, .int (xs 3))] [.int (xs 2)] (by decide +kernel) rfl ?_
  refine mx_S (.iconst 5) 1 [] 6 [(0, .ref 21), (1, .int (xs 1)), (2, .int (xs 2)), (3, .int (xs 3))] [.int 5, .int (xs 2)] (by decide +kernel) rfl ?_
  refine mx_2 .ge 12 true 18 (mx_v2 .ge (x := (xs 2)) (y := 5) 5 2147483647 5  l2 (mx_hi _) (by decide +kernel) (by decide +kernel)) (by decide +kernel) ?_
  refine mx_S (.iconst (-1)) 1 [] 19 [(0, .ref 21), (1, .int (xs 1)), (2, .int (xs 2)), (3, .int (xs 3))] [.int (-1)] (by decide +kernel) rfl ?_
  exact mx_ret (some (.int (-1))) (by decide +kernel) ⟨rfl, rfl⟩
theorem iv_a754 (L : Nat) (xs : Nat → Int32) (zf : Value) (hz : zf.category = 1) (hk : xs 0 &&& 15 = 5) (l1 : 4 ≤ (xs 1).toInt) (l2 : 5 ≤ (xs 2).toInt) : mx_R L xs zf ah_M289 0 [(0, .ref 36), (1, .int (xs 1)), (2, .int (xs 2)), (3, .int (xs 3))] [] hh_a203 0 0 0 0 (fun v h' => v = some (.int (-1)) ∧ h' = hh_a203) := by
  refine mx_S (.iload_n 1) 1 [] 1 [(0, .ref 36), (1, .int (xs 1)), (2, .int (xs 2)), (3, .int (xs 3))] [.int (xs 1)] (by decide +kernel) rfl ?_
  refine mx_1 .lt 26 false 4 (mx_v1 .lt (x := (xs 1)) 4 2147483647  l1 (mx_hi _) (by decide +kernel)) (by decide +kernel) ?_
  refine mx_S (.iload_n 1) 1 [] 5 [(0, .ref 36), (1, .int (xs 1)), (2, .int (xs 2)), (3, .int (xs 3))] [.int (xs 1)] (by decide +kernel) rfl ?_
  refine mx_S (.iconst 3) 1 [] 6 [(0, .ref 36), (1, .int (xs 1)), (2, .int (xs 2)), (3, .int (xs 3))] [.int 3, .int (xs 1)] (by decide +kernel) rfl ?_
  refine mx_2 .gt 21 true 27 (mx_v2 .gt (x := (xs 1)) (y := 3) 4 2147483647 3  l1 (mx_hi _) (by decide +kernel) (by decide +kernel)) (by decide +kernel) ?_
  refine mx_S (.iconst (-1)) 1 [] 28 [(0, .ref 36), (1, .int (xs 1)), (2, .int (xs 2)), (3, .int (xs 3))] [.int (-1)] (by decide +kernel) rfl ?_
  exact mx_ret (some (.int (-1))) (by decide +kernel) ⟨rfl, rfl⟩
theorem iv_a755 (xs : Nat → Int32) (zf : Value) (hz : zf.category = 1) (hk : xs 0 &&& 15 = 5) (l1 : 4 ≤ (xs 1).toInt) (l2 : 5 ≤ (xs 2).toInt) : mx_R 6 xs zf ah_M0 18 [(3, .int 0), (2, .ref 36), (1, .ref 21), (0, .ref 0)] [] hh_a203 0 0 1 23 (fun v h' => v = some (.int 1) ∧ h' = hh_a203) := by
  refine mx_B 2 20 [(3, .int 0), (2, .ref 36), (1, .ref 21), (0, .ref 0)] [.ref 0, .int 0] (by decide +kernel) ?_
  refine mx_S (.arraylength) 1 [] 21 [(3, .int 0), (2, .ref 36), (1, .ref 21), (0, .ref 0)] [.int 6, .int 0] (by decide +kernel) rfl ?_
  refine mx_B 5 29 [(3, .int 0), (2, .ref 36), (1, .ref 21), (0, .ref 0)] [.int 0, .ref 0] (by decide +kernel) ?_
  refine mx_scr 6 0 30 (by decide +kernel) (by decide +kernel) (by decide +kernel) ?_
  refine mx_S (.bipush 15) 2 [] 32 [(3, .int 0), (2, .ref 36), (1, .ref 21), (0, .ref 0)] [.int 15, .int (xs 0)] (by decide +kernel) rfl ?_
  refine mx_S (.iand) 1 [] 33 [(3, .int 0), (2, .ref 36), (1, .ref 21), (0, .ref 0)] [.int ((xs 0) &&& 15)] (by decide +kernel) rfl ?_
  refine mx_eq 5 hk ?_
  refine mx_B 6 254 [(3, .int 0), (2, .ref 36), (1, .ref 21), (0, .ref 0)] [.int 1, .ref 0, .ref 21] (by decide +kernel) ?_
  refine mx_scr 6 1 255 (by decide +kernel) (by decide +kernel) (by decide +kernel) ?_
  refine mx_S (.aload_n 0) 1 [] 256 [(3, .int 0), (2, .ref 36), (1, .ref 21), (0, .ref 0)] [.ref 0, .int (xs 1), .ref 21] (by decide +kernel) rfl ?_
  refine mx_S (.iload_n 3) 1 [] 257 [(3, .int 0), (2, .ref 36), (1, .ref 21), (0, .ref 0)] [.int 0, .ref 0, .int (xs 1), .ref 21] (by decide +kernel) rfl ?_
  refine mx_S (.iconst 2) 1 [] 258 [(3, .int 0), (2, .ref 36), (1, .ref 21), (0, .ref 0)] [.int 2, .int 0, .ref 0, .int (xs 1), .ref 21] (by decide +kernel) rfl ?_
  refine mx_S (.iadd) 1 [] 259 [(3, .int 0), (2, .ref 36), (1, .ref 21), (0, .ref 0)] [.int 2, .ref 0, .int (xs 1), .ref 21] (by decide +kernel) rfl ?_
  refine mx_scr 6 2 260 (by decide +kernel) (by decide +kernel) (by decide +kernel) ?_
  refine mx_S (.aload_n 0) 1 [] 261 [(3, .int 0), (2, .ref 36), (1, .ref 21), (0, .ref 0)] [.ref 0, .int (xs 2), .int (xs 1), .ref 21] (by decide +kernel) rfl ?_
  refine mx_S (.iload_n 3) 1 [] 262 [(3, .int 0), (2, .ref 36), (1, .ref 21), (0, .ref 0)] [.int 0, .ref 0, .int (xs 2), .int (xs 1), .ref 21] (by decide +kernel) rfl ?_
  refine mx_S (.iconst 3) 1 [] 263 [(3, .int 0), (2, .ref 36), (1, .ref 21), (0, .ref 0)] [.int 3, .int 0, .ref 0, .int (xs 2), .int (xs 1), .ref 21] (by decide +kernel) rfl ?_
  refine mx_S (.iadd) 1 [] 264 [(3, .int 0), (2, .ref 36), (1, .ref 21), (0, .ref 0)] [.int 3, .ref 0, .int (xs 2), .int (xs 1), .ref 21] (by decide +kernel) rfl ?_
  refine mx_scr 6 3 265 (by decide +kernel) (by decide +kernel) (by decide +kernel) ?_
  refine mx_calls (.invokevirtual 36) [221, 5, 3, 0] 221 3 [.ref 21, .int (xs 1), .int (xs 2), .int (xs 3)] [] [(0, .ref 21), (1, .int (xs 1)), (2, .int (xs 2)), (3, .int (xs 3))] (some (.int (-1))) hh_a203 0 0 0 0 0 0 268 [.int (-1)] ap_221 (by decide +kernel) rfl ⟨by decide +kernel, rfl, rfl, rfl, rfl⟩ (iv_a753 6 xs zf hz hk l1 l2) ?_
  refine mx_B 5 273 [(3, .int 0), (2, .ref 36), (1, .ref 21), (0, .ref 0)] [.int 1, .ref 0, .ref 36, .int (-1)] (by decide +kernel) ?_
  refine mx_scr 6 1 274 (by decide +kernel) (by decide +kernel) (by decide +kernel) ?_
  refine mx_S (.aload_n 0) 1 [] 275 [(3, .int 0), (2, .ref 36), (1, .ref 21), (0, .ref 0)] [.ref 0, .int (xs 1), .ref 36, .int (-1)] (by decide +kernel) rfl ?_
  refine mx_S (.iload_n 3) 1 [] 276 [(3, .int 0), (2, .ref 36), (1, .ref 21), (0, .ref 0)] [.int 0, .ref 0, .int (xs 1), .ref 36, .int (-1)] (by decide +kernel) rfl ?_
  refine mx_S (.iconst 2) 1 [] 277 [(3, .int 0), (2, .ref 36), (1, .ref 21), (0, .ref 0)] [.int 2, .int 0, .ref 0, .int (xs 1), .ref 36, .int (-1)] (by decide +kernel) rfl ?_
  refine mx_S (.iadd) 1 [] 278 [(3, .int 0), (2, .ref 36), (1, .ref 21), (0, .ref 0)] [.int 2, .ref 0, .int (xs 1), .ref 36, .int (-1)] (by decide +kernel) rfl ?_
  refine mx_scr 6 2 279 (by decide +kernel) (by decide +kernel) (by decide +kernel) ?_
  refine mx_S (.aload_n 0) 1 [] 280 [(3, .int 0), (2, .ref 36), (1, .ref 21), (0, .ref 0)] [.ref 0, .int (xs 2), .int (xs 1), .ref 36, .int (-1)] (by decide +kernel) rfl ?_
  refine mx_S (.iload_n 3) 1 [] 281 [(3, .int 0), (2, .ref 36), (1, .ref 21), (0, .ref 0)] [.int 0, .ref 0, .int (xs 2), .int (xs 1), .ref 36, .int (-1)] (by decide +kernel) rfl ?_
  refine mx_S (.iconst 3) 1 [] 282 [(3, .int 0), (2, .ref 36), (1, .ref 21), (0, .ref 0)] [.int 3, .int 0, .ref 0, .int (xs 2), .int (xs 1), .ref 36, .int (-1)] (by decide +kernel) rfl ?_
  refine mx_S (.iadd) 1 [] 283 [(3, .int 0), (2, .ref 36), (1, .ref 21), (0, .ref 0)] [.int 3, .ref 0, .int (xs 2), .int (xs 1), .ref 36, .int (-1)] (by decide +kernel) rfl ?_
  refine mx_scr 6 3 284 (by decide +kernel) (by decide +kernel) (by decide +kernel) ?_
  refine mx_calls (.invokevirtual 40) [289, 5, 3, 15] 289 3 [.ref 36, .int (xs 1), .int (xs 2), .int (xs 3)] [.int (-1)] [(0, .ref 36), (1, .int (xs 1)), (2, .int (xs 2)), (3, .int (xs 3))] (some (.int (-1))) hh_a203 0 0 0 0 0 0 287 [.int (-1), .int (-1)] ap_289 (by decide +kernel) rfl ⟨by decide +kernel, rfl, rfl, rfl, rfl⟩ (iv_a754 6 xs zf hz hk l1 l2) ?_
  refine mx_B 5 20 [(3, .int 6), (2, .ref 36), (1, .ref 21), (0, .ref 0)] [.ref 0, .int 6] (by decide +kernel) ?_
  refine mx_S (.arraylength) 1 [] 21 [(3, .int 6), (2, .ref 36), (1, .ref 21), (0, .ref 0)] [.int 6, .int 6] (by decide +kernel) rfl ?_
  refine mx_B 4 543 [(3, .int 6), (2, .ref 36), (1, .ref 21), (0, .ref 0)] [.int 1] (by decide +kernel) ?_
  exact mx_ret (some (.int 1)) (by decide +kernel) ⟨rfl, rfl⟩
theorem lw_case5 (xs : Nat → Int32) (zf : Value) (hz : zf.category = 1) (hk : xs 0 &&& 15 = 5) : mx_R 6 xs zf ah_M0 18 [(3, .int 0), (2, .ref 36), (1, .ref 21), (0, .ref 0)] [] hh_a203 599906 7021181 2048 84000 (fun v _ => v = some (.int 1)) := by
  rcases mx_cut (xs 2).toInt (-1) 0 rfl with u2 | l2
  · rcases mx_cut (xs 1).toInt (-1) 0 rfl with u1 | l1
    · exact mx_end (iv_a209 xs zf hz hk u1 u2) (by decide +kernel)
    rcases mx_cut (xs 1).toInt 3 4 rfl with u1 | l1
    · exact mx_end (iv_a213 xs zf hz hk l1 u1 u2) (by decide +kernel)
    exact mx_end (iv_a216 xs zf hz hk l1 u2) (by decide +kernel)
  rcases mx_cut (xs 2).toInt 4 5 rfl with u2 | l2
  · rcases mx_cut (xs 3).toInt (-1) 0 rfl with u3 | l3
    · rcases mx_cut (xs 1).toInt (-1) 0 rfl with u1 | l1
      · exact mx_end (iv_a220 xs zf hz hk u1 l2 u2 u3) (by decide +kernel)
      rcases mx_cut (xs 1).toInt 3 4 rfl with u1 | l1
      · exact mx_end (iv_a224 xs zf hz hk l1 u1 l2 u2 u3) (by decide +kernel)
      exact mx_end (iv_a227 xs zf hz hk l1 l2 u2 u3) (by decide +kernel)
    rcases mx_cut (xs 3).toInt 4 5 rfl with u3 | l3
    · rcases mx_cut (xs 1).toInt (-1) 0 rfl with u1 | l1
      · exact mx_end (iv_a230 xs zf hz hk u1 l2 u2 l3 u3) (by decide +kernel)
      rcases mx_cut (xs 1).toInt 0 1 rfl with u1 | l1
      · rcases mx_cut (xs 2).toInt 0 1 rfl with u2 | l2
        · rcases mx_cut (xs 3).toInt 0 1 rfl with u3 | l3
          · exact mx_end (iv_a235 xs zf hz hk l1 u1 l2 u2 l3 u3) (by decide +kernel)
          rcases mx_cut (xs 3).toInt 1 2 rfl with u3 | l3
          · exact mx_end (iv_a240 xs zf hz hk l1 u1 l2 u2 l3 u3) (by decide +kernel)
          rcases mx_cut (xs 3).toInt 2 3 rfl with u3 | l3
          · exact mx_end (iv_a245 xs zf hz hk l1 u1 l2 u2 l3 u3) (by decide +kernel)
          rcases mx_cut (xs 3).toInt 3 4 rfl with u3 | l3
          · exact mx_end (iv_a250 xs zf hz hk l1 u1 l2 u2 l3 u3) (by decide +kernel)
          exact mx_end (iv_a255 xs zf hz hk l1 u1 l2 u2 l3 u3) (by decide +kernel)
        rcases mx_cut (xs 2).toInt 1 2 rfl with u2 | l2
        · rcases mx_cut (xs 3).toInt 0 1 rfl with u3 | l3
          · exact mx_end (iv_a260 xs zf hz hk l1 u1 l2 u2 l3 u3) (by decide +kernel)
          rcases mx_cut (xs 3).toInt 1 2 rfl with u3 | l3
          · exact mx_end (iv_a265 xs zf hz hk l1 u1 l2 u2 l3 u3) (by decide +kernel)
          rcases mx_cut (xs 3).toInt 2 3 rfl with u3 | l3
          · exact mx_end (iv_a270 xs zf hz hk l1 u1 l2 u2 l3 u3) (by decide +kernel)
          rcases mx_cut (xs 3).toInt 3 4 rfl with u3 | l3
          · exact mx_end (iv_a275 xs zf hz hk l1 u1 l2 u2 l3 u3) (by decide +kernel)
          exact mx_end (iv_a280 xs zf hz hk l1 u1 l2 u2 l3 u3) (by decide +kernel)
        rcases mx_cut (xs 2).toInt 2 3 rfl with u2 | l2
        · rcases mx_cut (xs 3).toInt 0 1 rfl with u3 | l3
          · exact mx_end (iv_a285 xs zf hz hk l1 u1 l2 u2 l3 u3) (by decide +kernel)
          rcases mx_cut (xs 3).toInt 1 2 rfl with u3 | l3
          · exact mx_end (iv_a290 xs zf hz hk l1 u1 l2 u2 l3 u3) (by decide +kernel)
          rcases mx_cut (xs 3).toInt 2 3 rfl with u3 | l3
          · exact mx_end (iv_a295 xs zf hz hk l1 u1 l2 u2 l3 u3) (by decide +kernel)
          rcases mx_cut (xs 3).toInt 3 4 rfl with u3 | l3
          · exact mx_end (iv_a300 xs zf hz hk l1 u1 l2 u2 l3 u3) (by decide +kernel)
          exact mx_end (iv_a305 xs zf hz hk l1 u1 l2 u2 l3 u3) (by decide +kernel)
        rcases mx_cut (xs 2).toInt 3 4 rfl with u2 | l2
        · rcases mx_cut (xs 3).toInt 0 1 rfl with u3 | l3
          · exact mx_end (iv_a310 xs zf hz hk l1 u1 l2 u2 l3 u3) (by decide +kernel)
          rcases mx_cut (xs 3).toInt 1 2 rfl with u3 | l3
          · exact mx_end (iv_a315 xs zf hz hk l1 u1 l2 u2 l3 u3) (by decide +kernel)
          rcases mx_cut (xs 3).toInt 2 3 rfl with u3 | l3
          · exact mx_end (iv_a320 xs zf hz hk l1 u1 l2 u2 l3 u3) (by decide +kernel)
          rcases mx_cut (xs 3).toInt 3 4 rfl with u3 | l3
          · exact mx_end (iv_a325 xs zf hz hk l1 u1 l2 u2 l3 u3) (by decide +kernel)
          exact mx_end (iv_a330 xs zf hz hk l1 u1 l2 u2 l3 u3) (by decide +kernel)
        rcases mx_cut (xs 3).toInt 0 1 rfl with u3 | l3
        · exact mx_end (iv_a335 xs zf hz hk l1 u1 l2 u2 l3 u3) (by decide +kernel)
        rcases mx_cut (xs 3).toInt 1 2 rfl with u3 | l3
        · exact mx_end (iv_a340 xs zf hz hk l1 u1 l2 u2 l3 u3) (by decide +kernel)
        rcases mx_cut (xs 3).toInt 2 3 rfl with u3 | l3
        · exact mx_end (iv_a345 xs zf hz hk l1 u1 l2 u2 l3 u3) (by decide +kernel)
        rcases mx_cut (xs 3).toInt 3 4 rfl with u3 | l3
        · exact mx_end (iv_a350 xs zf hz hk l1 u1 l2 u2 l3 u3) (by decide +kernel)
        exact mx_end (iv_a355 xs zf hz hk l1 u1 l2 u2 l3 u3) (by decide +kernel)
      rcases mx_cut (xs 1).toInt 1 2 rfl with u1 | l1
      · rcases mx_cut (xs 2).toInt 0 1 rfl with u2 | l2
        · rcases mx_cut (xs 3).toInt 0 1 rfl with u3 | l3
          · exact mx_end (iv_a360 xs zf hz hk l1 u1 l2 u2 l3 u3) (by decide +kernel)
          rcases mx_cut (xs 3).toInt 1 2 rfl with u3 | l3
          · exact mx_end (iv_a365 xs zf hz hk l1 u1 l2 u2 l3 u3) (by decide +kernel)
          rcases mx_cut (xs 3).toInt 2 3 rfl with u3 | l3
          · exact mx_end (iv_a370 xs zf hz hk l1 u1 l2 u2 l3 u3) (by decide +kernel)
          rcases mx_cut (xs 3).toInt 3 4 rfl with u3 | l3
          · exact mx_end (iv_a375 xs zf hz hk l1 u1 l2 u2 l3 u3) (by decide +kernel)
          exact mx_end (iv_a380 xs zf hz hk l1 u1 l2 u2 l3 u3) (by decide +kernel)
        rcases mx_cut (xs 2).toInt 1 2 rfl with u2 | l2
        · rcases mx_cut (xs 3).toInt 0 1 rfl with u3 | l3
          · exact mx_end (iv_a385 xs zf hz hk l1 u1 l2 u2 l3 u3) (by decide +kernel)
          rcases mx_cut (xs 3).toInt 1 2 rfl with u3 | l3
          · exact mx_end (iv_a390 xs zf hz hk l1 u1 l2 u2 l3 u3) (by decide +kernel)
          rcases mx_cut (xs 3).toInt 2 3 rfl with u3 | l3
          · exact mx_end (iv_a395 xs zf hz hk l1 u1 l2 u2 l3 u3) (by decide +kernel)
          rcases mx_cut (xs 3).toInt 3 4 rfl with u3 | l3
          · exact mx_end (iv_a400 xs zf hz hk l1 u1 l2 u2 l3 u3) (by decide +kernel)
          exact mx_end (iv_a405 xs zf hz hk l1 u1 l2 u2 l3 u3) (by decide +kernel)
        rcases mx_cut (xs 2).toInt 2 3 rfl with u2 | l2
        · rcases mx_cut (xs 3).toInt 0 1 rfl with u3 | l3
          · exact mx_end (iv_a410 xs zf hz hk l1 u1 l2 u2 l3 u3) (by decide +kernel)
          rcases mx_cut (xs 3).toInt 1 2 rfl with u3 | l3
          · exact mx_end (iv_a415 xs zf hz hk l1 u1 l2 u2 l3 u3) (by decide +kernel)
          rcases mx_cut (xs 3).toInt 2 3 rfl with u3 | l3
          · exact mx_end (iv_a420 xs zf hz hk l1 u1 l2 u2 l3 u3) (by decide +kernel)
          rcases mx_cut (xs 3).toInt 3 4 rfl with u3 | l3
          · exact mx_end (iv_a425 xs zf hz hk l1 u1 l2 u2 l3 u3) (by decide +kernel)
          exact mx_end (iv_a430 xs zf hz hk l1 u1 l2 u2 l3 u3) (by decide +kernel)
        rcases mx_cut (xs 2).toInt 3 4 rfl with u2 | l2
        · rcases mx_cut (xs 3).toInt 0 1 rfl with u3 | l3
          · exact mx_end (iv_a435 xs zf hz hk l1 u1 l2 u2 l3 u3) (by decide +kernel)
          rcases mx_cut (xs 3).toInt 1 2 rfl with u3 | l3
          · exact mx_end (iv_a440 xs zf hz hk l1 u1 l2 u2 l3 u3) (by decide +kernel)
          rcases mx_cut (xs 3).toInt 2 3 rfl with u3 | l3
          · exact mx_end (iv_a445 xs zf hz hk l1 u1 l2 u2 l3 u3) (by decide +kernel)
          rcases mx_cut (xs 3).toInt 3 4 rfl with u3 | l3
          · exact mx_end (iv_a450 xs zf hz hk l1 u1 l2 u2 l3 u3) (by decide +kernel)
          exact mx_end (iv_a455 xs zf hz hk l1 u1 l2 u2 l3 u3) (by decide +kernel)
        rcases mx_cut (xs 3).toInt 0 1 rfl with u3 | l3
        · exact mx_end (iv_a460 xs zf hz hk l1 u1 l2 u2 l3 u3) (by decide +kernel)
        rcases mx_cut (xs 3).toInt 1 2 rfl with u3 | l3
        · exact mx_end (iv_a465 xs zf hz hk l1 u1 l2 u2 l3 u3) (by decide +kernel)
        rcases mx_cut (xs 3).toInt 2 3 rfl with u3 | l3
        · exact mx_end (iv_a470 xs zf hz hk l1 u1 l2 u2 l3 u3) (by decide +kernel)
        rcases mx_cut (xs 3).toInt 3 4 rfl with u3 | l3
        · exact mx_end (iv_a475 xs zf hz hk l1 u1 l2 u2 l3 u3) (by decide +kernel)
        exact mx_end (iv_a480 xs zf hz hk l1 u1 l2 u2 l3 u3) (by decide +kernel)
      rcases mx_cut (xs 1).toInt 2 3 rfl with u1 | l1
      · rcases mx_cut (xs 2).toInt 0 1 rfl with u2 | l2
        · rcases mx_cut (xs 3).toInt 0 1 rfl with u3 | l3
          · exact mx_end (iv_a485 xs zf hz hk l1 u1 l2 u2 l3 u3) (by decide +kernel)
          rcases mx_cut (xs 3).toInt 1 2 rfl with u3 | l3
          · exact mx_end (iv_a490 xs zf hz hk l1 u1 l2 u2 l3 u3) (by decide +kernel)
          rcases mx_cut (xs 3).toInt 2 3 rfl with u3 | l3
          · exact mx_end (iv_a495 xs zf hz hk l1 u1 l2 u2 l3 u3) (by decide +kernel)
          rcases mx_cut (xs 3).toInt 3 4 rfl with u3 | l3
          · exact mx_end (iv_a500 xs zf hz hk l1 u1 l2 u2 l3 u3) (by decide +kernel)
          exact mx_end (iv_a505 xs zf hz hk l1 u1 l2 u2 l3 u3) (by decide +kernel)
        rcases mx_cut (xs 2).toInt 1 2 rfl with u2 | l2
        · rcases mx_cut (xs 3).toInt 0 1 rfl with u3 | l3
          · exact mx_end (iv_a510 xs zf hz hk l1 u1 l2 u2 l3 u3) (by decide +kernel)
          rcases mx_cut (xs 3).toInt 1 2 rfl with u3 | l3
          · exact mx_end (iv_a515 xs zf hz hk l1 u1 l2 u2 l3 u3) (by decide +kernel)
          rcases mx_cut (xs 3).toInt 2 3 rfl with u3 | l3
          · exact mx_end (iv_a520 xs zf hz hk l1 u1 l2 u2 l3 u3) (by decide +kernel)
          rcases mx_cut (xs 3).toInt 3 4 rfl with u3 | l3
          · exact mx_end (iv_a525 xs zf hz hk l1 u1 l2 u2 l3 u3) (by decide +kernel)
          exact mx_end (iv_a530 xs zf hz hk l1 u1 l2 u2 l3 u3) (by decide +kernel)
        rcases mx_cut (xs 2).toInt 2 3 rfl with u2 | l2
        · rcases mx_cut (xs 3).toInt 0 1 rfl with u3 | l3
          · exact mx_end (iv_a535 xs zf hz hk l1 u1 l2 u2 l3 u3) (by decide +kernel)
          rcases mx_cut (xs 3).toInt 1 2 rfl with u3 | l3
          · exact mx_end (iv_a540 xs zf hz hk l1 u1 l2 u2 l3 u3) (by decide +kernel)
          rcases mx_cut (xs 3).toInt 2 3 rfl with u3 | l3
          · exact mx_end (iv_a545 xs zf hz hk l1 u1 l2 u2 l3 u3) (by decide +kernel)
          rcases mx_cut (xs 3).toInt 3 4 rfl with u3 | l3
          · exact mx_end (iv_a550 xs zf hz hk l1 u1 l2 u2 l3 u3) (by decide +kernel)
          exact mx_end (iv_a555 xs zf hz hk l1 u1 l2 u2 l3 u3) (by decide +kernel)
        rcases mx_cut (xs 2).toInt 3 4 rfl with u2 | l2
        · rcases mx_cut (xs 3).toInt 0 1 rfl with u3 | l3
          · exact mx_end (iv_a560 xs zf hz hk l1 u1 l2 u2 l3 u3) (by decide +kernel)
          rcases mx_cut (xs 3).toInt 1 2 rfl with u3 | l3
          · exact mx_end (iv_a565 xs zf hz hk l1 u1 l2 u2 l3 u3) (by decide +kernel)
          rcases mx_cut (xs 3).toInt 2 3 rfl with u3 | l3
          · exact mx_end (iv_a570 xs zf hz hk l1 u1 l2 u2 l3 u3) (by decide +kernel)
          rcases mx_cut (xs 3).toInt 3 4 rfl with u3 | l3
          · exact mx_end (iv_a575 xs zf hz hk l1 u1 l2 u2 l3 u3) (by decide +kernel)
          exact mx_end (iv_a580 xs zf hz hk l1 u1 l2 u2 l3 u3) (by decide +kernel)
        rcases mx_cut (xs 3).toInt 0 1 rfl with u3 | l3
        · exact mx_end (iv_a585 xs zf hz hk l1 u1 l2 u2 l3 u3) (by decide +kernel)
        rcases mx_cut (xs 3).toInt 1 2 rfl with u3 | l3
        · exact mx_end (iv_a590 xs zf hz hk l1 u1 l2 u2 l3 u3) (by decide +kernel)
        rcases mx_cut (xs 3).toInt 2 3 rfl with u3 | l3
        · exact mx_end (iv_a595 xs zf hz hk l1 u1 l2 u2 l3 u3) (by decide +kernel)
        rcases mx_cut (xs 3).toInt 3 4 rfl with u3 | l3
        · exact mx_end (iv_a600 xs zf hz hk l1 u1 l2 u2 l3 u3) (by decide +kernel)
        exact mx_end (iv_a605 xs zf hz hk l1 u1 l2 u2 l3 u3) (by decide +kernel)
      rcases mx_cut (xs 1).toInt 3 4 rfl with u1 | l1
      · rcases mx_cut (xs 2).toInt 0 1 rfl with u2 | l2
        · rcases mx_cut (xs 3).toInt 0 1 rfl with u3 | l3
          · exact mx_end (iv_a610 xs zf hz hk l1 u1 l2 u2 l3 u3) (by decide +kernel)
          rcases mx_cut (xs 3).toInt 1 2 rfl with u3 | l3
          · exact mx_end (iv_a615 xs zf hz hk l1 u1 l2 u2 l3 u3) (by decide +kernel)
          rcases mx_cut (xs 3).toInt 2 3 rfl with u3 | l3
          · exact mx_end (iv_a620 xs zf hz hk l1 u1 l2 u2 l3 u3) (by decide +kernel)
          rcases mx_cut (xs 3).toInt 3 4 rfl with u3 | l3
          · exact mx_end (iv_a625 xs zf hz hk l1 u1 l2 u2 l3 u3) (by decide +kernel)
          exact mx_end (iv_a630 xs zf hz hk l1 u1 l2 u2 l3 u3) (by decide +kernel)
        rcases mx_cut (xs 2).toInt 1 2 rfl with u2 | l2
        · rcases mx_cut (xs 3).toInt 0 1 rfl with u3 | l3
          · exact mx_end (iv_a635 xs zf hz hk l1 u1 l2 u2 l3 u3) (by decide +kernel)
          rcases mx_cut (xs 3).toInt 1 2 rfl with u3 | l3
          · exact mx_end (iv_a640 xs zf hz hk l1 u1 l2 u2 l3 u3) (by decide +kernel)
          rcases mx_cut (xs 3).toInt 2 3 rfl with u3 | l3
          · exact mx_end (iv_a645 xs zf hz hk l1 u1 l2 u2 l3 u3) (by decide +kernel)
          rcases mx_cut (xs 3).toInt 3 4 rfl with u3 | l3
          · exact mx_end (iv_a650 xs zf hz hk l1 u1 l2 u2 l3 u3) (by decide +kernel)
          exact mx_end (iv_a655 xs zf hz hk l1 u1 l2 u2 l3 u3) (by decide +kernel)
        rcases mx_cut (xs 2).toInt 2 3 rfl with u2 | l2
        · rcases mx_cut (xs 3).toInt 0 1 rfl with u3 | l3
          · exact mx_end (iv_a660 xs zf hz hk l1 u1 l2 u2 l3 u3) (by decide +kernel)
          rcases mx_cut (xs 3).toInt 1 2 rfl with u3 | l3
          · exact mx_end (iv_a665 xs zf hz hk l1 u1 l2 u2 l3 u3) (by decide +kernel)
          rcases mx_cut (xs 3).toInt 2 3 rfl with u3 | l3
          · exact mx_end (iv_a670 xs zf hz hk l1 u1 l2 u2 l3 u3) (by decide +kernel)
          rcases mx_cut (xs 3).toInt 3 4 rfl with u3 | l3
          · exact mx_end (iv_a675 xs zf hz hk l1 u1 l2 u2 l3 u3) (by decide +kernel)
          exact mx_end (iv_a680 xs zf hz hk l1 u1 l2 u2 l3 u3) (by decide +kernel)
        rcases mx_cut (xs 2).toInt 3 4 rfl with u2 | l2
        · rcases mx_cut (xs 3).toInt 0 1 rfl with u3 | l3
          · exact mx_end (iv_a685 xs zf hz hk l1 u1 l2 u2 l3 u3) (by decide +kernel)
          rcases mx_cut (xs 3).toInt 1 2 rfl with u3 | l3
          · exact mx_end (iv_a690 xs zf hz hk l1 u1 l2 u2 l3 u3) (by decide +kernel)
          rcases mx_cut (xs 3).toInt 2 3 rfl with u3 | l3
          · exact mx_end (iv_a695 xs zf hz hk l1 u1 l2 u2 l3 u3) (by decide +kernel)
          rcases mx_cut (xs 3).toInt 3 4 rfl with u3 | l3
          · exact mx_end (iv_a700 xs zf hz hk l1 u1 l2 u2 l3 u3) (by decide +kernel)
          exact mx_end (iv_a705 xs zf hz hk l1 u1 l2 u2 l3 u3) (by decide +kernel)
        rcases mx_cut (xs 3).toInt 0 1 rfl with u3 | l3
        · exact mx_end (iv_a710 xs zf hz hk l1 u1 l2 u2 l3 u3) (by decide +kernel)
        rcases mx_cut (xs 3).toInt 1 2 rfl with u3 | l3
        · exact mx_end (iv_a715 xs zf hz hk l1 u1 l2 u2 l3 u3) (by decide +kernel)
        rcases mx_cut (xs 3).toInt 2 3 rfl with u3 | l3
        · exact mx_end (iv_a720 xs zf hz hk l1 u1 l2 u2 l3 u3) (by decide +kernel)
        rcases mx_cut (xs 3).toInt 3 4 rfl with u3 | l3
        · exact mx_end (iv_a725 xs zf hz hk l1 u1 l2 u2 l3 u3) (by decide +kernel)
        exact mx_end (iv_a730 xs zf hz hk l1 u1 l2 u2 l3 u3) (by decide +kernel)
      exact mx_end (iv_a733 xs zf hz hk l1 l2 u2 l3 u3) (by decide +kernel)
    rcases mx_cut (xs 1).toInt (-1) 0 rfl with u1 | l1
    · exact mx_end (iv_a737 xs zf hz hk u1 l2 u2 l3) (by decide +kernel)
    rcases mx_cut (xs 1).toInt 3 4 rfl with u1 | l1
    · exact mx_end (iv_a741 xs zf hz hk l1 u1 l2 u2 l3) (by decide +kernel)
    exact mx_end (iv_a744 xs zf hz hk l1 l2 u2 l3) (by decide +kernel)
  rcases mx_cut (xs 1).toInt (-1) 0 rfl with u1 | l1
  · exact mx_end (iv_a748 xs zf hz hk u1 l2) (by decide +kernel)
  rcases mx_cut (xs 1).toInt 3 4 rfl with u1 | l1
  · exact mx_end (iv_a752 xs zf hz hk l1 u1 l2) (by decide +kernel)
  exact mx_end (iv_a755 xs zf hz hk l1 l2) (by decide +kernel)
