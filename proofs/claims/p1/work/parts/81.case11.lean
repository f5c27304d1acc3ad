/-! THE FIRST CALL, sort 11; printed by wip/whole/gen_p1.py. -/
theorem iv_a826 (L : Nat) (xs : Nat → Int32) (zf : Value) (hz : zf.category = 1) : mx_R L xs zf ah_M15 0 [(0, .ref 31), (1, .int 0)] [] hh_a203 0 0 0 0 (fun v h' => v = none ∧ h' = hh_a203) := by
  refine mx_B 11 38 [(2, .int 16), (0, .ref 31), (1, .int 0)] [] (by decide +kernel) ?_
  exact mx_ret none (by decide +kernel) ⟨rfl, rfl⟩
theorem iv_a827 (L : Nat) (xs : Nat → Int32) (zf : Value) (hz : zf.category = 1) : mx_R L xs zf ah_M38 0 [(0, .ref 31), (1, .int 0)] [] hh_a203 0 0 1 22 (fun v h' => v = none ∧ h' = hh_a203) := by
  refine mx_B 4 15 [(0, .ref 31), (1, .int 0)] [.int 0, .ref 31] (by decide +kernel) ?_
  refine mx_call 15 3 [.ref 31, .int 0] [] [(0, .ref 31), (1, .int 0)] none hh_a203 0 0 0 0 0 0 18 [] ap_15 (by decide +kernel) (by decide +kernel) (iv_a826 L xs zf hz) ?_
  refine mx_B 10 78 [(0, .ref 31), (1, .int 0)] [.int 0, .ref 31] (by decide +kernel) ?_
  refine mx_put 79 3 [1] 1 [.ref 32, .int 0, .int 0, .int 0] 10 81 [.ref 32, .int 0, .int 0, .int 0] hh_a203 (by decide +kernel) rfl (by decide +kernel) (by decide +kernel) rfl ?_
  exact mx_ret none (by decide +kernel) ⟨rfl, rfl⟩
theorem iv_a828 (L : Nat) (xs : Nat → Int32) (zf : Value) (hz : zf.category = 1) : mx_R L xs zf ah_M37 0 [(0, .ref 31), (1, .int 0)] [] hh_a203 0 0 2 43 (fun v h' => v = none ∧ h' = hh_a203) := by
  refine mx_B 2 2 [(0, .ref 31), (1, .int 0)] [.int 0, .ref 31] (by decide +kernel) ?_
  refine mx_call 38 3 [.ref 31, .int 0] [] [(0, .ref 31), (1, .int 0)] none hh_a203 0 0 1 22 0 0 5 [] ap_38 (by decide +kernel) (by decide +kernel) (iv_a827 L xs zf hz) ?_
  exact mx_ret none (by decide +kernel) ⟨rfl, rfl⟩
def hh_a391 : rm_H := [hb_a24, hb_a2, hb_a3, hb_a14, hb_a7, hb_a9, hb_a11, hb_a13, hb_a13, hb_a322, hb_a17, hb_a3, hb_a9, hb_a9, hb_a9, hb_a137, hb_a27, hb_a27, hb_a230, hb_a32, hb_a32, hb_a32, hb_a36, hb_a38, hb_a38, hb_a38, hb_a38, hb_a38, hb_a38, hb_a38, hb_a38, hb_a38, hb_a38, hb_a38, hb_a38, hb_a51, hb_a27, hb_a27, hb_a27, hb_a27, hb_a57, hb_a59, hb_a61, hb_a63, hb_a63, hb_a66, hb_a68, hb_a70, hb_a70, hb_a73, hb_a73, hb_a73, hb_a73, hb_a73, hb_a73, hb_a73, hb_a81, hb_a83, hb_a85, hb_a87, hb_a87, hb_a91, hb_a93, hb_a93, hb_a93, hb_a38, hb_a9, hb_a9, hb_a100, hb_a100, hb_a100, hb_a100, hb_a100, hb_a100, hb_a107, hb_a109, hb_a111, hb_a113, hb_a113, hb_a116, hb_a118, hb_a73, hb_a73, hb_a122, hb_a124, hb_a126, hb_a128, hb_a13, hb_a13, hb_a9, hb_a133, hb_a135, hb_a9, hb_a9]
theorem iv_a829 (L : Nat) (xs : Nat → Int32) (zf : Value) (hz : zf.category = 1) : mx_R L xs zf ah_M217 0 [(0, .ref 30)] [] hh_a203 0 0 3 64 (fun v h' => v = none ∧ h' = hh_a391) := by
  refine mx_B 3 5 [(0, .ref 30)] [.int 0, .ref 31] (by decide +kernel) ?_
  refine mx_call 37 3 [.ref 31, .int 0] [] [(0, .ref 31), (1, .int 0)] none hh_a203 0 0 2 43 0 0 8 [] ap_37 (by decide +kernel) (by decide +kernel) (iv_a828 L xs zf hz) ?_
  refine mx_B 2 10 [(0, .ref 30)] [.int 0, .ref 30] (by decide +kernel) ?_
  refine mx_put 28 4 [3] 3 [.ref 31, .ref 33, .ref 34, .ref 35, .int 0, .int 0, .int 0] 9 13 [.ref 31, .ref 33, .ref 34, .ref 35, .int 0, .int 0, .int 0] hh_a203 (by decide +kernel) rfl (by decide +kernel) (by decide +kernel) rfl ?_
  refine mx_B 5 20 [(0, .ref 30)] [.int 1, .ref 30] (by decide +kernel) ?_
  refine mx_put 32 5 [3] 3 [.ref 31, .ref 33, .ref 34, .ref 35, .int 0, .int 0, .int 0] 9 23 [.ref 31, .ref 33, .ref 34, .ref 35, .int 0, .int 1, .int 0] hh_a391 (by decide +kernel) rfl (by decide +kernel) (by decide +kernel) rfl ?_
  exact mx_ret none (by decide +kernel) ⟨rfl, rfl⟩
theorem iv_a830 (L : Nat) (xs : Nat → Int32) (zf : Value) (hz : zf.category = 1) (hk : xs 0 &&& 15 = 11) (u1 : (xs 1).toInt ≤ (-1)) : mx_R L xs zf ah_M236 0 [(0, .ref 24), (1, .int (xs 1))] [] hh_a391 0 0 0 0 (fun v h' => v = some (.null) ∧ h' = hh_a391) := by
  refine mx_S (.iload_n 1) 1 [] 1 [(0, .ref 24), (1, .int (xs 1))] [.int (xs 1)] (by decide +kernel) rfl ?_
  refine mx_1 .lt 11 true 12 (mx_v1 .lt (x := (xs 1)) (-2147483648) (-1)  (mx_lo _) u1 (by decide +kernel)) (by decide +kernel) ?_
  refine mx_S (.aconst_null) 1 [] 13 [(0, .ref 24), (1, .int (xs 1))] [.null] (by decide +kernel) rfl ?_
  refine mx_S (.goto 9) 3 [] 22 [(0, .ref 24), (1, .int (xs 1))] [.null] (by decide +kernel) rfl ?_
  exact mx_ret (some (.null)) (by decide +kernel) ⟨rfl, rfl⟩
theorem iv_a831 (L : Nat) (xs : Nat → Int32) (zf : Value) (hz : zf.category = 1) (hk : xs 0 &&& 15 = 11) (u1 : (xs 1).toInt ≤ (-1)) : mx_R L xs zf ah_M270 0 [(0, .ref 21), (1, .int (xs 1)), (2, .int (xs 2))] [] hh_a203 0 0 4 84 (fun v h' => v = some (.int (-1)) ∧ h' = hh_a391) := by
  refine mx_S (.aload_n 0) 1 [] 1 [(0, .ref 21), (1, .int (xs 1)), (2, .int (xs 2))] [.ref 21] (by decide +kernel) rfl ?_
  refine mx_S (.getfield 26) 3 [2, 0] 4 [(0, .ref 21), (1, .int (xs 1)), (2, .int (xs 2))] [.ref 30] (by decide +kernel) rfl ?_
  refine mx_calls (.invokevirtual 91) [217, 5, 0, 3] 217 3 [.ref 30] [] [(0, .ref 30)] none hh_a391 0 0 3 64 0 0 7 [] ap_217 (by decide +kernel) rfl (by decide +kernel) (iv_a829 L xs zf hz) ?_
  refine mx_S (.aload_n 0) 1 [] 8 [(0, .ref 21), (1, .int (xs 1)), (2, .int (xs 2))] [.ref 21] (by decide +kernel) rfl ?_
  refine mx_S (.getfield 19) 3 [1, 0] 11 [(0, .ref 21), (1, .int (xs 1)), (2, .int (xs 2))] [.ref 24] (by decide +kernel) rfl ?_
  refine mx_S (.iload_n 1) 1 [] 12 [(0, .ref 21), (1, .int (xs 1)), (2, .int (xs 2))] [.int (xs 1), .ref 24] (by decide +kernel) rfl ?_
  refine mx_calls (.invokevirtual 145) [236, 5, 1, 2] 236 3 [.ref 24, .int (xs 1)] [] [(0, .ref 24), (1, .int (xs 1))] (some (.null)) hh_a391 0 0 0 0 0 0 15 [.null] ap_236 (by decide +kernel) rfl ⟨by decide +kernel, rfl, rfl, rfl, rfl⟩ (iv_a830 L xs zf hz hk u1) ?_
  refine mx_S (.astore_n 3) 1 [] 16 [(3, .null), (0, .ref 21), (1, .int (xs 1)), (2, .int (xs 2))] [] (by decide +kernel) rfl ?_
  refine mx_S (.aload_n 3) 1 [] 17 [(3, .null), (0, .ref 21), (1, .int (xs 1)), (2, .int (xs 2))] [.null] (by decide +kernel) rfl ?_
  refine mx_S (.ifnull 23) 3 [] 40 [(3, .null), (0, .ref 21), (1, .int (xs 1)), (2, .int (xs 2))] [] (by decide +kernel) rfl ?_
  refine mx_S (.iconst (-1)) 1 [] 41 [(3, .null), (0, .ref 21), (1, .int (xs 1)), (2, .int (xs 2))] [.int (-1)] (by decide +kernel) rfl ?_
  exact mx_ret (some (.int (-1))) (by decide +kernel) ⟨rfl, rfl⟩
theorem iv_a832_s0 (L : Nat) (xs : Nat → Int32) (zf : Value) (hz : zf.category = 1) {post : Option Value → rm_H → Prop} (hr : mx_R L xs zf ah_M406 21 [(1, .int 18), (0, .ref 36)] [] hh_a391 0 0 0 0 post) : mx_R L xs zf ah_M406 0 [(0, .ref 36)] [] hh_a391 0 0 0 0 post := by
  refine mx_B 2 2 [(0, .ref 36)] [.int 0, .ref 36] (by decide +kernel) ?_
  refine mx_put 572 111 [15] 15 [.ref 37, .ref 38, .int 0, .int 0, .ref 39, .int 0, .ref 40, .ref 41, .ref 42, .ref 43, .int 0, .ref 44, .ref 45, .ref 46, .ref 47, .ref 48, .ref 49, .ref 50, .ref 51, .ref 52, .ref 53, .ref 54, .ref 55, .ref 56, .int 0, .int 0, .int 0, .ref 57, .ref 58, .ref 59, .ref 60, .ref 61, .int 0, .ref 62, .ref 63, .ref 64, .ref 65, .ref 66, .int 0, .ref 67, .ref 68, .ref 69, .int 0, .ref 70, .ref 71, .ref 72, .ref 73, .ref 74, .ref 75, .ref 76, .ref 77, .ref 78, .int 0, .ref 79, .ref 80, .ref 81, .int 0, .int 0, .int (-1), .int 0, .int 0, .int 0, .int 0, .int 0, .int 0, .int 0, .int 0, .ref 82, .ref 83, .ref 84, .ref 85, .ref 86, .int 0, .int 0, .int 0, .int 0, .int 0, .int 0, .int 0, .int 0, .int 0, .int 0, .int 0, .int 0, .int 0, .ref 87, .ref 88, .int 0, .ref 89, .ref 90, .ref 91, .ref 92, .ref 93, .ref 94, .ref 95, .ref 96, .ref 97, .ref 98, .ref 99, .ref 100, .ref 101, .ref 102, .ref 103, .ref 104, .ref 105, .ref 106, .ref 107, .ref 108, .ref 109, .ref 110, .ref 111, .int 0, .ref 112, .ref 113, .ref 114] 15 5 [.ref 37, .ref 38, .int 0, .int 0, .ref 39, .int 0, .ref 40, .ref 41, .ref 42, .ref 43, .int 0, .ref 44, .ref 45, .ref 46, .ref 47, .ref 48, .ref 49, .ref 50, .ref 51, .ref 52, .ref 53, .ref 54, .ref 55, .ref 56, .int 0, .int 0, .int 0, .ref 57, .ref 58, .ref 59, .ref 60, .ref 61, .int 0, .ref 62, .ref 63, .ref 64, .ref 65, .ref 66, .int 0, .ref 67, .ref 68, .ref 69, .int 0, .ref 70, .ref 71, .ref 72, .ref 73, .ref 74, .ref 75, .ref 76, .ref 77, .ref 78, .int 0, .ref 79, .ref 80, .ref 81, .int 0, .int 0, .int (-1), .int 0, .int 0, .int 0, .int 0, .int 0, .int 0, .int 0, .int 0, .ref 82, .ref 83, .ref 84, .ref 85, .ref 86, .int 0, .int 0, .int 0, .int 0, .int 0, .int 0, .int 0, .int 0, .int 0, .int 0, .int 0, .int 0, .int 0, .ref 87, .ref 88, .int 0, .ref 89, .ref 90, .ref 91, .ref 92, .ref 93, .ref 94, .ref 95, .ref 96, .ref 97, .ref 98, .ref 99, .ref 100, .ref 101, .ref 102, .ref 103, .ref 104, .ref 105, .ref 106, .ref 107, .ref 108, .ref 109, .ref 110, .ref 111, .int 0, .ref 112, .ref 113, .ref 114] hh_a391 (by decide +kernel) rfl (by decide +kernel) (by decide +kernel) rfl ?_
  refine mx_B 9 20 [(1, .int 0), (0, .ref 36)] [.int 0, .int 0, .ref 112] (by decide +kernel) ?_
  refine mx_zst0 3 401 [] 91 21 (by decide +kernel) rfl (by decide +kernel) (by decide +kernel) ?_
  refine mx_B 9 20 [(1, .int 1), (0, .ref 36)] [.int 0, .int 1, .ref 112] (by decide +kernel) ?_
  refine mx_zst0 3 401 [] 91 21 (by decide +kernel) rfl (by decide +kernel) (by decide +kernel) ?_
  refine mx_B 9 20 [(1, .int 2), (0, .ref 36)] [.int 0, .int 2, .ref 112] (by decide +kernel) ?_
  refine mx_zst0 3 401 [] 91 21 (by decide +kernel) rfl (by decide +kernel) (by decide +kernel) ?_
  refine mx_B 9 20 [(1, .int 3), (0, .ref 36)] [.int 0, .int 3, .ref 112] (by decide +kernel) ?_
  refine mx_zst0 3 401 [] 91 21 (by decide +kernel) rfl (by decide +kernel) (by decide +kernel) ?_
  refine mx_B 9 20 [(1, .int 4), (0, .ref 36)] [.int 0, .int 4, .ref 112] (by decide +kernel) ?_
  refine mx_zst0 3 401 [] 91 21 (by decide +kernel) rfl (by decide +kernel) (by decide +kernel) ?_
  refine mx_B 9 20 [(1, .int 5), (0, .ref 36)] [.int 0, .int 5, .ref 112] (by decide +kernel) ?_
  refine mx_zst0 3 401 [] 91 21 (by decide +kernel) rfl (by decide +kernel) (by decide +kernel) ?_
  refine mx_B 9 20 [(1, .int 6), (0, .ref 36)] [.int 0, .int 6, .ref 112] (by decide +kernel) ?_
  refine mx_zst0 3 401 [] 91 21 (by decide +kernel) rfl (by decide +kernel) (by decide +kernel) ?_
  refine mx_B 9 20 [(1, .int 7), (0, .ref 36)] [.int 0, .int 7, .ref 112] (by decide +kernel) ?_
  refine mx_zst0 3 401 [] 91 21 (by decide +kernel) rfl (by decide +kernel) (by decide +kernel) ?_
  refine mx_B 9 20 [(1, .int 8), (0, .ref 36)] [.int 0, .int 8, .ref 112] (by decide +kernel) ?_
  refine mx_zst0 3 401 [] 91 21 (by decide +kernel) rfl (by decide +kernel) (by decide +kernel) ?_
  refine mx_B 9 20 [(1, .int 9), (0, .ref 36)] [.int 0, .int 9, .ref 112] (by decide +kernel) ?_
  refine mx_zst0 3 401 [] 91 21 (by decide +kernel) rfl (by decide +kernel) (by decide +kernel) ?_
  refine mx_B 9 20 [(1, .int 10), (0, .ref 36)] [.int 0, .int 10, .ref 112] (by decide +kernel) ?_
  refine mx_zst0 3 401 [] 91 21 (by decide +kernel) rfl (by decide +kernel) (by decide +kernel) ?_
  refine mx_B 9 20 [(1, .int 11), (0, .ref 36)] [.int 0, .int 11, .ref 112] (by decide +kernel) ?_
  refine mx_zst0 3 401 [] 91 21 (by decide +kernel) rfl (by decide +kernel) (by decide +kernel) ?_
  refine mx_B 9 20 [(1, .int 12), (0, .ref 36)] [.int 0, .int 12, .ref 112] (by decide +kernel) ?_
  refine mx_zst0 3 401 [] 91 21 (by decide +kernel) rfl (by decide +kernel) (by decide +kernel) ?_
  refine mx_B 9 20 [(1, .int 13), (0, .ref 36)] [.int 0, .int 13, .ref 112] (by decide +kernel) ?_
  refine mx_zst0 3 401 [] 91 21 (by decide +kernel) rfl (by decide +kernel) (by decide +kernel) ?_
  refine mx_B 9 20 [(1, .int 14), (0, .ref 36)] [.int 0, .int 14, .ref 112] (by decide +kernel) ?_
  refine mx_zst0 3 401 [] 91 21 (by decide +kernel) rfl (by decide +kernel) (by decide +kernel) ?_
  refine mx_B 9 20 [(1, .int 15), (0, .ref 36)] [.int 0, .int 15, .ref 112] (by decide +kernel) ?_
  refine mx_zst0 3 401 [] 91 21 (by decide +kernel) rfl (by decide +kernel) (by decide +kernel) ?_
  refine mx_B 9 20 [(1, .int 16), (0, .ref 36)] [.int 0, .int 16, .ref 112] (by decide +kernel) ?_
  refine mx_zst0 3 401 [] 91 21 (by decide +kernel) rfl (by decide +kernel) (by decide +kernel) ?_
  refine mx_B 9 20 [(1, .int 17), (0, .ref 36)] [.int 0, .int 17, .ref 112] (by decide +kernel) ?_
  refine mx_zst0 3 401 [] 91 21 (by decide +kernel) rfl (by decide +kernel) (by decide +kernel) ?_
  refine mx_B 9 20 [(1, .int 18), (0, .ref 36)] [.int 0, .int 18, .ref 112] (by decide +kernel) ?_
  refine mx_zst0 3 401 [] 91 21 (by decide +kernel) rfl (by decide +kernel) (by decide +kernel) hr
theorem iv_a832_s1 (L : Nat) (xs : Nat → Int32) (zf : Value) (hz : zf.category = 1) {post : Option Value → rm_H → Prop} (hr : mx_R L xs zf ah_M406 21 [(1, .int 38), (0, .ref 36)] [] hh_a391 0 0 0 0 post) : mx_R L xs zf ah_M406 21 [(1, .int 18), (0, .ref 36)] [] hh_a391 0 0 0 0 post := by
  refine mx_B 9 20 [(1, .int 19), (0, .ref 36)] [.int 0, .int 19, .ref 112] (by decide +kernel) ?_
  refine mx_zst0 3 401 [] 91 21 (by decide +kernel) rfl (by decide +kernel) (by decide +kernel) ?_
  refine mx_B 9 20 [(1, .int 20), (0, .ref 36)] [.int 0, .int 20, .ref 112] (by decide +kernel) ?_
  refine mx_zst0 3 401 [] 91 21 (by decide +kernel) rfl (by decide +kernel) (by decide +kernel) ?_
  refine mx_B 9 20 [(1, .int 21), (0, .ref 36)] [.int 0, .int 21, .ref 112] (by decide +kernel) ?_
  refine mx_zst0 3 401 [] 91 21 (by decide +kernel) rfl (by decide +kernel) (by decide +kernel) ?_
  refine mx_B 9 20 [(1, .int 22), (0, .ref 36)] [.int 0, .int 22, .ref 112] (by decide +kernel) ?_
  refine mx_zst0 3 401 [] 91 21 (by decide +kernel) rfl (by decide +kernel) (by decide +kernel) ?_
  refine mx_B 9 20 [(1, .int 23), (0, .ref 36)] [.int 0, .int 23, .ref 112] (by decide +kernel) ?_
  refine mx_zst0 3 401 [] 91 21 (by decide +kernel) rfl (by decide +kernel) (by decide +kernel) ?_
  refine mx_B 9 20 [(1, .int 24), (0, .ref 36)] [.int 0, .int 24, .ref 112] (by decide +kernel) ?_
  refine mx_zst0 3 401 [] 91 21 (by decide +kernel) rfl (by decide +kernel) (by decide +kernel) ?_
  refine mx_B 9 20 [(1, .int 25), (0, .ref 36)] [.int 0, .int 25, .ref 112] (by decide +kernel) ?_
  refine mx_zst0 3 401 [] 91 21 (by decide +kernel) rfl (by decide +kernel) (by decide +kernel) ?_
  refine mx_B 9 20 [(1, .int 26), (0, .ref 36)] [.int 0, .int 26, .ref 112] (by decide +kernel) ?_
  refine mx_zst0 3 401 [] 91 21 (by decide +kernel) rfl (by decide +kernel) (by decide +kernel) ?_
  refine mx_B 9 20 [(1, .int 27), (0, .ref 36)] [.int 0, .int 27, .ref 112] (by decide +kernel) ?_
  refine mx_zst0 3 401 [] 91 21 (by decide +kernel) rfl (by decide +kernel) (by decide +kernel) ?_
  refine mx_B 9 20 [(1, .int 28), (0, .ref 36)] [.int 0, .int 28, .ref 112] (by decide +kernel) ?_
  refine mx_zst0 3 401 [] 91 21 (by decide +kernel) rfl (by decide +kernel) (by decide +kernel) ?_
  refine mx_B 9 20 [(1, .int 29), (0, .ref 36)] [.int 0, .int 29, .ref 112] (by decide +kernel) ?_
  refine mx_zst0 3 401 [] 91 21 (by decide +kernel) rfl (by decide +kernel) (by decide +kernel) ?_
  refine mx_B 9 20 [(1, .int 30), (0, .ref 36)] [.int 0, .int 30, .ref 112] (by decide +kernel) ?_
  refine mx_zst0 3 401 [] 91 21 (by decide +kernel) rfl (by decide +kernel) (by decide +kernel) ?_
  refine mx_B 9 20 [(1, .int 31), (0, .ref 36)] [.int 0, .int 31, .ref 112] (by decide +kernel) ?_
  refine mx_zst0 3 401 [] 91 21 (by decide +kernel) rfl (by decide +kernel) (by decide +kernel) ?_
  refine mx_B 9 20 [(1, .int 32), (0, .ref 36)] [.int 0, .int 32, .ref 112] (by decide +kernel) ?_
  refine mx_zst0 3 401 [] 91 21 (by decide +kernel) rfl (by decide +kernel) (by decide +kernel) ?_
  refine mx_B 9 20 [(1, .int 33), (0, .ref 36)] [.int 0, .int 33, .ref 112] (by decide +kernel) ?_
  refine mx_zst0 3 401 [] 91 21 (by decide +kernel) rfl (by decide +kernel) (by decide +kernel) ?_
  refine mx_B 9 20 [(1, .int 34), (0, .ref 36)] [.int 0, .int 34, .ref 112] (by decide +kernel) ?_
  refine mx_zst0 3 401 [] 91 21 (by decide +kernel) rfl (by decide +kernel) (by decide +kernel) ?_
  refine mx_B 9 20 [(1, .int 35), (0, .ref 36)] [.int 0, .int 35, .ref 112] (by decide +kernel) ?_
  refine mx_zst0 3 401 [] 91 21 (by decide +kernel) rfl (by decide +kernel) (by decide +kernel) ?_
  refine mx_B 9 20 [(1, .int 36), (0, .ref 36)] [.int 0, .int 36, .ref 112] (by decide +kernel) ?_
  refine mx_zst0 3 401 [] 91 21 (by decide +kernel) rfl (by decide +kernel) (by decide +kernel) ?_
  refine mx_B 9 20 [(1, .int 37), (0, .ref 36)] [.int 0, .int 37, .ref 112] (by decide +kernel) ?_
  refine mx_zst0 3 401 [] 91 21 (by decide +kernel) rfl (by decide +kernel) (by decide +kernel) ?_
  refine mx_B 9 20 [(1, .int 38), (0, .ref 36)] [.int 0, .int 38, .ref 112] (by decide +kernel) ?_
  refine mx_zst0 3 401 [] 91 21 (by decide +kernel) rfl (by decide +kernel) (by decide +kernel) hr
theorem iv_a832_s2 (L : Nat) (xs : Nat → Int32) (zf : Value) (hz : zf.category = 1) {post : Option Value → rm_H → Prop} (hr : mx_R L xs zf ah_M406 21 [(1, .int 58), (0, .ref 36)] [] hh_a391 0 0 0 0 post) : mx_R L xs zf ah_M406 21 [(1, .int 38), (0, .ref 36)] [] hh_a391 0 0 0 0 post := by
  refine mx_B 9 20 [(1, .int 39), (0, .ref 36)] [.int 0, .int 39, .ref 112] (by decide +kernel) ?_
  refine mx_zst0 3 401 [] 91 21 (by decide +kernel) rfl (by decide +kernel) (by decide +kernel) ?_
  refine mx_B 9 20 [(1, .int 40), (0, .ref 36)] [.int 0, .int 40, .ref 112] (by decide +kernel) ?_
  refine mx_zst0 3 401 [] 91 21 (by decide +kernel) rfl (by decide +kernel) (by decide +kernel) ?_
  refine mx_B 9 20 [(1, .int 41), (0, .ref 36)] [.int 0, .int 41, .ref 112] (by decide +kernel) ?_
  refine mx_zst0 3 401 [] 91 21 (by decide +kernel) rfl (by decide +kernel) (by decide +kernel) ?_
  refine mx_B 9 20 [(1, .int 42), (0, .ref 36)] [.int 0, .int 42, .ref 112] (by decide +kernel) ?_
  refine mx_zst0 3 401 [] 91 21 (by decide +kernel) rfl (by decide +kernel) (by decide +kernel) ?_
  refine mx_B 9 20 [(1, .int 43), (0, .ref 36)] [.int 0, .int 43, .ref 112] (by decide +kernel) ?_
  refine mx_zst0 3 401 [] 91 21 (by decide +kernel) rfl (by decide +kernel) (by decide +kernel) ?_
  refine mx_B 9 20 [(1, .int 44), (0, .ref 36)] [.int 0, .int 44, .ref 112] (by decide +kernel) ?_
  refine mx_zst0 3 401 [] 91 21 (by decide +kernel) rfl (by decide +kernel) (by decide +kernel) ?_
  refine mx_B 9 20 [(1, .int 45), (0, .ref 36)] [.int 0, .int 45, .ref 112] (by decide +kernel) ?_
  refine mx_zst0 3 401 [] 91 21 (by decide +kernel) rfl (by decide +kernel) (by decide +kernel) ?_
  refine mx_B 9 20 [(1, .int 46), (0, .ref 36)] [.int 0, .int 46, .ref 112] (by decide +kernel) ?_
  refine mx_zst0 3 401 [] 91 21 (by decide +kernel) rfl (by decide +kernel) (by decide +kernel) ?_
  refine mx_B 9 20 [(1, .int 47), (0, .ref 36)] [.int 0, .int 47, .ref 112] (by decide +kernel) ?_
  refine mx_zst0 3 401 [] 91 21 (by decide +kernel) rfl (by decide +kernel) (by decide +kernel) ?_
  refine mx_B 9 20 [(1, .int 48), (0, .ref 36)] [.int 0, .int 48, .ref 112] (by decide +kernel) ?_
  refine mx_zst0 3 401 [] 91 21 (by decide +kernel) rfl (by decide +kernel) (by decide +kernel) ?_
  refine mx_B 9 20 [(1, .int 49), (0, .ref 36)] [.int 0, .int 49, .ref 112] (by decide +kernel) ?_
  refine mx_zst0 3 401 [] 91 21 (by decide +kernel) rfl (by decide +kernel) (by decide +kernel) ?_
  refine mx_B 9 20 [(1, .int 50), (0, .ref 36)] [.int 0, .int 50, .ref 112] (by decide +kernel) ?_
  refine mx_zst0 3 401 [] 91 21 (by decide +kernel) rfl (by decide +kernel) (by decide +kernel) ?_
  refine mx_B 9 20 [(1, .int 51), (0, .ref 36)] [.int 0, .int 51, .ref 112] (by decide +kernel) ?_
  refine mx_zst0 3 401 [] 91 21 (by decide +kernel) rfl (by decide +kernel) (by decide +kernel) ?_
  refine mx_B 9 20 [(1, .int 52), (0, .ref 36)] [.int 0, .int 52, .ref 112] (by decide +kernel) ?_
  refine mx_zst0 3 401 [] 91 21 (by decide +kernel) rfl (by decide +kernel) (by decide +kernel) ?_
  refine mx_B 9 20 [(1, .int 53), (0, .ref 36)] [.int 0, .int 53, .ref 112] (by decide +kernel) ?_
  refine mx_zst0 3 401 [] 91 21 (by decide +kernel) rfl (by decide +kernel) (by decide +kernel) ?_
  refine mx_B 9 20 [(1, .int 54), (0, .ref 36)] [.int 0, .int 54, .ref 112] (by decide +kernel) ?_
  refine mx_zst0 3 401 [] 91 21 (by decide +kernel) rfl (by decide +kernel) (by decide +kernel) ?_
  refine mx_B 9 20 [(1, .int 55), (0, .ref 36)] [.int 0, .int 55, .ref 112] (by decide +kernel) ?_
  refine mx_zst0 3 401 [] 91 21 (by decide +kernel) rfl (by decide +kernel) (by decide +kernel) ?_
  refine mx_B 9 20 [(1, .int 56), (0, .ref 36)] [.int 0, .int 56, .ref 112] (by decide +kernel) ?_
  refine mx_zst0 3 401 [] 91 21 (by decide +kernel) rfl (by decide +kernel) (by decide +kernel) ?_
  refine mx_B 9 20 [(1, .int 57), (0, .ref 36)] [.int 0, .int 57, .ref 112] (by decide +kernel) ?_
  refine mx_zst0 3 401 [] 91 21 (by decide +kernel) rfl (by decide +kernel) (by decide +kernel) ?_
  refine mx_B 9 20 [(1, .int 58), (0, .ref 36)] [.int 0, .int 58, .ref 112] (by decide +kernel) ?_
  refine mx_zst0 3 401 [] 91 21 (by decide +kernel) rfl (by decide +kernel) (by decide +kernel) hr
theorem iv_a832_s3 (L : Nat) (xs : Nat → Int32) (zf : Value) (hz : zf.category = 1) {post : Option Value → rm_H → Prop} (hr : mx_R L xs zf ah_M406 21 [(1, .int 78), (0, .ref 36)] [] hh_a391 0 0 0 0 post) : mx_R L xs zf ah_M406 21 [(1, .int 58), (0, .ref 36)] [] hh_a391 0 0 0 0 post := by
  refine mx_B 9 20 [(1, .int 59), (0, .ref 36)] [.int 0, .int 59, .ref 112] (by decide +kernel) ?_
  refine mx_zst0 3 401 [] 91 21 (by decide +kernel) rfl (by decide +kernel) (by decide +kernel) ?_
  refine mx_B 9 20 [(1, .int 60), (0, .ref 36)] [.int 0, .int 60, .ref 112] (by decide +kernel) ?_
  refine mx_zst0 3 401 [] 91 21 (by decide +kernel) rfl (by decide +kernel) (by decide +kernel) ?_
  refine mx_B 9 20 [(1, .int 61), (0, .ref 36)] [.int 0, .int 61, .ref 112] (by decide +kernel) ?_
  refine mx_zst0 3 401 [] 91 21 (by decide +kernel) rfl (by decide +kernel) (by decide +kernel) ?_
  refine mx_B 9 20 [(1, .int 62), (0, .ref 36)] [.int 0, .int 62, .ref 112] (by decide +kernel) ?_
  refine mx_zst0 3 401 [] 91 21 (by decide +kernel) rfl (by decide +kernel) (by decide +kernel) ?_
  refine mx_B 9 20 [(1, .int 63), (0, .ref 36)] [.int 0, .int 63, .ref 112] (by decide +kernel) ?_
  refine mx_zst0 3 401 [] 91 21 (by decide +kernel) rfl (by decide +kernel) (by decide +kernel) ?_
  refine mx_B 9 20 [(1, .int 64), (0, .ref 36)] [.int 0, .int 64, .ref 112] (by decide +kernel) ?_
  refine mx_zst0 3 401 [] 91 21 (by decide +kernel) rfl (by decide +kernel) (by decide +kernel) ?_
  refine mx_B 9 20 [(1, .int 65), (0, .ref 36)] [.int 0, .int 65, .ref 112] (by decide +kernel) ?_
  refine mx_zst0 3 401 [] 91 21 (by decide +kernel) rfl (by decide +kernel) (by decide +kernel) ?_
  refine mx_B 9 20 [(1, .int 66), (0, .ref 36)] [.int 0, .int 66, .ref 112] (by decide +kernel) ?_
  refine mx_zst0 3 401 [] 91 21 (by decide +kernel) rfl (by decide +kernel) (by decide +kernel) ?_
  refine mx_B 9 20 [(1, .int 67), (0, .ref 36)] [.int 0, .int 67, .ref 112] (by decide +kernel) ?_
  refine mx_zst0 3 401 [] 91 21 (by decide +kernel) rfl (by decide +kernel) (by decide +kernel) ?_
  refine mx_B 9 20 [(1, .int 68), (0, .ref 36)] [.int 0, .int 68, .ref 112] (by decide +kernel) ?_
  refine mx_zst0 3 401 [] 91 21 (by decide +kernel) rfl (by decide +kernel) (by decide +kernel) ?_
  refine mx_B 9 20 [(1, .int 69), (0, .ref 36)] [.int 0, .int 69, .ref 112] (by decide +kernel) ?_
  refine mx_zst0 3 401 [] 91 21 (by decide +kernel) rfl (by decide +kernel) (by decide +kernel) ?_
  refine mx_B 9 20 [(1, .int 70), (0, .ref 36)] [.int 0, .int 70, .ref 112] (by decide +kernel) ?_
  refine mx_zst0 3 401 [] 91 21 (by decide +kernel) rfl (by decide +kernel) (by decide +kernel) ?_
  refine mx_B 9 20 [(1, .int 71), (0, .ref 36)] [.int 0, .int 71, .ref 112] (by decide +kernel) ?_
  refine mx_zst0 3 401 [] 91 21 (by decide +kernel) rfl (by decide +kernel) (by decide +kernel) ?_
  refine mx_B 9 20 [(1, .int 72), (0, .ref 36)] [.int 0, .int 72, .ref 112] (by decide +kernel) ?_
  refine mx_zst0 3 401 [] 91 21 (by decide +kernel) rfl (by decide +kernel) (by decide +kernel) ?_
  refine mx_B 9 20 [(1, .int 73), (0, .ref 36)] [.int 0, .int 73, .ref 112] (by decide +kernel) ?_
  refine mx_zst0 3 401 [] 91 21 (by decide +kernel) rfl (by decide +kernel) (by decide +kernel) ?_
  refine mx_B 9 20 [(1, .int 74), (0, .ref 36)] [.int 0, .int 74, .ref 112] (by decide +kernel) ?_
  refine mx_zst0 3 401 [] 91 21 (by decide +kernel) rfl (by decide +kernel) (by decide +kernel) ?_
  refine mx_B 9 20 [(1, .int 75), (0, .ref 36)] [.int 0, .int 75, .ref 112] (by decide +kernel) ?_
  refine mx_zst0 3 401 [] 91 21 (by decide +kernel) rfl (by decide +kernel) (by decide +kernel) ?_
  refine mx_B 9 20 [(1, .int 76), (0, .ref 36)] [.int 0, .int 76, .ref 112] (by decide +kernel) ?_
  refine mx_zst0 3 401 [] 91 21 (by decide +kernel) rfl (by decide +kernel) (by decide +kernel) ?_
  refine mx_B 9 20 [(1, .int 77), (0, .ref 36)] [.int 0, .int 77, .ref 112] (by decide +kernel) ?_
  refine mx_zst0 3 401 [] 91 21 (by decide +kernel) rfl (by decide +kernel) (by decide +kernel) ?_
  refine mx_B 9 20 [(1, .int 78), (0, .ref 36)] [.int 0, .int 78, .ref 112] (by decide +kernel) ?_
  refine mx_zst0 3 401 [] 91 21 (by decide +kernel) rfl (by decide +kernel) (by decide +kernel) hr
theorem iv_a832_s4 (L : Nat) (xs : Nat → Int32) (zf : Value) (hz : zf.category = 1) {post : Option Value → rm_H → Prop} (hr : mx_R L xs zf ah_M406 21 [(1, .int 98), (0, .ref 36)] [] hh_a391 0 0 0 0 post) : mx_R L xs zf ah_M406 21 [(1, .int 78), (0, .ref 36)] [] hh_a391 0 0 0 0 post := by
  refine mx_B 9 20 [(1, .int 79), (0, .ref 36)] [.int 0, .int 79, .ref 112] (by decide +kernel) ?_
  refine mx_zst0 3 401 [] 91 21 (by decide +kernel) rfl (by decide +kernel) (by decide +kernel) ?_
  refine mx_B 9 20 [(1, .int 80), (0, .ref 36)] [.int 0, .int 80, .ref 112] (by decide +kernel) ?_
  refine mx_zst0 3 401 [] 91 21 (by decide +kernel) rfl (by decide +kernel) (by decide +kernel) ?_
  refine mx_B 9 20 [(1, .int 81), (0, .ref 36)] [.int 0, .int 81, .ref 112] (by decide +kernel) ?_
  refine mx_zst0 3 401 [] 91 21 (by decide +kernel) rfl (by decide +kernel) (by decide +kernel) ?_
  refine mx_B 9 20 [(1, .int 82), (0, .ref 36)] [.int 0, .int 82, .ref 112] (by decide +kernel) ?_
  refine mx_zst0 3 401 [] 91 21 (by decide +kernel) rfl (by decide +kernel) (by decide +kernel) ?_
  refine mx_B 9 20 [(1, .int 83), (0, .ref 36)] [.int 0, .int 83, .ref 112] (by decide +kernel) ?_
  refine mx_zst0 3 401 [] 91 21 (by decide +kernel) rfl (by decide +kernel) (by decide +kernel) ?_
  refine mx_B 9 20 [(1, .int 84), (0, .ref 36)] [.int 0, .int 84, .ref 112] (by decide +kernel) ?_
  refine mx_zst0 3 401 [] 91 21 (by decide +kernel) rfl (by decide +kernel) (by decide +kernel) ?_
  refine mx_B 9 20 [(1, .int 85), (0, .ref 36)] [.int 0, .int 85, .ref 112] (by decide +kernel) ?_
  refine mx_zst0 3 401 [] 91 21 (by decide +kernel) rfl (by decide +kernel) (by decide +kernel) ?_
  refine mx_B 9 20 [(1, .int 86), (0, .ref 36)] [.int 0, .int 86, .ref 112] (by decide +kernel) ?_
  refine mx_zst0 3 401 [] 91 21 (by decide +kernel) rfl (by decide +kernel) (by decide +kernel) ?_
  refine mx_B 9 20 [(1, .int 87), (0, .ref 36)] [.int 0, .int 87, .ref 112] (by decide +kernel) ?_
  refine mx_zst0 3 401 [] 91 21 (by decide +kernel) rfl (by decide +kernel) (by decide +kernel) ?_
  refine mx_B 9 20 [(1, .int 88), (0, .ref 36)] [.int 0, .int 88, .ref 112] (by decide +kernel) ?_
  refine mx_zst0 3 401 [] 91 21 (by decide +kernel) rfl (by decide +kernel) (by decide +kernel) ?_
  refine mx_B 9 20 [(1, .int 89), (0, .ref 36)] [.int 0, .int 89, .ref 112] (by decide +kernel) ?_
  refine mx_zst0 3 401 [] 91 21 (by decide +kernel) rfl (by decide +kernel) (by decide +kernel) ?_
  refine mx_B 9 20 [(1, .int 90), (0, .ref 36)] [.int 0, .int 90, .ref 112] (by decide +kernel) ?_
  refine mx_zst0 3 401 [] 91 21 (by decide +kernel) rfl (by decide +kernel) (by decide +kernel) ?_
  refine mx_B 9 20 [(1, .int 91), (0, .ref 36)] [.int 0, .int 91, .ref 112] (by decide +kernel) ?_
  refine mx_zst0 3 401 [] 91 21 (by decide +kernel) rfl (by decide +kernel) (by decide +kernel) ?_
  refine mx_B 9 20 [(1, .int 92), (0, .ref 36)] [.int 0, .int 92, .ref 112] (by decide +kernel) ?_
  refine mx_zst0 3 401 [] 91 21 (by decide +kernel) rfl (by decide +kernel) (by decide +kernel) ?_
  refine mx_B 9 20 [(1, .int 93), (0, .ref 36)] [.int 0, .int 93, .ref 112] (by decide +kernel) ?_
  refine mx_zst0 3 401 [] 91 21 (by decide +kernel) rfl (by decide +kernel) (by decide +kernel) ?_
  refine mx_B 9 20 [(1, .int 94), (0, .ref 36)] [.int 0, .int 94, .ref 112] (by decide +kernel) ?_
  refine mx_zst0 3 401 [] 91 21 (by decide +kernel) rfl (by decide +kernel) (by decide +kernel) ?_
  refine mx_B 9 20 [(1, .int 95), (0, .ref 36)] [.int 0, .int 95, .ref 112] (by decide +kernel) ?_
  refine mx_zst0 3 401 [] 91 21 (by decide +kernel) rfl (by decide +kernel) (by decide +kernel) ?_
  refine mx_B 9 20 [(1, .int 96), (0, .ref 36)] [.int 0, .int 96, .ref 112] (by decide +kernel) ?_
  refine mx_zst0 3 401 [] 91 21 (by decide +kernel) rfl (by decide +kernel) (by decide +kernel) ?_
  refine mx_B 9 20 [(1, .int 97), (0, .ref 36)] [.int 0, .int 97, .ref 112] (by decide +kernel) ?_
  refine mx_zst0 3 401 [] 91 21 (by decide +kernel) rfl (by decide +kernel) (by decide +kernel) ?_
  refine mx_B 9 20 [(1, .int 98), (0, .ref 36)] [.int 0, .int 98, .ref 112] (by decide +kernel) ?_
  refine mx_zst0 3 401 [] 91 21 (by decide +kernel) rfl (by decide +kernel) (by decide +kernel) hr
theorem iv_a832_s5 (L : Nat) (xs : Nat → Int32) (zf : Value) (hz : zf.category = 1) {post : Option Value → rm_H → Prop} (hr : mx_R L xs zf ah_M406 21 [(1, .int 118), (0, .ref 36)] [] hh_a391 0 0 0 0 post) : mx_R L xs zf ah_M406 21 [(1, .int 98), (0, .ref 36)] [] hh_a391 0 0 0 0 post := by
  refine mx_B 9 20 [(1, .int 99), (0, .ref 36)] [.int 0, .int 99, .ref 112] (by decide +kernel) ?_
  refine mx_zst0 3 401 [] 91 21 (by decide +kernel) rfl (by decide +kernel) (by decide +kernel) ?_
  refine mx_B 9 20 [(1, .int 100), (0, .ref 36)] [.int 0, .int 100, .ref 112] (by decide +kernel) ?_
  refine mx_zst0 3 401 [] 91 21 (by decide +kernel) rfl (by decide +kernel) (by decide +kernel) ?_
  refine mx_B 9 20 [(1, .int 101), (0, .ref 36)] [.int 0, .int 101, .ref 112] (by decide +kernel) ?_
  refine mx_zst0 3 401 [] 91 21 (by decide +kernel) rfl (by decide +kernel) (by decide +kernel) ?_
  refine mx_B 9 20 [(1, .int 102), (0, .ref 36)] [.int 0, .int 102, .ref 112] (by decide +kernel) ?_
  refine mx_zst0 3 401 [] 91 21 (by decide +kernel) rfl (by decide +kernel) (by decide +kernel) ?_
  refine mx_B 9 20 [(1, .int 103), (0, .ref 36)] [.int 0, .int 103, .ref 112] (by decide +kernel) ?_
  refine mx_zst0 3 401 [] 91 21 (by decide +kernel) rfl (by decide +kernel) (by decide +kernel) ?_
  refine mx_B 9 20 [(1, .int 104), (0, .ref 36)] [.int 0, .int 104, .ref 112] (by decide +kernel) ?_
  refine mx_zst0 3 401 [] 91 21 (by decide +kernel) rfl (by decide +kernel) (by decide +kernel) ?_
  refine mx_B 9 20 [(1, .int 105), (0, .ref 36)] [.int 0, .int 105, .ref 112] (by decide +kernel) ?_
  refine mx_zst0 3 401 [] 91 21 (by decide +kernel) rfl (by decide +kernel) (by decide +kernel) ?_
  refine mx_B 9 20 [(1, .int 106), (0, .ref 36)] [.int 0, .int 106, .ref 112] (by decide +kernel) ?_
  refine mx_zst0 3 401 [] 91 21 (by decide +kernel) rfl (by decide +kernel) (by decide +kernel) ?_
  refine mx_B 9 20 [(1, .int 107), (0, .ref 36)] [.int 0, .int 107, .ref 112] (by decide +kernel) ?_
  refine mx_zst0 3 401 [] 91 21 (by decide +kernel) rfl (by decide +kernel) (by decide +kernel) ?_
  refine mx_B 9 20 [(1, .int 108), (0, .ref 36)] [.int 0, .int 108, .ref 112] (by decide +kernel) ?_
  refine mx_zst0 3 401 [] 91 21 (by decide +kernel) rfl (by decide +kernel) (by decide +kernel) ?_
  refine mx_B 9 20 [(1, .int 109), (0, .ref 36)] [.int 0, .int 109, .ref 112] (by decide +kernel) ?_
  refine mx_zst0 3 401 [] 91 21 (by decide +kernel) rfl (by decide +kernel) (by decide +kernel) ?_
  refine mx_B 9 20 [(1, .int 110), (0, .ref 36)] [.int 0, .int 110, .ref 112] (by decide +kernel) ?_
  refine mx_zst0 3 401 [] 91 21 (by decide +kernel) rfl (by decide +kernel) (by decide +kernel) ?_
  refine mx_B 9 20 [(1, .int 111), (0, .ref 36)] [.int 0, .int 111, .ref 112] (by decide +kernel) ?_
  refine mx_zst0 3 401 [] 91 21 (by decide +kernel) rfl (by decide +kernel) (by decide +kernel) ?_
  refine mx_B 9 20 [(1, .int 112), (0, .ref 36)] [.int 0, .int 112, .ref 112] (by decide +kernel) ?_
  refine mx_zst0 3 401 [] 91 21 (by decide +kernel) rfl (by decide +kernel) (by decide +kernel) ?_
  refine mx_B 9 20 [(1, .int 113), (0, .ref 36)] [.int 0, .int 113, .ref 112] (by decide +kernel) ?_
  refine mx_zst0 3 401 [] 91 21 (by decide +kernel) rfl (by decide +kernel) (by decide +kernel) ?_
  refine mx_B 9 20 [(1, .int 114), (0, .ref 36)] [.int 0, .int 114, .ref 112] (by decide +kernel) ?_
  refine mx_zst0 3 401 [] 91 21 (by decide +kernel) rfl (by decide +kernel) (by decide +kernel) ?_
  refine mx_B 9 20 [(1, .int 115), (0, .ref 36)] [.int 0, .int 115, .ref 112] (by decide +kernel) ?_
  refine mx_zst0 3 401 [] 91 21 (by decide +kernel) rfl (by decide +kernel) (by decide +kernel) ?_
  refine mx_B 9 20 [(1, .int 116), (0, .ref 36)] [.int 0, .int 116, .ref 112] (by decide +kernel) ?_
  refine mx_zst0 3 401 [] 91 21 (by decide +kernel) rfl (by decide +kernel) (by decide +kernel) ?_
  refine mx_B 9 20 [(1, .int 117), (0, .ref 36)] [.int 0, .int 117, .ref 112] (by decide +kernel) ?_
  refine mx_zst0 3 401 [] 91 21 (by decide +kernel) rfl (by decide +kernel) (by decide +kernel) ?_
  refine mx_B 9 20 [(1, .int 118), (0, .ref 36)] [.int 0, .int 118, .ref 112] (by decide +kernel) ?_
  refine mx_zst0 3 401 [] 91 21 (by decide +kernel) rfl (by decide +kernel) (by decide +kernel) hr
theorem iv_a832_s6 (L : Nat) (xs : Nat → Int32) (zf : Value) (hz : zf.category = 1) {post : Option Value → rm_H → Prop} (hr : mx_R L xs zf ah_M406 21 [(1, .int 138), (0, .ref 36)] [] hh_a391 0 0 0 0 post) : mx_R L xs zf ah_M406 21 [(1, .int 118), (0, .ref 36)] [] hh_a391 0 0 0 0 post := by
  refine mx_B 9 20 [(1, .int 119), (0, .ref 36)] [.int 0, .int 119, .ref 112] (by decide +kernel) ?_
  refine mx_zst0 3 401 [] 91 21 (by decide +kernel) rfl (by decide +kernel) (by decide +kernel) ?_
  refine mx_B 9 20 [(1, .int 120), (0, .ref 36)] [.int 0, .int 120, .ref 112] (by decide +kernel) ?_
  refine mx_zst0 3 401 [] 91 21 (by decide +kernel) rfl (by decide +kernel) (by decide +kernel) ?_
  refine mx_B 9 20 [(1, .int 121), (0, .ref 36)] [.int 0, .int 121, .ref 112] (by decide +kernel) ?_
  refine mx_zst0 3 401 [] 91 21 (by decide +kernel) rfl (by decide +kernel) (by decide +kernel) ?_
  refine mx_B 9 20 [(1, .int 122), (0, .ref 36)] [.int 0, .int 122, .ref 112] (by decide +kernel) ?_
  refine mx_zst0 3 401 [] 91 21 (by decide +kernel) rfl (by decide +kernel) (by decide +kernel) ?_
  refine mx_B 9 20 [(1, .int 123), (0, .ref 36)] [.int 0, .int 123, .ref 112] (by decide +kernel) ?_
  refine mx_zst0 3 401 [] 91 21 (by decide +kernel) rfl (by decide +kernel) (by decide +kernel) ?_
  refine mx_B 9 20 [(1, .int 124), (0, .ref 36)] [.int 0, .int 124, .ref 112] (by decide +kernel) ?_
  refine mx_zst0 3 401 [] 91 21 (by decide +kernel) rfl (by decide +kernel) (by decide +kernel) ?_
  refine mx_B 9 20 [(1, .int 125), (0, .ref 36)] [.int 0, .int 125, .ref 112] (by decide +kernel) ?_
  refine mx_zst0 3 401 [] 91 21 (by decide +kernel) rfl (by decide +kernel) (by decide +kernel) ?_
  refine mx_B 9 20 [(1, .int 126), (0, .ref 36)] [.int 0, .int 126, .ref 112] (by decide +kernel) ?_
  refine mx_zst0 3 401 [] 91 21 (by decide +kernel) rfl (by decide +kernel) (by decide +kernel) ?_
  refine mx_B 9 20 [(1, .int 127), (0, .ref 36)] [.int 0, .int 127, .ref 112] (by decide +kernel) ?_
  refine mx_zst0 3 401 [] 91 21 (by decide +kernel) rfl (by decide +kernel) (by decide +kernel) ?_
  refine mx_B 9 20 [(1, .int 128), (0, .ref 36)] [.int 0, .int 128, .ref 112] (by decide +kernel) ?_
  refine mx_zst0 3 401 [] 91 21 (by decide +kernel) rfl (by decide +kernel) (by decide +kernel) ?_
  refine mx_B 9 20 [(1, .int 129), (0, .ref 36)] [.int 0, .int 129, .ref 112] (by decide +kernel) ?_
  refine mx_zst0 3 401 [] 91 21 (by decide +kernel) rfl (by decide +kernel) (by decide +kernel) ?_
  refine mx_B 9 20 [(1, .int 130), (0, .ref 36)] [.int 0, .int 130, .ref 112] (by decide +kernel) ?_
  refine mx_zst0 3 401 [] 91 21 (by decide +kernel) rfl (by decide +kernel) (by decide +kernel) ?_
  refine mx_B 9 20 [(1, .int 131), (0, .ref 36)] [.int 0, .int 131, .ref 112] (by decide +kernel) ?_
  refine mx_zst0 3 401 [] 91 21 (by decide +kernel) rfl (by decide +kernel) (by decide +kernel) ?_
  refine mx_B 9 20 [(1, .int 132), (0, .ref 36)] [.int 0, .int 132, .ref 112] (by decide +kernel) ?_
  refine mx_zst0 3 401 [] 91 21 (by decide +kernel) rfl (by decide +kernel) (by decide +kernel) ?_
  refine mx_B 9 20 [(1, .int 133), (0, .ref 36)] [.int 0, .int 133, .ref 112] (by decide +kernel) ?_
  refine mx_zst0 3 401 [] 91 21 (by decide +kernel) rfl (by decide +kernel) (by decide +kernel) ?_
  refine mx_B 9 20 [(1, .int 134), (0, .ref 36)] [.int 0, .int 134, .ref 112] (by decide +kernel) ?_
  refine mx_zst0 3 401 [] 91 21 (by decide +kernel) rfl (by decide +kernel) (by decide +kernel) ?_
  refine mx_B 9 20 [(1, .int 135), (0, .ref 36)] [.int 0, .int 135, .ref 112] (by decide +kernel) ?_
  refine mx_zst0 3 401 [] 91 21 (by decide +kernel) rfl (by decide +kernel) (by decide +kernel) ?_
  refine mx_B 9 20 [(1, .int 136), (0, .ref 36)] [.int 0, .int 136, .ref 112] (by decide +kernel) ?_
  refine mx_zst0 3 401 [] 91 21 (by decide +kernel) rfl (by decide +kernel) (by decide +kernel) ?_
  refine mx_B 9 20 [(1, .int 137), (0, .ref 36)] [.int 0, .int 137, .ref 112] (by decide +kernel) ?_
  refine mx_zst0 3 401 [] 91 21 (by decide +kernel) rfl (by decide +kernel) (by decide +kernel) ?_
  refine mx_B 9 20 [(1, .int 138), (0, .ref 36)] [.int 0, .int 138, .ref 112] (by decide +kernel) ?_
  refine mx_zst0 3 401 [] 91 21 (by decide +kernel) rfl (by decide +kernel) (by decide +kernel) hr
theorem iv_a832_s7 (L : Nat) (xs : Nat → Int32) (zf : Value) (hz : zf.category = 1) {post : Option Value → rm_H → Prop} (hr : mx_R L xs zf ah_M406 21 [(1, .int 158), (0, .ref 36)] [] hh_a391 0 0 0 0 post) : mx_R L xs zf ah_M406 21 [(1, .int 138), (0, .ref 36)] [] hh_a391 0 0 0 0 post := by
  refine mx_B 9 20 [(1, .int 139), (0, .ref 36)] [.int 0, .int 139, .ref 112] (by decide +kernel) ?_
  refine mx_zst0 3 401 [] 91 21 (by decide +kernel) rfl (by decide +kernel) (by decide +kernel) ?_
  refine mx_B 9 20 [(1, .int 140), (0, .ref 36)] [.int 0, .int 140, .ref 112] (by decide +kernel) ?_
  refine mx_zst0 3 401 [] 91 21 (by decide +kernel) rfl (by decide +kernel) (by decide +kernel) ?_
  refine mx_B 9 20 [(1, .int 141), (0, .ref 36)] [.int 0, .int 141, .ref 112] (by decide +kernel) ?_
  refine mx_zst0 3 401 [] 91 21 (by decide +kernel) rfl (by decide +kernel) (by decide +kernel) ?_
  refine mx_B 9 20 [(1, .int 142), (0, .ref 36)] [.int 0, .int 142, .ref 112] (by decide +kernel) ?_
  refine mx_zst0 3 401 [] 91 21 (by decide +kernel) rfl (by decide +kernel) (by decide +kernel) ?_
  refine mx_B 9 20 [(1, .int 143), (0, .ref 36)] [.int 0, .int 143, .ref 112] (by decide +kernel) ?_
  refine mx_zst0 3 401 [] 91 21 (by decide +kernel) rfl (by decide +kernel) (by decide +kernel) ?_
  refine mx_B 9 20 [(1, .int 144), (0, .ref 36)] [.int 0, .int 144, .ref 112] (by decide +kernel) ?_
  refine mx_zst0 3 401 [] 91 21 (by decide +kernel) rfl (by decide +kernel) (by decide +kernel) ?_
  refine mx_B 9 20 [(1, .int 145), (0, .ref 36)] [.int 0, .int 145, .ref 112] (by decide +kernel) ?_
  refine mx_zst0 3 401 [] 91 21 (by decide +kernel) rfl (by decide +kernel) (by decide +kernel) ?_
  refine mx_B 9 20 [(1, .int 146), (0, .ref 36)] [.int 0, .int 146, .ref 112] (by decide +kernel) ?_
  refine mx_zst0 3 401 [] 91 21 (by decide +kernel) rfl (by decide +kernel) (by decide +kernel) ?_
  refine mx_B 9 20 [(1, .int 147), (0, .ref 36)] [.int 0, .int 147, .ref 112] (by decide +kernel) ?_
  refine mx_zst0 3 401 [] 91 21 (by decide +kernel) rfl (by decide +kernel) (by decide +kernel) ?_
  refine mx_B 9 20 [(1, .int 148), (0, .ref 36)] [.int 0, .int 148, .ref 112] (by decide +kernel) ?_
  refine mx_zst0 3 401 [] 91 21 (by decide +kernel) rfl (by decide +kernel) (by decide +kernel) ?_
  refine mx_B 9 20 [(1, .int 149), (0, .ref 36)] [.int 0, .int 149, .ref 112] (by decide +kernel) ?_
  refine mx_zst0 3 401 [] 91 21 (by decide +kernel) rfl (by decide +kernel) (by decide +kernel) ?_
  refine mx_B 9 20 [(1, .int 150), (0, .ref 36)] [.int 0, .int 150, .ref 112] (by decide +kernel) ?_
  refine mx_zst0 3 401 [] 91 21 (by decide +kernel) rfl (by decide +kernel) (by decide +kernel) ?_
  refine mx_B 9 20 [(1, .int 151), (0, .ref 36)] [.int 0, .int 151, .ref 112] (by decide +kernel) ?_
  refine mx_zst0 3 401 [] 91 21 (by decide +kernel) rfl (by decide +kernel) (by decide +kernel) ?_
  refine mx_B 9 20 [(1, .int 152), (0, .ref 36)] [.int 0, .int 152, .ref 112] (by decide +kernel) ?_
  refine mx_zst0 3 401 [] 91 21 (by decide +kernel) rfl (by decide +kernel) (by decide +kernel) ?_
  refine mx_B 9 20 [(1, .int 153), (0, .ref 36)] [.int 0, .int 153, .ref 112] (by decide +kernel) ?_
  refine mx_zst0 3 401 [] 91 21 (by decide +kernel) rfl (by decide +kernel) (by decide +kernel) ?_
  refine mx_B 9 20 [(1, .int 154), (0, .ref 36)] [.int 0, .int 154, .ref 112] (by decide +kernel) ?_
  refine mx_zst0 3 401 [] 91 21 (by decide +kernel) rfl (by decide +kernel) (by decide +kernel) ?_
  refine mx_B 9 20 [(1, .int 155), (0, .ref 36)] [.int 0, .int 155, .ref 112] (by decide +kernel) ?_
  refine mx_zst0 3 401 [] 91 21 (by decide +kernel) rfl (by decide +kernel) (by decide +kernel) ?_
  refine mx_B 9 20 [(1, .int 156), (0, .ref 36)] [.int 0, .int 156, .ref 112] (by decide +kernel) ?_
  refine mx_zst0 3 401 [] 91 21 (by decide +kernel) rfl (by decide +kernel) (by decide +kernel) ?_
  refine mx_B 9 20 [(1, .int 157), (0, .ref 36)] [.int 0, .int 157, .ref 112] (by decide +kernel) ?_
  refine mx_zst0 3 401 [] 91 21 (by decide +kernel) rfl (by decide +kernel) (by decide +kernel) ?_
  refine mx_B 9 20 [(1, .int 158), (0, .ref 36)] [.int 0, .int 158, .ref 112] (by decide +kernel) ?_
  refine mx_zst0 3 401 [] 91 21 (by decide +kernel) rfl (by decide +kernel) (by decide +kernel) hr
theorem iv_a832_s8 (L : Nat) (xs : Nat → Int32) (zf : Value) (hz : zf.category = 1) {post : Option Value → rm_H → Prop} (hr : mx_R L xs zf ah_M406 21 [(1, .int 178), (0, .ref 36)] [] hh_a391 0 0 0 0 post) : mx_R L xs zf ah_M406 21 [(1, .int 158), (0, .ref 36)] [] hh_a391 0 0 0 0 post := by
  refine mx_B 9 20 [(1, .int 159), (0, .ref 36)] [.int 0, .int 159, .ref 112] (by decide +kernel) ?_
  refine mx_zst0 3 401 [] 91 21 (by decide +kernel) rfl (by decide +kernel) (by decide +kernel) ?_
  refine mx_B 9 20 [(1, .int 160), (0, .ref 36)] [.int 0, .int 160, .ref 112] (by decide +kernel) ?_
  refine mx_zst0 3 401 [] 91 21 (by decide +kernel) rfl (by decide +kernel) (by decide +kernel) ?_
  refine mx_B 9 20 [(1, .int 161), (0, .ref 36)] [.int 0, .int 161, .ref 112] (by decide +kernel) ?_
  refine mx_zst0 3 401 [] 91 21 (by decide +kernel) rfl (by decide +kernel) (by decide +kernel) ?_
  refine mx_B 9 20 [(1, .int 162), (0, .ref 36)] [.int 0, .int 162, .ref 112] (by decide +kernel) ?_
  refine mx_zst0 3 401 [] 91 21 (by decide +kernel) rfl (by decide +kernel) (by decide +kernel) ?_
  refine mx_B 9 20 [(1, .int 163), (0, .ref 36)] [.int 0, .int 163, .ref 112] (by decide +kernel) ?_
  refine mx_zst0 3 401 [] 91 21 (by decide +kernel) rfl (by decide +kernel) (by decide +kernel) ?_
  refine mx_B 9 20 [(1, .int 164), (0, .ref 36)] [.int 0, .int 164, .ref 112] (by decide +kernel) ?_
  refine mx_zst0 3 401 [] 91 21 (by decide +kernel) rfl (by decide +kernel) (by decide +kernel) ?_
  refine mx_B 9 20 [(1, .int 165), (0, .ref 36)] [.int 0, .int 165, .ref 112] (by decide +kernel) ?_
  refine mx_zst0 3 401 [] 91 21 (by decide +kernel) rfl (by decide +kernel) (by decide +kernel) ?_
  refine mx_B 9 20 [(1, .int 166), (0, .ref 36)] [.int 0, .int 166, .ref 112] (by decide +kernel) ?_
  refine mx_zst0 3 401 [] 91 21 (by decide +kernel) rfl (by decide +kernel) (by decide +kernel) ?_
  refine mx_B 9 20 [(1, .int 167), (0, .ref 36)] [.int 0, .int 167, .ref 112] (by decide +kernel) ?_
  refine mx_zst0 3 401 [] 91 21 (by decide +kernel) rfl (by decide +kernel) (by decide +kernel) ?_
  refine mx_B 9 20 [(1, .int 168), (0, .ref 36)] [.int 0, .int 168, .ref 112] (by decide +kernel) ?_
  refine mx_zst0 3 401 [] 91 21 (by decide +kernel) rfl (by decide +kernel) (by decide +kernel) ?_
  refine mx_B 9 20 [(1, .int 169), (0, .ref 36)] [.int 0, .int 169, .ref 112] (by decide +kernel) ?_
  refine mx_zst0 3 401 [] 91 21 (by decide +kernel) rfl (by decide +kernel) (by decide +kernel) ?_
  refine mx_B 9 20 [(1, .int 170), (0, .ref 36)] [.int 0, .int 170, .ref 112] (by decide +kernel) ?_
  refine mx_zst0 3 401 [] 91 21 (by decide +kernel) rfl (by decide +kernel) (by decide +kernel) ?_
  refine mx_B 9 20 [(1, .int 171), (0, .ref 36)] [.int 0, .int 171, .ref 112] (by decide +kernel) ?_
  refine mx_zst0 3 401 [] 91 21 (by decide +kernel) rfl (by decide +kernel) (by decide +kernel) ?_
  refine mx_B 9 20 [(1, .int 172), (0, .ref 36)] [.int 0, .int 172, .ref 112] (by decide +kernel) ?_
  refine mx_zst0 3 401 [] 91 21 (by decide +kernel) rfl (by decide +kernel) (by decide +kernel) ?_
  refine mx_B 9 20 [(1, .int 173), (0, .ref 36)] [.int 0, .int 173, .ref 112] (by decide +kernel) ?_
  refine mx_zst0 3 401 [] 91 21 (by decide +kernel) rfl (by decide +kernel) (by decide +kernel) ?_
  refine mx_B 9 20 [(1, .int 174), (0, .ref 36)] [.int 0, .int 174, .ref 112] (by decide +kernel) ?_
  refine mx_zst0 3 401 [] 91 21 (by decide +kernel) rfl (by decide +kernel) (by decide +kernel) ?_
  refine mx_B 9 20 [(1, .int 175), (0, .ref 36)] [.int 0, .int 175, .ref 112] (by decide +kernel) ?_
  refine mx_zst0 3 401 [] 91 21 (by decide +kernel) rfl (by decide +kernel) (by decide +kernel) ?_
  refine mx_B 9 20 [(1, .int 176), (0, .ref 36)] [.int 0, .int 176, .ref 112] (by decide +kernel) ?_
  refine mx_zst0 3 401 [] 91 21 (by decide +kernel) rfl (by decide +kernel) (by decide +kernel) ?_
  refine mx_B 9 20 [(1, .int 177), (0, .ref 36)] [.int 0, .int 177, .ref 112] (by decide +kernel) ?_
  refine mx_zst0 3 401 [] 91 21 (by decide +kernel) rfl (by decide +kernel) (by decide +kernel) ?_
  refine mx_B 9 20 [(1, .int 178), (0, .ref 36)] [.int 0, .int 178, .ref 112] (by decide +kernel) ?_
  refine mx_zst0 3 401 [] 91 21 (by decide +kernel) rfl (by decide +kernel) (by decide +kernel) hr
theorem iv_a832_s9 (L : Nat) (xs : Nat → Int32) (zf : Value) (hz : zf.category = 1) {post : Option Value → rm_H → Prop} (hr : mx_R L xs zf ah_M406 21 [(1, .int 198), (0, .ref 36)] [] hh_a391 0 0 0 0 post) : mx_R L xs zf ah_M406 21 [(1, .int 178), (0, .ref 36)] [] hh_a391 0 0 0 0 post := by
  refine mx_B 9 20 [(1, .int 179), (0, .ref 36)] [.int 0, .int 179, .ref 112] (by decide +kernel) ?_
  refine mx_zst0 3 401 [] 91 21 (by decide +kernel) rfl (by decide +kernel) (by decide +kernel) ?_
  refine mx_B 9 20 [(1, .int 180), (0, .ref 36)] [.int 0, .int 180, .ref 112] (by decide +kernel) ?_
  refine mx_zst0 3 401 [] 91 21 (by decide +kernel) rfl (by decide +kernel) (by decide +kernel) ?_
  refine mx_B 9 20 [(1, .int 181), (0, .ref 36)] [.int 0, .int 181, .ref 112] (by decide +kernel) ?_
  refine mx_zst0 3 401 [] 91 21 (by decide +kernel) rfl (by decide +kernel) (by decide +kernel) ?_
  refine mx_B 9 20 [(1, .int 182), (0, .ref 36)] [.int 0, .int 182, .ref 112] (by decide +kernel) ?_
  refine mx_zst0 3 401 [] 91 21 (by decide +kernel) rfl (by decide +kernel) (by decide +kernel) ?_
  refine mx_B 9 20 [(1, .int 183), (0, .ref 36)] [.int 0, .int 183, .ref 112] (by decide +kernel) ?_
  refine mx_zst0 3 401 [] 91 21 (by decide +kernel) rfl (by decide +kernel) (by decide +kernel) ?_
  refine mx_B 9 20 [(1, .int 184), (0, .ref 36)] [.int 0, .int 184, .ref 112] (by decide +kernel) ?_
  refine mx_zst0 3 401 [] 91 21 (by decide +kernel) rfl (by decide +kernel) (by decide +kernel) ?_
  refine mx_B 9 20 [(1, .int 185), (0, .ref 36)] [.int 0, .int 185, .ref 112] (by decide +kernel) ?_
  refine mx_zst0 3 401 [] 91 21 (by decide +kernel) rfl (by decide +kernel) (by decide +kernel) ?_
  refine mx_B 9 20 [(1, .int 186), (0, .ref 36)] [.int 0, .int 186, .ref 112] (by decide +kernel) ?_
  refine mx_zst0 3 401 [] 91 21 (by decide +kernel) rfl (by decide +kernel) (by decide +kernel) ?_
  refine mx_B 9 20 [(1, .int 187), (0, .ref 36)] [.int 0, .int 187, .ref 112] (by decide +kernel) ?_
  refine mx_zst0 3 401 [] 91 21 (by decide +kernel) rfl (by decide +kernel) (by decide +kernel) ?_
  refine mx_B 9 20 [(1, .int 188), (0, .ref 36)] [.int 0, .int 188, .ref 112] (by decide +kernel) ?_
  refine mx_zst0 3 401 [] 91 21 (by decide +kernel) rfl (by decide +kernel) (by decide +kernel) ?_
  refine mx_B 9 20 [(1, .int 189), (0, .ref 36)] [.int 0, .int 189, .ref 112] (by decide +kernel) ?_
  refine mx_zst0 3 401 [] 91 21 (by decide +kernel) rfl (by decide +kernel) (by decide +kernel) ?_
  refine mx_B 9 20 [(1, .int 190), (0, .ref 36)] [.int 0, .int 190, .ref 112] (by decide +kernel) ?_
  refine mx_zst0 3 401 [] 91 21 (by decide +kernel) rfl (by decide +kernel) (by decide +kernel) ?_
  refine mx_B 9 20 [(1, .int 191), (0, .ref 36)] [.int 0, .int 191, .ref 112] (by decide +kernel) ?_
  refine mx_zst0 3 401 [] 91 21 (by decide +kernel) rfl (by decide +kernel) (by decide +kernel) ?_
  refine mx_B 9 20 [(1, .int 192), (0, .ref 36)] [.int 0, .int 192, .ref 112] (by decide +kernel) ?_
  refine mx_zst0 3 401 [] 91 21 (by decide +kernel) rfl (by decide +kernel) (by decide +kernel) ?_
  refine mx_B 9 20 [(1, .int 193), (0, .ref 36)] [.int 0, .int 193, .ref 112] (by decide +kernel) ?_
  refine mx_zst0 3 401 [] 91 21 (by decide +kernel) rfl (by decide +kernel) (by decide +kernel) ?_
  refine mx_B 9 20 [(1, .int 194), (0, .ref 36)] [.int 0, .int 194, .ref 112] (by decide +kernel) ?_
  refine mx_zst0 3 401 [] 91 21 (by decide +kernel) rfl (by decide +kernel) (by decide +kernel) ?_
  refine mx_B 9 20 [(1, .int 195), (0, .ref 36)] [.int 0, .int 195, .ref 112] (by decide +kernel) ?_
  refine mx_zst0 3 401 [] 91 21 (by decide +kernel) rfl (by decide +kernel) (by decide +kernel) ?_
  refine mx_B 9 20 [(1, .int 196), (0, .ref 36)] [.int 0, .int 196, .ref 112] (by decide +kernel) ?_
  refine mx_zst0 3 401 [] 91 21 (by decide +kernel) rfl (by decide +kernel) (by decide +kernel) ?_
  refine mx_B 9 20 [(1, .int 197), (0, .ref 36)] [.int 0, .int 197, .ref 112] (by decide +kernel) ?_
  refine mx_zst0 3 401 [] 91 21 (by decide +kernel) rfl (by decide +kernel) (by decide +kernel) ?_
  refine mx_B 9 20 [(1, .int 198), (0, .ref 36)] [.int 0, .int 198, .ref 112] (by decide +kernel) ?_
  refine mx_zst0 3 401 [] 91 21 (by decide +kernel) rfl (by decide +kernel) (by decide +kernel) hr
theorem iv_a832_s10 (L : Nat) (xs : Nat → Int32) (zf : Value) (hz : zf.category = 1) {post : Option Value → rm_H → Prop} (hr : mx_R L xs zf ah_M406 21 [(1, .int 218), (0, .ref 36)] [] hh_a391 0 0 0 0 post) : mx_R L xs zf ah_M406 21 [(1, .int 198), (0, .ref 36)] [] hh_a391 0 0 0 0 post := by
  refine mx_B 9 20 [(1, .int 199), (0, .ref 36)] [.int 0, .int 199, .ref 112] (by decide +kernel) ?_
  refine mx_zst0 3 401 [] 91 21 (by decide +kernel) rfl (by decide +kernel) (by decide +kernel) ?_
  refine mx_B 9 20 [(1, .int 200), (0, .ref 36)] [.int 0, .int 200, .ref 112] (by decide +kernel) ?_
  refine mx_zst0 3 401 [] 91 21 (by decide +kernel) rfl (by decide +kernel) (by decide +kernel) ?_
  refine mx_B 9 20 [(1, .int 201), (0, .ref 36)] [.int 0, .int 201, .ref 112] (by decide +kernel) ?_
  refine mx_zst0 3 401 [] 91 21 (by decide +kernel) rfl (by decide +kernel) (by decide +kernel) ?_
  refine mx_B 9 20 [(1, .int 202), (0, .ref 36)] [.int 0, .int 202, .ref 112] (by decide +kernel) ?_
  refine mx_zst0 3 401 [] 91 21 (by decide +kernel) rfl (by decide +kernel) (by decide +kernel) ?_
  refine mx_B 9 20 [(1, .int 203), (0, .ref 36)] [.int 0, .int 203, .ref 112] (by decide +kernel) ?_
  refine mx_zst0 3 401 [] 91 21 (by decide +kernel) rfl (by decide +kernel) (by decide +kernel) ?_
  refine mx_B 9 20 [(1, .int 204), (0, .ref 36)] [.int 0, .int 204, .ref 112] (by decide +kernel) ?_
  refine mx_zst0 3 401 [] 91 21 (by decide +kernel) rfl (by decide +kernel) (by decide +kernel) ?_
  refine mx_B 9 20 [(1, .int 205), (0, .ref 36)] [.int 0, .int 205, .ref 112] (by decide +kernel) ?_
  refine mx_zst0 3 401 [] 91 21 (by decide +kernel) rfl (by decide +kernel) (by decide +kernel) ?_
  refine mx_B 9 20 [(1, .int 206), (0, .ref 36)] [.int 0, .int 206, .ref 112] (by decide +kernel) ?_
  refine mx_zst0 3 401 [] 91 21 (by decide +kernel) rfl (by decide +kernel) (by decide +kernel) ?_
  refine mx_B 9 20 [(1, .int 207), (0, .ref 36)] [.int 0, .int 207, .ref 112] (by decide +kernel) ?_
  refine mx_zst0 3 401 [] 91 21 (by decide +kernel) rfl (by decide +kernel) (by decide +kernel) ?_
  refine mx_B 9 20 [(1, .int 208), (0, .ref 36)] [.int 0, .int 208, .ref 112] (by decide +kernel) ?_
  refine mx_zst0 3 401 [] 91 21 (by decide +kernel) rfl (by decide +kernel) (by decide +kernel) ?_
  refine mx_B 9 20 [(1, .int 209), (0, .ref 36)] [.int 0, .int 209, .ref 112] (by decide +kernel) ?_
  refine mx_zst0 3 401 [] 91 21 (by decide +kernel) rfl (by decide +kernel) (by decide +kernel) ?_
  refine mx_B 9 20 [(1, .int 210), (0, .ref 36)] [.int 0, .int 210, .ref 112] (by decide +kernel) ?_
  refine mx_zst0 3 401 [] 91 21 (by decide +kernel) rfl (by decide +kernel) (by decide +kernel) ?_
  refine mx_B 9 20 [(1, .int 211), (0, .ref 36)] [.int 0, .int 211, .ref 112] (by decide +kernel) ?_
  refine mx_zst0 3 401 [] 91 21 (by decide +kernel) rfl (by decide +kernel) (by decide +kernel) ?_
  refine mx_B 9 20 [(1, .int 212), (0, .ref 36)] [.int 0, .int 212, .ref 112] (by decide +kernel) ?_
  refine mx_zst0 3 401 [] 91 21 (by decide +kernel) rfl (by decide +kernel) (by decide +kernel) ?_
  refine mx_B 9 20 [(1, .int 213), (0, .ref 36)] [.int 0, .int 213, .ref 112] (by decide +kernel) ?_
  refine mx_zst0 3 401 [] 91 21 (by decide +kernel) rfl (by decide +kernel) (by decide +kernel) ?_
  refine mx_B 9 20 [(1, .int 214), (0, .ref 36)] [.int 0, .int 214, .ref 112] (by decide +kernel) ?_
  refine mx_zst0 3 401 [] 91 21 (by decide +kernel) rfl (by decide +kernel) (by decide +kernel) ?_
  refine mx_B 9 20 [(1, .int 215), (0, .ref 36)] [.int 0, .int 215, .ref 112] (by decide +kernel) ?_
  refine mx_zst0 3 401 [] 91 21 (by decide +kernel) rfl (by decide +kernel) (by decide +kernel) ?_
  refine mx_B 9 20 [(1, .int 216), (0, .ref 36)] [.int 0, .int 216, .ref 112] (by decide +kernel) ?_
  refine mx_zst0 3 401 [] 91 21 (by decide +kernel) rfl (by decide +kernel) (by decide +kernel) ?_
  refine mx_B 9 20 [(1, .int 217), (0, .ref 36)] [.int 0, .int 217, .ref 112] (by decide +kernel) ?_
  refine mx_zst0 3 401 [] 91 21 (by decide +kernel) rfl (by decide +kernel) (by decide +kernel) ?_
  refine mx_B 9 20 [(1, .int 218), (0, .ref 36)] [.int 0, .int 218, .ref 112] (by decide +kernel) ?_
  refine mx_zst0 3 401 [] 91 21 (by decide +kernel) rfl (by decide +kernel) (by decide +kernel) hr
theorem iv_a832_s11 (L : Nat) (xs : Nat → Int32) (zf : Value) (hz : zf.category = 1) {post : Option Value → rm_H → Prop} (hr : mx_R L xs zf ah_M406 21 [(1, .int 238), (0, .ref 36)] [] hh_a391 0 0 0 0 post) : mx_R L xs zf ah_M406 21 [(1, .int 218), (0, .ref 36)] [] hh_a391 0 0 0 0 post := by
  refine mx_B 9 20 [(1, .int 219), (0, .ref 36)] [.int 0, .int 219, .ref 112] (by decide +kernel) ?_
  refine mx_zst0 3 401 [] 91 21 (by decide +kernel) rfl (by decide +kernel) (by decide +kernel) ?_
  refine mx_B 9 20 [(1, .int 220), (0, .ref 36)] [.int 0, .int 220, .ref 112] (by decide +kernel) ?_
  refine mx_zst0 3 401 [] 91 21 (by decide +kernel) rfl (by decide +kernel) (by decide +kernel) ?_
  refine mx_B 9 20 [(1, .int 221), (0, .ref 36)] [.int 0, .int 221, .ref 112] (by decide +kernel) ?_
  refine mx_zst0 3 401 [] 91 21 (by decide +kernel) rfl (by decide +kernel) (by decide +kernel) ?_
  refine mx_B 9 20 [(1, .int 222), (0, .ref 36)] [.int 0, .int 222, .ref 112] (by decide +kernel) ?_
  refine mx_zst0 3 401 [] 91 21 (by decide +kernel) rfl (by decide +kernel) (by decide +kernel) ?_
  refine mx_B 9 20 [(1, .int 223), (0, .ref 36)] [.int 0, .int 223, .ref 112] (by decide +kernel) ?_
  refine mx_zst0 3 401 [] 91 21 (by decide +kernel) rfl (by decide +kernel) (by decide +kernel) ?_
  refine mx_B 9 20 [(1, .int 224), (0, .ref 36)] [.int 0, .int 224, .ref 112] (by decide +kernel) ?_
  refine mx_zst0 3 401 [] 91 21 (by decide +kernel) rfl (by decide +kernel) (by decide +kernel) ?_
  refine mx_B 9 20 [(1, .int 225), (0, .ref 36)] [.int 0, .int 225, .ref 112] (by decide +kernel) ?_
  refine mx_zst0 3 401 [] 91 21 (by decide +kernel) rfl (by decide +kernel) (by decide +kernel) ?_
  refine mx_B 9 20 [(1, .int 226), (0, .ref 36)] [.int 0, .int 226, .ref 112] (by decide +kernel) ?_
  refine mx_zst0 3 401 [] 91 21 (by decide +kernel) rfl (by decide +kernel) (by decide +kernel) ?_
  refine mx_B 9 20 [(1, .int 227), (0, .ref 36)] [.int 0, .int 227, .ref 112] (by decide +kernel) ?_
  refine mx_zst0 3 401 [] 91 21 (by decide +kernel) rfl (by decide +kernel) (by decide +kernel) ?_
  refine mx_B 9 20 [(1, .int 228), (0, .ref 36)] [.int 0, .int 228, .ref 112] (by decide +kernel) ?_
  refine mx_zst0 3 401 [] 91 21 (by decide +kernel) rfl (by decide +kernel) (by decide +kernel) ?_
  refine mx_B 9 20 [(1, .int 229), (0, .ref 36)] [.int 0, .int 229, .ref 112] (by decide +kernel) ?_
  refine mx_zst0 3 401 [] 91 21 (by decide +kernel) rfl (by decide +kernel) (by decide +kernel) ?_
  refine mx_B 9 20 [(1, .int 230), (0, .ref 36)] [.int 0, .int 230, .ref 112] (by decide +kernel) ?_
  refine mx_zst0 3 401 [] 91 21 (by decide +kernel) rfl (by decide +kernel) (by decide +kernel) ?_
  refine mx_B 9 20 [(1, .int 231), (0, .ref 36)] [.int 0, .int 231, .ref 112] (by decide +kernel) ?_
  refine mx_zst0 3 401 [] 91 21 (by decide +kernel) rfl (by decide +kernel) (by decide +kernel) ?_
  refine mx_B 9 20 [(1, .int 232), (0, .ref 36)] [.int 0, .int 232, .ref 112] (by decide +kernel) ?_
  refine mx_zst0 3 401 [] 91 21 (by decide +kernel) rfl (by decide +kernel) (by decide +kernel) ?_
  refine mx_B 9 20 [(1, .int 233), (0, .ref 36)] [.int 0, .int 233, .ref 112] (by decide +kernel) ?_
  refine mx_zst0 3 401 [] 91 21 (by decide +kernel) rfl (by decide +kernel) (by decide +kernel) ?_
  refine mx_B 9 20 [(1, .int 234), (0, .ref 36)] [.int 0, .int 234, .ref 112] (by decide +kernel) ?_
  refine mx_zst0 3 401 [] 91 21 (by decide +kernel) rfl (by decide +kernel) (by decide +kernel) ?_
  refine mx_B 9 20 [(1, .int 235), (0, .ref 36)] [.int 0, .int 235, .ref 112] (by decide +kernel) ?_
  refine mx_zst0 3 401 [] 91 21 (by decide +kernel) rfl (by decide +kernel) (by decide +kernel) ?_
  refine mx_B 9 20 [(1, .int 236), (0, .ref 36)] [.int 0, .int 236, .ref 112] (by decide +kernel) ?_
  refine mx_zst0 3 401 [] 91 21 (by decide +kernel) rfl (by decide +kernel) (by decide +kernel) ?_
  refine mx_B 9 20 [(1, .int 237), (0, .ref 36)] [.int 0, .int 237, .ref 112] (by decide +kernel) ?_
  refine mx_zst0 3 401 [] 91 21 (by decide +kernel) rfl (by decide +kernel) (by decide +kernel) ?_
  refine mx_B 9 20 [(1, .int 238), (0, .ref 36)] [.int 0, .int 238, .ref 112] (by decide +kernel) ?_
  refine mx_zst0 3 401 [] 91 21 (by decide +kernel) rfl (by decide +kernel) (by decide +kernel) hr
theorem iv_a832_s12 (L : Nat) (xs : Nat → Int32) (zf : Value) (hz : zf.category = 1) {post : Option Value → rm_H → Prop} (hr : mx_R L xs zf ah_M406 21 [(1, .int 258), (0, .ref 36)] [] hh_a391 0 0 0 0 post) : mx_R L xs zf ah_M406 21 [(1, .int 238), (0, .ref 36)] [] hh_a391 0 0 0 0 post := by
  refine mx_B 9 20 [(1, .int 239), (0, .ref 36)] [.int 0, .int 239, .ref 112] (by decide +kernel) ?_
  refine mx_zst0 3 401 [] 91 21 (by decide +kernel) rfl (by decide +kernel) (by decide +kernel) ?_
  refine mx_B 9 20 [(1, .int 240), (0, .ref 36)] [.int 0, .int 240, .ref 112] (by decide +kernel) ?_
  refine mx_zst0 3 401 [] 91 21 (by decide +kernel) rfl (by decide +kernel) (by decide +kernel) ?_
  refine mx_B 9 20 [(1, .int 241), (0, .ref 36)] [.int 0, .int 241, .ref 112] (by decide +kernel) ?_
  refine mx_zst0 3 401 [] 91 21 (by decide +kernel) rfl (by decide +kernel) (by decide +kernel) ?_
  refine mx_B 9 20 [(1, .int 242), (0, .ref 36)] [.int 0, .int 242, .ref 112] (by decide +kernel) ?_
  refine mx_zst0 3 401 [] 91 21 (by decide +kernel) rfl (by decide +kernel) (by decide +kernel) ?_
  refine mx_B 9 20 [(1, .int 243), (0, .ref 36)] [.int 0, .int 243, .ref 112] (by decide +kernel) ?_
  refine mx_zst0 3 401 [] 91 21 (by decide +kernel) rfl (by decide +kernel) (by decide +kernel) ?_
  refine mx_B 9 20 [(1, .int 244), (0, .ref 36)] [.int 0, .int 244, .ref 112] (by decide +kernel) ?_
  refine mx_zst0 3 401 [] 91 21 (by decide +kernel) rfl (by decide +kernel) (by decide +kernel) ?_
  refine mx_B 9 20 [(1, .int 245), (0, .ref 36)] [.int 0, .int 245, .ref 112] (by decide +kernel) ?_
  refine mx_zst0 3 401 [] 91 21 (by decide +kernel) rfl (by decide +kernel) (by decide +kernel) ?_
  refine mx_B 9 20 [(1, .int 246), (0, .ref 36)] [.int 0, .int 246, .ref 112] (by decide +kernel) ?_
  refine mx_zst0 3 401 [] 91 21 (by decide +kernel) rfl (by decide +kernel) (by decide +kernel) ?_
  refine mx_B 9 20 [(1, .int 247), (0, .ref 36)] [.int 0, .int 247, .ref 112] (by decide +kernel) ?_
  refine mx_zst0 3 401 [] 91 21 (by decide +kernel) rfl (by decide +kernel) (by decide +kernel) ?_
  refine mx_B 9 20 [(1, .int 248), (0, .ref 36)] [.int 0, .int 248, .ref 112] (by decide +kernel) ?_
  refine mx_zst0 3 401 [] 91 21 (by decide +kernel) rfl (by decide +kernel) (by decide +kernel) ?_
  refine mx_B 9 20 [(1, .int 249), (0, .ref 36)] [.int 0, .int 249, .ref 112] (by decide +kernel) ?_
  refine mx_zst0 3 401 [] 91 21 (by decide +kernel) rfl (by decide +kernel) (by decide +kernel) ?_
  refine mx_B 9 20 [(1, .int 250), (0, .ref 36)] [.int 0, .int 250, .ref 112] (by decide +kernel) ?_
  refine mx_zst0 3 401 [] 91 21 (by decide +kernel) rfl (by decide +kernel) (by decide +kernel) ?_
  refine mx_B 9 20 [(1, .int 251), (0, .ref 36)] [.int 0, .int 251, .ref 112] (by decide +kernel) ?_
  refine mx_zst0 3 401 [] 91 21 (by decide +kernel) rfl (by decide +kernel) (by decide +kernel) ?_
  refine mx_B 9 20 [(1, .int 252), (0, .ref 36)] [.int 0, .int 252, .ref 112] (by decide +kernel) ?_
  refine mx_zst0 3 401 [] 91 21 (by decide +kernel) rfl (by decide +kernel) (by decide +kernel) ?_
  refine mx_B 9 20 [(1, .int 253), (0, .ref 36)] [.int 0, .int 253, .ref 112] (by decide +kernel) ?_
  refine mx_zst0 3 401 [] 91 21 (by decide +kernel) rfl (by decide +kernel) (by decide +kernel) ?_
  refine mx_B 9 20 [(1, .int 254), (0, .ref 36)] [.int 0, .int 254, .ref 112] (by decide +kernel) ?_
  refine mx_zst0 3 401 [] 91 21 (by decide +kernel) rfl (by decide +kernel) (by decide +kernel) ?_
  refine mx_B 9 20 [(1, .int 255), (0, .ref 36)] [.int 0, .int 255, .ref 112] (by decide +kernel) ?_
  refine mx_zst0 3 401 [] 91 21 (by decide +kernel) rfl (by decide +kernel) (by decide +kernel) ?_
  refine mx_B 9 20 [(1, .int 256), (0, .ref 36)] [.int 0, .int 256, .ref 112] (by decide +kernel) ?_
  refine mx_zst0 3 401 [] 91 21 (by decide +kernel) rfl (by decide +kernel) (by decide +kernel) ?_
  refine mx_B 9 20 [(1, .int 257), (0, .ref 36)] [.int 0, .int 257, .ref 112] (by decide +kernel) ?_
  refine mx_zst0 3 401 [] 91 21 (by decide +kernel) rfl (by decide +kernel) (by decide +kernel) ?_
  refine mx_B 9 20 [(1, .int 258), (0, .ref 36)] [.int 0, .int 258, .ref 112] (by decide +kernel) ?_
  refine mx_zst0 3 401 [] 91 21 (by decide +kernel) rfl (by decide +kernel) (by decide +kernel) hr
theorem iv_a832_s13 (L : Nat) (xs : Nat → Int32) (zf : Value) (hz : zf.category = 1) {post : Option Value → rm_H → Prop} (hr : mx_R L xs zf ah_M406 21 [(1, .int 278), (0, .ref 36)] [] hh_a391 0 0 0 0 post) : mx_R L xs zf ah_M406 21 [(1, .int 258), (0, .ref 36)] [] hh_a391 0 0 0 0 post := by
  refine mx_B 9 20 [(1, .int 259), (0, .ref 36)] [.int 0, .int 259, .ref 112] (by decide +kernel) ?_
  refine mx_zst0 3 401 [] 91 21 (by decide +kernel) rfl (by decide +kernel) (by decide +kernel) ?_
  refine mx_B 9 20 [(1, .int 260), (0, .ref 36)] [.int 0, .int 260, .ref 112] (by decide +kernel) ?_
  refine mx_zst0 3 401 [] 91 21 (by decide +kernel) rfl (by decide +kernel) (by decide +kernel) ?_
  refine mx_B 9 20 [(1, .int 261), (0, .ref 36)] [.int 0, .int 261, .ref 112] (by decide +kernel) ?_
  refine mx_zst0 3 401 [] 91 21 (by decide +kernel) rfl (by decide +kernel) (by decide +kernel) ?_
  refine mx_B 9 20 [(1, .int 262), (0, .ref 36)] [.int 0, .int 262, .ref 112] (by decide +kernel) ?_
  refine mx_zst0 3 401 [] 91 21 (by decide +kernel) rfl (by decide +kernel) (by decide +kernel) ?_
  refine mx_B 9 20 [(1, .int 263), (0, .ref 36)] [.int 0, .int 263, .ref 112] (by decide +kernel) ?_
  refine mx_zst0 3 401 [] 91 21 (by decide +kernel) rfl (by decide +kernel) (by decide +kernel) ?_
  refine mx_B 9 20 [(1, .int 264), (0, .ref 36)] [.int 0, .int 264, .ref 112] (by decide +kernel) ?_
  refine mx_zst0 3 401 [] 91 21 (by decide +kernel) rfl (by decide +kernel) (by decide +kernel) ?_
  refine mx_B 9 20 [(1, .int 265), (0, .ref 36)] [.int 0, .int 265, .ref 112] (by decide +kernel) ?_
  refine mx_zst0 3 401 [] 91 21 (by decide +kernel) rfl (by decide +kernel) (by decide +kernel) ?_
  refine mx_B 9 20 [(1, .int 266), (0, .ref 36)] [.int 0, .int 266, .ref 112] (by decide +kernel) ?_
  refine mx_zst0 3 401 [] 91 21 (by decide +kernel) rfl (by decide +kernel) (by decide +kernel) ?_
  refine mx_B 9 20 [(1, .int 267), (0, .ref 36)] [.int 0, .int 267, .ref 112] (by decide +kernel) ?_
  refine mx_zst0 3 401 [] 91 21 (by decide +kernel) rfl (by decide +kernel) (by decide +kernel) ?_
  refine mx_B 9 20 [(1, .int 268), (0, .ref 36)] [.int 0, .int 268, .ref 112] (by decide +kernel) ?_
  refine mx_zst0 3 401 [] 91 21 (by decide +kernel) rfl (by decide +kernel) (by decide +kernel) ?_
  refine mx_B 9 20 [(1, .int 269), (0, .ref 36)] [.int 0, .int 269, .ref 112] (by decide +kernel) ?_
  refine mx_zst0 3 401 [] 91 21 (by decide +kernel) rfl (by decide +kernel) (by decide +kernel) ?_
  refine mx_B 9 20 [(1, .int 270), (0, .ref 36)] [.int 0, .int 270, .ref 112] (by decide +kernel) ?_
  refine mx_zst0 3 401 [] 91 21 (by decide +kernel) rfl (by decide +kernel) (by decide +kernel) ?_
  refine mx_B 9 20 [(1, .int 271), (0, .ref 36)] [.int 0, .int 271, .ref 112] (by decide +kernel) ?_
  refine mx_zst0 3 401 [] 91 21 (by decide +kernel) rfl (by decide +kernel) (by decide +kernel) ?_
  refine mx_B 9 20 [(1, .int 272), (0, .ref 36)] [.int 0, .int 272, .ref 112] (by decide +kernel) ?_
  refine mx_zst0 3 401 [] 91 21 (by decide +kernel) rfl (by decide +kernel) (by decide +kernel) ?_
  refine mx_B 9 20 [(1, .int 273), (0, .ref 36)] [.int 0, .int 273, .ref 112] (by decide +kernel) ?_
  refine mx_zst0 3 401 [] 91 21 (by decide +kernel) rfl (by decide +kernel) (by decide +kernel) ?_
  refine mx_B 9 20 [(1, .int 274), (0, .ref 36)] [.int 0, .int 274, .ref 112] (by decide +kernel) ?_
  refine mx_zst0 3 401 [] 91 21 (by decide +kernel) rfl (by decide +kernel) (by decide +kernel) ?_
  refine mx_B 9 20 [(1, .int 275), (0, .ref 36)] [.int 0, .int 275, .ref 112] (by decide +kernel) ?_
  refine mx_zst0 3 401 [] 91 21 (by decide +kernel) rfl (by decide +kernel) (by decide +kernel) ?_
  refine mx_B 9 20 [(1, .int 276), (0, .ref 36)] [.int 0, .int 276, .ref 112] (by decide +kernel) ?_
  refine mx_zst0 3 401 [] 91 21 (by decide +kernel) rfl (by decide +kernel) (by decide +kernel) ?_
  refine mx_B 9 20 [(1, .int 277), (0, .ref 36)] [.int 0, .int 277, .ref 112] (by decide +kernel) ?_
  refine mx_zst0 3 401 [] 91 21 (by decide +kernel) rfl (by decide +kernel) (by decide +kernel) ?_
  refine mx_B 9 20 [(1, .int 278), (0, .ref 36)] [.int 0, .int 278, .ref 112] (by decide +kernel) ?_
  refine mx_zst0 3 401 [] 91 21 (by decide +kernel) rfl (by decide +kernel) (by decide +kernel) hr
theorem iv_a832_s14 (L : Nat) (xs : Nat → Int32) (zf : Value) (hz : zf.category = 1) {post : Option Value → rm_H → Prop} (hr : mx_R L xs zf ah_M406 21 [(1, .int 298), (0, .ref 36)] [] hh_a391 0 0 0 0 post) : mx_R L xs zf ah_M406 21 [(1, .int 278), (0, .ref 36)] [] hh_a391 0 0 0 0 post := by
  refine mx_B 9 20 [(1, .int 279), (0, .ref 36)] [.int 0, .int 279, .ref 112] (by decide +kernel) ?_
  refine mx_zst0 3 401 [] 91 21 (by decide +kernel) rfl (by decide +kernel) (by decide +kernel) ?_
  refine mx_B 9 20 [(1, .int 280), (0, .ref 36)] [.int 0, .int 280, .ref 112] (by decide +kernel) ?_
  refine mx_zst0 3 401 [] 91 21 (by decide +kernel) rfl (by decide +kernel) (by decide +kernel) ?_
  refine mx_B 9 20 [(1, .int 281), (0, .ref 36)] [.int 0, .int 281, .ref 112] (by decide +kernel) ?_
  refine mx_zst0 3 401 [] 91 21 (by decide +kernel) rfl (by decide +kernel) (by decide +kernel) ?_
  refine mx_B 9 20 [(1, .int 282), (0, .ref 36)] [.int 0, .int 282, .ref 112] (by decide +kernel) ?_
  refine mx_zst0 3 401 [] 91 21 (by decide +kernel) rfl (by decide +kernel) (by decide +kernel) ?_
  refine mx_B 9 20 [(1, .int 283), (0, .ref 36)] [.int 0, .int 283, .ref 112] (by decide +kernel) ?_
  refine mx_zst0 3 401 [] 91 21 (by decide +kernel) rfl (by decide +kernel) (by decide +kernel) ?_
  refine mx_B 9 20 [(1, .int 284), (0, .ref 36)] [.int 0, .int 284, .ref 112] (by decide +kernel) ?_
  refine mx_zst0 3 401 [] 91 21 (by decide +kernel) rfl (by decide +kernel) (by decide +kernel) ?_
  refine mx_B 9 20 [(1, .int 285), (0, .ref 36)] [.int 0, .int 285, .ref 112] (by decide +kernel) ?_
  refine mx_zst0 3 401 [] 91 21 (by decide +kernel) rfl (by decide +kernel) (by decide +kernel) ?_
  refine mx_B 9 20 [(1, .int 286), (0, .ref 36)] [.int 0, .int 286, .ref 112] (by decide +kernel) ?_
  refine mx_zst0 3 401 [] 91 21 (by decide +kernel) rfl (by decide +kernel) (by decide +kernel) ?_
  refine mx_B 9 20 [(1, .int 287), (0, .ref 36)] [.int 0, .int 287, .ref 112] (by decide +kernel) ?_
  refine mx_zst0 3 401 [] 91 21 (by decide +kernel) rfl (by decide +kernel) (by decide +kernel) ?_
  refine mx_B 9 20 [(1, .int 288), (0, .ref 36)] [.int 0, .int 288, .ref 112] (by decide +kernel) ?_
  refine mx_zst0 3 401 [] 91 21 (by decide +kernel) rfl (by decide +kernel) (by decide +kernel) ?_
  refine mx_B 9 20 [(1, .int 289), (0, .ref 36)] [.int 0, .int 289, .ref 112] (by decide +kernel) ?_
  refine mx_zst0 3 401 [] 91 21 (by decide +kernel) rfl (by decide +kernel) (by decide +kernel) ?_
  refine mx_B 9 20 [(1, .int 290), (0, .ref 36)] [.int 0, .int 290, .ref 112] (by decide +kernel) ?_
  refine mx_zst0 3 401 [] 91 21 (by decide +kernel) rfl (by decide +kernel) (by decide +kernel) ?_
  refine mx_B 9 20 [(1, .int 291), (0, .ref 36)] [.int 0, .int 291, .ref 112] (by decide +kernel) ?_
  refine mx_zst0 3 401 [] 91 21 (by decide +kernel) rfl (by decide +kernel) (by decide +kernel) ?_
  refine mx_B 9 20 [(1, .int 292), (0, .ref 36)] [.int 0, .int 292, .ref 112] (by decide +kernel) ?_
  refine mx_zst0 3 401 [] 91 21 (by decide +kernel) rfl (by decide +kernel) (by decide +kernel) ?_
  refine mx_B 9 20 [(1, .int 293), (0, .ref 36)] [.int 0, .int 293, .ref 112] (by decide +kernel) ?_
  refine mx_zst0 3 401 [] 91 21 (by decide +kernel) rfl (by decide +kernel) (by decide +kernel) ?_
  refine mx_B 9 20 [(1, .int 294), (0, .ref 36)] [.int 0, .int 294, .ref 112] (by decide +kernel) ?_
  refine mx_zst0 3 401 [] 91 21 (by decide +kernel) rfl (by decide +kernel) (by decide +kernel) ?_
  refine mx_B 9 20 [(1, .int 295), (0, .ref 36)] [.int 0, .int 295, .ref 112] (by decide +kernel) ?_
  refine mx_zst0 3 401 [] 91 21 (by decide +kernel) rfl (by decide +kernel) (by decide +kernel) ?_
  refine mx_B 9 20 [(1, .int 296), (0, .ref 36)] [.int 0, .int 296, .ref 112] (by decide +kernel) ?_
  refine mx_zst0 3 401 [] 91 21 (by decide +kernel) rfl (by decide +kernel) (by decide +kernel) ?_
  refine mx_B 9 20 [(1, .int 297), (0, .ref 36)] [.int 0, .int 297, .ref 112] (by decide +kernel) ?_
  refine mx_zst0 3 401 [] 91 21 (by decide +kernel) rfl (by decide +kernel) (by decide +kernel) ?_
  refine mx_B 9 20 [(1, .int 298), (0, .ref 36)] [.int 0, .int 298, .ref 112] (by decide +kernel) ?_
  refine mx_zst0 3 401 [] 91 21 (by decide +kernel) rfl (by decide +kernel) (by decide +kernel) hr
theorem iv_a832_s15 (L : Nat) (xs : Nat → Int32) (zf : Value) (hz : zf.category = 1) {post : Option Value → rm_H → Prop} (hr : mx_R L xs zf ah_M406 21 [(1, .int 318), (0, .ref 36)] [] hh_a391 0 0 0 0 post) : mx_R L xs zf ah_M406 21 [(1, .int 298), (0, .ref 36)] [] hh_a391 0 0 0 0 post := by
  refine mx_B 9 20 [(1, .int 299), (0, .ref 36)] [.int 0, .int 299, .ref 112] (by decide +kernel) ?_
  refine mx_zst0 3 401 [] 91 21 (by decide +kernel) rfl (by decide +kernel) (by decide +kernel) ?_
  refine mx_B 9 20 [(1, .int 300), (0, .ref 36)] [.int 0, .int 300, .ref 112] (by decide +kernel) ?_
  refine mx_zst0 3 401 [] 91 21 (by decide +kernel) rfl (by decide +kernel) (by decide +kernel) ?_
  refine mx_B 9 20 [(1, .int 301), (0, .ref 36)] [.int 0, .int 301, .ref 112] (by decide +kernel) ?_
  refine mx_zst0 3 401 [] 91 21 (by decide +kernel) rfl (by decide +kernel) (by decide +kernel) ?_
  refine mx_B 9 20 [(1, .int 302), (0, .ref 36)] [.int 0, .int 302, .ref 112] (by decide +kernel) ?_
  refine mx_zst0 3 401 [] 91 21 (by decide +kernel) rfl (by decide +kernel) (by decide +kernel) ?_
  refine mx_B 9 20 [(1, .int 303), (0, .ref 36)] [.int 0, .int 303, .ref 112] (by decide +kernel) ?_
  refine mx_zst0 3 401 [] 91 21 (by decide +kernel) rfl (by decide +kernel) (by decide +kernel) ?_
  refine mx_B 9 20 [(1, .int 304), (0, .ref 36)] [.int 0, .int 304, .ref 112] (by decide +kernel) ?_
  refine mx_zst0 3 401 [] 91 21 (by decide +kernel) rfl (by decide +kernel) (by decide +kernel) ?_
  refine mx_B 9 20 [(1, .int 305), (0, .ref 36)] [.int 0, .int 305, .ref 112] (by decide +kernel) ?_
  refine mx_zst0 3 401 [] 91 21 (by decide +kernel) rfl (by decide +kernel) (by decide +kernel) ?_
  refine mx_B 9 20 [(1, .int 306), (0, .ref 36)] [.int 0, .int 306, .ref 112] (by decide +kernel) ?_
  refine mx_zst0 3 401 [] 91 21 (by decide +kernel) rfl (by decide +kernel) (by decide +kernel) ?_
  refine mx_B 9 20 [(1, .int 307), (0, .ref 36)] [.int 0, .int 307, .ref 112] (by decide +kernel) ?_
  refine mx_zst0 3 401 [] 91 21 (by decide +kernel) rfl (by decide +kernel) (by decide +kernel) ?_
  refine mx_B 9 20 [(1, .int 308), (0, .ref 36)] [.int 0, .int 308, .ref 112] (by decide +kernel) ?_
  refine mx_zst0 3 401 [] 91 21 (by decide +kernel) rfl (by decide +kernel) (by decide +kernel) ?_
  refine mx_B 9 20 [(1, .int 309), (0, .ref 36)] [.int 0, .int 309, .ref 112] (by decide +kernel) ?_
  refine mx_zst0 3 401 [] 91 21 (by decide +kernel) rfl (by decide +kernel) (by decide +kernel) ?_
  refine mx_B 9 20 [(1, .int 310), (0, .ref 36)] [.int 0, .int 310, .ref 112] (by decide +kernel) ?_
  refine mx_zst0 3 401 [] 91 21 (by decide +kernel) rfl (by decide +kernel) (by decide +kernel) ?_
  refine mx_B 9 20 [(1, .int 311), (0, .ref 36)] [.int 0, .int 311, .ref 112] (by decide +kernel) ?_
  refine mx_zst0 3 401 [] 91 21 (by decide +kernel) rfl (by decide +kernel) (by decide +kernel) ?_
  refine mx_B 9 20 [(1, .int 312), (0, .ref 36)] [.int 0, .int 312, .ref 112] (by decide +kernel) ?_
  refine mx_zst0 3 401 [] 91 21 (by decide +kernel) rfl (by decide +kernel) (by decide +kernel) ?_
  refine mx_B 9 20 [(1, .int 313), (0, .ref 36)] [.int 0, .int 313, .ref 112] (by decide +kernel) ?_
  refine mx_zst0 3 401 [] 91 21 (by decide +kernel) rfl (by decide +kernel) (by decide +kernel) ?_
  refine mx_B 9 20 [(1, .int 314), (0, .ref 36)] [.int 0, .int 314, .ref 112] (by decide +kernel) ?_
  refine mx_zst0 3 401 [] 91 21 (by decide +kernel) rfl (by decide +kernel) (by decide +kernel) ?_
  refine mx_B 9 20 [(1, .int 315), (0, .ref 36)] [.int 0, .int 315, .ref 112] (by decide +kernel) ?_
  refine mx_zst0 3 401 [] 91 21 (by decide +kernel) rfl (by decide +kernel) (by decide +kernel) ?_
  refine mx_B 9 20 [(1, .int 316), (0, .ref 36)] [.int 0, .int 316, .ref 112] (by decide +kernel) ?_
  refine mx_zst0 3 401 [] 91 21 (by decide +kernel) rfl (by decide +kernel) (by decide +kernel) ?_
  refine mx_B 9 20 [(1, .int 317), (0, .ref 36)] [.int 0, .int 317, .ref 112] (by decide +kernel) ?_
  refine mx_zst0 3 401 [] 91 21 (by decide +kernel) rfl (by decide +kernel) (by decide +kernel) ?_
  refine mx_B 9 20 [(1, .int 318), (0, .ref 36)] [.int 0, .int 318, .ref 112] (by decide +kernel) ?_
  refine mx_zst0 3 401 [] 91 21 (by decide +kernel) rfl (by decide +kernel) (by decide +kernel) hr
theorem iv_a832_s16 (L : Nat) (xs : Nat → Int32) (zf : Value) (hz : zf.category = 1) {post : Option Value → rm_H → Prop} (hr : mx_R L xs zf ah_M406 21 [(1, .int 338), (0, .ref 36)] [] hh_a391 0 0 0 0 post) : mx_R L xs zf ah_M406 21 [(1, .int 318), (0, .ref 36)] [] hh_a391 0 0 0 0 post := by
  refine mx_B 9 20 [(1, .int 319), (0, .ref 36)] [.int 0, .int 319, .ref 112] (by decide +kernel) ?_
  refine mx_zst0 3 401 [] 91 21 (by decide +kernel) rfl (by decide +kernel) (by decide +kernel) ?_
  refine mx_B 9 20 [(1, .int 320), (0, .ref 36)] [.int 0, .int 320, .ref 112] (by decide +kernel) ?_
  refine mx_zst0 3 401 [] 91 21 (by decide +kernel) rfl (by decide +kernel) (by decide +kernel) ?_
  refine mx_B 9 20 [(1, .int 321), (0, .ref 36)] [.int 0, .int 321, .ref 112] (by decide +kernel) ?_
  refine mx_zst0 3 401 [] 91 21 (by decide +kernel) rfl (by decide +kernel) (by decide +kernel) ?_
  refine mx_B 9 20 [(1, .int 322), (0, .ref 36)] [.int 0, .int 322, .ref 112] (by decide +kernel) ?_
  refine mx_zst0 3 401 [] 91 21 (by decide +kernel) rfl (by decide +kernel) (by decide +kernel) ?_
  refine mx_B 9 20 [(1, .int 323), (0, .ref 36)] [.int 0, .int 323, .ref 112] (by decide +kernel) ?_
  refine mx_zst0 3 401 [] 91 21 (by decide +kernel) rfl (by decide +kernel) (by decide +kernel) ?_
  refine mx_B 9 20 [(1, .int 324), (0, .ref 36)] [.int 0, .int 324, .ref 112] (by decide +kernel) ?_
  refine mx_zst0 3 401 [] 91 21 (by decide +kernel) rfl (by decide +kernel) (by decide +kernel) ?_
  refine mx_B 9 20 [(1, .int 325), (0, .ref 36)] [.int 0, .int 325, .ref 112] (by decide +kernel) ?_
  refine mx_zst0 3 401 [] 91 21 (by decide +kernel) rfl (by decide +kernel) (by decide +kernel) ?_
  refine mx_B 9 20 [(1, .int 326), (0, .ref 36)] [.int 0, .int 326, .ref 112] (by decide +kernel) ?_
  refine mx_zst0 3 401 [] 91 21 (by decide +kernel) rfl (by decide +kernel) (by decide +kernel) ?_
  refine mx_B 9 20 [(1, .int 327), (0, .ref 36)] [.int 0, .int 327, .ref 112] (by decide +kernel) ?_
  refine mx_zst0 3 401 [] 91 21 (by decide +kernel) rfl (by decide +kernel) (by decide +kernel) ?_
  refine mx_B 9 20 [(1, .int 328), (0, .ref 36)] [.int 0, .int 328, .ref 112] (by decide +kernel) ?_
  refine mx_zst0 3 401 [] 91 21 (by decide +kernel) rfl (by decide +kernel) (by decide +kernel) ?_
  refine mx_B 9 20 [(1, .int 329), (0, .ref 36)] [.int 0, .int 329, .ref 112] (by decide +kernel) ?_
  refine mx_zst0 3 401 [] 91 21 (by decide +kernel) rfl (by decide +kernel) (by decide +kernel) ?_
  refine mx_B 9 20 [(1, .int 330), (0, .ref 36)] [.int 0, .int 330, .ref 112] (by decide +kernel) ?_
  refine mx_zst0 3 401 [] 91 21 (by decide +kernel) rfl (by decide +kernel) (by decide +kernel) ?_
  refine mx_B 9 20 [(1, .int 331), (0, .ref 36)] [.int 0, .int 331, .ref 112] (by decide +kernel) ?_
  refine mx_zst0 3 401 [] 91 21 (by decide +kernel) rfl (by decide +kernel) (by decide +kernel) ?_
  refine mx_B 9 20 [(1, .int 332), (0, .ref 36)] [.int 0, .int 332, .ref 112] (by decide +kernel) ?_
  refine mx_zst0 3 401 [] 91 21 (by decide +kernel) rfl (by decide +kernel) (by decide +kernel) ?_
  refine mx_B 9 20 [(1, .int 333), (0, .ref 36)] [.int 0, .int 333, .ref 112] (by decide +kernel) ?_
  refine mx_zst0 3 401 [] 91 21 (by decide +kernel) rfl (by decide +kernel) (by decide +kernel) ?_
  refine mx_B 9 20 [(1, .int 334), (0, .ref 36)] [.int 0, .int 334, .ref 112] (by decide +kernel) ?_
  refine mx_zst0 3 401 [] 91 21 (by decide +kernel) rfl (by decide +kernel) (by decide +kernel) ?_
  refine mx_B 9 20 [(1, .int 335), (0, .ref 36)] [.int 0, .int 335, .ref 112] (by decide +kernel) ?_
  refine mx_zst0 3 401 [] 91 21 (by decide +kernel) rfl (by decide +kernel) (by decide +kernel) ?_
  refine mx_B 9 20 [(1, .int 336), (0, .ref 36)] [.int 0, .int 336, .ref 112] (by decide +kernel) ?_
  refine mx_zst0 3 401 [] 91 21 (by decide +kernel) rfl (by decide +kernel) (by decide +kernel) ?_
  refine mx_B 9 20 [(1, .int 337), (0, .ref 36)] [.int 0, .int 337, .ref 112] (by decide +kernel) ?_
  refine mx_zst0 3 401 [] 91 21 (by decide +kernel) rfl (by decide +kernel) (by decide +kernel) ?_
  refine mx_B 9 20 [(1, .int 338), (0, .ref 36)] [.int 0, .int 338, .ref 112] (by decide +kernel) ?_
  refine mx_zst0 3 401 [] 91 21 (by decide +kernel) rfl (by decide +kernel) (by decide +kernel) hr
theorem iv_a832_s17 (L : Nat) (xs : Nat → Int32) (zf : Value) (hz : zf.category = 1) {post : Option Value → rm_H → Prop} (hr : mx_R L xs zf ah_M406 21 [(1, .int 358), (0, .ref 36)] [] hh_a391 0 0 0 0 post) : mx_R L xs zf ah_M406 21 [(1, .int 338), (0, .ref 36)] [] hh_a391 0 0 0 0 post := by
  refine mx_B 9 20 [(1, .int 339), (0, .ref 36)] [.int 0, .int 339, .ref 112] (by decide +kernel) ?_
  refine mx_zst0 3 401 [] 91 21 (by decide +kernel) rfl (by decide +kernel) (by decide +kernel) ?_
  refine mx_B 9 20 [(1, .int 340), (0, .ref 36)] [.int 0, .int 340, .ref 112] (by decide +kernel) ?_
  refine mx_zst0 3 401 [] 91 21 (by decide +kernel) rfl (by decide +kernel) (by decide +kernel) ?_
  refine mx_B 9 20 [(1, .int 341), (0, .ref 36)] [.int 0, .int 341, .ref 112] (by decide +kernel) ?_
  refine mx_zst0 3 401 [] 91 21 (by decide +kernel) rfl (by decide +kernel) (by decide +kernel) ?_
  refine mx_B 9 20 [(1, .int 342), (0, .ref 36)] [.int 0, .int 342, .ref 112] (by decide +kernel) ?_
  refine mx_zst0 3 401 [] 91 21 (by decide +kernel) rfl (by decide +kernel) (by decide +kernel) ?_
  refine mx_B 9 20 [(1, .int 343), (0, .ref 36)] [.int 0, .int 343, .ref 112] (by decide +kernel) ?_
  refine mx_zst0 3 401 [] 91 21 (by decide +kernel) rfl (by decide +kernel) (by decide +kernel) ?_
  refine mx_B 9 20 [(1, .int 344), (0, .ref 36)] [.int 0, .int 344, .ref 112] (by decide +kernel) ?_
  refine mx_zst0 3 401 [] 91 21 (by decide +kernel) rfl (by decide +kernel) (by decide +kernel) ?_
  refine mx_B 9 20 [(1, .int 345), (0, .ref 36)] [.int 0, .int 345, .ref 112] (by decide +kernel) ?_
  refine mx_zst0 3 401 [] 91 21 (by decide +kernel) rfl (by decide +kernel) (by decide +kernel) ?_
  refine mx_B 9 20 [(1, .int 346), (0, .ref 36)] [.int 0, .int 346, .ref 112] (by decide +kernel) ?_
  refine mx_zst0 3 401 [] 91 21 (by decide +kernel) rfl (by decide +kernel) (by decide +kernel) ?_
  refine mx_B 9 20 [(1, .int 347), (0, .ref 36)] [.int 0, .int 347, .ref 112] (by decide +kernel) ?_
  refine mx_zst0 3 401 [] 91 21 (by decide +kernel) rfl (by decide +kernel) (by decide +kernel) ?_
  refine mx_B 9 20 [(1, .int 348), (0, .ref 36)] [.int 0, .int 348, .ref 112] (by decide +kernel) ?_
  refine mx_zst0 3 401 [] 91 21 (by decide +kernel) rfl (by decide +kernel) (by decide +kernel) ?_
  refine mx_B 9 20 [(1, .int 349), (0, .ref 36)] [.int 0, .int 349, .ref 112] (by decide +kernel) ?_
  refine mx_zst0 3 401 [] 91 21 (by decide +kernel) rfl (by decide +kernel) (by decide +kernel) ?_
  refine mx_B 9 20 [(1, .int 350), (0, .ref 36)] [.int 0, .int 350, .ref 112] (by decide +kernel) ?_
  refine mx_zst0 3 401 [] 91 21 (by decide +kernel) rfl (by decide +kernel) (by decide +kernel) ?_
  refine mx_B 9 20 [(1, .int 351), (0, .ref 36)] [.int 0, .int 351, .ref 112] (by decide +kernel) ?_
  refine mx_zst0 3 401 [] 91 21 (by decide +kernel) rfl (by decide +kernel) (by decide +kernel) ?_
  refine mx_B 9 20 [(1, .int 352), (0, .ref 36)] [.int 0, .int 352, .ref 112] (by decide +kernel) ?_
  refine mx_zst0 3 401 [] 91 21 (by decide +kernel) rfl (by decide +kernel) (by decide +kernel) ?_
  refine mx_B 9 20 [(1, .int 353), (0, .ref 36)] [.int 0, .int 353, .ref 112] (by decide +kernel) ?_
  refine mx_zst0 3 401 [] 91 21 (by decide +kernel) rfl (by decide +kernel) (by decide +kernel) ?_
  refine mx_B 9 20 [(1, .int 354), (0, .ref 36)] [.int 0, .int 354, .ref 112] (by decide +kernel) ?_
  refine mx_zst0 3 401 [] 91 21 (by decide +kernel) rfl (by decide +kernel) (by decide +kernel) ?_
  refine mx_B 9 20 [(1, .int 355), (0, .ref 36)] [.int 0, .int 355, .ref 112] (by decide +kernel) ?_
  refine mx_zst0 3 401 [] 91 21 (by decide +kernel) rfl (by decide +kernel) (by decide +kernel) ?_
  refine mx_B 9 20 [(1, .int 356), (0, .ref 36)] [.int 0, .int 356, .ref 112] (by decide +kernel) ?_
  refine mx_zst0 3 401 [] 91 21 (by decide +kernel) rfl (by decide +kernel) (by decide +kernel) ?_
  refine mx_B 9 20 [(1, .int 357), (0, .ref 36)] [.int 0, .int 357, .ref 112] (by decide +kernel) ?_
  refine mx_zst0 3 401 [] 91 21 (by decide +kernel) rfl (by decide +kernel) (by decide +kernel) ?_
  refine mx_B 9 20 [(1, .int 358), (0, .ref 36)] [.int 0, .int 358, .ref 112] (by decide +kernel) ?_
  refine mx_zst0 3 401 [] 91 21 (by decide +kernel) rfl (by decide +kernel) (by decide +kernel) hr
theorem iv_a832_s18 (L : Nat) (xs : Nat → Int32) (zf : Value) (hz : zf.category = 1) {post : Option Value → rm_H → Prop} (hr : mx_R L xs zf ah_M406 21 [(1, .int 378), (0, .ref 36)] [] hh_a391 0 0 0 0 post) : mx_R L xs zf ah_M406 21 [(1, .int 358), (0, .ref 36)] [] hh_a391 0 0 0 0 post := by
  refine mx_B 9 20 [(1, .int 359), (0, .ref 36)] [.int 0, .int 359, .ref 112] (by decide +kernel) ?_
  refine mx_zst0 3 401 [] 91 21 (by decide +kernel) rfl (by decide +kernel) (by decide +kernel) ?_
  refine mx_B 9 20 [(1, .int 360), (0, .ref 36)] [.int 0, .int 360, .ref 112] (by decide +kernel) ?_
  refine mx_zst0 3 401 [] 91 21 (by decide +kernel) rfl (by decide +kernel) (by decide +kernel) ?_
  refine mx_B 9 20 [(1, .int 361), (0, .ref 36)] [.int 0, .int 361, .ref 112] (by decide +kernel) ?_
  refine mx_zst0 3 401 [] 91 21 (by decide +kernel) rfl (by decide +kernel) (by decide +kernel) ?_
  refine mx_B 9 20 [(1, .int 362), (0, .ref 36)] [.int 0, .int 362, .ref 112] (by decide +kernel) ?_
  refine mx_zst0 3 401 [] 91 21 (by decide +kernel) rfl (by decide +kernel) (by decide +kernel) ?_
  refine mx_B 9 20 [(1, .int 363), (0, .ref 36)] [.int 0, .int 363, .ref 112] (by decide +kernel) ?_
  refine mx_zst0 3 401 [] 91 21 (by decide +kernel) rfl (by decide +kernel) (by decide +kernel) ?_
  refine mx_B 9 20 [(1, .int 364), (0, .ref 36)] [.int 0, .int 364, .ref 112] (by decide +kernel) ?_
  refine mx_zst0 3 401 [] 91 21 (by decide +kernel) rfl (by decide +kernel) (by decide +kernel) ?_
  refine mx_B 9 20 [(1, .int 365), (0, .ref 36)] [.int 0, .int 365, .ref 112] (by decide +kernel) ?_
  refine mx_zst0 3 401 [] 91 21 (by decide +kernel) rfl (by decide +kernel) (by decide +kernel) ?_
  refine mx_B 9 20 [(1, .int 366), (0, .ref 36)] [.int 0, .int 366, .ref 112] (by decide +kernel) ?_
  refine mx_zst0 3 401 [] 91 21 (by decide +kernel) rfl (by decide +kernel) (by decide +kernel) ?_
  refine mx_B 9 20 [(1, .int 367), (0, .ref 36)] [.int 0, .int 367, .ref 112] (by decide +kernel) ?_
  refine mx_zst0 3 401 [] 91 21 (by decide +kernel) rfl (by decide +kernel) (by decide +kernel) ?_
  refine mx_B 9 20 [(1, .int 368), (0, .ref 36)] [.int 0, .int 368, .ref 112] (by decide +kernel) ?_
  refine mx_zst0 3 401 [] 91 21 (by decide +kernel) rfl (by decide +kernel) (by decide +kernel) ?_
  refine mx_B 9 20 [(1, .int 369), (0, .ref 36)] [.int 0, .int 369, .ref 112] (by decide +kernel) ?_
  refine mx_zst0 3 401 [] 91 21 (by decide +kernel) rfl (by decide +kernel) (by decide +kernel) ?_
  refine mx_B 9 20 [(1, .int 370), (0, .ref 36)] [.int 0, .int 370, .ref 112] (by decide +kernel) ?_
  refine mx_zst0 3 401 [] 91 21 (by decide +kernel) rfl (by decide +kernel) (by decide +kernel) ?_
  refine mx_B 9 20 [(1, .int 371), (0, .ref 36)] [.int 0, .int 371, .ref 112] (by decide +kernel) ?_
  refine mx_zst0 3 401 [] 91 21 (by decide +kernel) rfl (by decide +kernel) (by decide +kernel) ?_
  refine mx_B 9 20 [(1, .int 372), (0, .ref 36)] [.int 0, .int 372, .ref 112] (by decide +kernel) ?_
  refine mx_zst0 3 401 [] 91 21 (by decide +kernel) rfl (by decide +kernel) (by decide +kernel) ?_
  refine mx_B 9 20 [(1, .int 373), (0, .ref 36)] [.int 0, .int 373, .ref 112] (by decide +kernel) ?_
  refine mx_zst0 3 401 [] 91 21 (by decide +kernel) rfl (by decide +kernel) (by decide +kernel) ?_
  refine mx_B 9 20 [(1, .int 374), (0, .ref 36)] [.int 0, .int 374, .ref 112] (by decide +kernel) ?_
  refine mx_zst0 3 401 [] 91 21 (by decide +kernel) rfl (by decide +kernel) (by decide +kernel) ?_
  refine mx_B 9 20 [(1, .int 375), (0, .ref 36)] [.int 0, .int 375, .ref 112] (by decide +kernel) ?_
  refine mx_zst0 3 401 [] 91 21 (by decide +kernel) rfl (by decide +kernel) (by decide +kernel) ?_
  refine mx_B 9 20 [(1, .int 376), (0, .ref 36)] [.int 0, .int 376, .ref 112] (by decide +kernel) ?_
  refine mx_zst0 3 401 [] 91 21 (by decide +kernel) rfl (by decide +kernel) (by decide +kernel) ?_
  refine mx_B 9 20 [(1, .int 377), (0, .ref 36)] [.int 0, .int 377, .ref 112] (by decide +kernel) ?_
  refine mx_zst0 3 401 [] 91 21 (by decide +kernel) rfl (by decide +kernel) (by decide +kernel) ?_
  refine mx_B 9 20 [(1, .int 378), (0, .ref 36)] [.int 0, .int 378, .ref 112] (by decide +kernel) ?_
  refine mx_zst0 3 401 [] 91 21 (by decide +kernel) rfl (by decide +kernel) (by decide +kernel) hr
theorem iv_a832_s19 (L : Nat) (xs : Nat → Int32) (zf : Value) (hz : zf.category = 1) {post : Option Value → rm_H → Prop} (hr : mx_R L xs zf ah_M406 21 [(1, .int 398), (0, .ref 36)] [] hh_a391 0 0 0 0 post) : mx_R L xs zf ah_M406 21 [(1, .int 378), (0, .ref 36)] [] hh_a391 0 0 0 0 post := by
  refine mx_B 9 20 [(1, .int 379), (0, .ref 36)] [.int 0, .int 379, .ref 112] (by decide +kernel) ?_
  refine mx_zst0 3 401 [] 91 21 (by decide +kernel) rfl (by decide +kernel) (by decide +kernel) ?_
  refine mx_B 9 20 [(1, .int 380), (0, .ref 36)] [.int 0, .int 380, .ref 112] (by decide +kernel) ?_
  refine mx_zst0 3 401 [] 91 21 (by decide +kernel) rfl (by decide +kernel) (by decide +kernel) ?_
  refine mx_B 9 20 [(1, .int 381), (0, .ref 36)] [.int 0, .int 381, .ref 112] (by decide +kernel) ?_
  refine mx_zst0 3 401 [] 91 21 (by decide +kernel) rfl (by decide +kernel) (by decide +kernel) ?_
  refine mx_B 9 20 [(1, .int 382), (0, .ref 36)] [.int 0, .int 382, .ref 112] (by decide +kernel) ?_
  refine mx_zst0 3 401 [] 91 21 (by decide +kernel) rfl (by decide +kernel) (by decide +kernel) ?_
  refine mx_B 9 20 [(1, .int 383), (0, .ref 36)] [.int 0, .int 383, .ref 112] (by decide +kernel) ?_
  refine mx_zst0 3 401 [] 91 21 (by decide +kernel) rfl (by decide +kernel) (by decide +kernel) ?_
  refine mx_B 9 20 [(1, .int 384), (0, .ref 36)] [.int 0, .int 384, .ref 112] (by decide +kernel) ?_
  refine mx_zst0 3 401 [] 91 21 (by decide +kernel) rfl (by decide +kernel) (by decide +kernel) ?_
  refine mx_B 9 20 [(1, .int 385), (0, .ref 36)] [.int 0, .int 385, .ref 112] (by decide +kernel) ?_
  refine mx_zst0 3 401 [] 91 21 (by decide +kernel) rfl (by decide +kernel) (by decide +kernel) ?_
  refine mx_B 9 20 [(1, .int 386), (0, .ref 36)] [.int 0, .int 386, .ref 112] (by decide +kernel) ?_
  refine mx_zst0 3 401 [] 91 21 (by decide +kernel) rfl (by decide +kernel) (by decide +kernel) ?_
  refine mx_B 9 20 [(1, .int 387), (0, .ref 36)] [.int 0, .int 387, .ref 112] (by decide +kernel) ?_
  refine mx_zst0 3 401 [] 91 21 (by decide +kernel) rfl (by decide +kernel) (by decide +kernel) ?_
  refine mx_B 9 20 [(1, .int 388), (0, .ref 36)] [.int 0, .int 388, .ref 112] (by decide +kernel) ?_
  refine mx_zst0 3 401 [] 91 21 (by decide +kernel) rfl (by decide +kernel) (by decide +kernel) ?_
  refine mx_B 9 20 [(1, .int 389), (0, .ref 36)] [.int 0, .int 389, .ref 112] (by decide +kernel) ?_
  refine mx_zst0 3 401 [] 91 21 (by decide +kernel) rfl (by decide +kernel) (by decide +kernel) ?_
  refine mx_B 9 20 [(1, .int 390), (0, .ref 36)] [.int 0, .int 390, .ref 112] (by decide +kernel) ?_
  refine mx_zst0 3 401 [] 91 21 (by decide +kernel) rfl (by decide +kernel) (by decide +kernel) ?_
  refine mx_B 9 20 [(1, .int 391), (0, .ref 36)] [.int 0, .int 391, .ref 112] (by decide +kernel) ?_
  refine mx_zst0 3 401 [] 91 21 (by decide +kernel) rfl (by decide +kernel) (by decide +kernel) ?_
  refine mx_B 9 20 [(1, .int 392), (0, .ref 36)] [.int 0, .int 392, .ref 112] (by decide +kernel) ?_
  refine mx_zst0 3 401 [] 91 21 (by decide +kernel) rfl (by decide +kernel) (by decide +kernel) ?_
  refine mx_B 9 20 [(1, .int 393), (0, .ref 36)] [.int 0, .int 393, .ref 112] (by decide +kernel) ?_
  refine mx_zst0 3 401 [] 91 21 (by decide +kernel) rfl (by decide +kernel) (by decide +kernel) ?_
  refine mx_B 9 20 [(1, .int 394), (0, .ref 36)] [.int 0, .int 394, .ref 112] (by decide +kernel) ?_
  refine mx_zst0 3 401 [] 91 21 (by decide +kernel) rfl (by decide +kernel) (by decide +kernel) ?_
  refine mx_B 9 20 [(1, .int 395), (0, .ref 36)] [.int 0, .int 395, .ref 112] (by decide +kernel) ?_
  refine mx_zst0 3 401 [] 91 21 (by decide +kernel) rfl (by decide +kernel) (by decide +kernel) ?_
  refine mx_B 9 20 [(1, .int 396), (0, .ref 36)] [.int 0, .int 396, .ref 112] (by decide +kernel) ?_
  refine mx_zst0 3 401 [] 91 21 (by decide +kernel) rfl (by decide +kernel) (by decide +kernel) ?_
  refine mx_B 9 20 [(1, .int 397), (0, .ref 36)] [.int 0, .int 397, .ref 112] (by decide +kernel) ?_
  refine mx_zst0 3 401 [] 91 21 (by decide +kernel) rfl (by decide +kernel) (by decide +kernel) ?_
  refine mx_B 9 20 [(1, .int 398), (0, .ref 36)] [.int 0, .int 398, .ref 112] (by decide +kernel) ?_
  refine mx_zst0 3 401 [] 91 21 (by decide +kernel) rfl (by decide +kernel) (by decide +kernel) hr
theorem iv_a832 (L : Nat) (xs : Nat → Int32) (zf : Value) (hz : zf.category = 1) : mx_R L xs zf ah_M406 0 [(0, .ref 36)] [] hh_a391 0 0 0 0 (fun v h' => v = none ∧ h' = hh_a391) := by
  refine iv_a832_s0 L xs zf hz ?_
  refine iv_a832_s1 L xs zf hz ?_
  refine iv_a832_s2 L xs zf hz ?_
  refine iv_a832_s3 L xs zf hz ?_
  refine iv_a832_s4 L xs zf hz ?_
  refine iv_a832_s5 L xs zf hz ?_
  refine iv_a832_s6 L xs zf hz ?_
  refine iv_a832_s7 L xs zf hz ?_
  refine iv_a832_s8 L xs zf hz ?_
  refine iv_a832_s9 L xs zf hz ?_
  refine iv_a832_s10 L xs zf hz ?_
  refine iv_a832_s11 L xs zf hz ?_
  refine iv_a832_s12 L xs zf hz ?_
  refine iv_a832_s13 L xs zf hz ?_
  refine iv_a832_s14 L xs zf hz ?_
  refine iv_a832_s15 L xs zf hz ?_
  refine iv_a832_s16 L xs zf hz ?_
  refine iv_a832_s17 L xs zf hz ?_
  refine iv_a832_s18 L xs zf hz ?_
  refine iv_a832_s19 L xs zf hz ?_
  refine mx_B 9 20 [(1, .int 399), (0, .ref 36)] [.int 0, .int 399, .ref 112] (by decide +kernel) ?_
  refine mx_zst0 3 401 [] 91 21 (by decide +kernel) rfl (by decide +kernel) (by decide +kernel) ?_
  refine mx_B 9 20 [(1, .int 400), (0, .ref 36)] [.int 0, .int 400, .ref 112] (by decide +kernel) ?_
  refine mx_zst0 3 401 [] 91 21 (by decide +kernel) rfl (by decide +kernel) (by decide +kernel) ?_
  refine mx_B 5 27 [(1, .int 401), (0, .ref 36)] [] (by decide +kernel) ?_
  exact mx_ret none (by decide +kernel) ⟨rfl, rfl⟩
theorem iv_a833 (L : Nat) (xs : Nat → Int32) (zf : Value) (hz : zf.category = 1) (hk : xs 0 &&& 15 = 11) (u1 : (xs 1).toInt ≤ (-1)) : mx_R L xs zf ah_M381 0 [(0, .ref 36), (1, .int (xs 1))] [] hh_a391 0 0 0 0 (fun v h' => v = some (.int 0) ∧ h' = hh_a391) := by
  refine mx_S (.aload_n 0) 1 [] 1 [(0, .ref 36), (1, .int (xs 1))] [.ref 36] (by decide +kernel) rfl ?_
  refine mx_S (.getfield 569) 3 [74, 15] 4 [(0, .ref 36), (1, .int (xs 1))] [.int 0] (by decide +kernel) rfl ?_
  refine mx_1 .eq 19 true 23 (by decide +kernel) (by decide +kernel) ?_
  refine mx_S (.iconst 0) 1 [] 24 [(0, .ref 36), (1, .int (xs 1))] [.int 0] (by decide +kernel) rfl ?_
  exact mx_ret (some (.int 0)) (by decide +kernel) ⟨rfl, rfl⟩
theorem iv_a834 (L : Nat) (xs : Nat → Int32) (zf : Value) (hz : zf.category = 1) (hk : xs 0 &&& 15 = 11) (u1 : (xs 1).toInt ≤ (-1)) : mx_R L xs zf ah_M405 0 [(0, .ref 36), (1, .int (xs 1)), (2, .int (xs 2))] [] hh_a391 0 0 1 21 (fun v h' => v = some (.int (-1)) ∧ h' = hh_a391) := by
  refine mx_S (.aload_n 0) 1 [] 1 [(0, .ref 36), (1, .int (xs 1)), (2, .int (xs 2))] [.ref 36] (by decide +kernel) rfl ?_
  refine mx_calls (.invokevirtual 740) [406, 5, 0, 15] 406 3 [.ref 36] [] [(0, .ref 36)] none hh_a391 0 0 0 0 0 0 4 [] ap_406 (by decide +kernel) rfl (by decide +kernel) (iv_a832 L xs zf hz) ?_
  refine mx_S (.aload_n 0) 1 [] 5 [(0, .ref 36), (1, .int (xs 1)), (2, .int (xs 2))] [.ref 36] (by decide +kernel) rfl ?_
  refine mx_S (.iload_n 1) 1 [] 6 [(0, .ref 36), (1, .int (xs 1)), (2, .int (xs 2))] [.int (xs 1), .ref 36] (by decide +kernel) rfl ?_
  refine mx_calls (.invokevirtual 709) [381, 5, 1, 15] 381 3 [.ref 36, .int (xs 1)] [] [(0, .ref 36), (1, .int (xs 1))] (some (.int 0)) hh_a391 0 0 0 0 0 0 9 [.int 0] ap_381 (by decide +kernel) rfl ⟨by decide +kernel, rfl, rfl, rfl, rfl⟩ (iv_a833 L xs zf hz hk u1) ?_
  refine mx_1 .eq 21 true 30 (by decide +kernel) (by decide +kernel) ?_
  refine mx_S (.iconst (-1)) 1 [] 31 [(0, .ref 36), (1, .int (xs 1)), (2, .int (xs 2))] [.int (-1)] (by decide +kernel) rfl ?_
  exact mx_ret (some (.int (-1))) (by decide +kernel) ⟨rfl, rfl⟩
theorem iv_a835 (xs : Nat → Int32) (zf : Value) (hz : zf.category = 1) (hk : xs 0 &&& 15 = 11) (u1 : (xs 1).toInt ≤ (-1)) : mx_R 6 xs zf ah_M0 18 [(3, .int 0), (2, .ref 36), (1, .ref 21), (0, .ref 0)] [] hh_a203 0 0 5 107 (fun v h' => v = some (.int 1) ∧ h' = hh_a391) := by
  refine mx_B 2 20 [(3, .int 0), (2, .ref 36), (1, .ref 21), (0, .ref 0)] [.ref 0, .int 0] (by decide +kernel) ?_
  refine mx_S (.arraylength) 1 [] 21 [(3, .int 0), (2, .ref 36), (1, .ref 21), (0, .ref 0)] [.int 6, .int 0] (by decide +kernel) rfl ?_
  refine mx_B 5 29 [(3, .int 0), (2, .ref 36), (1, .ref 21), (0, .ref 0)] [.int 0, .ref 0] (by decide +kernel) ?_
  refine mx_scr 6 0 30 (by decide +kernel) (by decide +kernel) (by decide +kernel) ?_
  refine mx_S (.bipush 15) 2 [] 32 [(3, .int 0), (2, .ref 36), (1, .ref 21), (0, .ref 0)] [.int 15, .int (xs 0)] (by decide +kernel) rfl ?_
  refine mx_S (.iand) 1 [] 33 [(3, .int 0), (2, .ref 36), (1, .ref 21), (0, .ref 0)] [.int ((xs 0) &&& 15)] (by decide +kernel) rfl ?_
  refine mx_eq 11 hk ?_
  refine mx_B 6 452 [(3, .int 0), (2, .ref 36), (1, .ref 21), (0, .ref 0)] [.int 1, .ref 0, .ref 21] (by decide +kernel) ?_
  refine mx_scr 6 1 453 (by decide +kernel) (by decide +kernel) (by decide +kernel) ?_
  refine mx_S (.aload_n 0) 1 [] 454 [(3, .int 0), (2, .ref 36), (1, .ref 21), (0, .ref 0)] [.ref 0, .int (xs 1), .ref 21] (by decide +kernel) rfl ?_
  refine mx_S (.iload_n 3) 1 [] 455 [(3, .int 0), (2, .ref 36), (1, .ref 21), (0, .ref 0)] [.int 0, .ref 0, .int (xs 1), .ref 21] (by decide +kernel) rfl ?_
  refine mx_S (.iconst 2) 1 [] 456 [(3, .int 0), (2, .ref 36), (1, .ref 21), (0, .ref 0)] [.int 2, .int 0, .ref 0, .int (xs 1), .ref 21] (by decide +kernel) rfl ?_
  refine mx_S (.iadd) 1 [] 457 [(3, .int 0), (2, .ref 36), (1, .ref 21), (0, .ref 0)] [.int 2, .ref 0, .int (xs 1), .ref 21] (by decide +kernel) rfl ?_
  refine mx_scr 6 2 458 (by decide +kernel) (by decide +kernel) (by decide +kernel) ?_
  refine mx_calls (.invokevirtual 63) [270, 5, 2, 0] 270 3 [.ref 21, .int (xs 1), .int (xs 2)] [] [(0, .ref 21), (1, .int (xs 1)), (2, .int (xs 2))] (some (.int (-1))) hh_a391 0 0 4 84 0 0 461 [.int (-1)] ap_270 (by decide +kernel) rfl ⟨by decide +kernel, rfl, rfl, rfl, rfl⟩ (iv_a831 6 xs zf hz hk u1) ?_
  refine mx_B 5 466 [(3, .int 0), (2, .ref 36), (1, .ref 21), (0, .ref 0)] [.int 1, .ref 0, .ref 36, .int (-1)] (by decide +kernel) ?_
  refine mx_scr 6 1 467 (by decide +kernel) (by decide +kernel) (by decide +kernel) ?_
  refine mx_S (.aload_n 0) 1 [] 468 [(3, .int 0), (2, .ref 36), (1, .ref 21), (0, .ref 0)] [.ref 0, .int (xs 1), .ref 36, .int (-1)] (by decide +kernel) rfl ?_
  refine mx_S (.iload_n 3) 1 [] 469 [(3, .int 0), (2, .ref 36), (1, .ref 21), (0, .ref 0)] [.int 0, .ref 0, .int (xs 1), .ref 36, .int (-1)] (by decide +kernel) rfl ?_
  refine mx_S (.iconst 2) 1 [] 470 [(3, .int 0), (2, .ref 36), (1, .ref 21), (0, .ref 0)] [.int 2, .int 0, .ref 0, .int (xs 1), .ref 36, .int (-1)] (by decide +kernel) rfl ?_
  refine mx_S (.iadd) 1 [] 471 [(3, .int 0), (2, .ref 36), (1, .ref 21), (0, .ref 0)] [.int 2, .ref 0, .int (xs 1), .ref 36, .int (-1)] (by decide +kernel) rfl ?_
  refine mx_scr 6 2 472 (by decide +kernel) (by decide +kernel) (by decide +kernel) ?_
  refine mx_calls (.invokevirtual 66) [405, 5, 2, 15] 405 3 [.ref 36, .int (xs 1), .int (xs 2)] [.int (-1)] [(0, .ref 36), (1, .int (xs 1)), (2, .int (xs 2))] (some (.int (-1))) hh_a391 0 0 1 21 0 0 475 [.int (-1), .int (-1)] ap_405 (by decide +kernel) rfl ⟨by decide +kernel, rfl, rfl, rfl, rfl⟩ (iv_a834 6 xs zf hz hk u1) ?_
  refine mx_B 5 20 [(3, .int 6), (2, .ref 36), (1, .ref 21), (0, .ref 0)] [.ref 0, .int 6] (by decide +kernel) ?_
  refine mx_S (.arraylength) 1 [] 21 [(3, .int 6), (2, .ref 36), (1, .ref 21), (0, .ref 0)] [.int 6, .int 6] (by decide +kernel) rfl ?_
  refine mx_B 4 543 [(3, .int 6), (2, .ref 36), (1, .ref 21), (0, .ref 0)] [.int 1] (by decide +kernel) ?_
  exact mx_ret (some (.int 1)) (by decide +kernel) ⟨rfl, rfl⟩
theorem iv_a836 (L : Nat) (xs : Nat → Int32) (zf : Value) (hz : zf.category = 1) (hk : xs 0 &&& 15 = 11) (l1 : 0 ≤ (xs 1).toInt) : mx_R L xs zf ah_M236 0 [(0, .ref 24), (1, .int (xs 1))] [] hh_a391 0 0 0 0 (fun v h' => v = some (.null) ∧ h' = hh_a391) := by
  refine mx_S (.iload_n 1) 1 [] 1 [(0, .ref 24), (1, .int (xs 1))] [.int (xs 1)] (by decide +kernel) rfl ?_
  refine mx_1 .lt 11 false 4 (mx_v1 .lt (x := (xs 1)) 0 2147483647  l1 (mx_hi _) (by decide +kernel)) (by decide +kernel) ?_
  refine mx_S (.iload_n 1) 1 [] 5 [(0, .ref 24), (1, .int (xs 1))] [.int (xs 1)] (by decide +kernel) rfl ?_
  refine mx_S (.aload_n 0) 1 [] 6 [(0, .ref 24), (1, .int (xs 1))] [.ref 24, .int (xs 1)] (by decide +kernel) rfl ?_
  refine mx_S (.getfield 34) 3 [8, 2] 9 [(0, .ref 24), (1, .int (xs 1))] [.int 0, .int (xs 1)] (by decide +kernel) rfl ?_
  refine mx_2 .lt 7 false 12 (mx_v2 .lt (x := (xs 1)) (y := 0) 0 2147483647 0  l1 (mx_hi _) (by decide +kernel) (by decide +kernel)) (by decide +kernel) ?_
  refine mx_S (.aconst_null) 1 [] 13 [(0, .ref 24), (1, .int (xs 1))] [.null] (by decide +kernel) rfl ?_
  refine mx_S (.goto 9) 3 [] 22 [(0, .ref 24), (1, .int (xs 1))] [.null] (by decide +kernel) rfl ?_
  exact mx_ret (some (.null)) (by decide +kernel) ⟨rfl, rfl⟩
theorem iv_a837 (L : Nat) (xs : Nat → Int32) (zf : Value) (hz : zf.category = 1) (hk : xs 0 &&& 15 = 11) (l1 : 0 ≤ (xs 1).toInt) : mx_R L xs zf ah_M270 0 [(0, .ref 21), (1, .int (xs 1)), (2, .int (xs 2))] [] hh_a203 0 0 4 84 (fun v h' => v = some (.int (-1)) ∧ h' = hh_a391) := by
  refine mx_S (.aload_n 0) 1 [] 1 [(0, .ref 21), (1, .int (xs 1)), (2, .int (xs 2))] [.ref 21] (by decide +kernel) rfl ?_
  refine mx_S (.getfield 26) 3 [2, 0] 4 [(0, .ref 21), (1, .int (xs 1)), (2, .int (xs 2))] [.ref 30] (by decide +kernel) rfl ?_
  refine mx_calls (.invokevirtual 91) [217, 5, 0, 3] 217 3 [.ref 30] [] [(0, .ref 30)] none hh_a391 0 0 3 64 0 0 7 [] ap_217 (by decide +kernel) rfl (by decide +kernel) (iv_a829 L xs zf hz) ?_
  refine mx_S (.aload_n 0) 1 [] 8 [(0, .ref 21), (1, .int (xs 1)), (2, .int (xs 2))] [.ref 21] (by decide +kernel) rfl ?_
  refine mx_S (.getfield 19) 3 [1, 0] 11 [(0, .ref 21), (1, .int (xs 1)), (2, .int (xs 2))] [.ref 24] (by decide +kernel) rfl ?_
  refine mx_S (.iload_n 1) 1 [] 12 [(0, .ref 21), (1, .int (xs 1)), (2, .int (xs 2))] [.int (xs 1), .ref 24] (by decide +kernel) rfl ?_
  refine mx_calls (.invokevirtual 145) [236, 5, 1, 2] 236 3 [.ref 24, .int (xs 1)] [] [(0, .ref 24), (1, .int (xs 1))] (some (.null)) hh_a391 0 0 0 0 0 0 15 [.null] ap_236 (by decide +kernel) rfl ⟨by decide +kernel, rfl, rfl, rfl, rfl⟩ (iv_a836 L xs zf hz hk l1) ?_
  refine mx_S (.astore_n 3) 1 [] 16 [(3, .null), (0, .ref 21), (1, .int (xs 1)), (2, .int (xs 2))] [] (by decide +kernel) rfl ?_
  refine mx_S (.aload_n 3) 1 [] 17 [(3, .null), (0, .ref 21), (1, .int (xs 1)), (2, .int (xs 2))] [.null] (by decide +kernel) rfl ?_
  refine mx_S (.ifnull 23) 3 [] 40 [(3, .null), (0, .ref 21), (1, .int (xs 1)), (2, .int (xs 2))] [] (by decide +kernel) rfl ?_
  refine mx_S (.iconst (-1)) 1 [] 41 [(3, .null), (0, .ref 21), (1, .int (xs 1)), (2, .int (xs 2))] [.int (-1)] (by decide +kernel) rfl ?_
  exact mx_ret (some (.int (-1))) (by decide +kernel) ⟨rfl, rfl⟩
theorem iv_a838 (L : Nat) (xs : Nat → Int32) (zf : Value) (hz : zf.category = 1) (hk : xs 0 &&& 15 = 11) (l1 : 0 ≤ (xs 1).toInt) : mx_R L xs zf ah_M381 0 [(0, .ref 36), (1, .int (xs 1))] [] hh_a391 0 0 0 0 (fun v h' => v = some (.int 0) ∧ h' = hh_a391) := by
  refine mx_S (.aload_n 0) 1 [] 1 [(0, .ref 36), (1, .int (xs 1))] [.ref 36] (by decide +kernel) rfl ?_
  refine mx_S (.getfield 569) 3 [74, 15] 4 [(0, .ref 36), (1, .int (xs 1))] [.int 0] (by decide +kernel) rfl ?_
  refine mx_1 .eq 19 true 23 (by decide +kernel) (by decide +kernel) ?_
  refine mx_S (.iconst 0) 1 [] 24 [(0, .ref 36), (1, .int (xs 1))] [.int 0] (by decide +kernel) rfl ?_
  exact mx_ret (some (.int 0)) (by decide +kernel) ⟨rfl, rfl⟩
theorem iv_a839 (L : Nat) (xs : Nat → Int32) (zf : Value) (hz : zf.category = 1) (hk : xs 0 &&& 15 = 11) (l1 : 0 ≤ (xs 1).toInt) : mx_R L xs zf ah_M405 0 [(0, .ref 36), (1, .int (xs 1)), (2, .int (xs 2))] [] hh_a391 0 0 1 21 (fun v h' => v = some (.int (-1)) ∧ h' = hh_a391) := by
  refine mx_S (.aload_n 0) 1 [] 1 [(0, .ref 36), (1, .int (xs 1)), (2, .int (xs 2))] [.ref 36] (by decide +kernel) rfl ?_
  refine mx_calls (.invokevirtual 740) [406, 5, 0, 15] 406 3 [.ref 36] [] [(0, .ref 36)] none hh_a391 0 0 0 0 0 0 4 [] ap_406 (by decide +kernel) rfl (by decide +kernel) (iv_a832 L xs zf hz) ?_
  refine mx_S (.aload_n 0) 1 [] 5 [(0, .ref 36), (1, .int (xs 1)), (2, .int (xs 2))] [.ref 36] (by decide +kernel) rfl ?_
  refine mx_S (.iload_n 1) 1 [] 6 [(0, .ref 36), (1, .int (xs 1)), (2, .int (xs 2))] [.int (xs 1), .ref 36] (by decide +kernel) rfl ?_
  refine mx_calls (.invokevirtual 709) [381, 5, 1, 15] 381 3 [.ref 36, .int (xs 1)] [] [(0, .ref 36), (1, .int (xs 1))] (some (.int 0)) hh_a391 0 0 0 0 0 0 9 [.int 0] ap_381 (by decide +kernel) rfl ⟨by decide +kernel, rfl, rfl, rfl, rfl⟩ (iv_a838 L xs zf hz hk l1) ?_
  refine mx_1 .eq 21 true 30 (by decide +kernel) (by decide +kernel) ?_
  refine mx_S (.iconst (-1)) 1 [] 31 [(0, .ref 36), (1, .int (xs 1)), (2, .int (xs 2))] [.int (-1)] (by decide +kernel) rfl ?_
  exact mx_ret (some (.int (-1))) (by decide +kernel) ⟨rfl, rfl⟩
theorem iv_a840 (xs : Nat → Int32) (zf : Value) (hz : zf.category = 1) (hk : xs 0 &&& 15 = 11) (l1 : 0 ≤ (xs 1).toInt) : mx_R 6 xs zf ah_M0 18 [(3, .int 0), (2, .ref 36), (1, .ref 21), (0, .ref 0)] [] hh_a203 0 0 5 107 (fun v h' => v = some (.int 1) ∧ h' = hh_a391) := by
  refine mx_B 2 20 [(3, .int 0), (2, .ref 36), (1, .ref 21), (0, .ref 0)] [.ref 0, .int 0] (by decide +kernel) ?_
  refine mx_S (.arraylength) 1 [] 21 [(3, .int 0), (2, .ref 36), (1, .ref 21), (0, .ref 0)] [.int 6, .int 0] (by decide +kernel) rfl ?_
  refine mx_B 5 29 [(3, .int 0), (2, .ref 36), (1, .ref 21), (0, .ref 0)] [.int 0, .ref 0] (by decide +kernel) ?_
  refine mx_scr 6 0 30 (by decide +kernel) (by decide +kernel) (by decide +kernel) ?_
  refine mx_S (.bipush 15) 2 [] 32 [(3, .int 0), (2, .ref 36), (1, .ref 21), (0, .ref 0)] [.int 15, .int (xs 0)] (by decide +kernel) rfl ?_
  refine mx_S (.iand) 1 [] 33 [(3, .int 0), (2, .ref 36), (1, .ref 21), (0, .ref 0)] [.int ((xs 0) &&& 15)] (by decide +kernel) rfl ?_
  refine mx_eq 11 hk ?_
  refine mx_B 6 452 [(3, .int 0), (2, .ref 36), (1, .ref 21), (0, .ref 0)] [.int 1, .ref 0, .ref 21] (by decide +kernel) ?_
  refine mx_scr 6 1 453 (by decide +kernel) (by decide +kernel) (by decide +kernel) ?_
  refine mx_S (.aload_n 0) 1 [] 454 [(3, .int 0), (2, .ref 36), (1, .ref 21), (0, .ref 0)] [.ref 0, .int (xs 1), .ref 21] (by decide +kernel) rfl ?_
  refine mx_S (.iload_n 3) 1 [] 455 [(3, .int 0), (2, .ref 36), (1, .ref 21), (0, .ref 0)] [.int 0, .ref 0, .int (xs 1), .ref 21] (by decide +kernel) rfl ?_
  refine mx_S (.iconst 2) 1 [] 456 [(3, .int 0), (2, .ref 36), (1, .ref 21), (0, .ref 0)] [.int 2, .int 0, .ref 0, .int (xs 1), .ref 21] (by decide +kernel) rfl ?_
  refine mx_S (.iadd) 1 [] 457 [(3, .int 0), (2, .ref 36), (1, .ref 21), (0, .ref 0)] [.int 2, .ref 0, .int (xs 1), .ref 21] (by decide +kernel) rfl ?_
  refine mx_scr 6 2 458 (by decide +kernel) (by decide +kernel) (by decide +kernel) ?_
  refine mx_calls (.invokevirtual 63) [270, 5, 2, 0] 270 3 [.ref 21, .int (xs 1), .int (xs 2)] [] [(0, .ref 21), (1, .int (xs 1)), (2, .int (xs 2))] (some (.int (-1))) hh_a391 0 0 4 84 0 0 461 [.int (-1)] ap_270 (by decide +kernel) rfl ⟨by decide +kernel, rfl, rfl, rfl, rfl⟩ (iv_a837 6 xs zf hz hk l1) ?_
  refine mx_B 5 466 [(3, .int 0), (2, .ref 36), (1, .ref 21), (0, .ref 0)] [.int 1, .ref 0, .ref 36, .int (-1)] (by decide +kernel) ?_
  refine mx_scr 6 1 467 (by decide +kernel) (by decide +kernel) (by decide +kernel) ?_
  refine mx_S (.aload_n 0) 1 [] 468 [(3, .int 0), (2, .ref 36), (1, .ref 21), (0, .ref 0)] [.ref 0, .int (xs 1), .ref 36, .int (-1)] (by decide +kernel) rfl ?_
  refine mx_S (.iload_n 3) 1 [] 469 [(3, .int 0), (2, .ref 36), (1, .ref 21), (0, .ref 0)] [.int 0, .ref 0, .int (xs 1), .ref 36, .int (-1)] (by decide +kernel) rfl ?_
  refine mx_S (.iconst 2) 1 [] 470 [(3, .int 0), (2, .ref 36), (1, .ref 21), (0, .ref 0)] [.int 2, .int 0, .ref 0, .int (xs 1), .ref 36, .int (-1)] (by decide +kernel) rfl ?_
  refine mx_S (.iadd) 1 [] 471 [(3, .int 0), (2, .ref 36), (1, .ref 21), (0, .ref 0)] [.int 2, .ref 0, .int (xs 1), .ref 36, .int (-1)] (by decide +kernel) rfl ?_
  refine mx_scr 6 2 472 (by decide +kernel) (by decide +kernel) (by decide +kernel) ?_
  refine mx_calls (.invokevirtual 66) [405, 5, 2, 15] 405 3 [.ref 36, .int (xs 1), .int (xs 2)] [.int (-1)] [(0, .ref 36), (1, .int (xs 1)), (2, .int (xs 2))] (some (.int (-1))) hh_a391 0 0 1 21 0 0 475 [.int (-1), .int (-1)] ap_405 (by decide +kernel) rfl ⟨by decide +kernel, rfl, rfl, rfl, rfl⟩ (iv_a839 6 xs zf hz hk l1) ?_
  refine mx_B 5 20 [(3, .int 6), (2, .ref 36), (1, .ref 21), (0, .ref 0)] [.ref 0, .int 6] (by decide +kernel) ?_
  refine mx_S (.arraylength) 1 [] 21 [(3, .int 6), (2, .ref 36), (1, .ref 21), (0, .ref 0)] [.int 6, .int 6] (by decide +kernel) rfl ?_
  refine mx_B 4 543 [(3, .int 6), (2, .ref 36), (1, .ref 21), (0, .ref 0)] [.int 1] (by decide +kernel) ?_
  exact mx_ret (some (.int 1)) (by decide +kernel) ⟨rfl, rfl⟩
theorem lw_case11 (xs : Nat → Int32) (zf : Value) (hz : zf.category = 1) (hk : xs 0 &&& 15 = 11) : mx_R 6 xs zf ah_M0 18 [(3, .int 0), (2, .ref 36), (1, .ref 21), (0, .ref 0)] [] hh_a203 599906 7021181 2048 84000 (fun v _ => v = some (.int 1)) := by
  rcases mx_cut (xs 1).toInt (-1) 0 rfl with u1 | l1
  · exact mx_end (iv_a835 xs zf hz hk u1) (by decide +kernel)
  exact mx_end (iv_a840 xs zf hz hk l1) (by decide +kernel)
