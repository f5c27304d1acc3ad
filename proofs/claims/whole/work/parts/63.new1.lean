/-! CONTRACT of ActorHouse's constructor on the empty heap, printed by wip/whole/gen_p1.py. -/
def hb_a0 : rm_E := .inr (0, [.null, .null, .null, .null, .int 0, .int 0])
def hh_a0 : rm_H := [hb_a0]
def hb_a1 : rm_E := .inr (1, [.null, .int 0, .int 0, .int 0])
def hh_a1 : rm_H := [hb_a0, hb_a1]
def hb_a2 : rm_E := .inr (1, [.ref 23, .int 0, .int 0, .int 0])
def hb_a3 : rm_E := .inl (1, 16, .inl (mx_s 0 []))
def hh_a2 : rm_H := [hb_a0, hb_a2, hb_a3]
def hh_a3 : rm_H := [hb_a0, hb_a1, hb_a3]
theorem iv_a0 (L : Nat) (xs : Nat → Int32) (zf : Value) (hz : zf.category = 1) : mx_R L xs zf ah_M4 0 [(0, .ref 22), (1, .int 16)] [] hh_a1 1 16 1 100 (fun v h' => v = none ∧ h' = hh_a2) := by
  refine mx_B 1 1 [(0, .ref 22), (1, .int 16)] [.ref 22] (by decide +kernel) ?_
  refine mx_obj 4 [] (by decide +kernel) (by decide +kernel) ?_
  refine mx_B 4 12 [(0, .ref 22), (1, .int 16)] [.int 16, .ref 22] (by decide +kernel) ?_
  refine mx_nai .byte 1 16 23 14 hh_a3 0 0 (Or.inr (Or.inl rfl)) (by decide +kernel) (by decide +kernel) rfl ?_
  refine mx_put 15 0 [1] 1 [.null, .int 0, .int 0, .int 0] 1 17 [.ref 23, .int 0, .int 0, .int 0] hh_a2 (by decide +kernel) rfl (by decide +kernel) (by decide +kernel) rfl ?_
  refine mx_B 2 19 [(0, .ref 22), (1, .int 16)] [.int 0, .ref 22] (by decide +kernel) ?_
  refine mx_put 22 1 [1] 1 [.ref 23, .int 0, .int 0, .int 0] 1 22 [.ref 23, .int 0, .int 0, .int 0] hh_a2 (by decide +kernel) rfl (by decide +kernel) (by decide +kernel) rfl ?_
  refine mx_B 1 38 [(0, .ref 22), (1, .int 16)] [] (by decide +kernel) ?_
  exact mx_ret none (by decide +kernel) ⟨rfl, rfl⟩
theorem iv_a1 (L : Nat) (xs : Nat → Int32) (zf : Value) (hz : zf.category = 1) : mx_R L xs zf ah_M3 0 [(0, .ref 22)] [] hh_a1 1 16 2 121 (fun v h' => v = none ∧ h' = hh_a2) := by
  refine mx_B 2 3 [(0, .ref 22)] [.int 16, .ref 22] (by decide +kernel) ?_
  refine mx_call 4 3 [.ref 22, .int 16] [] [(0, .ref 22), (1, .int 16)] none hh_a2 1 16 1 100 0 0 6 [] ap_4 (by decide +kernel) (by decide +kernel) (iv_a0 L xs zf hz) ?_
  exact mx_ret none (by decide +kernel) ⟨rfl, rfl⟩
def hb_a4 : rm_E := .inr (0, [.ref 22, .null, .null, .null, .int 0, .int 0])
def hh_a4 : rm_H := [hb_a4, hb_a2, hb_a3]
def hb_a5 : rm_E := .inr (2, [.null, .null, .null, .null, .null, .int 0, .int 0, .null, .int 0, .int 0, .int 0, .int 0, .int 0, .int 0, .int 0, .int 0])
def hh_a5 : rm_H := [hb_a4, hb_a2, hb_a3, hb_a5]
def hb_a6 : rm_E := .inr (2, [.ref 25, .null, .null, .null, .null, .int 0, .int 0, .null, .int 0, .int 0, .int 0, .int 0, .int 0, .int 0, .int 0, .int 0])
def hb_a7 : rm_E := .inl (0, 400, .inl (mx_s 0 []))
def hh_a6 : rm_H := [hb_a4, hb_a2, hb_a3, hb_a6, hb_a7]
def hb_a8 : rm_E := .inr (2, [.ref 25, .ref 26, .null, .null, .null, .int 0, .int 0, .null, .int 0, .int 0, .int 0, .int 0, .int 0, .int 0, .int 0, .int 0])
def hb_a9 : rm_E := .inl (0, 401, .inl (mx_s 0 []))
def hh_a7 : rm_H := [hb_a4, hb_a2, hb_a3, hb_a8, hb_a7, hb_a9]
def hb_a10 : rm_E := .inr (2, [.ref 25, .ref 26, .ref 27, .null, .null, .int 0, .int 0, .null, .int 0, .int 0, .int 0, .int 0, .int 0, .int 0, .int 0, .int 0])
def hb_a11 : rm_E := .inl (5, 12, .inr (.inr (.inr (.inr (mx_s none [])))))
def hh_a8 : rm_H := [hb_a4, hb_a2, hb_a3, hb_a10, hb_a7, hb_a9, hb_a11]
def hb_a12 : rm_E := .inr (2, [.ref 25, .ref 26, .ref 27, .ref 28, .null, .int 0, .int 0, .null, .int 0, .int 0, .int 0, .int 0, .int 0, .int 0, .int 0, .int 0])
def hb_a13 : rm_E := .inl (0, 200, .inl (mx_s 0 []))
def hh_a9 : rm_H := [hb_a4, hb_a2, hb_a3, hb_a12, hb_a7, hb_a9, hb_a11, hb_a13]
def hb_a14 : rm_E := .inr (2, [.ref 25, .ref 26, .ref 27, .ref 28, .ref 29, .int 0, .int 0, .null, .int 0, .int 0, .int 0, .int 0, .int 0, .int 0, .int 0, .int 0])
def hh_a10 : rm_H := [hb_a4, hb_a2, hb_a3, hb_a14, hb_a7, hb_a9, hb_a11, hb_a13, hb_a13]
def hh_a11 : rm_H := [hb_a4, hb_a2, hb_a3, hb_a5, hb_a7]
def hh_a12 : rm_H := [hb_a4, hb_a2, hb_a3, hb_a6, hb_a7, hb_a9]
def hh_a13 : rm_H := [hb_a4, hb_a2, hb_a3, hb_a8, hb_a7, hb_a9, hb_a11]
def hh_a14 : rm_H := [hb_a4, hb_a2, hb_a3, hb_a10, hb_a7, hb_a9, hb_a11, hb_a13]
def hh_a15 : rm_H := [hb_a4, hb_a2, hb_a3, hb_a12, hb_a7, hb_a9, hb_a11, hb_a13, hb_a13]
theorem iv_a2 (L : Nat) (xs : Nat → Int32) (zf : Value) (hz : zf.category = 1) : mx_R L xs zf ah_M7 0 [(0, .ref 24)] [] hh_a5 5 1213 1 100 (fun v h' => v = none ∧ h' = hh_a10) := by
  refine mx_B 1 1 [(0, .ref 24)] [.ref 24] (by decide +kernel) ?_
  refine mx_obj 4 [] (by decide +kernel) (by decide +kernel) ?_
  refine mx_B 2 8 [(0, .ref 24)] [.int 400, .ref 24] (by decide +kernel) ?_
  refine mx_nai .int 0 400 25 10 hh_a11 4 813 (Or.inl rfl) (by decide +kernel) (by decide +kernel) rfl ?_
  refine mx_put 9 0 [2] 2 [.null, .null, .null, .null, .null, .int 0, .int 0, .null, .int 0, .int 0, .int 0, .int 0, .int 0, .int 0, .int 0, .int 0] 3 13 [.ref 25, .null, .null, .null, .null, .int 0, .int 0, .null, .int 0, .int 0, .int 0, .int 0, .int 0, .int 0, .int 0, .int 0] hh_a6 (by decide +kernel) rfl (by decide +kernel) (by decide +kernel) rfl ?_
  refine mx_B 2 17 [(0, .ref 24)] [.int 401, .ref 24] (by decide +kernel) ?_
  refine mx_nai .int 0 401 26 19 hh_a12 3 412 (Or.inl rfl) (by decide +kernel) (by decide +kernel) rfl ?_
  refine mx_put 15 1 [2] 2 [.ref 25, .null, .null, .null, .null, .int 0, .int 0, .null, .int 0, .int 0, .int 0, .int 0, .int 0, .int 0, .int 0, .int 0] 3 22 [.ref 25, .ref 26, .null, .null, .null, .int 0, .int 0, .null, .int 0, .int 0, .int 0, .int 0, .int 0, .int 0, .int 0, .int 0] hh_a7 (by decide +kernel) rfl (by decide +kernel) (by decide +kernel) rfl ?_
  refine mx_B 2 25 [(0, .ref 24)] [.int 12, .ref 24] (by decide +kernel) ?_
  refine mx_naa 18 5 12 27 28 hh_a13 2 400 (by decide +kernel) (by decide +kernel) rfl ?_
  refine mx_put 20 2 [2] 2 [.ref 25, .ref 26, .null, .null, .null, .int 0, .int 0, .null, .int 0, .int 0, .int 0, .int 0, .int 0, .int 0, .int 0, .int 0] 3 31 [.ref 25, .ref 26, .ref 27, .null, .null, .int 0, .int 0, .null, .int 0, .int 0, .int 0, .int 0, .int 0, .int 0, .int 0, .int 0] hh_a8 (by decide +kernel) rfl (by decide +kernel) (by decide +kernel) rfl ?_
  refine mx_B 2 35 [(0, .ref 24)] [.int 200, .ref 24] (by decide +kernel) ?_
  refine mx_nai .int 0 200 28 37 hh_a14 1 200 (Or.inl rfl) (by decide +kernel) (by decide +kernel) rfl ?_
  refine mx_put 24 3 [2] 2 [.ref 25, .ref 26, .ref 27, .null, .null, .int 0, .int 0, .null, .int 0, .int 0, .int 0, .int 0, .int 0, .int 0, .int 0, .int 0] 3 40 [.ref 25, .ref 26, .ref 27, .ref 28, .null, .int 0, .int 0, .null, .int 0, .int 0, .int 0, .int 0, .int 0, .int 0, .int 0, .int 0] hh_a9 (by decide +kernel) rfl (by decide +kernel) (by decide +kernel) rfl ?_
  refine mx_B 2 44 [(0, .ref 24)] [.int 200, .ref 24] (by decide +kernel) ?_
  refine mx_nai .int 0 200 29 46 hh_a15 0 0 (Or.inl rfl) (by decide +kernel) (by decide +kernel) rfl ?_
  refine mx_put 27 4 [2] 2 [.ref 25, .ref 26, .ref 27, .ref 28, .null, .int 0, .int 0, .null, .int 0, .int 0, .int 0, .int 0, .int 0, .int 0, .int 0, .int 0] 3 49 [.ref 25, .ref 26, .ref 27, .ref 28, .ref 29, .int 0, .int 0, .null, .int 0, .int 0, .int 0, .int 0, .int 0, .int 0, .int 0, .int 0] hh_a10 (by decide +kernel) rfl (by decide +kernel) (by decide +kernel) rfl ?_
  refine mx_B 2 51 [(0, .ref 24)] [.null, .ref 24] (by decide +kernel) ?_
  refine mx_put 30 7 [2] 2 [.ref 25, .ref 26, .ref 27, .ref 28, .ref 29, .int 0, .int 0, .null, .int 0, .int 0, .int 0, .int 0, .int 0, .int 0, .int 0, .int 0] 3 54 [.ref 25, .ref 26, .ref 27, .ref 28, .ref 29, .int 0, .int 0, .null, .int 0, .int 0, .int 0, .int 0, .int 0, .int 0, .int 0, .int 0] hh_a10 (by decide +kernel) rfl (by decide +kernel) (by decide +kernel) rfl ?_
  exact mx_ret none (by decide +kernel) ⟨rfl, rfl⟩
def hb_a15 : rm_E := .inr (0, [.ref 22, .ref 24, .null, .null, .int 0, .int 0])
def hh_a16 : rm_H := [hb_a15, hb_a2, hb_a3, hb_a14, hb_a7, hb_a9, hb_a11, hb_a13, hb_a13]
def hb_a16 : rm_E := .inr (3, [.null, .null, .null, .null, .int 0, .int 0, .int 0])
def hh_a17 : rm_H := [hb_a15, hb_a2, hb_a3, hb_a14, hb_a7, hb_a9, hb_a11, hb_a13, hb_a13, hb_a16]
def hh_a18 : rm_H := [hb_a15, hb_a2, hb_a3, hb_a14, hb_a7, hb_a9, hb_a11, hb_a13, hb_a13, hb_a16, hb_a1]
def hb_a17 : rm_E := .inr (1, [.ref 32, .int 0, .int 0, .int 0])
def hh_a19 : rm_H := [hb_a15, hb_a2, hb_a3, hb_a14, hb_a7, hb_a9, hb_a11, hb_a13, hb_a13, hb_a16, hb_a17, hb_a3]
def hh_a20 : rm_H := [hb_a15, hb_a2, hb_a3, hb_a14, hb_a7, hb_a9, hb_a11, hb_a13, hb_a13, hb_a16, hb_a1, hb_a3]
theorem iv_a3 (L : Nat) (xs : Nat → Int32) (zf : Value) (hz : zf.category = 1) : mx_R L xs zf ah_M4 0 [(0, .ref 31), (1, .int 16)] [] hh_a18 1 16 1 100 (fun v h' => v = none ∧ h' = hh_a19) := by
  refine mx_B 1 1 [(0, .ref 31), (1, .int 16)] [.ref 31] (by decide +kernel) ?_
  refine mx_obj 4 [] (by decide +kernel) (by decide +kernel) ?_
  refine mx_B 4 12 [(0, .ref 31), (1, .int 16)] [.int 16, .ref 31] (by decide +kernel) ?_
  refine mx_nai .byte 1 16 32 14 hh_a20 0 0 (Or.inr (Or.inl rfl)) (by decide +kernel) (by decide +kernel) rfl ?_
  refine mx_put 15 0 [1] 1 [.null, .int 0, .int 0, .int 0] 10 17 [.ref 32, .int 0, .int 0, .int 0] hh_a19 (by decide +kernel) rfl (by decide +kernel) (by decide +kernel) rfl ?_
  refine mx_B 2 19 [(0, .ref 31), (1, .int 16)] [.int 0, .ref 31] (by decide +kernel) ?_
  refine mx_put 22 1 [1] 1 [.ref 32, .int 0, .int 0, .int 0] 10 22 [.ref 32, .int 0, .int 0, .int 0] hh_a19 (by decide +kernel) rfl (by decide +kernel) (by decide +kernel) rfl ?_
  refine mx_B 1 38 [(0, .ref 31), (1, .int 16)] [] (by decide +kernel) ?_
  exact mx_ret none (by decide +kernel) ⟨rfl, rfl⟩
theorem iv_a4 (L : Nat) (xs : Nat → Int32) (zf : Value) (hz : zf.category = 1) : mx_R L xs zf ah_M3 0 [(0, .ref 31)] [] hh_a18 1 16 2 121 (fun v h' => v = none ∧ h' = hh_a19) := by
  refine mx_B 2 3 [(0, .ref 31)] [.int 16, .ref 31] (by decide +kernel) ?_
  refine mx_call 4 3 [.ref 31, .int 16] [] [(0, .ref 31), (1, .int 16)] none hh_a19 1 16 1 100 0 0 6 [] ap_4 (by decide +kernel) (by decide +kernel) (iv_a3 L xs zf hz) ?_
  exact mx_ret none (by decide +kernel) ⟨rfl, rfl⟩
def hb_a18 : rm_E := .inr (3, [.ref 31, .null, .null, .null, .int 0, .int 0, .int 0])
def hh_a21 : rm_H := [hb_a15, hb_a2, hb_a3, hb_a14, hb_a7, hb_a9, hb_a11, hb_a13, hb_a13, hb_a18, hb_a17, hb_a3]
def hb_a19 : rm_E := .inr (3, [.ref 31, .ref 33, .null, .null, .int 0, .int 0, .int 0])
def hh_a22 : rm_H := [hb_a15, hb_a2, hb_a3, hb_a14, hb_a7, hb_a9, hb_a11, hb_a13, hb_a13, hb_a19, hb_a17, hb_a3, hb_a9]
def hb_a20 : rm_E := .inr (3, [.ref 31, .ref 33, .ref 34, .null, .int 0, .int 0, .int 0])
def hh_a23 : rm_H := [hb_a15, hb_a2, hb_a3, hb_a14, hb_a7, hb_a9, hb_a11, hb_a13, hb_a13, hb_a20, hb_a17, hb_a3, hb_a9, hb_a9]
def hb_a21 : rm_E := .inr (3, [.ref 31, .ref 33, .ref 34, .ref 35, .int 0, .int 0, .int 0])
def hh_a24 : rm_H := [hb_a15, hb_a2, hb_a3, hb_a14, hb_a7, hb_a9, hb_a11, hb_a13, hb_a13, hb_a21, hb_a17, hb_a3, hb_a9, hb_a9, hb_a9]
def hh_a25 : rm_H := [hb_a15, hb_a2, hb_a3, hb_a14, hb_a7, hb_a9, hb_a11, hb_a13, hb_a13, hb_a18, hb_a17, hb_a3, hb_a9]
def hh_a26 : rm_H := [hb_a15, hb_a2, hb_a3, hb_a14, hb_a7, hb_a9, hb_a11, hb_a13, hb_a13, hb_a19, hb_a17, hb_a3, hb_a9, hb_a9]
def hh_a27 : rm_H := [hb_a15, hb_a2, hb_a3, hb_a14, hb_a7, hb_a9, hb_a11, hb_a13, hb_a13, hb_a20, hb_a17, hb_a3, hb_a9, hb_a9, hb_a9]
theorem iv_a5 (L : Nat) (xs : Nat → Int32) (zf : Value) (hz : zf.category = 1) : mx_R L xs zf ah_M8 0 [(0, .ref 30)] [] hh_a17 5 1223 3 141 (fun v h' => v = none ∧ h' = hh_a24) := by
  refine mx_B 1 1 [(0, .ref 30)] [.ref 30] (by decide +kernel) ?_
  refine mx_obj 4 [] (by decide +kernel) (by decide +kernel) ?_
  refine mx_B 1 5 [(0, .ref 30)] [.ref 30] (by decide +kernel) ?_
  refine mx_new 9 1 [.null, .int 0, .int 0, .int 0] 31 8 hh_a18 4 1219 (by decide +kernel) (by decide +kernel) (by decide +kernel) rfl ?_
  refine mx_B 1 9 [(0, .ref 30)] [.ref 31, .ref 31, .ref 30] (by decide +kernel) ?_
  refine mx_call 3 3 [.ref 31] [.ref 31, .ref 30] [(0, .ref 31)] none hh_a19 1 16 2 121 3 1203 12 [.ref 31, .ref 30] ap_3 (by decide +kernel) (by decide +kernel) (iv_a4 L xs zf hz) ?_
  refine mx_put 12 0 [3] 3 [.null, .null, .null, .null, .int 0, .int 0, .int 0] 9 15 [.ref 31, .null, .null, .null, .int 0, .int 0, .int 0] hh_a21 (by decide +kernel) rfl (by decide +kernel) (by decide +kernel) rfl ?_
  refine mx_B 2 19 [(0, .ref 30)] [.int 401, .ref 30] (by decide +kernel) ?_
  refine mx_nai .int 0 401 33 21 hh_a25 2 802 (Or.inl rfl) (by decide +kernel) (by decide +kernel) rfl ?_
  refine mx_put 18 1 [3] 3 [.ref 31, .null, .null, .null, .int 0, .int 0, .int 0] 9 24 [.ref 31, .ref 33, .null, .null, .int 0, .int 0, .int 0] hh_a22 (by decide +kernel) rfl (by decide +kernel) (by decide +kernel) rfl ?_
  refine mx_B 2 28 [(0, .ref 30)] [.int 401, .ref 30] (by decide +kernel) ?_
  refine mx_nai .int 0 401 34 30 hh_a26 1 401 (Or.inl rfl) (by decide +kernel) (by decide +kernel) rfl ?_
  refine mx_put 22 2 [3] 3 [.ref 31, .ref 33, .null, .null, .int 0, .int 0, .int 0] 9 33 [.ref 31, .ref 33, .ref 34, .null, .int 0, .int 0, .int 0] hh_a23 (by decide +kernel) rfl (by decide +kernel) (by decide +kernel) rfl ?_
  refine mx_B 2 37 [(0, .ref 30)] [.int 401, .ref 30] (by decide +kernel) ?_
  refine mx_nai .int 0 401 35 39 hh_a27 0 0 (Or.inl rfl) (by decide +kernel) (by decide +kernel) rfl ?_
  refine mx_put 25 3 [3] 3 [.ref 31, .ref 33, .ref 34, .null, .int 0, .int 0, .int 0] 9 42 [.ref 31, .ref 33, .ref 34, .ref 35, .int 0, .int 0, .int 0] hh_a24 (by decide +kernel) rfl (by decide +kernel) (by decide +kernel) rfl ?_
  refine mx_B 2 44 [(0, .ref 30)] [.int 0, .ref 30] (by decide +kernel) ?_
  refine mx_put 28 4 [3] 3 [.ref 31, .ref 33, .ref 34, .ref 35, .int 0, .int 0, .int 0] 9 47 [.ref 31, .ref 33, .ref 34, .ref 35, .int 0, .int 0, .int 0] hh_a24 (by decide +kernel) rfl (by decide +kernel) (by decide +kernel) rfl ?_
  refine mx_B 2 49 [(0, .ref 30)] [.int 0, .ref 30] (by decide +kernel) ?_
  refine mx_put 32 5 [3] 3 [.ref 31, .ref 33, .ref 34, .ref 35, .int 0, .int 0, .int 0] 9 52 [.ref 31, .ref 33, .ref 34, .ref 35, .int 0, .int 0, .int 0] hh_a24 (by decide +kernel) rfl (by decide +kernel) (by decide +kernel) rfl ?_
  refine mx_B 2 54 [(0, .ref 30)] [.int 0, .ref 30] (by decide +kernel) ?_
  refine mx_put 35 6 [3] 3 [.ref 31, .ref 33, .ref 34, .ref 35, .int 0, .int 0, .int 0] 9 57 [.ref 31, .ref 33, .ref 34, .ref 35, .int 0, .int 0, .int 0] hh_a24 (by decide +kernel) rfl (by decide +kernel) (by decide +kernel) rfl ?_
  exact mx_ret none (by decide +kernel) ⟨rfl, rfl⟩
def hb_a22 : rm_E := .inr (0, [.ref 22, .ref 24, .ref 30, .null, .int 0, .int 0])
def hh_a28 : rm_H := [hb_a22, hb_a2, hb_a3, hb_a14, hb_a7, hb_a9, hb_a11, hb_a13, hb_a13, hb_a21, hb_a17, hb_a3, hb_a9, hb_a9, hb_a9]
def hb_a23 : rm_E := .inr (0, [.ref 22, .ref 24, .ref 30, .null, .int (-1), .int 0])
def hh_a29 : rm_H := [hb_a23, hb_a2, hb_a3, hb_a14, hb_a7, hb_a9, hb_a11, hb_a13, hb_a13, hb_a21, hb_a17, hb_a3, hb_a9, hb_a9, hb_a9]
def hb_a24 : rm_E := .inr (0, [.ref 22, .ref 24, .ref 30, .null, .int (-1), .int (-1)])
def hh_a30 : rm_H := [hb_a24, hb_a2, hb_a3, hb_a14, hb_a7, hb_a9, hb_a11, hb_a13, hb_a13, hb_a21, hb_a17, hb_a3, hb_a9, hb_a9, hb_a9]
theorem iv_a6 (L : Nat) (xs : Nat → Int32) (zf : Value) (hz : zf.category = 1) : mx_R L xs zf ah_M1 0 [(0, .ref 21)] [] hh_a0 14 2479 4 161 (fun v h' => v = none ∧ h' = hh_a30) := by
  refine mx_B 1 1 [(0, .ref 21)] [.ref 21] (by decide +kernel) ?_
  refine mx_obj 4 [] (by decide +kernel) (by decide +kernel) ?_
  refine mx_B 1 5 [(0, .ref 21)] [.ref 21] (by decide +kernel) ?_
  refine mx_new 7 1 [.null, .int 0, .int 0, .int 0] 22 8 hh_a1 13 2475 (by decide +kernel) (by decide +kernel) (by decide +kernel) rfl ?_
  refine mx_B 1 9 [(0, .ref 21)] [.ref 22, .ref 22, .ref 21] (by decide +kernel) ?_
  refine mx_call 3 3 [.ref 22] [.ref 22, .ref 21] [(0, .ref 22)] none hh_a2 1 16 2 121 12 2459 12 [.ref 22, .ref 21] ap_3 (by decide +kernel) (by decide +kernel) (iv_a1 L xs zf hz) ?_
  refine mx_put 10 0 [0] 0 [.null, .null, .null, .null, .int 0, .int 0] 0 15 [.ref 22, .null, .null, .null, .int 0, .int 0] hh_a4 (by decide +kernel) rfl (by decide +kernel) (by decide +kernel) rfl ?_
  refine mx_B 1 16 [(0, .ref 21)] [.ref 21] (by decide +kernel) ?_
  refine mx_new 16 2 [.null, .null, .null, .null, .null, .int 0, .int 0, .null, .int 0, .int 0, .int 0, .int 0, .int 0, .int 0, .int 0, .int 0] 24 19 hh_a5 11 2443 (by decide +kernel) (by decide +kernel) (by decide +kernel) rfl ?_
  refine mx_B 1 20 [(0, .ref 21)] [.ref 24, .ref 24, .ref 21] (by decide +kernel) ?_
  refine mx_call 7 3 [.ref 24] [.ref 24, .ref 21] [(0, .ref 24)] none hh_a10 5 1213 1 100 6 1230 23 [.ref 24, .ref 21] ap_7 (by decide +kernel) (by decide +kernel) (iv_a2 L xs zf hz) ?_
  refine mx_put 19 1 [0] 0 [.ref 22, .null, .null, .null, .int 0, .int 0] 0 26 [.ref 22, .ref 24, .null, .null, .int 0, .int 0] hh_a16 (by decide +kernel) rfl (by decide +kernel) (by decide +kernel) rfl ?_
  refine mx_B 1 27 [(0, .ref 21)] [.ref 21] (by decide +kernel) ?_
  refine mx_new 23 3 [.null, .null, .null, .null, .int 0, .int 0, .int 0] 30 30 hh_a17 5 1223 (by decide +kernel) (by decide +kernel) (by decide +kernel) rfl ?_
  refine mx_B 1 31 [(0, .ref 21)] [.ref 30, .ref 30, .ref 21] (by decide +kernel) ?_
  refine mx_call 8 3 [.ref 30] [.ref 30, .ref 21] [(0, .ref 30)] none hh_a24 5 1223 3 141 0 0 34 [.ref 30, .ref 21] ap_8 (by decide +kernel) (by decide +kernel) (iv_a5 L xs zf hz) ?_
  refine mx_put 26 2 [0] 0 [.ref 22, .ref 24, .null, .null, .int 0, .int 0] 0 37 [.ref 22, .ref 24, .ref 30, .null, .int 0, .int 0] hh_a28 (by decide +kernel) rfl (by decide +kernel) (by decide +kernel) rfl ?_
  refine mx_B 2 39 [(0, .ref 21)] [.null, .ref 21] (by decide +kernel) ?_
  refine mx_put 30 3 [0] 0 [.ref 22, .ref 24, .ref 30, .null, .int 0, .int 0] 0 42 [.ref 22, .ref 24, .ref 30, .null, .int 0, .int 0] hh_a28 (by decide +kernel) rfl (by decide +kernel) (by decide +kernel) rfl ?_
  refine mx_B 2 44 [(0, .ref 21)] [.int (-1), .ref 21] (by decide +kernel) ?_
  refine mx_put 34 4 [0] 0 [.ref 22, .ref 24, .ref 30, .null, .int 0, .int 0] 0 47 [.ref 22, .ref 24, .ref 30, .null, .int (-1), .int 0] hh_a29 (by decide +kernel) rfl (by decide +kernel) (by decide +kernel) rfl ?_
  refine mx_B 2 49 [(0, .ref 21)] [.int (-1), .ref 21] (by decide +kernel) ?_
  refine mx_put 38 5 [0] 0 [.ref 22, .ref 24, .ref 30, .null, .int (-1), .int 0] 0 52 [.ref 22, .ref 24, .ref 30, .null, .int (-1), .int (-1)] hh_a30 (by decide +kernel) rfl (by decide +kernel) (by decide +kernel) rfl ?_
  exact mx_ret none (by decide +kernel) ⟨rfl, rfl⟩
