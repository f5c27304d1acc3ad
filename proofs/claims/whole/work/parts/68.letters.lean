/-! THE LETTERS, AND WHERE A WORD OR A SIGN ENDS: contracts for any heap, printed by wip/whole/gen_reader.py. -/
theorem iv_r0 (L : Nat) (xs : Nat → Int32) (zf : Value) (cc0 : Int32) (h : rm_H) (u0 : cc0.toInt ≤ 47) : mx_R L xs zf ah_M69 0 [(0, .int (cc0))] [] h 0 0 0 0 (fun v h' => v = some (.int 0) ∧ h' = h) := by
  refine mx_S (.iload_n 0) 1 [] 1 [(0, .int (cc0))] [.int (cc0)] (by decide +kernel) rfl ?_
  refine mx_S (.bipush 48) 2 [] 3 [(0, .int (cc0))] [.int 48, .int (cc0)] (by decide +kernel) rfl ?_
  refine mx_2 .lt 13 true 16 (mx_v2 .lt (x := cc0) (y := 48) (-2147483648) 47 48  (mx_lo _) u0 (by decide +kernel) (by decide +kernel)) (by decide +kernel) ?_
  refine mx_S (.iconst 0) 1 [] 17 [(0, .int (cc0))] [.int 0] (by decide +kernel) rfl ?_
  exact mx_ret (some (.int 0)) (by decide +kernel) ⟨rfl, rfl⟩
theorem iv_r1 (L : Nat) (xs : Nat → Int32) (zf : Value) (cc0 : Int32) (h : rm_H) (u0 : cc0.toInt ≤ 47) : mx_R L xs zf ah_M70 0 [(0, .int (cc0))] [] h 0 0 0 0 (fun v h' => v = some (.int 0) ∧ h' = h) := by
  refine mx_S (.iload_n 0) 1 [] 1 [(0, .int (cc0))] [.int (cc0)] (by decide +kernel) rfl ?_
  refine mx_S (.bipush 65) 2 [] 3 [(0, .int (cc0))] [.int 65, .int (cc0)] (by decide +kernel) rfl ?_
  refine mx_2 .lt 13 true 16 (mx_v2 .lt (x := cc0) (y := 65) (-2147483648) 47 65  (mx_lo _) u0 (by decide +kernel) (by decide +kernel)) (by decide +kernel) ?_
  refine mx_S (.iconst 0) 1 [] 17 [(0, .int (cc0))] [.int 0] (by decide +kernel) rfl ?_
  exact mx_ret (some (.int 0)) (by decide +kernel) ⟨rfl, rfl⟩
theorem iv_r2 (L : Nat) (xs : Nat → Int32) (zf : Value) (cc0 : Int32) (h : rm_H) (u0 : cc0.toInt ≤ 47) : mx_R L xs zf ah_M68 0 [(0, .int (cc0))] [] h 0 0 1 20 (fun v h' => v = some (.int 0) ∧ h' = h) := by
  refine mx_S (.iload_n 0) 1 [] 1 [(0, .int (cc0))] [.int (cc0)] (by decide +kernel) rfl ?_
  refine mx_calls (.invokestatic 77) [69, 0, 1] 69 3 [.int (cc0)] [] [(0, .int (cc0))] (some (.int 0)) h 0 0 0 0 0 0 4 [.int 0] ap_69 (by decide +kernel) rfl ⟨by decide +kernel, rfl, rfl, rfl, rfl⟩ (iv_r0 L xs zf cc0 h u0) ?_
  refine mx_1 .ne 22 false 7 (by decide +kernel) (by decide +kernel) ?_
  refine mx_S (.iload_n 0) 1 [] 8 [(0, .int (cc0))] [.int (cc0)] (by decide +kernel) rfl ?_
  refine mx_calls (.invokestatic 80) [70, 0, 1] 70 3 [.int (cc0)] [] [(0, .int (cc0))] (some (.int 0)) h 0 0 0 0 0 0 11 [.int 0] ap_70 (by decide +kernel) rfl ⟨by decide +kernel, rfl, rfl, rfl, rfl⟩ (iv_r1 L xs zf cc0 h u0) ?_
  refine mx_1 .ne 15 false 14 (by decide +kernel) (by decide +kernel) ?_
  refine mx_S (.iload_n 0) 1 [] 15 [(0, .int (cc0))] [.int (cc0)] (by decide +kernel) rfl ?_
  refine mx_S (.bipush 97) 2 [] 17 [(0, .int (cc0))] [.int 97, .int (cc0)] (by decide +kernel) rfl ?_
  refine mx_2 .lt 13 true 30 (mx_v2 .lt (x := cc0) (y := 97) (-2147483648) 47 97  (mx_lo _) u0 (by decide +kernel) (by decide +kernel)) (by decide +kernel) ?_
  refine mx_S (.iconst 0) 1 [] 31 [(0, .int (cc0))] [.int 0] (by decide +kernel) rfl ?_
  exact mx_ret (some (.int 0)) (by decide +kernel) ⟨rfl, rfl⟩
theorem iv_r3 (L : Nat) (xs : Nat → Int32) (zf : Value) (cc0 : Int32) (h : rm_H) (l0 : 48 ≤ cc0.toInt) (u0 : cc0.toInt ≤ 57) : mx_R L xs zf ah_M69 0 [(0, .int (cc0))] [] h 0 0 0 0 (fun v h' => v = some (.int 1) ∧ h' = h) := by
  refine mx_S (.iload_n 0) 1 [] 1 [(0, .int (cc0))] [.int (cc0)] (by decide +kernel) rfl ?_
  refine mx_S (.bipush 48) 2 [] 3 [(0, .int (cc0))] [.int 48, .int (cc0)] (by decide +kernel) rfl ?_
  refine mx_2 .lt 13 false 6 (mx_v2 .lt (x := cc0) (y := 48) 48 57 48  l0 u0 (by decide +kernel) (by decide +kernel)) (by decide +kernel) ?_
  refine mx_S (.iload_n 0) 1 [] 7 [(0, .int (cc0))] [.int (cc0)] (by decide +kernel) rfl ?_
  refine mx_S (.bipush 57) 2 [] 9 [(0, .int (cc0))] [.int 57, .int (cc0)] (by decide +kernel) rfl ?_
  refine mx_2 .gt 7 false 12 (mx_v2 .gt (x := cc0) (y := 57) 48 57 57  l0 u0 (by decide +kernel) (by decide +kernel)) (by decide +kernel) ?_
  refine mx_S (.iconst 1) 1 [] 13 [(0, .int (cc0))] [.int 1] (by decide +kernel) rfl ?_
  refine mx_S (.goto 4) 3 [] 17 [(0, .int (cc0))] [.int 1] (by decide +kernel) rfl ?_
  exact mx_ret (some (.int 1)) (by decide +kernel) ⟨rfl, rfl⟩
theorem iv_r4 (L : Nat) (xs : Nat → Int32) (zf : Value) (cc0 : Int32) (h : rm_H) (l0 : 48 ≤ cc0.toInt) (u0 : cc0.toInt ≤ 57) : mx_R L xs zf ah_M68 0 [(0, .int (cc0))] [] h 0 0 1 20 (fun v h' => v = some (.int 1) ∧ h' = h) := by
  refine mx_S (.iload_n 0) 1 [] 1 [(0, .int (cc0))] [.int (cc0)] (by decide +kernel) rfl ?_
  refine mx_calls (.invokestatic 77) [69, 0, 1] 69 3 [.int (cc0)] [] [(0, .int (cc0))] (some (.int 1)) h 0 0 0 0 0 0 4 [.int 1] ap_69 (by decide +kernel) rfl ⟨by decide +kernel, rfl, rfl, rfl, rfl⟩ (iv_r3 L xs zf cc0 h l0 u0) ?_
  refine mx_1 .ne 22 true 26 (by decide +kernel) (by decide +kernel) ?_
  refine mx_S (.iconst 1) 1 [] 27 [(0, .int (cc0))] [.int 1] (by decide +kernel) rfl ?_
  refine mx_S (.goto 4) 3 [] 31 [(0, .int (cc0))] [.int 1] (by decide +kernel) rfl ?_
  exact mx_ret (some (.int 1)) (by decide +kernel) ⟨rfl, rfl⟩
theorem iv_r5 (L : Nat) (xs : Nat → Int32) (zf : Value) (cc0 : Int32) (h : rm_H) (l0 : 58 ≤ cc0.toInt) : mx_R L xs zf ah_M69 0 [(0, .int (cc0))] [] h 0 0 0 0 (fun v h' => v = some (.int 0) ∧ h' = h) := by
  refine mx_S (.iload_n 0) 1 [] 1 [(0, .int (cc0))] [.int (cc0)] (by decide +kernel) rfl ?_
  refine mx_S (.bipush 48) 2 [] 3 [(0, .int (cc0))] [.int 48, .int (cc0)] (by decide +kernel) rfl ?_
  refine mx_2 .lt 13 false 6 (mx_v2 .lt (x := cc0) (y := 48) 58 2147483647 48  l0 (mx_hi _) (by decide +kernel) (by decide +kernel)) (by decide +kernel) ?_
  refine mx_S (.iload_n 0) 1 [] 7 [(0, .int (cc0))] [.int (cc0)] (by decide +kernel) rfl ?_
  refine mx_S (.bipush 57) 2 [] 9 [(0, .int (cc0))] [.int 57, .int (cc0)] (by decide +kernel) rfl ?_
  refine mx_2 .gt 7 true 16 (mx_v2 .gt (x := cc0) (y := 57) 58 2147483647 57  l0 (mx_hi _) (by decide +kernel) (by decide +kernel)) (by decide +kernel) ?_
  refine mx_S (.iconst 0) 1 [] 17 [(0, .int (cc0))] [.int 0] (by decide +kernel) rfl ?_
  exact mx_ret (some (.int 0)) (by decide +kernel) ⟨rfl, rfl⟩
theorem iv_r6 (L : Nat) (xs : Nat → Int32) (zf : Value) (cc0 : Int32) (h : rm_H) (l0 : 58 ≤ cc0.toInt) (u0 : cc0.toInt ≤ 64) : mx_R L xs zf ah_M69 0 [(0, .int (cc0))] [] h 0 0 0 0 (fun v h' => v = some (.int 0) ∧ h' = h) := by
  refine mx_S (.iload_n 0) 1 [] 1 [(0, .int (cc0))] [.int (cc0)] (by decide +kernel) rfl ?_
  refine mx_S (.bipush 48) 2 [] 3 [(0, .int (cc0))] [.int 48, .int (cc0)] (by decide +kernel) rfl ?_
  refine mx_2 .lt 13 false 6 (mx_v2 .lt (x := cc0) (y := 48) 58 64 48  l0 u0 (by decide +kernel) (by decide +kernel)) (by decide +kernel) ?_
  refine mx_S (.iload_n 0) 1 [] 7 [(0, .int (cc0))] [.int (cc0)] (by decide +kernel) rfl ?_
  refine mx_S (.bipush 57) 2 [] 9 [(0, .int (cc0))] [.int 57, .int (cc0)] (by decide +kernel) rfl ?_
  refine mx_2 .gt 7 true 16 (mx_v2 .gt (x := cc0) (y := 57) 58 64 57  l0 u0 (by decide +kernel) (by decide +kernel)) (by decide +kernel) ?_
  refine mx_S (.iconst 0) 1 [] 17 [(0, .int (cc0))] [.int 0] (by decide +kernel) rfl ?_
  exact mx_ret (some (.int 0)) (by decide +kernel) ⟨rfl, rfl⟩
theorem iv_r7 (L : Nat) (xs : Nat → Int32) (zf : Value) (cc0 : Int32) (h : rm_H) (l0 : 58 ≤ cc0.toInt) (u0 : cc0.toInt ≤ 64) : mx_R L xs zf ah_M70 0 [(0, .int (cc0))] [] h 0 0 0 0 (fun v h' => v = some (.int 0) ∧ h' = h) := by
  refine mx_S (.iload_n 0) 1 [] 1 [(0, .int (cc0))] [.int (cc0)] (by decide +kernel) rfl ?_
  refine mx_S (.bipush 65) 2 [] 3 [(0, .int (cc0))] [.int 65, .int (cc0)] (by decide +kernel) rfl ?_
  refine mx_2 .lt 13 true 16 (mx_v2 .lt (x := cc0) (y := 65) 58 64 65  l0 u0 (by decide +kernel) (by decide +kernel)) (by decide +kernel) ?_
  refine mx_S (.iconst 0) 1 [] 17 [(0, .int (cc0))] [.int 0] (by decide +kernel) rfl ?_
  exact mx_ret (some (.int 0)) (by decide +kernel) ⟨rfl, rfl⟩
theorem iv_r8 (L : Nat) (xs : Nat → Int32) (zf : Value) (cc0 : Int32) (h : rm_H) (l0 : 58 ≤ cc0.toInt) (u0 : cc0.toInt ≤ 64) : mx_R L xs zf ah_M68 0 [(0, .int (cc0))] [] h 0 0 1 20 (fun v h' => v = some (.int 0) ∧ h' = h) := by
  refine mx_S (.iload_n 0) 1 [] 1 [(0, .int (cc0))] [.int (cc0)] (by decide +kernel) rfl ?_
  refine mx_calls (.invokestatic 77) [69, 0, 1] 69 3 [.int (cc0)] [] [(0, .int (cc0))] (some (.int 0)) h 0 0 0 0 0 0 4 [.int 0] ap_69 (by decide +kernel) rfl ⟨by decide +kernel, rfl, rfl, rfl, rfl⟩ (iv_r6 L xs zf cc0 h l0 u0) ?_
  refine mx_1 .ne 22 false 7 (by decide +kernel) (by decide +kernel) ?_
  refine mx_S (.iload_n 0) 1 [] 8 [(0, .int (cc0))] [.int (cc0)] (by decide +kernel) rfl ?_
  refine mx_calls (.invokestatic 80) [70, 0, 1] 70 3 [.int (cc0)] [] [(0, .int (cc0))] (some (.int 0)) h 0 0 0 0 0 0 11 [.int 0] ap_70 (by decide +kernel) rfl ⟨by decide +kernel, rfl, rfl, rfl, rfl⟩ (iv_r7 L xs zf cc0 h l0 u0) ?_
  refine mx_1 .ne 15 false 14 (by decide +kernel) (by decide +kernel) ?_
  refine mx_S (.iload_n 0) 1 [] 15 [(0, .int (cc0))] [.int (cc0)] (by decide +kernel) rfl ?_
  refine mx_S (.bipush 97) 2 [] 17 [(0, .int (cc0))] [.int 97, .int (cc0)] (by decide +kernel) rfl ?_
  refine mx_2 .lt 13 true 30 (mx_v2 .lt (x := cc0) (y := 97) 58 64 97  l0 u0 (by decide +kernel) (by decide +kernel)) (by decide +kernel) ?_
  refine mx_S (.iconst 0) 1 [] 31 [(0, .int (cc0))] [.int 0] (by decide +kernel) rfl ?_
  exact mx_ret (some (.int 0)) (by decide +kernel) ⟨rfl, rfl⟩
theorem iv_r9 (L : Nat) (xs : Nat → Int32) (zf : Value) (cc0 : Int32) (h : rm_H) (l0 : 65 ≤ cc0.toInt) : mx_R L xs zf ah_M69 0 [(0, .int (cc0))] [] h 0 0 0 0 (fun v h' => v = some (.int 0) ∧ h' = h) := by
  refine mx_S (.iload_n 0) 1 [] 1 [(0, .int (cc0))] [.int (cc0)] (by decide +kernel) rfl ?_
  refine mx_S (.bipush 48) 2 [] 3 [(0, .int (cc0))] [.int 48, .int (cc0)] (by decide +kernel) rfl ?_
  refine mx_2 .lt 13 false 6 (mx_v2 .lt (x := cc0) (y := 48) 65 2147483647 48  l0 (mx_hi _) (by decide +kernel) (by decide +kernel)) (by decide +kernel) ?_
  refine mx_S (.iload_n 0) 1 [] 7 [(0, .int (cc0))] [.int (cc0)] (by decide +kernel) rfl ?_
  refine mx_S (.bipush 57) 2 [] 9 [(0, .int (cc0))] [.int 57, .int (cc0)] (by decide +kernel) rfl ?_
  refine mx_2 .gt 7 true 16 (mx_v2 .gt (x := cc0) (y := 57) 65 2147483647 57  l0 (mx_hi _) (by decide +kernel) (by decide +kernel)) (by decide +kernel) ?_
  refine mx_S (.iconst 0) 1 [] 17 [(0, .int (cc0))] [.int 0] (by decide +kernel) rfl ?_
  exact mx_ret (some (.int 0)) (by decide +kernel) ⟨rfl, rfl⟩
theorem iv_r10 (L : Nat) (xs : Nat → Int32) (zf : Value) (cc0 : Int32) (h : rm_H) (l0 : 65 ≤ cc0.toInt) (u0 : cc0.toInt ≤ 90) : mx_R L xs zf ah_M69 0 [(0, .int (cc0))] [] h 0 0 0 0 (fun v h' => v = some (.int 0) ∧ h' = h) := by
  refine mx_S (.iload_n 0) 1 [] 1 [(0, .int (cc0))] [.int (cc0)] (by decide +kernel) rfl ?_
  refine mx_S (.bipush 48) 2 [] 3 [(0, .int (cc0))] [.int 48, .int (cc0)] (by decide +kernel) rfl ?_
  refine mx_2 .lt 13 false 6 (mx_v2 .lt (x := cc0) (y := 48) 65 90 48  l0 u0 (by decide +kernel) (by decide +kernel)) (by decide +kernel) ?_
  refine mx_S (.iload_n 0) 1 [] 7 [(0, .int (cc0))] [.int (cc0)] (by decide +kernel) rfl ?_
  refine mx_S (.bipush 57) 2 [] 9 [(0, .int (cc0))] [.int 57, .int (cc0)] (by decide +kernel) rfl ?_
  refine mx_2 .gt 7 true 16 (mx_v2 .gt (x := cc0) (y := 57) 65 90 57  l0 u0 (by decide +kernel) (by decide +kernel)) (by decide +kernel) ?_
  refine mx_S (.iconst 0) 1 [] 17 [(0, .int (cc0))] [.int 0] (by decide +kernel) rfl ?_
  exact mx_ret (some (.int 0)) (by decide +kernel) ⟨rfl, rfl⟩
theorem iv_r11 (L : Nat) (xs : Nat → Int32) (zf : Value) (cc0 : Int32) (h : rm_H) (l0 : 65 ≤ cc0.toInt) (u0 : cc0.toInt ≤ 90) : mx_R L xs zf ah_M70 0 [(0, .int (cc0))] [] h 0 0 0 0 (fun v h' => v = some (.int 1) ∧ h' = h) := by
  refine mx_S (.iload_n 0) 1 [] 1 [(0, .int (cc0))] [.int (cc0)] (by decide +kernel) rfl ?_
  refine mx_S (.bipush 65) 2 [] 3 [(0, .int (cc0))] [.int 65, .int (cc0)] (by decide +kernel) rfl ?_
  refine mx_2 .lt 13 false 6 (mx_v2 .lt (x := cc0) (y := 65) 65 90 65  l0 u0 (by decide +kernel) (by decide +kernel)) (by decide +kernel) ?_
  refine mx_S (.iload_n 0) 1 [] 7 [(0, .int (cc0))] [.int (cc0)] (by decide +kernel) rfl ?_
  refine mx_S (.bipush 90) 2 [] 9 [(0, .int (cc0))] [.int 90, .int (cc0)] (by decide +kernel) rfl ?_
  refine mx_2 .gt 7 false 12 (mx_v2 .gt (x := cc0) (y := 90) 65 90 90  l0 u0 (by decide +kernel) (by decide +kernel)) (by decide +kernel) ?_
  refine mx_S (.iconst 1) 1 [] 13 [(0, .int (cc0))] [.int 1] (by decide +kernel) rfl ?_
  refine mx_S (.goto 4) 3 [] 17 [(0, .int (cc0))] [.int 1] (by decide +kernel) rfl ?_
  exact mx_ret (some (.int 1)) (by decide +kernel) ⟨rfl, rfl⟩
theorem iv_r12 (L : Nat) (xs : Nat → Int32) (zf : Value) (cc0 : Int32) (h : rm_H) (l0 : 65 ≤ cc0.toInt) (u0 : cc0.toInt ≤ 90) : mx_R L xs zf ah_M68 0 [(0, .int (cc0))] [] h 0 0 1 20 (fun v h' => v = some (.int 1) ∧ h' = h) := by
  refine mx_S (.iload_n 0) 1 [] 1 [(0, .int (cc0))] [.int (cc0)] (by decide +kernel) rfl ?_
  refine mx_calls (.invokestatic 77) [69, 0, 1] 69 3 [.int (cc0)] [] [(0, .int (cc0))] (some (.int 0)) h 0 0 0 0 0 0 4 [.int 0] ap_69 (by decide +kernel) rfl ⟨by decide +kernel, rfl, rfl, rfl, rfl⟩ (iv_r10 L xs zf cc0 h l0 u0) ?_
  refine mx_1 .ne 22 false 7 (by decide +kernel) (by decide +kernel) ?_
  refine mx_S (.iload_n 0) 1 [] 8 [(0, .int (cc0))] [.int (cc0)] (by decide +kernel) rfl ?_
  refine mx_calls (.invokestatic 80) [70, 0, 1] 70 3 [.int (cc0)] [] [(0, .int (cc0))] (some (.int 1)) h 0 0 0 0 0 0 11 [.int 1] ap_70 (by decide +kernel) rfl ⟨by decide +kernel, rfl, rfl, rfl, rfl⟩ (iv_r11 L xs zf cc0 h l0 u0) ?_
  refine mx_1 .ne 15 true 26 (by decide +kernel) (by decide +kernel) ?_
  refine mx_S (.iconst 1) 1 [] 27 [(0, .int (cc0))] [.int 1] (by decide +kernel) rfl ?_
  refine mx_S (.goto 4) 3 [] 31 [(0, .int (cc0))] [.int 1] (by decide +kernel) rfl ?_
  exact mx_ret (some (.int 1)) (by decide +kernel) ⟨rfl, rfl⟩
theorem iv_r13 (L : Nat) (xs : Nat → Int32) (zf : Value) (cc0 : Int32) (h : rm_H) (l0 : 91 ≤ cc0.toInt) : mx_R L xs zf ah_M69 0 [(0, .int (cc0))] [] h 0 0 0 0 (fun v h' => v = some (.int 0) ∧ h' = h) := by
  refine mx_S (.iload_n 0) 1 [] 1 [(0, .int (cc0))] [.int (cc0)] (by decide +kernel) rfl ?_
  refine mx_S (.bipush 48) 2 [] 3 [(0, .int (cc0))] [.int 48, .int (cc0)] (by decide +kernel) rfl ?_
  refine mx_2 .lt 13 false 6 (mx_v2 .lt (x := cc0) (y := 48) 91 2147483647 48  l0 (mx_hi _) (by decide +kernel) (by decide +kernel)) (by decide +kernel) ?_
  refine mx_S (.iload_n 0) 1 [] 7 [(0, .int (cc0))] [.int (cc0)] (by decide +kernel) rfl ?_
  refine mx_S (.bipush 57) 2 [] 9 [(0, .int (cc0))] [.int 57, .int (cc0)] (by decide +kernel) rfl ?_
  refine mx_2 .gt 7 true 16 (mx_v2 .gt (x := cc0) (y := 57) 91 2147483647 57  l0 (mx_hi _) (by decide +kernel) (by decide +kernel)) (by decide +kernel) ?_
  refine mx_S (.iconst 0) 1 [] 17 [(0, .int (cc0))] [.int 0] (by decide +kernel) rfl ?_
  exact mx_ret (some (.int 0)) (by decide +kernel) ⟨rfl, rfl⟩
theorem iv_r14 (L : Nat) (xs : Nat → Int32) (zf : Value) (cc0 : Int32) (h : rm_H) (l0 : 91 ≤ cc0.toInt) : mx_R L xs zf ah_M70 0 [(0, .int (cc0))] [] h 0 0 0 0 (fun v h' => v = some (.int 0) ∧ h' = h) := by
  refine mx_S (.iload_n 0) 1 [] 1 [(0, .int (cc0))] [.int (cc0)] (by decide +kernel) rfl ?_
  refine mx_S (.bipush 65) 2 [] 3 [(0, .int (cc0))] [.int 65, .int (cc0)] (by decide +kernel) rfl ?_
  refine mx_2 .lt 13 false 6 (mx_v2 .lt (x := cc0) (y := 65) 91 2147483647 65  l0 (mx_hi _) (by decide +kernel) (by decide +kernel)) (by decide +kernel) ?_
  refine mx_S (.iload_n 0) 1 [] 7 [(0, .int (cc0))] [.int (cc0)] (by decide +kernel) rfl ?_
  refine mx_S (.bipush 90) 2 [] 9 [(0, .int (cc0))] [.int 90, .int (cc0)] (by decide +kernel) rfl ?_
  refine mx_2 .gt 7 true 16 (mx_v2 .gt (x := cc0) (y := 90) 91 2147483647 90  l0 (mx_hi _) (by decide +kernel) (by decide +kernel)) (by decide +kernel) ?_
  refine mx_S (.iconst 0) 1 [] 17 [(0, .int (cc0))] [.int 0] (by decide +kernel) rfl ?_
  exact mx_ret (some (.int 0)) (by decide +kernel) ⟨rfl, rfl⟩
theorem iv_r15 (L : Nat) (xs : Nat → Int32) (zf : Value) (cc0 : Int32) (h : rm_H) (l0 : 91 ≤ cc0.toInt) (u0 : cc0.toInt ≤ 96) : mx_R L xs zf ah_M69 0 [(0, .int (cc0))] [] h 0 0 0 0 (fun v h' => v = some (.int 0) ∧ h' = h) := by
  refine mx_S (.iload_n 0) 1 [] 1 [(0, .int (cc0))] [.int (cc0)] (by decide +kernel) rfl ?_
  refine mx_S (.bipush 48) 2 [] 3 [(0, .int (cc0))] [.int 48, .int (cc0)] (by decide +kernel) rfl ?_
  refine mx_2 .lt 13 false 6 (mx_v2 .lt (x := cc0) (y := 48) 91 96 48  l0 u0 (by decide +kernel) (by decide +kernel)) (by decide +kernel) ?_
  refine mx_S (.iload_n 0) 1 [] 7 [(0, .int (cc0))] [.int (cc0)] (by decide +kernel) rfl ?_
  refine mx_S (.bipush 57) 2 [] 9 [(0, .int (cc0))] [.int 57, .int (cc0)] (by decide +kernel) rfl ?_
  refine mx_2 .gt 7 true 16 (mx_v2 .gt (x := cc0) (y := 57) 91 96 57  l0 u0 (by decide +kernel) (by decide +kernel)) (by decide +kernel) ?_
  refine mx_S (.iconst 0) 1 [] 17 [(0, .int (cc0))] [.int 0] (by decide +kernel) rfl ?_
  exact mx_ret (some (.int 0)) (by decide +kernel) ⟨rfl, rfl⟩
theorem iv_r16 (L : Nat) (xs : Nat → Int32) (zf : Value) (cc0 : Int32) (h : rm_H) (l0 : 91 ≤ cc0.toInt) (u0 : cc0.toInt ≤ 96) : mx_R L xs zf ah_M70 0 [(0, .int (cc0))] [] h 0 0 0 0 (fun v h' => v = some (.int 0) ∧ h' = h) := by
  refine mx_S (.iload_n 0) 1 [] 1 [(0, .int (cc0))] [.int (cc0)] (by decide +kernel) rfl ?_
  refine mx_S (.bipush 65) 2 [] 3 [(0, .int (cc0))] [.int 65, .int (cc0)] (by decide +kernel) rfl ?_
  refine mx_2 .lt 13 false 6 (mx_v2 .lt (x := cc0) (y := 65) 91 96 65  l0 u0 (by decide +kernel) (by decide +kernel)) (by decide +kernel) ?_
  refine mx_S (.iload_n 0) 1 [] 7 [(0, .int (cc0))] [.int (cc0)] (by decide +kernel) rfl ?_
  refine mx_S (.bipush 90) 2 [] 9 [(0, .int (cc0))] [.int 90, .int (cc0)] (by decide +kernel) rfl ?_
  refine mx_2 .gt 7 true 16 (mx_v2 .gt (x := cc0) (y := 90) 91 96 90  l0 u0 (by decide +kernel) (by decide +kernel)) (by decide +kernel) ?_
  refine mx_S (.iconst 0) 1 [] 17 [(0, .int (cc0))] [.int 0] (by decide +kernel) rfl ?_
  exact mx_ret (some (.int 0)) (by decide +kernel) ⟨rfl, rfl⟩
theorem iv_r17 (L : Nat) (xs : Nat → Int32) (zf : Value) (cc0 : Int32) (h : rm_H) (l0 : 91 ≤ cc0.toInt) (u0 : cc0.toInt ≤ 96) : mx_R L xs zf ah_M68 0 [(0, .int (cc0))] [] h 0 0 1 20 (fun v h' => v = some (.int 0) ∧ h' = h) := by
  refine mx_S (.iload_n 0) 1 [] 1 [(0, .int (cc0))] [.int (cc0)] (by decide +kernel) rfl ?_
  refine mx_calls (.invokestatic 77) [69, 0, 1] 69 3 [.int (cc0)] [] [(0, .int (cc0))] (some (.int 0)) h 0 0 0 0 0 0 4 [.int 0] ap_69 (by decide +kernel) rfl ⟨by decide +kernel, rfl, rfl, rfl, rfl⟩ (iv_r15 L xs zf cc0 h l0 u0) ?_
  refine mx_1 .ne 22 false 7 (by decide +kernel) (by decide +kernel) ?_
  refine mx_S (.iload_n 0) 1 [] 8 [(0, .int (cc0))] [.int (cc0)] (by decide +kernel) rfl ?_
  refine mx_calls (.invokestatic 80) [70, 0, 1] 70 3 [.int (cc0)] [] [(0, .int (cc0))] (some (.int 0)) h 0 0 0 0 0 0 11 [.int 0] ap_70 (by decide +kernel) rfl ⟨by decide +kernel, rfl, rfl, rfl, rfl⟩ (iv_r16 L xs zf cc0 h l0 u0) ?_
  refine mx_1 .ne 15 false 14 (by decide +kernel) (by decide +kernel) ?_
  refine mx_S (.iload_n 0) 1 [] 15 [(0, .int (cc0))] [.int (cc0)] (by decide +kernel) rfl ?_
  refine mx_S (.bipush 97) 2 [] 17 [(0, .int (cc0))] [.int 97, .int (cc0)] (by decide +kernel) rfl ?_
  refine mx_2 .lt 13 true 30 (mx_v2 .lt (x := cc0) (y := 97) 91 96 97  l0 u0 (by decide +kernel) (by decide +kernel)) (by decide +kernel) ?_
  refine mx_S (.iconst 0) 1 [] 31 [(0, .int (cc0))] [.int 0] (by decide +kernel) rfl ?_
  exact mx_ret (some (.int 0)) (by decide +kernel) ⟨rfl, rfl⟩
theorem iv_r18 (L : Nat) (xs : Nat → Int32) (zf : Value) (cc0 : Int32) (h : rm_H) (l0 : 97 ≤ cc0.toInt) : mx_R L xs zf ah_M69 0 [(0, .int (cc0))] [] h 0 0 0 0 (fun v h' => v = some (.int 0) ∧ h' = h) := by
  refine mx_S (.iload_n 0) 1 [] 1 [(0, .int (cc0))] [.int (cc0)] (by decide +kernel) rfl ?_
  refine mx_S (.bipush 48) 2 [] 3 [(0, .int (cc0))] [.int 48, .int (cc0)] (by decide +kernel) rfl ?_
  refine mx_2 .lt 13 false 6 (mx_v2 .lt (x := cc0) (y := 48) 97 2147483647 48  l0 (mx_hi _) (by decide +kernel) (by decide +kernel)) (by decide +kernel) ?_
  refine mx_S (.iload_n 0) 1 [] 7 [(0, .int (cc0))] [.int (cc0)] (by decide +kernel) rfl ?_
  refine mx_S (.bipush 57) 2 [] 9 [(0, .int (cc0))] [.int 57, .int (cc0)] (by decide +kernel) rfl ?_
  refine mx_2 .gt 7 true 16 (mx_v2 .gt (x := cc0) (y := 57) 97 2147483647 57  l0 (mx_hi _) (by decide +kernel) (by decide +kernel)) (by decide +kernel) ?_
  refine mx_S (.iconst 0) 1 [] 17 [(0, .int (cc0))] [.int 0] (by decide +kernel) rfl ?_
  exact mx_ret (some (.int 0)) (by decide +kernel) ⟨rfl, rfl⟩
theorem iv_r19 (L : Nat) (xs : Nat → Int32) (zf : Value) (cc0 : Int32) (h : rm_H) (l0 : 97 ≤ cc0.toInt) : mx_R L xs zf ah_M70 0 [(0, .int (cc0))] [] h 0 0 0 0 (fun v h' => v = some (.int 0) ∧ h' = h) := by
  refine mx_S (.iload_n 0) 1 [] 1 [(0, .int (cc0))] [.int (cc0)] (by decide +kernel) rfl ?_
  refine mx_S (.bipush 65) 2 [] 3 [(0, .int (cc0))] [.int 65, .int (cc0)] (by decide +kernel) rfl ?_
  refine mx_2 .lt 13 false 6 (mx_v2 .lt (x := cc0) (y := 65) 97 2147483647 65  l0 (mx_hi _) (by decide +kernel) (by decide +kernel)) (by decide +kernel) ?_
  refine mx_S (.iload_n 0) 1 [] 7 [(0, .int (cc0))] [.int (cc0)] (by decide +kernel) rfl ?_
  refine mx_S (.bipush 90) 2 [] 9 [(0, .int (cc0))] [.int 90, .int (cc0)] (by decide +kernel) rfl ?_
  refine mx_2 .gt 7 true 16 (mx_v2 .gt (x := cc0) (y := 90) 97 2147483647 90  l0 (mx_hi _) (by decide +kernel) (by decide +kernel)) (by decide +kernel) ?_
  refine mx_S (.iconst 0) 1 [] 17 [(0, .int (cc0))] [.int 0] (by decide +kernel) rfl ?_
  exact mx_ret (some (.int 0)) (by decide +kernel) ⟨rfl, rfl⟩
theorem iv_r20 (L : Nat) (xs : Nat → Int32) (zf : Value) (cc0 : Int32) (h : rm_H) (l0 : 97 ≤ cc0.toInt) (u0 : cc0.toInt ≤ 122) : mx_R L xs zf ah_M69 0 [(0, .int (cc0))] [] h 0 0 0 0 (fun v h' => v = some (.int 0) ∧ h' = h) := by
  refine mx_S (.iload_n 0) 1 [] 1 [(0, .int (cc0))] [.int (cc0)] (by decide +kernel) rfl ?_
  refine mx_S (.bipush 48) 2 [] 3 [(0, .int (cc0))] [.int 48, .int (cc0)] (by decide +kernel) rfl ?_
  refine mx_2 .lt 13 false 6 (mx_v2 .lt (x := cc0) (y := 48) 97 122 48  l0 u0 (by decide +kernel) (by decide +kernel)) (by decide +kernel) ?_
  refine mx_S (.iload_n 0) 1 [] 7 [(0, .int (cc0))] [.int (cc0)] (by decide +kernel) rfl ?_
  refine mx_S (.bipush 57) 2 [] 9 [(0, .int (cc0))] [.int 57, .int (cc0)] (by decide +kernel) rfl ?_
  refine mx_2 .gt 7 true 16 (mx_v2 .gt (x := cc0) (y := 57) 97 122 57  l0 u0 (by decide +kernel) (by decide +kernel)) (by decide +kernel) ?_
  refine mx_S (.iconst 0) 1 [] 17 [(0, .int (cc0))] [.int 0] (by decide +kernel) rfl ?_
  exact mx_ret (some (.int 0)) (by decide +kernel) ⟨rfl, rfl⟩
theorem iv_r21 (L : Nat) (xs : Nat → Int32) (zf : Value) (cc0 : Int32) (h : rm_H) (l0 : 97 ≤ cc0.toInt) (u0 : cc0.toInt ≤ 122) : mx_R L xs zf ah_M70 0 [(0, .int (cc0))] [] h 0 0 0 0 (fun v h' => v = some (.int 0) ∧ h' = h) := by
  refine mx_S (.iload_n 0) 1 [] 1 [(0, .int (cc0))] [.int (cc0)] (by decide +kernel) rfl ?_
  refine mx_S (.bipush 65) 2 [] 3 [(0, .int (cc0))] [.int 65, .int (cc0)] (by decide +kernel) rfl ?_
  refine mx_2 .lt 13 false 6 (mx_v2 .lt (x := cc0) (y := 65) 97 122 65  l0 u0 (by decide +kernel) (by decide +kernel)) (by decide +kernel) ?_
  refine mx_S (.iload_n 0) 1 [] 7 [(0, .int (cc0))] [.int (cc0)] (by decide +kernel) rfl ?_
  refine mx_S (.bipush 90) 2 [] 9 [(0, .int (cc0))] [.int 90, .int (cc0)] (by decide +kernel) rfl ?_
  refine mx_2 .gt 7 true 16 (mx_v2 .gt (x := cc0) (y := 90) 97 122 90  l0 u0 (by decide +kernel) (by decide +kernel)) (by decide +kernel) ?_
  refine mx_S (.iconst 0) 1 [] 17 [(0, .int (cc0))] [.int 0] (by decide +kernel) rfl ?_
  exact mx_ret (some (.int 0)) (by decide +kernel) ⟨rfl, rfl⟩
theorem iv_r22 (L : Nat) (xs : Nat → Int32) (zf : Value) (cc0 : Int32) (h : rm_H) (l0 : 97 ≤ cc0.toInt) (u0 : cc0.toInt ≤ 122) : mx_R L xs zf ah_M68 0 [(0, .int (cc0))] [] h 0 0 1 20 (fun v h' => v = some (.int 1) ∧ h' = h) := by
  refine mx_S (.iload_n 0) 1 [] 1 [(0, .int (cc0))] [.int (cc0)] (by decide +kernel) rfl ?_
  refine mx_calls (.invokestatic 77) [69, 0, 1] 69 3 [.int (cc0)] [] [(0, .int (cc0))] (some (.int 0)) h 0 0 0 0 0 0 4 [.int 0] ap_69 (by decide +kernel) rfl ⟨by decide +kernel, rfl, rfl, rfl, rfl⟩ (iv_r20 L xs zf cc0 h l0 u0) ?_
  refine mx_1 .ne 22 false 7 (by decide +kernel) (by decide +kernel) ?_
  refine mx_S (.iload_n 0) 1 [] 8 [(0, .int (cc0))] [.int (cc0)] (by decide +kernel) rfl ?_
  refine mx_calls (.invokestatic 80) [70, 0, 1] 70 3 [.int (cc0)] [] [(0, .int (cc0))] (some (.int 0)) h 0 0 0 0 0 0 11 [.int 0] ap_70 (by decide +kernel) rfl ⟨by decide +kernel, rfl, rfl, rfl, rfl⟩ (iv_r21 L xs zf cc0 h l0 u0) ?_
  refine mx_1 .ne 15 false 14 (by decide +kernel) (by decide +kernel) ?_
  refine mx_S (.iload_n 0) 1 [] 15 [(0, .int (cc0))] [.int (cc0)] (by decide +kernel) rfl ?_
  refine mx_S (.bipush 97) 2 [] 17 [(0, .int (cc0))] [.int 97, .int (cc0)] (by decide +kernel) rfl ?_
  refine mx_2 .lt 13 false 20 (mx_v2 .lt (x := cc0) (y := 97) 97 122 97  l0 u0 (by decide +kernel) (by decide +kernel)) (by decide +kernel) ?_
  refine mx_S (.iload_n 0) 1 [] 21 [(0, .int (cc0))] [.int (cc0)] (by decide +kernel) rfl ?_
  refine mx_S (.bipush 122) 2 [] 23 [(0, .int (cc0))] [.int 122, .int (cc0)] (by decide +kernel) rfl ?_
  refine mx_2 .gt 7 false 26 (mx_v2 .gt (x := cc0) (y := 122) 97 122 122  l0 u0 (by decide +kernel) (by decide +kernel)) (by decide +kernel) ?_
  refine mx_S (.iconst 1) 1 [] 27 [(0, .int (cc0))] [.int 1] (by decide +kernel) rfl ?_
  refine mx_S (.goto 4) 3 [] 31 [(0, .int (cc0))] [.int 1] (by decide +kernel) rfl ?_
  exact mx_ret (some (.int 1)) (by decide +kernel) ⟨rfl, rfl⟩
theorem iv_r23 (L : Nat) (xs : Nat → Int32) (zf : Value) (cc0 : Int32) (h : rm_H) (l0 : 123 ≤ cc0.toInt) : mx_R L xs zf ah_M69 0 [(0, .int (cc0))] [] h 0 0 0 0 (fun v h' => v = some (.int 0) ∧ h' = h) := by
  refine mx_S (.iload_n 0) 1 [] 1 [(0, .int (cc0))] [.int (cc0)] (by decide +kernel) rfl ?_
  refine mx_S (.bipush 48) 2 [] 3 [(0, .int (cc0))] [.int 48, .int (cc0)] (by decide +kernel) rfl ?_
  refine mx_2 .lt 13 false 6 (mx_v2 .lt (x := cc0) (y := 48) 123 2147483647 48  l0 (mx_hi _) (by decide +kernel) (by decide +kernel)) (by decide +kernel) ?_
  refine mx_S (.iload_n 0) 1 [] 7 [(0, .int (cc0))] [.int (cc0)] (by decide +kernel) rfl ?_
  refine mx_S (.bipush 57) 2 [] 9 [(0, .int (cc0))] [.int 57, .int (cc0)] (by decide +kernel) rfl ?_
  refine mx_2 .gt 7 true 16 (mx_v2 .gt (x := cc0) (y := 57) 123 2147483647 57  l0 (mx_hi _) (by decide +kernel) (by decide +kernel)) (by decide +kernel) ?_
  refine mx_S (.iconst 0) 1 [] 17 [(0, .int (cc0))] [.int 0] (by decide +kernel) rfl ?_
  exact mx_ret (some (.int 0)) (by decide +kernel) ⟨rfl, rfl⟩
theorem iv_r24 (L : Nat) (xs : Nat → Int32) (zf : Value) (cc0 : Int32) (h : rm_H) (l0 : 123 ≤ cc0.toInt) : mx_R L xs zf ah_M70 0 [(0, .int (cc0))] [] h 0 0 0 0 (fun v h' => v = some (.int 0) ∧ h' = h) := by
  refine mx_S (.iload_n 0) 1 [] 1 [(0, .int (cc0))] [.int (cc0)] (by decide +kernel) rfl ?_
  refine mx_S (.bipush 65) 2 [] 3 [(0, .int (cc0))] [.int 65, .int (cc0)] (by decide +kernel) rfl ?_
  refine mx_2 .lt 13 false 6 (mx_v2 .lt (x := cc0) (y := 65) 123 2147483647 65  l0 (mx_hi _) (by decide +kernel) (by decide +kernel)) (by decide +kernel) ?_
  refine mx_S (.iload_n 0) 1 [] 7 [(0, .int (cc0))] [.int (cc0)] (by decide +kernel) rfl ?_
  refine mx_S (.bipush 90) 2 [] 9 [(0, .int (cc0))] [.int 90, .int (cc0)] (by decide +kernel) rfl ?_
  refine mx_2 .gt 7 true 16 (mx_v2 .gt (x := cc0) (y := 90) 123 2147483647 90  l0 (mx_hi _) (by decide +kernel) (by decide +kernel)) (by decide +kernel) ?_
  refine mx_S (.iconst 0) 1 [] 17 [(0, .int (cc0))] [.int 0] (by decide +kernel) rfl ?_
  exact mx_ret (some (.int 0)) (by decide +kernel) ⟨rfl, rfl⟩
theorem iv_r25 (L : Nat) (xs : Nat → Int32) (zf : Value) (cc0 : Int32) (h : rm_H) (l0 : 123 ≤ cc0.toInt) : mx_R L xs zf ah_M68 0 [(0, .int (cc0))] [] h 0 0 1 20 (fun v h' => v = some (.int 0) ∧ h' = h) := by
  refine mx_S (.iload_n 0) 1 [] 1 [(0, .int (cc0))] [.int (cc0)] (by decide +kernel) rfl ?_
  refine mx_calls (.invokestatic 77) [69, 0, 1] 69 3 [.int (cc0)] [] [(0, .int (cc0))] (some (.int 0)) h 0 0 0 0 0 0 4 [.int 0] ap_69 (by decide +kernel) rfl ⟨by decide +kernel, rfl, rfl, rfl, rfl⟩ (iv_r23 L xs zf cc0 h l0) ?_
  refine mx_1 .ne 22 false 7 (by decide +kernel) (by decide +kernel) ?_
  refine mx_S (.iload_n 0) 1 [] 8 [(0, .int (cc0))] [.int (cc0)] (by decide +kernel) rfl ?_
  refine mx_calls (.invokestatic 80) [70, 0, 1] 70 3 [.int (cc0)] [] [(0, .int (cc0))] (some (.int 0)) h 0 0 0 0 0 0 11 [.int 0] ap_70 (by decide +kernel) rfl ⟨by decide +kernel, rfl, rfl, rfl, rfl⟩ (iv_r24 L xs zf cc0 h l0) ?_
  refine mx_1 .ne 15 false 14 (by decide +kernel) (by decide +kernel) ?_
  refine mx_S (.iload_n 0) 1 [] 15 [(0, .int (cc0))] [.int (cc0)] (by decide +kernel) rfl ?_
  refine mx_S (.bipush 97) 2 [] 17 [(0, .int (cc0))] [.int 97, .int (cc0)] (by decide +kernel) rfl ?_
  refine mx_2 .lt 13 false 20 (mx_v2 .lt (x := cc0) (y := 97) 123 2147483647 97  l0 (mx_hi _) (by decide +kernel) (by decide +kernel)) (by decide +kernel) ?_
  refine mx_S (.iload_n 0) 1 [] 21 [(0, .int (cc0))] [.int (cc0)] (by decide +kernel) rfl ?_
  refine mx_S (.bipush 122) 2 [] 23 [(0, .int (cc0))] [.int 122, .int (cc0)] (by decide +kernel) rfl ?_
  refine mx_2 .gt 7 true 30 (mx_v2 .gt (x := cc0) (y := 122) 123 2147483647 122  l0 (mx_hi _) (by decide +kernel) (by decide +kernel)) (by decide +kernel) ?_
  refine mx_S (.iconst 0) 1 [] 31 [(0, .int (cc0))] [.int 0] (by decide +kernel) rfl ?_
  exact mx_ret (some (.int 0)) (by decide +kernel) ⟨rfl, rfl⟩
def rd_al (c : Int32) : Bool := decide ((48 ≤ c.toInt ∧ c.toInt ≤ 57) ∨ (65 ≤ c.toInt ∧ c.toInt ≤ 90) ∨ (97 ≤ c.toInt ∧ c.toInt ≤ 122))
theorem rd_al_of {c : Int32} {b : Bool} (lo hi : Int) (h1 : lo ≤ c.toInt) (h2 : c.toInt ≤ hi) (hk : if b = true then (48 ≤ lo ∧ hi ≤ 57) ∨ (65 ≤ lo ∧ hi ≤ 90) ∨ (97 ≤ lo ∧ hi ≤ 122) else hi < 48 ∨ (57 < lo ∧ hi < 65) ∨ (90 < lo ∧ hi < 97) ∨ 122 < lo) : rd_al c = b := by
  unfold rd_al
  cases b
  · have hk : hi < 48 ∨ (57 < lo ∧ hi < 65) ∨ (90 < lo ∧ hi < 97) ∨ 122 < lo := hk
    exact decide_eq_false (by omega)
  · have hk : (48 ≤ lo ∧ hi ≤ 57) ∨ (65 ≤ lo ∧ hi ≤ 90) ∨ (97 ≤ lo ∧ hi ≤ 122) := hk
    exact decide_eq_true (by omega)
def rd_01 (b : Bool) : Int32 := if b = true then 1 else 0
theorem rd_leaf {L : Nat} {xs : Nat → Int32} {zf : Value} {M : rm_M} {lv : rm_L} {h : rm_H} {f l f2 l2 : Nat} {x : Int32} {b : Bool} {y : Int32} (hr : mx_R L xs zf M 0 lv [] h 0 0 f l (fun v h' => v = some (.int y) ∧ h' = h)) (hf : f ≤ f2 ∧ l ≤ l2) (hb : rd_al x = b) (hy : y = rd_01 b) : mx_R L xs zf M 0 lv [] h 0 0 f2 l2 (fun v h' => v = some (.int (rd_01 (rd_al x))) ∧ h' = h) :=
  rm_Runs.mono hr (Nat.le_refl _) (Nat.le_refl _) hf.1 hf.2 (fun _ _ z => ⟨by rw [z.1, hb, hy], z.2⟩)
theorem ct_alnum (L : Nat) (xs : Nat → Int32) (zf : Value) (cc0 : Int32) (h : rm_H) : mx_R L xs zf ah_M68 0 [(0, .int cc0)] [] h 0 0 1 20 (fun v h' => v = some (.int (rd_01 (rd_al cc0))) ∧ h' = h) := by
  rcases mx_cut cc0.toInt 47 48 rfl with u0 | l0
  · exact rd_leaf (b := false) (iv_r2 L xs zf cc0 h u0) (by decide +kernel) (rd_al_of (-2147483648) 47 (mx_lo _) u0 (by decide +kernel)) (by decide +kernel)
  rcases mx_cut cc0.toInt 57 58 rfl with u0 | l0
  · exact rd_leaf (b := true) (iv_r4 L xs zf cc0 h l0 u0) (by decide +kernel) (rd_al_of 48 57 l0 u0 (by decide +kernel)) (by decide +kernel)
  rcases mx_cut cc0.toInt 64 65 rfl with u0 | l0
  · exact rd_leaf (b := false) (iv_r8 L xs zf cc0 h l0 u0) (by decide +kernel) (rd_al_of 58 64 l0 u0 (by decide +kernel)) (by decide +kernel)
  rcases mx_cut cc0.toInt 90 91 rfl with u0 | l0
  · exact rd_leaf (b := true) (iv_r12 L xs zf cc0 h l0 u0) (by decide +kernel) (rd_al_of 65 90 l0 u0 (by decide +kernel)) (by decide +kernel)
  rcases mx_cut cc0.toInt 96 97 rfl with u0 | l0
  · exact rd_leaf (b := false) (iv_r17 L xs zf cc0 h l0 u0) (by decide +kernel) (rd_al_of 91 96 l0 u0 (by decide +kernel)) (by decide +kernel)
  rcases mx_cut cc0.toInt 122 123 rfl with u0 | l0
  · exact rd_leaf (b := true) (iv_r22 L xs zf cc0 h l0 u0) (by decide +kernel) (rd_al_of 97 122 l0 u0 (by decide +kernel)) (by decide +kernel)
  exact rd_leaf (b := false) (iv_r25 L xs zf cc0 h l0) (by decide +kernel) (rd_al_of 123 2147483647 l0 (mx_hi _) (by decide +kernel)) (by decide +kernel)
