/-! METHODS AS FUNCTIONS, printed by wip/whole/gen_fun.py -/
def b146_0 (L : Nat) (xs : Nat → Int32) (zf : Value) (D : dD) (w : Nat) (o0 : Option Nat) (i1 : Int32) (h : rm_H) : Option dR :=
  (dgI L xs h 1 [5] o0).bind fun x1 =>
  ((D 147 [.int i1, .int x1] h).bind dxI).bind fun x3 =>
  ((dcV L xs D 148 [5] o0 [.int i1] x3.2).bind dxR).bind fun p7 =>
  some (some (va_rf p7.1), p7.2)
theorem c146_0 {L : Nat} {xs : Nat → Int32} {zf : Value} {D : dD} {w k : Nat} (hD : dO L xs zf D k) (hz : zf.category = 1) : ∀ (o0 : Option Nat) (i1 : Int32) (lv : rm_L) (h : rm_H) (r : dR), rm_get lv 0 = some (va_rf o0) → rm_get lv 1 = some (.int i1) → b146_0 L xs zf D w  o0 i1 h = some r → dq L xs zf ah_M146 0 lv [] h (k + 1) r := by
  intro o0 i1 lv h r G0 G1 hh
  unfold b146_0 at hh
  refine dq_iln 1 1 (by decide +kernel) rfl G1 ?_
  refine dq_aln 0 2 (by decide +kernel) rfl G0 ?_
  obtain ⟨x1, q2, hh⟩ := db hh
  refine dq_gI 48 1 [5] 5 (by decide +kernel) rfl q2 ?_
  obtain ⟨x3, q4, hh⟩ := db hh
  obtain ⟨a5, q6, q4⟩ := db q4
  rw [dq_xI q4] at q6
  refine dq_cst hD 118 147 0 2 [.int i1, .int x1] [] 8 [.int x3.1] (by decide +kernel) ap_147 ⟨⟨Nat.le_of_ble_eq_true rfl, by decide⟩, rfl, rfl⟩ (dq_ok8 [1, 1] [] (dc_i (dc_i dc_n)) dc_n (by decide +kernel)) (by decide +kernel) rfl q6 rfl ?_
  refine dq_S (.pop) 1 [] 9 _ [] (by decide +kernel) rfl ?_
  refine dq_aln 0 10 (by decide +kernel) rfl G0 ?_
  refine dq_iln 1 11 (by decide +kernel) rfl G1 ?_
  obtain ⟨p7, q8, hh⟩ := db hh
  obtain ⟨a9, q10, q8⟩ := db q8
  rw [dq_xR q8] at q10
  refine dq_cvi hD 123 148 5 1 [5] o0 [.int i1] [] 14 [va_rf p7.1] (by decide +kernel) ap_148 ⟨⟨Nat.le_of_ble_eq_true rfl, by decide⟩, rfl, rfl⟩ (dq_ok8 [1, 1] [] (dc_r (dc_i dc_n)) dc_n (by decide +kernel)) (by decide +kernel) rfl q10 rfl ?_
  cases hh
  exact dq_retR (by decide +kernel) rfl
def f146 (L : Nat) (xs : Nat → Int32) (zf : Value) (D : dD) (w : Nat) (As : List Value) (h : rm_H) : Option dR := match As with
  | [v0, .int i1] => (rm_rf v0).bind fun o0 => b146_0 L xs zf D w o0 i1 h
  | _ => none
theorem d146 {L : Nat} {xs : Nat → Int32} {zf : Value} {D : dD} {w k : Nat} (hD : dO L xs zf D k) (hz : zf.category = 1) (As : List Value) (h : rm_H) (r : dR) (hh : f146 L xs zf D w As h = some r) : dq L xs zf ah_M146 0 (lv_args 0 As) [] h (k + 1) r := by
  unfold f146 at hh
  split at hh
  · obtain ⟨o0, e0, hb0⟩ := db hh
    have e0 := rm_rf_v _ _ e0
    subst e0
    refine c146_0 hD hz _ _ _ _ _ ?_ ?_ hb0
    all_goals (simp only [la_r, la_i, la_j]; rfl)
  · cases hh
def b147_0 (L : Nat) (xs : Nat → Int32) (zf : Value) (D : dD) (w : Nat) (i0 : Int32) (i1 : Int32) (h : rm_H) : Option dR :=
  ((D 35 [.int i0, .int i1, va_rf none] h).bind dxI).bind fun x1 =>
  drI (some .int) x1.1 x1.2
theorem c147_0 {L : Nat} {xs : Nat → Int32} {zf : Value} {D : dD} {w k : Nat} (hD : dO L xs zf D k) (hz : zf.category = 1) : ∀ (i0 : Int32) (i1 : Int32) (lv : rm_L) (h : rm_H) (r : dR), rm_get lv 0 = some (.int i0) → rm_get lv 1 = some (.int i1) → b147_0 L xs zf D w  i0 i1 h = some r → dq L xs zf ah_M147 0 lv [] h (k + 1) r := by
  intro i0 i1 lv h r G0 G1 hh
  unfold b147_0 at hh
  refine dq_iln 0 1 (by decide +kernel) rfl G0 ?_
  refine dq_iln 1 2 (by decide +kernel) rfl G1 ?_
  refine dq_S (.aconst_null) 1 [] 3 _ [va_rf none, .int i1, .int i0] (by decide +kernel) rfl ?_
  obtain ⟨x1, q2, hh⟩ := db hh
  obtain ⟨a3, q4, q2⟩ := db q2
  rw [dq_xI q2] at q4
  refine dq_cst hD 105 35 0 3 [.int i0, .int i1, va_rf none] [] 6 [.int x1.1] (by decide +kernel) ap_35 ⟨⟨Nat.le_of_ble_eq_true rfl, by decide⟩, rfl, rfl⟩ (dq_ok8 [1, 1, 1] [] (dc_i (dc_i (dc_r dc_n))) dc_n (by decide +kernel)) (by decide +kernel) rfl q4 rfl ?_
  exact dq_retI (some .int) (by decide +kernel) rfl hh
def f147 (L : Nat) (xs : Nat → Int32) (zf : Value) (D : dD) (w : Nat) (As : List Value) (h : rm_H) : Option dR := match As with
  | [.int i0, .int i1] => b147_0 L xs zf D w i0 i1 h
  | _ => none
theorem d147 {L : Nat} {xs : Nat → Int32} {zf : Value} {D : dD} {w k : Nat} (hD : dO L xs zf D k) (hz : zf.category = 1) (As : List Value) (h : rm_H) (r : dR) (hh : f147 L xs zf D w As h = some r) : dq L xs zf ah_M147 0 (lv_args 0 As) [] h (k + 1) r := by
  unfold f147 at hh
  split at hh
  · refine c147_0 hD hz _ _ _ _ _ ?_ ?_ hh
    all_goals (simp only [la_r, la_i, la_j]; rfl)
  · cases hh
def b148_0 (L : Nat) (xs : Nat → Int32) (zf : Value) (D : dD) (w : Nat) (o0 : Option Nat) (i1 : Int32) (h : rm_H) : Option dR :=
  (dgR L xs h 0 [5] o0).bind fun p1 =>
  (daR L xs h p1 i1).bind fun p3 =>
  some (some (va_rf p3), h)
theorem c148_0 {L : Nat} {xs : Nat → Int32} {zf : Value} {D : dD} {w k : Nat} (hD : dO L xs zf D k) (hz : zf.category = 1) : ∀ (o0 : Option Nat) (i1 : Int32) (lv : rm_L) (h : rm_H) (r : dR), rm_get lv 0 = some (va_rf o0) → rm_get lv 1 = some (.int i1) → b148_0 L xs zf D w  o0 i1 h = some r → dq L xs zf ah_M148 0 lv [] h (k + 1) r := by
  intro o0 i1 lv h r G0 G1 hh
  unfold b148_0 at hh
  refine dq_aln 0 1 (by decide +kernel) rfl G0 ?_
  obtain ⟨p1, q2, hh⟩ := db hh
  refine dq_gR 9 0 [5] 4 (by decide +kernel) rfl q2 ?_
  refine dq_iln 1 5 (by decide +kernel) rfl G1 ?_
  obtain ⟨p3, q4, hh⟩ := db hh
  refine dq_aR 6 (by decide +kernel) rfl q4 ?_
  cases hh
  exact dq_retR (by decide +kernel) rfl
def f148 (L : Nat) (xs : Nat → Int32) (zf : Value) (D : dD) (w : Nat) (As : List Value) (h : rm_H) : Option dR := match As with
  | [v0, .int i1] => (rm_rf v0).bind fun o0 => b148_0 L xs zf D w o0 i1 h
  | _ => none
theorem d148 {L : Nat} {xs : Nat → Int32} {zf : Value} {D : dD} {w k : Nat} (hD : dO L xs zf D k) (hz : zf.category = 1) (As : List Value) (h : rm_H) (r : dR) (hh : f148 L xs zf D w As h = some r) : dq L xs zf ah_M148 0 (lv_args 0 As) [] h (k + 1) r := by
  unfold f148 at hh
  split at hh
  · obtain ⟨o0, e0, hb0⟩ := db hh
    have e0 := rm_rf_v _ _ e0
    subst e0
    refine c148_0 hD hz _ _ _ _ _ ?_ ?_ hb0
    all_goals (simp only [la_r, la_i, la_j]; rfl)
  · cases hh
def b149_147 (L : Nat) (xs : Nat → Int32) (zf : Value) (D : dD) (w : Nat) (h : rm_H) : Option dR :=
  some (none, h)
theorem c149_147 {L : Nat} {xs : Nat → Int32} {zf : Value} {D : dD} {w k : Nat} (hD : dO L xs zf D k) (hz : zf.category = 1) : ∀ (lv : rm_L) (h : rm_H) (r : dR), b149_147 L xs zf D w  h = some r → dq L xs zf ah_M149 147 lv [] h (k + 1) r := by
  intro lv h r hh
  unfold b149_147 at hh
  cases hh
  exact dq_ret0 (by decide +kernel) rfl
def b149_65 (L : Nat) (xs : Nat → Int32) (zf : Value) (D : dD) (w : Nat) (o0 : Option Nat) (o1 : Option Nat) (o2 : Option Nat) (h : rm_H) : Option dR :=
  (dgI L xs h 2 [9] o2).bind fun x1 =>
  if mx_f1 .eq x1 = true then
    (dgI L xs h 2 [10] o1).bind fun x4 =>
    if mx_f2 .eq x4 (-1) = true then
      (dgI L xs h 6 [10] o1).bind fun x7 =>
      if mx_f1 .eq x7 = true then
        (dgI L xs h 5 [10] o1).bind fun x10 =>
        ((dcV L xs D 144 [4] o0 [.int 4, .int x10] h).bind dxV).bind fun h12 =>
        b149_147 L xs zf D w h12
      else
        (dgI L xs h 3 [9] o2).bind fun x16 =>
        ((D 153 [.int 5, .int x16, .int 2] h).bind dxI).bind fun x18 =>
        (dpF x18.2 7 [10] o1 (.int x18.1)).bind fun h22 =>
        b149_147 L xs zf D w h22
    else
      (dgI L xs h 3 [9] o2).bind fun x24 =>
      (dgI L xs h 2 [10] o1).bind fun x26 =>
      ((D 153 [.int 5, .int x24, .int x26] h).bind dxI).bind fun x28 =>
      (dpF x28.2 7 [10] o1 (.int x28.1)).bind fun h32 =>
      b149_147 L xs zf D w h32
  else
    (dgI L xs h 3 [9] o2).bind fun x34 =>
    ((D 153 [.int 3, .int x34, .int 2] h).bind dxI).bind fun x36 =>
    (dpF x36.2 7 [10] o1 (.int x36.1)).bind fun h40 =>
    b149_147 L xs zf D w h40
theorem c149_65 {L : Nat} {xs : Nat → Int32} {zf : Value} {D : dD} {w k : Nat} (hD : dO L xs zf D k) (hz : zf.category = 1) : ∀ (o0 : Option Nat) (o1 : Option Nat) (o2 : Option Nat) (lv : rm_L) (h : rm_H) (r : dR), rm_get lv 0 = some (va_rf o0) → rm_get lv 1 = some (va_rf o1) → rm_get lv 2 = some (va_rf o2) → b149_65 L xs zf D w  o0 o1 o2 h = some r → dq L xs zf ah_M149 65 lv [] h (k + 1) r := by
  intro o0 o1 o2 lv h r G0 G1 G2 hh
  unfold b149_65 at hh
  refine dq_aln 2 66 (by decide +kernel) rfl G2 ?_
  obtain ⟨x1, q2, hh⟩ := db hh
  refine dq_gI 105 2 [9] 69 (by decide +kernel) rfl q2 ?_
  rcases di hh with ⟨q3, hh⟩ | ⟨q3, hh⟩
  · refine dq_1 .eq 19 true 88 q3 (by decide +kernel) ?_
    refine dq_aln 1 89 (by decide +kernel) rfl G1 ?_
    obtain ⟨x4, q5, hh⟩ := db hh
    refine dq_gI 133 2 [10] 92 (by decide +kernel) rfl q5 ?_
    refine dq_S (.iconst (-1)) 1 [] 93 _ [.int (-1), .int x4] (by decide +kernel) rfl ?_
    rcases di hh with ⟨q6, hh⟩ | ⟨q6, hh⟩
    · refine dq_2 .eq 22 true 115 q6 (by decide +kernel) ?_
      refine dq_aln 1 116 (by decide +kernel) rfl G1 ?_
      obtain ⟨x7, q8, hh⟩ := db hh
      refine dq_gI 146 6 [10] 119 (by decide +kernel) rfl q8 ?_
      rcases di hh with ⟨q9, hh⟩ | ⟨q9, hh⟩
      · refine dq_1 .eq 19 true 138 q9 (by decide +kernel) ?_
        refine dq_aln 0 139 (by decide +kernel) rfl G0 ?_
        refine dq_S (.iconst 4) 1 [] 140 _ [.int 4, va_rf o0] (by decide +kernel) rfl ?_
        refine dq_aln 1 141 (by decide +kernel) rfl G1 ?_
        obtain ⟨x10, q11, hh⟩ := db hh
        refine dq_gI 130 5 [10] 144 (by decide +kernel) rfl q11 ?_
        obtain ⟨h12, q13, hh⟩ := db hh
        obtain ⟨a14, q15, q13⟩ := db q13
        rw [dq_xV q13] at q15
        refine dq_cvi hD 87 144 5 2 [4] o0 [.int 4, .int x10] [] 147 [] (by decide +kernel) ap_144 ⟨⟨Nat.le_of_ble_eq_true rfl, by decide⟩, rfl, rfl⟩ (dq_ok8 [1, 1, 1] [] (dc_r (dc_i (dc_i dc_n))) dc_n (by decide +kernel)) (by decide +kernel) rfl q15 rfl ?_
        exact c149_147 hD hz  _ _ _  hh
      · refine dq_1 .eq 19 false 122 q9 (by decide +kernel) ?_
        refine dq_aln 1 123 (by decide +kernel) rfl G1 ?_
        refine dq_S (.iconst 5) 1 [] 124 _ [.int 5, va_rf o1] (by decide +kernel) rfl ?_
        refine dq_aln 2 125 (by decide +kernel) rfl G2 ?_
        obtain ⟨x16, q17, hh⟩ := db hh
        refine dq_gI 139 3 [9] 128 (by decide +kernel) rfl q17 ?_
        refine dq_S (.iconst 2) 1 [] 129 _ [.int 2, .int x16, .int 5, va_rf o1] (by decide +kernel) rfl ?_
        obtain ⟨x18, q19, hh⟩ := db hh
        obtain ⟨a20, q21, q19⟩ := db q19
        rw [dq_xI q19] at q21
        refine dq_cst hD 142 153 1 3 [.int 5, .int x16, .int 2] [va_rf o1] 132 [.int x18.1, va_rf o1] (by decide +kernel) ap_153 ⟨⟨Nat.le_of_ble_eq_true rfl, by decide⟩, rfl, rfl⟩ (dq_ok8 [1, 1, 1] [1] (dc_i (dc_i (dc_i dc_n))) (dc_r dc_n) (by decide +kernel)) (by decide +kernel) rfl q21 rfl ?_
        obtain ⟨h22, q23, hh⟩ := db hh
        refine dq_put 127 7 [10] 135 (by decide +kernel) rfl q23 ?_
        refine dq_S (.goto 12) 3 [] 147 _ [] (by decide +kernel) rfl ?_
        exact c149_147 hD hz  _ _ _  hh
    · refine dq_2 .eq 22 false 96 q6 (by decide +kernel) ?_
      refine dq_aln 1 97 (by decide +kernel) rfl G1 ?_
      refine dq_S (.iconst 5) 1 [] 98 _ [.int 5, va_rf o1] (by decide +kernel) rfl ?_
      refine dq_aln 2 99 (by decide +kernel) rfl G2 ?_
      obtain ⟨x24, q25, hh⟩ := db hh
      refine dq_gI 139 3 [9] 102 (by decide +kernel) rfl q25 ?_
      refine dq_aln 1 103 (by decide +kernel) rfl G1 ?_
      obtain ⟨x26, q27, hh⟩ := db hh
      refine dq_gI 133 2 [10] 106 (by decide +kernel) rfl q27 ?_
      obtain ⟨x28, q29, hh⟩ := db hh
      obtain ⟨a30, q31, q29⟩ := db q29
      rw [dq_xI q29] at q31
      refine dq_cst hD 142 153 1 3 [.int 5, .int x24, .int x26] [va_rf o1] 109 [.int x28.1, va_rf o1] (by decide +kernel) ap_153 ⟨⟨Nat.le_of_ble_eq_true rfl, by decide⟩, rfl, rfl⟩ (dq_ok8 [1, 1, 1] [1] (dc_i (dc_i (dc_i dc_n))) (dc_r dc_n) (by decide +kernel)) (by decide +kernel) rfl q31 rfl ?_
      obtain ⟨h32, q33, hh⟩ := db hh
      refine dq_put 127 7 [10] 112 (by decide +kernel) rfl q33 ?_
      refine dq_S (.goto 35) 3 [] 147 _ [] (by decide +kernel) rfl ?_
      exact c149_147 hD hz  _ _ _  hh
  · refine dq_1 .eq 19 false 72 q3 (by decide +kernel) ?_
    refine dq_aln 1 73 (by decide +kernel) rfl G1 ?_
    refine dq_S (.iconst 3) 1 [] 74 _ [.int 3, va_rf o1] (by decide +kernel) rfl ?_
    refine dq_aln 2 75 (by decide +kernel) rfl G2 ?_
    obtain ⟨x34, q35, hh⟩ := db hh
    refine dq_gI 139 3 [9] 78 (by decide +kernel) rfl q35 ?_
    refine dq_S (.iconst 2) 1 [] 79 _ [.int 2, .int x34, .int 3, va_rf o1] (by decide +kernel) rfl ?_
    obtain ⟨x36, q37, hh⟩ := db hh
    obtain ⟨a38, q39, q37⟩ := db q37
    rw [dq_xI q37] at q39
    refine dq_cst hD 142 153 1 3 [.int 3, .int x34, .int 2] [va_rf o1] 82 [.int x36.1, va_rf o1] (by decide +kernel) ap_153 ⟨⟨Nat.le_of_ble_eq_true rfl, by decide⟩, rfl, rfl⟩ (dq_ok8 [1, 1, 1] [1] (dc_i (dc_i (dc_i dc_n))) (dc_r dc_n) (by decide +kernel)) (by decide +kernel) rfl q39 rfl ?_
    obtain ⟨h40, q41, hh⟩ := db hh
    refine dq_put 127 7 [10] 85 (by decide +kernel) rfl q41 ?_
    refine dq_S (.goto 62) 3 [] 147 _ [] (by decide +kernel) rfl ?_
    exact c149_147 hD hz  _ _ _  hh
def b149_0 (L : Nat) (xs : Nat → Int32) (zf : Value) (D : dD) (w : Nat) (o0 : Option Nat) (o1 : Option Nat) (h : rm_H) : Option dR :=
  (dgR L xs h 4 [10] o1).bind fun p1 =>
  if dnl p1 = true then
    (dpF h 7 [10] o1 (.int 1)).bind fun h4 =>
    some (none, h4)
  else
    (dgR L xs h 4 [10] o1).bind fun p6 =>
    ((dcV L xs D 150 [4] o0 [va_rf p6] h).bind dxR).bind fun p8 =>
    if dnl p8.1 = true then
      (dgI L xs p8.2 5 [10] o1).bind fun x16 =>
      ((dcV L xs D 144 [4] o0 [.int 3, .int x16] p8.2).bind dxV).bind fun h18 =>
      b149_147 L xs zf D w h18
    else
      (dgI L xs p8.2 2 [9] p8.1).bind fun x22 =>
      if mx_f1 .eq x22 = true then
        b149_65 L xs zf D w o0 o1 p8.1 p8.2
      else
        (dgI L xs p8.2 2 [10] o1).bind fun x25 =>
        if mx_f2 .eq x25 (-1) = true then
          b149_65 L xs zf D w o0 o1 p8.1 p8.2
        else
          (dgI L xs p8.2 3 [10] o1).bind fun x28 =>
          ((dcV L xs D 144 [4] o0 [.int 4, .int x28] p8.2).bind dxV).bind fun h30 =>
          b149_147 L xs zf D w h30
theorem c149_0 {L : Nat} {xs : Nat → Int32} {zf : Value} {D : dD} {w k : Nat} (hD : dO L xs zf D k) (hz : zf.category = 1) : ∀ (o0 : Option Nat) (o1 : Option Nat) (lv : rm_L) (h : rm_H) (r : dR), rm_get lv 0 = some (va_rf o0) → rm_get lv 1 = some (va_rf o1) → b149_0 L xs zf D w  o0 o1 h = some r → dq L xs zf ah_M149 0 lv [] h (k + 1) r := by
  intro o0 o1 lv h r G0 G1 hh
  unfold b149_0 at hh
  refine dq_aln 1 1 (by decide +kernel) rfl G1 ?_
  obtain ⟨p1, q2, hh⟩ := db hh
  refine dq_gR 126 4 [10] 4 (by decide +kernel) rfl q2 ?_
  rcases di hh with ⟨q3, hh⟩ | ⟨q3, hh⟩
  · refine dq_nnull 9 false 7 q3 (by decide +kernel) (by decide +kernel) ?_
    refine dq_aln 1 8 (by decide +kernel) rfl G1 ?_
    refine dq_S (.iconst 1) 1 [] 9 _ [.int 1, va_rf o1] (by decide +kernel) rfl ?_
    obtain ⟨h4, q5, hh⟩ := db hh
    refine dq_put 127 7 [10] 12 (by decide +kernel) rfl q5 ?_
    cases hh
    exact dq_ret0 (by decide +kernel) rfl
  · refine dq_nnull 9 true 13 q3 (by decide +kernel) (by decide +kernel) ?_
    refine dq_aln 0 14 (by decide +kernel) rfl G0 ?_
    refine dq_aln 1 15 (by decide +kernel) rfl G1 ?_
    obtain ⟨p6, q7, hh⟩ := db hh
    refine dq_gR 126 4 [10] 18 (by decide +kernel) rfl q7 ?_
    obtain ⟨p8, q9, hh⟩ := db hh
    obtain ⟨a10, q11, q9⟩ := db q9
    rw [dq_xR q9] at q11
    refine dq_cvi hD 80 150 5 1 [4] o0 [va_rf p6] [] 21 [va_rf p8.1] (by decide +kernel) ap_150 ⟨⟨Nat.le_of_ble_eq_true rfl, by decide⟩, rfl, rfl⟩ (dq_ok8 [1, 1] [] (dc_r (dc_r dc_n)) dc_n (by decide +kernel)) (by decide +kernel) rfl q11 rfl ?_
    refine dq_asn 2 22 (by decide +kernel) (by decide +kernel) ?_
    have g12 := dg_ne (i := 2) (u := va_rf p8.1) (by decide) (Or.inl (by decide)) G0
    have g13 := dg_ne (i := 2) (u := va_rf p8.1) (by decide) (Or.inr (drc _)) G1
    have g14 := dg_eq (lv) 2 (va_rf p8.1)
    refine dq_aln 2 23 (by decide +kernel) rfl g14 ?_
    rcases di hh with ⟨q15, hh⟩ | ⟨q15, hh⟩
    · refine dq_nnull 15 false 26 q15 (by decide +kernel) (by decide +kernel) ?_
      refine dq_aln 0 27 (by decide +kernel) rfl g12 ?_
      refine dq_S (.iconst 3) 1 [] 28 _ [.int 3, va_rf o0] (by decide +kernel) rfl ?_
      refine dq_aln 1 29 (by decide +kernel) rfl g13 ?_
      obtain ⟨x16, q17, hh⟩ := db hh
      refine dq_gI 130 5 [10] 32 (by decide +kernel) rfl q17 ?_
      obtain ⟨h18, q19, hh⟩ := db hh
      obtain ⟨a20, q21, q19⟩ := db q19
      rw [dq_xV q19] at q21
      refine dq_cvi hD 87 144 5 2 [4] o0 [.int 3, .int x16] [] 35 [] (by decide +kernel) ap_144 ⟨⟨Nat.le_of_ble_eq_true rfl, by decide⟩, rfl, rfl⟩ (dq_ok8 [1, 1, 1] [] (dc_r (dc_i (dc_i dc_n))) dc_n (by decide +kernel)) (by decide +kernel) rfl q21 rfl ?_
      refine dq_S (.goto 112) 3 [] 147 _ [] (by decide +kernel) rfl ?_
      exact c149_147 hD hz  _ _ _  hh
    · refine dq_nnull 15 true 38 q15 (by decide +kernel) (by decide +kernel) ?_
      refine dq_aln 2 39 (by decide +kernel) rfl g14 ?_
      obtain ⟨x22, q23, hh⟩ := db hh
      refine dq_gI 105 2 [9] 42 (by decide +kernel) rfl q23 ?_
      rcases di hh with ⟨q24, hh⟩ | ⟨q24, hh⟩
      · refine dq_1 .eq 23 true 65 q24 (by decide +kernel) ?_
        exact c149_65 hD hz _ _ _ _ _ _ g12 g13 g14 hh
      · refine dq_1 .eq 23 false 45 q24 (by decide +kernel) ?_
        refine dq_aln 1 46 (by decide +kernel) rfl g13 ?_
        obtain ⟨x25, q26, hh⟩ := db hh
        refine dq_gI 133 2 [10] 49 (by decide +kernel) rfl q26 ?_
        refine dq_S (.iconst (-1)) 1 [] 50 _ [.int (-1), .int x25] (by decide +kernel) rfl ?_
        rcases di hh with ⟨q27, hh⟩ | ⟨q27, hh⟩
        · refine dq_2 .eq 15 true 65 q27 (by decide +kernel) ?_
          exact c149_65 hD hz _ _ _ _ _ _ g12 g13 g14 hh
        · refine dq_2 .eq 15 false 53 q27 (by decide +kernel) ?_
          refine dq_aln 0 54 (by decide +kernel) rfl g12 ?_
          refine dq_S (.iconst 4) 1 [] 55 _ [.int 4, va_rf o0] (by decide +kernel) rfl ?_
          refine dq_aln 1 56 (by decide +kernel) rfl g13 ?_
          obtain ⟨x28, q29, hh⟩ := db hh
          refine dq_gI 136 3 [10] 59 (by decide +kernel) rfl q29 ?_
          obtain ⟨h30, q31, hh⟩ := db hh
          obtain ⟨a32, q33, q31⟩ := db q31
          rw [dq_xV q31] at q33
          refine dq_cvi hD 87 144 5 2 [4] o0 [.int 4, .int x28] [] 62 [] (by decide +kernel) ap_144 ⟨⟨Nat.le_of_ble_eq_true rfl, by decide⟩, rfl, rfl⟩ (dq_ok8 [1, 1, 1] [] (dc_r (dc_i (dc_i dc_n))) dc_n (by decide +kernel)) (by decide +kernel) rfl q33 rfl ?_
          refine dq_S (.goto 85) 3 [] 147 _ [] (by decide +kernel) rfl ?_
          exact c149_147 hD hz  _ _ _  hh
def f149 (L : Nat) (xs : Nat → Int32) (zf : Value) (D : dD) (w : Nat) (As : List Value) (h : rm_H) : Option dR := match As with
  | [v0, v1] => (rm_rf v0).bind fun o0 => (rm_rf v1).bind fun o1 => b149_0 L xs zf D w o0 o1 h
  | _ => none
theorem d149 {L : Nat} {xs : Nat → Int32} {zf : Value} {D : dD} {w k : Nat} (hD : dO L xs zf D k) (hz : zf.category = 1) (As : List Value) (h : rm_H) (r : dR) (hh : f149 L xs zf D w As h = some r) : dq L xs zf ah_M149 0 (lv_args 0 As) [] h (k + 1) r := by
  unfold f149 at hh
  split at hh
  · obtain ⟨o0, e0, hb0⟩ := db hh
    have e0 := rm_rf_v _ _ e0
    obtain ⟨o1, e1, hb1⟩ := db hb0
    have e1 := rm_rf_v _ _ e1
    subst e0 e1
    refine c149_0 hD hz _ _ _ _ _ ?_ ?_ hb1
    all_goals (simp only [la_r, la_i, la_j]; rfl)
  · cases hh
def b150_2 (L : Nat) (xs : Nat → Int32) (zf : Value) (D : dD) (w : Nat) : Nat → Option Nat → Option Nat → Int32 → rm_H → Option dR
  | 0, _, _, _, _ => none
  | n + 1, o0, o1, i2, h =>
    (dgR L xs h 1 [4] o0).bind fun p1 =>
    ((dcV L xs D 101 [5] p1 [] h).bind dxI).bind fun x3 =>
    if mx_f2 .ge i2 x3.1 = true then
      some (some (va_rf none), x3.2)
    else
      (dgR L xs x3.2 1 [4] o0).bind fun p8 =>
      ((dcV L xs D 146 [5] p8 [.int i2] x3.2).bind dxR).bind fun p10 =>
      if dcK L xs p10.2 [9] p10.1 = false then none else
      (dgR L xs p10.2 0 [9] p10.1).bind fun p15 =>
      ((dcV L xs D 151 [7, 16] p15 [va_rf o1] p10.2).bind dxI).bind fun x17 =>
      if mx_f1 .eq x17.1 = true then
        b150_2 L xs zf D w n o0 o1 (i2 + 1) x17.2
      else
        (dgR L xs x17.2 1 [4] o0).bind fun p25 =>
        ((dcV L xs D 146 [5] p25 [.int i2] x17.2).bind dxR).bind fun p27 =>
        if dcK L xs p27.2 [9] p27.1 = false then none else
        some (some (va_rf p27.1), p27.2)
theorem c150_2 {L : Nat} {xs : Nat → Int32} {zf : Value} {D : dD} {w k : Nat} (hD : dO L xs zf D k) (hz : zf.category = 1) : ∀ (n : Nat) (o0 : Option Nat) (o1 : Option Nat) (i2 : Int32) (lv : rm_L) (h : rm_H) (r : dR), rm_get lv 0 = some (va_rf o0) → rm_get lv 1 = some (va_rf o1) → rm_get lv 2 = some (.int i2) → b150_2 L xs zf D w n  o0 o1 i2 h = some r → dq L xs zf ah_M150 2 lv [] h (k + 1) r := by
  intro n
  induction n with
  | zero =>
    intro o0 o1 i2 lv h r G0 G1 G2 hh
    cases hh
  | succ n ih =>
    intro o0 o1 i2 lv h r G0 G1 G2 hh
    rw [b150_2] at hh
    refine dq_iln 2 3 (by decide +kernel) rfl G2 ?_
    refine dq_aln 0 4 (by decide +kernel) rfl G0 ?_
    obtain ⟨p1, q2, hh⟩ := db hh
    refine dq_gR 18 1 [4] 7 (by decide +kernel) rfl q2 ?_
    obtain ⟨x3, q4, hh⟩ := db hh
    obtain ⟨a5, q6, q4⟩ := db q4
    rw [dq_xI q4] at q6
    refine dq_cif hD 54 1 101 7 0 [5] p1 [] [.int i2] 12 [.int x3.1, .int i2] (by decide +kernel) ap_101 ⟨⟨Nat.le_of_ble_eq_true rfl, by decide⟩, rfl, rfl⟩ (dq_ok8 [1] [1] (dc_r dc_n) (dc_i dc_n) (by decide +kernel)) (by decide +kernel) rfl q6 rfl ?_
    rcases di hh with ⟨q7, hh⟩ | ⟨q7, hh⟩
    · refine dq_2 .ge 46 true 58 q7 (by decide +kernel) ?_
      refine dq_S (.aconst_null) 1 [] 59 _ [va_rf none] (by decide +kernel) rfl ?_
      cases hh
      exact dq_retR (by decide +kernel) rfl
    · refine dq_2 .ge 46 false 15 q7 (by decide +kernel) ?_
      refine dq_aln 0 16 (by decide +kernel) rfl G0 ?_
      obtain ⟨p8, q9, hh⟩ := db hh
      refine dq_gR 18 1 [4] 19 (by decide +kernel) rfl q9 ?_
      refine dq_iln 2 20 (by decide +kernel) rfl G2 ?_
      obtain ⟨p10, q11, hh⟩ := db hh
      obtain ⟨a12, q13, q11⟩ := db q11
      rw [dq_xR q11] at q13
      refine dq_cif hD 59 2 146 7 1 [5] p8 [.int i2] [] 25 [va_rf p10.1] (by decide +kernel) ap_146 ⟨⟨Nat.le_of_ble_eq_true rfl, by decide⟩, rfl, rfl⟩ (dq_ok8 [1, 1] [] (dc_r (dc_i dc_n)) dc_n (by decide +kernel)) (by decide +kernel) rfl q13 rfl ?_
      rcases dp hh with ⟨_, hh⟩ | ⟨q14, hh⟩
      · cases hh
      refine dq_cast 63 [9] 28 (by decide +kernel) ⟨rfl, by decide⟩ (by rw [Bool.not_eq_false] at q14; exact q14) ?_
      obtain ⟨p15, q16, hh⟩ := db hh
      refine dq_gR 76 0 [9] 31 (by decide +kernel) rfl q16 ?_
      refine dq_aln 1 32 (by decide +kernel) rfl G1 ?_
      obtain ⟨x17, q18, hh⟩ := db hh
      obtain ⟨a19, q20, q18⟩ := db q18
      rw [dq_xI q18] at q20
      refine dq_cvi hD 120 151 5 1 [7, 16] p15 [va_rf o1] [] 35 [.int x17.1] (by decide +kernel) ap_151 ⟨⟨Nat.le_of_ble_eq_true rfl, by decide⟩, rfl, rfl⟩ (dq_ok8 [1, 1] [] (dc_r (dc_r dc_n)) dc_n (by decide +kernel)) (by decide +kernel) rfl q20 rfl ?_
      rcases di hh with ⟨q21, hh⟩ | ⟨q21, hh⟩
      · refine dq_1 .eq 17 true 52 q21 (by decide +kernel) ?_
        refine dq_incy 2 1 1 55 (by decide +kernel) ⟨rfl, by decide +kernel, by decide +kernel⟩ G2 ?_
        have g22 := dg_ne (i := 2) (u := .int (i2 + 1)) (by decide) (Or.inl (by decide)) G0
        have g23 := dg_ne (i := 2) (u := .int (i2 + 1)) (by decide) (Or.inr (drc _)) G1
        have g24 := dg_eq (lv) 2 (.int (i2 + 1))
        refine dq_S (.goto (-53)) 3 [] 2 _ [] (by decide +kernel) rfl ?_
        exact ih _ _ _ _ _ _ g22 g23 g24 hh
      · refine dq_1 .eq 17 false 38 q21 (by decide +kernel) ?_
        refine dq_aln 0 39 (by decide +kernel) rfl G0 ?_
        obtain ⟨p25, q26, hh⟩ := db hh
        refine dq_gR 18 1 [4] 42 (by decide +kernel) rfl q26 ?_
        refine dq_iln 2 43 (by decide +kernel) rfl G2 ?_
        obtain ⟨p27, q28, hh⟩ := db hh
        obtain ⟨a29, q30, q28⟩ := db q28
        rw [dq_xR q28] at q30
        refine dq_cif hD 59 2 146 7 1 [5] p25 [.int i2] [] 48 [va_rf p27.1] (by decide +kernel) ap_146 ⟨⟨Nat.le_of_ble_eq_true rfl, by decide⟩, rfl, rfl⟩ (dq_ok8 [1, 1] [] (dc_r (dc_i dc_n)) dc_n (by decide +kernel)) (by decide +kernel) rfl q30 rfl ?_
        rcases dp hh with ⟨_, hh⟩ | ⟨q31, hh⟩
        · cases hh
        refine dq_cast 63 [9] 51 (by decide +kernel) ⟨rfl, by decide⟩ (by rw [Bool.not_eq_false] at q31; exact q31) ?_
        cases hh
        exact dq_retR (by decide +kernel) rfl
def b150_0 (L : Nat) (xs : Nat → Int32) (zf : Value) (D : dD) (w : Nat) (o0 : Option Nat) (o1 : Option Nat) (h : rm_H) : Option dR :=
  b150_2 L xs zf D w w o0 o1 0 h
theorem c150_0 {L : Nat} {xs : Nat → Int32} {zf : Value} {D : dD} {w k : Nat} (hD : dO L xs zf D k) (hz : zf.category = 1) : ∀ (o0 : Option Nat) (o1 : Option Nat) (lv : rm_L) (h : rm_H) (r : dR), rm_get lv 0 = some (va_rf o0) → rm_get lv 1 = some (va_rf o1) → b150_0 L xs zf D w  o0 o1 h = some r → dq L xs zf ah_M150 0 lv [] h (k + 1) r := by
  intro o0 o1 lv h r G0 G1 hh
  unfold b150_0 at hh
  refine dq_S (.iconst 0) 1 [] 1 _ [.int 0] (by decide +kernel) rfl ?_
  refine dq_isn 2 2 (by decide +kernel) (by decide +kernel) ?_
  have g1 := dg_ne (i := 2) (u := .int 0) (by decide) (Or.inl (by decide)) G0
  have g2 := dg_ne (i := 2) (u := .int 0) (by decide) (Or.inr (drc _)) G1
  have g3 := dg_eq (lv) 2 (.int 0)
  exact c150_2 hD hz _ _ _ _ _ _ _ g1 g2 g3 hh
def f150 (L : Nat) (xs : Nat → Int32) (zf : Value) (D : dD) (w : Nat) (As : List Value) (h : rm_H) : Option dR := match As with
  | [v0, v1] => (rm_rf v0).bind fun o0 => (rm_rf v1).bind fun o1 => b150_0 L xs zf D w o0 o1 h
  | _ => none
theorem d150 {L : Nat} {xs : Nat → Int32} {zf : Value} {D : dD} {w k : Nat} (hD : dO L xs zf D k) (hz : zf.category = 1) (As : List Value) (h : rm_H) (r : dR) (hh : f150 L xs zf D w As h = some r) : dq L xs zf ah_M150 0 (lv_args 0 As) [] h (k + 1) r := by
  unfold f150 at hh
  split at hh
  · obtain ⟨o0, e0, hb0⟩ := db hh
    have e0 := rm_rf_v _ _ e0
    obtain ⟨o1, e1, hb1⟩ := db hb0
    have e1 := rm_rf_v _ _ e1
    subst e0 e1
    refine c150_0 hD hz _ _ _ _ _ ?_ ?_ hb1
    all_goals (simp only [la_r, la_i, la_j]; rfl)
  · cases hh
def b151_55 (L : Nat) (xs : Nat → Int32) (zf : Value) (D : dD) (w : Nat) (s0 : Int32) (h : rm_H) : Option dR :=
  drI (some .boolean) s0 h
theorem c151_55 {L : Nat} {xs : Nat → Int32} {zf : Value} {D : dD} {w k : Nat} (hD : dO L xs zf D k) (hz : zf.category = 1) : ∀ (s0 : Int32) (lv : rm_L) (h : rm_H) (r : dR), b151_55 L xs zf D w  s0 h = some r → dq L xs zf ah_M151 55 lv [.int s0] h (k + 1) r := by
  intro s0 lv h r hh
  unfold b151_55 at hh
  exact dq_retI (some .boolean) (by decide +kernel) rfl hh
def b151_54 (L : Nat) (xs : Nat → Int32) (zf : Value) (D : dD) (w : Nat) (h : rm_H) : Option dR :=
  b151_55 L xs zf D w 0 h
theorem c151_54 {L : Nat} {xs : Nat → Int32} {zf : Value} {D : dD} {w k : Nat} (hD : dO L xs zf D k) (hz : zf.category = 1) : ∀ (lv : rm_L) (h : rm_H) (r : dR), b151_54 L xs zf D w  h = some r → dq L xs zf ah_M151 54 lv [] h (k + 1) r := by
  intro lv h r hh
  unfold b151_54 at hh
  refine dq_S (.iconst 0) 1 [] 55 _ [.int 0] (by decide +kernel) rfl ?_
  exact c151_55 hD hz _ _ _ _  hh
def b151_36 (L : Nat) (xs : Nat → Int32) (zf : Value) (D : dD) (w : Nat) (o0 : Option Nat) (o2 : Option Nat) (h : rm_H) : Option dR :=
  (dgR L xs h 0 [7, 16] o0).bind fun p1 =>
  (dgR L xs h 0 [7, 16] o2).bind fun p3 =>
  ((D 152 [va_rf p1, va_rf p3] h).bind dxI).bind fun x5 =>
  if mx_f1 .eq x5.1 = true then
    b151_54 L xs zf D w x5.2
  else
    b151_55 L xs zf D w 1 x5.2
theorem c151_36 {L : Nat} {xs : Nat → Int32} {zf : Value} {D : dD} {w k : Nat} (hD : dO L xs zf D k) (hz : zf.category = 1) : ∀ (o0 : Option Nat) (o2 : Option Nat) (lv : rm_L) (h : rm_H) (r : dR), rm_get lv 0 = some (va_rf o0) → rm_get lv 2 = some (va_rf o2) → b151_36 L xs zf D w  o0 o2 h = some r → dq L xs zf ah_M151 36 lv [] h (k + 1) r := by
  intro o0 o2 lv h r G0 G2 hh
  unfold b151_36 at hh
  refine dq_aln 0 37 (by decide +kernel) rfl G0 ?_
  obtain ⟨p1, q2, hh⟩ := db hh
  refine dq_gR 9 0 [7, 16] 40 (by decide +kernel) rfl q2 ?_
  refine dq_aln 2 41 (by decide +kernel) rfl G2 ?_
  obtain ⟨p3, q4, hh⟩ := db hh
  refine dq_gR 9 0 [7, 16] 44 (by decide +kernel) rfl q4 ?_
  obtain ⟨x5, q6, hh⟩ := db hh
  obtain ⟨a7, q8, q6⟩ := db q6
  rw [dq_xI q6] at q8
  refine dq_cst hD 541 152 0 2 [va_rf p1, va_rf p3] [] 47 [.int x5.1] (by decide +kernel) ap_152 ⟨⟨Nat.le_of_ble_eq_true rfl, by decide⟩, rfl, rfl⟩ (dq_ok8 [1, 1] [] (dc_r (dc_r dc_n)) dc_n (by decide +kernel)) (by decide +kernel) rfl q8 rfl ?_
  rcases di hh with ⟨q9, hh⟩ | ⟨q9, hh⟩
  · refine dq_1 .eq 7 true 54 q9 (by decide +kernel) ?_
    exact c151_54 hD hz  _ _ _  hh
  · refine dq_1 .eq 7 false 50 q9 (by decide +kernel) ?_
    refine dq_S (.iconst 1) 1 [] 51 _ [.int 1] (by decide +kernel) rfl ?_
    refine dq_S (.goto 4) 3 [] 55 _ [.int 1] (by decide +kernel) rfl ?_
    exact c151_55 hD hz _ _ _ _  hh
def b151_0 (L : Nat) (xs : Nat → Int32) (zf : Value) (D : dD) (w : Nat) (o0 : Option Nat) (o1 : Option Nat) (h : rm_H) : Option dR :=
  if dcm o0 o1 = true then
    if dsm o0 o1 = true then
      drI (some .boolean) 1 h
    else
      if dcK L xs h [7, 16] o1 = false then none else
      if mx_f1 .eq (if dnl o1 = true then 0 else 1) = true then
        b151_54 L xs zf D w h
      else
        if dcK L xs h [7, 16] o1 = false then none else
        if mx_f1 .eq 1 = true then
          b151_36 L xs zf D w o0 o1 h
        else
          (dgI L xs h 1 [7, 16] o0).bind fun x10 =>
          (dgI L xs h 1 [7, 16] o1).bind fun x12 =>
          if mx_f2 .ne x10 x12 = true then
            b151_54 L xs zf D w h
          else
            b151_36 L xs zf D w o0 o1 h
  else
    none
theorem c151_0 {L : Nat} {xs : Nat → Int32} {zf : Value} {D : dD} {w k : Nat} (hD : dO L xs zf D k) (hz : zf.category = 1) : ∀ (o0 : Option Nat) (o1 : Option Nat) (lv : rm_L) (h : rm_H) (r : dR), rm_get lv 0 = some (va_rf o0) → rm_get lv 1 = some (va_rf o1) → b151_0 L xs zf D w  o0 o1 h = some r → dq L xs zf ah_M151 0 lv [] h (k + 1) r := by
  intro o0 o1 lv h r G0 G1 hh
  unfold b151_0 at hh
  refine dq_aln 0 1 (by decide +kernel) rfl G0 ?_
  refine dq_aln 1 2 (by decide +kernel) rfl G1 ?_
  rcases di hh with ⟨q2, hh⟩ | ⟨_, hh⟩
  rotate_left
  · cases hh
  rcases di hh with ⟨q1, hh⟩ | ⟨q1, hh⟩
  · refine dq_acmp .ne 5 false 5 q2 (congrArg not q1) (by decide +kernel) (by decide +kernel) ?_
    refine dq_S (.iconst 1) 1 [] 6 _ [.int 1] (by decide +kernel) rfl ?_
    exact dq_retI (some .boolean) (by decide +kernel) rfl hh
  · refine dq_acmp .ne 5 true 7 q2 (congrArg not q1) (by decide +kernel) (by decide +kernel) ?_
    refine dq_aln 1 8 (by decide +kernel) rfl G1 ?_
    rcases dp hh with ⟨_, hh⟩ | ⟨q3, hh⟩
    · cases hh
    refine dq_inst 10 [7, 16] 11 (by decide +kernel) rfl (by rw [Bool.not_eq_false] at q3; exact q3) ?_
    rcases di hh with ⟨q4, hh⟩ | ⟨q4, hh⟩
    · refine dq_1 .eq 43 true 54 q4 (by decide +kernel) ?_
      exact c151_54 hD hz  _ _ _  hh
    · refine dq_1 .eq 43 false 14 q4 (by decide +kernel) ?_
      refine dq_aln 1 15 (by decide +kernel) rfl G1 ?_
      rcases dp hh with ⟨_, hh⟩ | ⟨q5, hh⟩
      · cases hh
      refine dq_cast 10 [7, 16] 18 (by decide +kernel) ⟨rfl, by decide⟩ (by rw [Bool.not_eq_false] at q5; exact q5) ?_
      refine dq_asn 2 19 (by decide +kernel) (by decide +kernel) ?_
      have g6 := dg_ne (i := 2) (u := va_rf o1) (by decide) (Or.inl (by decide)) G0
      have g7 := dg_ne (i := 2) (u := va_rf o1) (by decide) (Or.inr (drc _)) G1
      have g8 := dg_eq (lv) 2 (va_rf o1)
      refine dq_S (.getstatic 38) 3 [0] 22 _ [.int 1] (by decide +kernel) rfl ?_
      rcases di hh with ⟨q9, hh⟩ | ⟨q9, hh⟩
      · refine dq_1 .eq 14 true 36 q9 (by decide +kernel) ?_
        exact c151_36 hD hz _ _ _ _ _ g6 g8 hh
      · refine dq_1 .eq 14 false 25 q9 (by decide +kernel) ?_
        refine dq_aln 0 26 (by decide +kernel) rfl g6 ?_
        obtain ⟨x10, q11, hh⟩ := db hh
        refine dq_gI 15 1 [7, 16] 29 (by decide +kernel) rfl q11 ?_
        refine dq_aln 2 30 (by decide +kernel) rfl g8 ?_
        obtain ⟨x12, q13, hh⟩ := db hh
        refine dq_gI 15 1 [7, 16] 33 (by decide +kernel) rfl q13 ?_
        rcases di hh with ⟨q14, hh⟩ | ⟨q14, hh⟩
        · refine dq_2 .ne 21 true 54 q14 (by decide +kernel) ?_
          exact c151_54 hD hz  _ _ _  hh
        · refine dq_2 .ne 21 false 36 q14 (by decide +kernel) ?_
          exact c151_36 hD hz _ _ _ _ _ g6 g8 hh
def f151 (L : Nat) (xs : Nat → Int32) (zf : Value) (D : dD) (w : Nat) (As : List Value) (h : rm_H) : Option dR := match As with
  | [v0, v1] => (rm_rf v0).bind fun o0 => (rm_rf v1).bind fun o1 => b151_0 L xs zf D w o0 o1 h
  | _ => none
theorem d151 {L : Nat} {xs : Nat → Int32} {zf : Value} {D : dD} {w k : Nat} (hD : dO L xs zf D k) (hz : zf.category = 1) (As : List Value) (h : rm_H) (r : dR) (hh : f151 L xs zf D w As h = some r) : dq L xs zf ah_M151 0 (lv_args 0 As) [] h (k + 1) r := by
  unfold f151 at hh
  split at hh
  · obtain ⟨o0, e0, hb0⟩ := db hh
    have e0 := rm_rf_v _ _ e0
    obtain ⟨o1, e1, hb1⟩ := db hb0
    have e1 := rm_rf_v _ _ e1
    subst e0 e1
    refine c151_0 hD hz _ _ _ _ _ ?_ ?_ hb1
    all_goals (simp only [la_r, la_i, la_j]; rfl)
  · cases hh
def b152_9 (L : Nat) (xs : Nat → Int32) (zf : Value) (D : dD) (w : Nat) : Nat → Option Nat → Option Nat → Int32 → rm_H → Option dR
  | 0, _, _, _, _ => none
  | n + 1, o0, o1, i2, h =>
    (daN L xs h o0).bind fun x1 =>
    if mx_f2 .ge i2 x1 = true then
      drI (some .boolean) 1 h
    else
      (daB L xs h o0 i2).bind fun x4 =>
      (daB L xs h o1 i2).bind fun x6 =>
      if mx_f2 .eq x4 x6 = true then
        b152_9 L xs zf D w n o0 o1 (i2 + 1) h
      else
        drI (some .boolean) 0 h
theorem c152_9 {L : Nat} {xs : Nat → Int32} {zf : Value} {D : dD} {w k : Nat} (hD : dO L xs zf D k) (hz : zf.category = 1) : ∀ (n : Nat) (o0 : Option Nat) (o1 : Option Nat) (i2 : Int32) (lv : rm_L) (h : rm_H) (r : dR), rm_get lv 0 = some (va_rf o0) → rm_get lv 1 = some (va_rf o1) → rm_get lv 2 = some (.int i2) → b152_9 L xs zf D w n  o0 o1 i2 h = some r → dq L xs zf ah_M152 9 lv [] h (k + 1) r := by
  intro n
  induction n with
  | zero =>
    intro o0 o1 i2 lv h r G0 G1 G2 hh
    cases hh
  | succ n ih =>
    intro o0 o1 i2 lv h r G0 G1 G2 hh
    rw [b152_9] at hh
    refine dq_iln 2 10 (by decide +kernel) rfl G2 ?_
    refine dq_aln 0 11 (by decide +kernel) rfl G0 ?_
    obtain ⟨x1, q2, hh⟩ := db hh
    refine dq_aN 12 (by decide +kernel) rfl q2 ?_
    rcases di hh with ⟨q3, hh⟩ | ⟨q3, hh⟩
    · refine dq_2 .ge 20 true 32 q3 (by decide +kernel) ?_
      refine dq_S (.iconst 1) 1 [] 33 _ [.int 1] (by decide +kernel) rfl ?_
      exact dq_retI (some .boolean) (by decide +kernel) rfl hh
    · refine dq_2 .ge 20 false 15 q3 (by decide +kernel) ?_
      refine dq_aln 0 16 (by decide +kernel) rfl G0 ?_
      refine dq_iln 2 17 (by decide +kernel) rfl G2 ?_
      obtain ⟨x4, q5, hh⟩ := db hh
      refine dq_aB 18 (by decide +kernel) rfl q5 ?_
      refine dq_aln 1 19 (by decide +kernel) rfl G1 ?_
      refine dq_iln 2 20 (by decide +kernel) rfl G2 ?_
      obtain ⟨x6, q7, hh⟩ := db hh
      refine dq_aB 21 (by decide +kernel) rfl q7 ?_
      rcases di hh with ⟨q8, hh⟩ | ⟨q8, hh⟩
      · refine dq_2 .eq 5 true 26 q8 (by decide +kernel) ?_
        refine dq_incy 2 1 1 29 (by decide +kernel) ⟨rfl, by decide +kernel, by decide +kernel⟩ G2 ?_
        have g9 := dg_ne (i := 2) (u := .int (i2 + 1)) (by decide) (Or.inl (by decide)) G0
        have g10 := dg_ne (i := 2) (u := .int (i2 + 1)) (by decide) (Or.inr (drc _)) G1
        have g11 := dg_eq (lv) 2 (.int (i2 + 1))
        refine dq_S (.goto (-20)) 3 [] 9 _ [] (by decide +kernel) rfl ?_
        exact ih _ _ _ _ _ _ g9 g10 g11 hh
      · refine dq_2 .eq 5 false 24 q8 (by decide +kernel) ?_
        refine dq_S (.iconst 0) 1 [] 25 _ [.int 0] (by decide +kernel) rfl ?_
        exact dq_retI (some .boolean) (by decide +kernel) rfl hh
def b152_0 (L : Nat) (xs : Nat → Int32) (zf : Value) (D : dD) (w : Nat) (o0 : Option Nat) (o1 : Option Nat) (h : rm_H) : Option dR :=
  (daN L xs h o0).bind fun x1 =>
  (daN L xs h o1).bind fun x3 =>
  if mx_f2 .ne x1 x3 = true then
    drI (some .boolean) 0 h
  else
    b152_9 L xs zf D w w o0 o1 0 h
theorem c152_0 {L : Nat} {xs : Nat → Int32} {zf : Value} {D : dD} {w k : Nat} (hD : dO L xs zf D k) (hz : zf.category = 1) : ∀ (o0 : Option Nat) (o1 : Option Nat) (lv : rm_L) (h : rm_H) (r : dR), rm_get lv 0 = some (va_rf o0) → rm_get lv 1 = some (va_rf o1) → b152_0 L xs zf D w  o0 o1 h = some r → dq L xs zf ah_M152 0 lv [] h (k + 1) r := by
  intro o0 o1 lv h r G0 G1 hh
  unfold b152_0 at hh
  refine dq_aln 0 1 (by decide +kernel) rfl G0 ?_
  obtain ⟨x1, q2, hh⟩ := db hh
  refine dq_aN 2 (by decide +kernel) rfl q2 ?_
  refine dq_aln 1 3 (by decide +kernel) rfl G1 ?_
  obtain ⟨x3, q4, hh⟩ := db hh
  refine dq_aN 4 (by decide +kernel) rfl q4 ?_
  rcases di hh with ⟨q5, hh⟩ | ⟨q5, hh⟩
  · refine dq_2 .ne 30 true 34 q5 (by decide +kernel) ?_
    refine dq_S (.iconst 0) 1 [] 35 _ [.int 0] (by decide +kernel) rfl ?_
    exact dq_retI (some .boolean) (by decide +kernel) rfl hh
  · refine dq_2 .ne 30 false 7 q5 (by decide +kernel) ?_
    refine dq_S (.iconst 0) 1 [] 8 _ [.int 0] (by decide +kernel) rfl ?_
    refine dq_isn 2 9 (by decide +kernel) (by decide +kernel) ?_
    have g6 := dg_ne (i := 2) (u := .int 0) (by decide) (Or.inl (by decide)) G0
    have g7 := dg_ne (i := 2) (u := .int 0) (by decide) (Or.inr (drc _)) G1
    have g8 := dg_eq (lv) 2 (.int 0)
    exact c152_9 hD hz _ _ _ _ _ _ _ g6 g7 g8 hh
def f152 (L : Nat) (xs : Nat → Int32) (zf : Value) (D : dD) (w : Nat) (As : List Value) (h : rm_H) : Option dR := match As with
  | [v0, v1] => (rm_rf v0).bind fun o0 => (rm_rf v1).bind fun o1 => b152_0 L xs zf D w o0 o1 h
  | _ => none
theorem d152 {L : Nat} {xs : Nat → Int32} {zf : Value} {D : dD} {w k : Nat} (hD : dO L xs zf D k) (hz : zf.category = 1) (As : List Value) (h : rm_H) (r : dR) (hh : f152 L xs zf D w As h = some r) : dq L xs zf ah_M152 0 (lv_args 0 As) [] h (k + 1) r := by
  unfold f152 at hh
  split at hh
  · obtain ⟨o0, e0, hb0⟩ := db hh
    have e0 := rm_rf_v _ _ e0
    obtain ⟨o1, e1, hb1⟩ := db hb0
    have e1 := rm_rf_v _ _ e1
    subst e0 e1
    refine c152_0 hD hz _ _ _ _ _ ?_ ?_ hb1
    all_goals (simp only [la_r, la_i, la_j]; rfl)
  · cases hh
def b153_0 (L : Nat) (xs : Nat → Int32) (zf : Value) (D : dD) (w : Nat) (i0 : Int32) (i1 : Int32) (i2 : Int32) (h : rm_H) : Option dR :=
  drI (some .int) ((i0 ||| (i1 <<< ((4 : Int32) &&& 31))) ||| (i2 <<< ((8 : Int32) &&& 31))) h
theorem c153_0 {L : Nat} {xs : Nat → Int32} {zf : Value} {D : dD} {w k : Nat} (hD : dO L xs zf D k) (hz : zf.category = 1) : ∀ (i0 : Int32) (i1 : Int32) (i2 : Int32) (lv : rm_L) (h : rm_H) (r : dR), rm_get lv 0 = some (.int i0) → rm_get lv 1 = some (.int i1) → rm_get lv 2 = some (.int i2) → b153_0 L xs zf D w  i0 i1 i2 h = some r → dq L xs zf ah_M153 0 lv [] h (k + 1) r := by
  intro i0 i1 i2 lv h r G0 G1 G2 hh
  unfold b153_0 at hh
  refine dq_iln 0 1 (by decide +kernel) rfl G0 ?_
  refine dq_iln 1 2 (by decide +kernel) rfl G1 ?_
  refine dq_S (.iconst 4) 1 [] 3 _ [.int 4, .int i1, .int i0] (by decide +kernel) rfl ?_
  refine dq_S (.ishl) 1 [] 4 _ [.int (i1 <<< ((4 : Int32) &&& 31)), .int i0] (by decide +kernel) rfl ?_
  refine dq_S (.ior) 1 [] 5 _ [.int (i0 ||| (i1 <<< ((4 : Int32) &&& 31)))] (by decide +kernel) rfl ?_
  refine dq_iln 2 6 (by decide +kernel) rfl G2 ?_
  refine dq_S (.bipush 8) 2 [] 8 _ [.int 8, .int i2, .int (i0 ||| (i1 <<< ((4 : Int32) &&& 31)))] (by decide +kernel) rfl ?_
  refine dq_S (.ishl) 1 [] 9 _ [.int (i2 <<< ((8 : Int32) &&& 31)), .int (i0 ||| (i1 <<< ((4 : Int32) &&& 31)))] (by decide +kernel) rfl ?_
  refine dq_S (.ior) 1 [] 10 _ [.int ((i0 ||| (i1 <<< ((4 : Int32) &&& 31))) ||| (i2 <<< ((8 : Int32) &&& 31)))] (by decide +kernel) rfl ?_
  exact dq_retI (some .int) (by decide +kernel) rfl hh
def f153 (L : Nat) (xs : Nat → Int32) (zf : Value) (D : dD) (w : Nat) (As : List Value) (h : rm_H) : Option dR := match As with
  | [.int i0, .int i1, .int i2] => b153_0 L xs zf D w i0 i1 i2 h
  | _ => none
theorem d153 {L : Nat} {xs : Nat → Int32} {zf : Value} {D : dD} {w k : Nat} (hD : dO L xs zf D k) (hz : zf.category = 1) (As : List Value) (h : rm_H) (r : dR) (hh : f153 L xs zf D w As h = some r) : dq L xs zf ah_M153 0 (lv_args 0 As) [] h (k + 1) r := by
  unfold f153 at hh
  split at hh
  · refine c153_0 hD hz _ _ _ _ _ _ ?_ ?_ ?_ hh
    all_goals (simp only [la_r, la_i, la_j]; rfl)
  · cases hh
def b154_69 (L : Nat) (xs : Nat → Int32) (zf : Value) (D : dD) (w : Nat) (K2 : Option Nat → Option Nat → Int32 → rm_H → Option dR) (K14 : Option Nat → Option Nat → Int32 → Int32 → rm_H → Option dR) (o0 : Option Nat) (o1 : Option Nat) (i2 : Int32) (i3 : Int32) (h : rm_H) : Option dR :=
  K14 o0 o1 i2 (i3 + 1) h
theorem c154_69 {L : Nat} {xs : Nat → Int32} {zf : Value} {D : dD} {w k : Nat} {K2 : Option Nat → Option Nat → Int32 → rm_H → Option dR} {K14 : Option Nat → Option Nat → Int32 → Int32 → rm_H → Option dR} (hD : dO L xs zf D k) (hz : zf.category = 1) (hK2 : ∀ (o0 : Option Nat) (o1 : Option Nat) (i2 : Int32) (lv : rm_L) (h : rm_H) (r : dR), rm_get lv 0 = some (va_rf o0) → rm_get lv 1 = some (va_rf o1) → rm_get lv 2 = some (.int i2) → K2 o0 o1 i2 h = some r → dq L xs zf ah_M154 2 lv [] h (k + 1) r) (hK14 : ∀ (o0 : Option Nat) (o1 : Option Nat) (i2 : Int32) (i3 : Int32) (lv : rm_L) (h : rm_H) (r : dR), rm_get lv 0 = some (va_rf o0) → rm_get lv 1 = some (va_rf o1) → rm_get lv 2 = some (.int i2) → rm_get lv 3 = some (.int i3) → K14 o0 o1 i2 i3 h = some r → dq L xs zf ah_M154 14 lv [] h (k + 1) r) : ∀ (o0 : Option Nat) (o1 : Option Nat) (i2 : Int32) (i3 : Int32) (lv : rm_L) (h : rm_H) (r : dR), rm_get lv 0 = some (va_rf o0) → rm_get lv 1 = some (va_rf o1) → rm_get lv 2 = some (.int i2) → rm_get lv 3 = some (.int i3) → b154_69 L xs zf D w K2 K14  o0 o1 i2 i3 h = some r → dq L xs zf ah_M154 69 lv [] h (k + 1) r := by
  intro o0 o1 i2 i3 lv h r G0 G1 G2 G3 hh
  unfold b154_69 at hh
  refine dq_incy 3 1 1 72 (by decide +kernel) ⟨rfl, by decide +kernel, by decide +kernel⟩ G3 ?_
  have g1 := dg_ne (i := 3) (u := .int (i3 + 1)) (by decide) (Or.inl (by decide)) G0
  have g2 := dg_ne (i := 3) (u := .int (i3 + 1)) (by decide) (Or.inl (by decide)) G1
  have g3 := dg_ne (i := 3) (u := .int (i3 + 1)) (by decide) (Or.inr rfl) G2
  have g4 := dg_eq (lv) 3 (.int (i3 + 1))
  refine dq_S (.goto (-58)) 3 [] 14 _ [] (by decide +kernel) rfl ?_
  exact hK14 _ _ _ _ _ _ _ g1 g2 g3 g4 hh
def b154_14 (L : Nat) (xs : Nat → Int32) (zf : Value) (D : dD) (w : Nat) (K2 : Option Nat → Option Nat → Int32 → rm_H → Option dR) : Nat → Option Nat → Option Nat → Int32 → Int32 → rm_H → Option dR
  | 0, _, _, _, _, _ => none
  | n + 1, o0, o1, i2, i3, h =>
    if mx_f2 .ge i3 i2 = true then
      K2 o0 o1 (i2 + 1) h
    else
      ((dcV L xs D 146 [5] o1 [.int i3] h).bind dxR).bind fun p6 =>
      if dcK L xs p6.2 [10] p6.1 = false then none else
      (dgR L xs p6.2 0 [10] p6.1).bind fun p11 =>
      ((dcV L xs D 146 [5] o1 [.int i2] p6.2).bind dxR).bind fun p13 =>
      if dcK L xs p13.2 [10] p13.1 = false then none else
      (dgR L xs p13.2 0 [10] p13.1).bind fun p18 =>
      ((dcV L xs D 151 [7, 16] p11 [va_rf p18] p13.2).bind dxI).bind fun x20 =>
      if mx_f1 .eq x20.1 = true then
        b154_69 L xs zf D w K2 (b154_14 L xs zf D w K2 n) o0 o1 i2 i3 x20.2
      else
        ((dcV L xs D 146 [5] o1 [.int i2] x20.2).bind dxR).bind fun p25 =>
        if dcK L xs p25.2 [10] p25.1 = false then none else
        (dgI L xs p25.2 1 [10] p25.1).bind fun x30 =>
        ((dcV L xs D 144 [4] o0 [.int 2, .int x30] p25.2).bind dxV).bind fun h32 =>
        b154_69 L xs zf D w K2 (b154_14 L xs zf D w K2 n) o0 o1 i2 i3 h32
theorem c154_14 {L : Nat} {xs : Nat → Int32} {zf : Value} {D : dD} {w k : Nat} {K2 : Option Nat → Option Nat → Int32 → rm_H → Option dR} (hD : dO L xs zf D k) (hz : zf.category = 1) (hK2 : ∀ (o0 : Option Nat) (o1 : Option Nat) (i2 : Int32) (lv : rm_L) (h : rm_H) (r : dR), rm_get lv 0 = some (va_rf o0) → rm_get lv 1 = some (va_rf o1) → rm_get lv 2 = some (.int i2) → K2 o0 o1 i2 h = some r → dq L xs zf ah_M154 2 lv [] h (k + 1) r) : ∀ (n : Nat) (o0 : Option Nat) (o1 : Option Nat) (i2 : Int32) (i3 : Int32) (lv : rm_L) (h : rm_H) (r : dR), rm_get lv 0 = some (va_rf o0) → rm_get lv 1 = some (va_rf o1) → rm_get lv 2 = some (.int i2) → rm_get lv 3 = some (.int i3) → b154_14 L xs zf D w K2 n  o0 o1 i2 i3 h = some r → dq L xs zf ah_M154 14 lv [] h (k + 1) r := by
  intro n
  induction n with
  | zero =>
    intro o0 o1 i2 i3 lv h r G0 G1 G2 G3 hh
    cases hh
  | succ n ih =>
    intro o0 o1 i2 i3 lv h r G0 G1 G2 G3 hh
    rw [b154_14] at hh
    refine dq_iln 3 15 (by decide +kernel) rfl G3 ?_
    refine dq_iln 2 16 (by decide +kernel) rfl G2 ?_
    rcases di hh with ⟨q1, hh⟩ | ⟨q1, hh⟩
    · refine dq_2 .ge 59 true 75 q1 (by decide +kernel) ?_
      refine dq_incy 2 1 1 78 (by decide +kernel) ⟨rfl, by decide +kernel, by decide +kernel⟩ G2 ?_
      have g2 := dg_ne (i := 2) (u := .int (i2 + 1)) (by decide) (Or.inl (by decide)) G0
      have g3 := dg_ne (i := 2) (u := .int (i2 + 1)) (by decide) (Or.inr (drc _)) G1
      have g4 := dg_ne (i := 2) (u := .int (i2 + 1)) (by decide) (Or.inl (by decide)) G3
      have g5 := dg_eq (lv) 2 (.int (i2 + 1))
      refine dq_S (.goto (-76)) 3 [] 2 _ [] (by decide +kernel) rfl ?_
      exact hK2 _ _ _ _ _ _ g2 g3 g5 hh
    · refine dq_2 .ge 59 false 19 q1 (by decide +kernel) ?_
      refine dq_aln 1 20 (by decide +kernel) rfl G1 ?_
      refine dq_iln 3 21 (by decide +kernel) rfl G3 ?_
      obtain ⟨p6, q7, hh⟩ := db hh
      obtain ⟨a8, q9, q7⟩ := db q7
      rw [dq_xR q7] at q9
      refine dq_cif hD 59 2 146 7 1 [5] o1 [.int i3] [] 26 [va_rf p6.1] (by decide +kernel) ap_146 ⟨⟨Nat.le_of_ble_eq_true rfl, by decide⟩, rfl, rfl⟩ (dq_ok8 [1, 1] [] (dc_r (dc_i dc_n)) dc_n (by decide +kernel)) (by decide +kernel) rfl q9 rfl ?_
      rcases dp hh with ⟨_, hh⟩ | ⟨q10, hh⟩
      · cases hh
      refine dq_cast 70 [10] 29 (by decide +kernel) ⟨rfl, by decide⟩ (by rw [Bool.not_eq_false] at q10; exact q10) ?_
      obtain ⟨p11, q12, hh⟩ := db hh
      refine dq_gR 149 0 [10] 32 (by decide +kernel) rfl q12 ?_
      refine dq_aln 1 33 (by decide +kernel) rfl G1 ?_
      refine dq_iln 2 34 (by decide +kernel) rfl G2 ?_
      obtain ⟨p13, q14, hh⟩ := db hh
      obtain ⟨a15, q16, q14⟩ := db q14
      rw [dq_xR q14] at q16
      refine dq_cif hD 59 2 146 7 1 [5] o1 [.int i2] [va_rf p11] 39 [va_rf p13.1, va_rf p11] (by decide +kernel) ap_146 ⟨⟨Nat.le_of_ble_eq_true rfl, by decide⟩, rfl, rfl⟩ (dq_ok8 [1, 1] [1] (dc_r (dc_i dc_n)) (dc_r dc_n) (by decide +kernel)) (by decide +kernel) rfl q16 rfl ?_
      rcases dp hh with ⟨_, hh⟩ | ⟨q17, hh⟩
      · cases hh
      refine dq_cast 70 [10] 42 (by decide +kernel) ⟨rfl, by decide⟩ (by rw [Bool.not_eq_false] at q17; exact q17) ?_
      obtain ⟨p18, q19, hh⟩ := db hh
      refine dq_gR 149 0 [10] 45 (by decide +kernel) rfl q19 ?_
      obtain ⟨x20, q21, hh⟩ := db hh
      obtain ⟨a22, q23, q21⟩ := db q21
      rw [dq_xI q21] at q23
      refine dq_cvi hD 120 151 5 1 [7, 16] p11 [va_rf p18] [] 48 [.int x20.1] (by decide +kernel) ap_151 ⟨⟨Nat.le_of_ble_eq_true rfl, by decide⟩, rfl, rfl⟩ (dq_ok8 [1, 1] [] (dc_r (dc_r dc_n)) dc_n (by decide +kernel)) (by decide +kernel) rfl q23 rfl ?_
      rcases di hh with ⟨q24, hh⟩ | ⟨q24, hh⟩
      · refine dq_1 .eq 21 true 69 q24 (by decide +kernel) ?_
        exact c154_69 hD hz hK2 ih _ _ _ _ _ _ _ G0 G1 G2 G3 hh
      · refine dq_1 .eq 21 false 51 q24 (by decide +kernel) ?_
        refine dq_aln 0 52 (by decide +kernel) rfl G0 ?_
        refine dq_S (.iconst 2) 1 [] 53 _ [.int 2, va_rf o0] (by decide +kernel) rfl ?_
        refine dq_aln 1 54 (by decide +kernel) rfl G1 ?_
        refine dq_iln 2 55 (by decide +kernel) rfl G2 ?_
        obtain ⟨p25, q26, hh⟩ := db hh
        obtain ⟨a27, q28, q26⟩ := db q26
        rw [dq_xR q26] at q28
        refine dq_cif hD 59 2 146 7 1 [5] o1 [.int i2] [.int 2, va_rf o0] 60 [va_rf p25.1, .int 2, va_rf o0] (by decide +kernel) ap_146 ⟨⟨Nat.le_of_ble_eq_true rfl, by decide⟩, rfl, rfl⟩ (dq_ok8 [1, 1] [1, 1] (dc_r (dc_i dc_n)) (dc_i (dc_r dc_n)) (by decide +kernel)) (by decide +kernel) rfl q28 rfl ?_
        rcases dp hh with ⟨_, hh⟩ | ⟨q29, hh⟩
        · cases hh
        refine dq_cast 70 [10] 63 (by decide +kernel) ⟨rfl, by decide⟩ (by rw [Bool.not_eq_false] at q29; exact q29) ?_
        obtain ⟨x30, q31, hh⟩ := db hh
        refine dq_gI 152 1 [10] 66 (by decide +kernel) rfl q31 ?_
        obtain ⟨h32, q33, hh⟩ := db hh
        obtain ⟨a34, q35, q33⟩ := db q33
        rw [dq_xV q33] at q35
        refine dq_cvi hD 87 144 5 2 [4] o0 [.int 2, .int x30] [] 69 [] (by decide +kernel) ap_144 ⟨⟨Nat.le_of_ble_eq_true rfl, by decide⟩, rfl, rfl⟩ (dq_ok8 [1, 1, 1] [] (dc_r (dc_i (dc_i dc_n))) dc_n (by decide +kernel)) (by decide +kernel) rfl q35 rfl ?_
        exact c154_69 hD hz hK2 ih _ _ _ _ _ _ _ G0 G1 G2 G3 hh
def b154_2 (L : Nat) (xs : Nat → Int32) (zf : Value) (D : dD) (w : Nat) : Nat → Option Nat → Option Nat → Int32 → rm_H → Option dR
  | 0, _, _, _, _ => none
  | n + 1, o0, o1, i2, h =>
    ((dcV L xs D 101 [5] o1 [] h).bind dxI).bind fun x1 =>
    if mx_f2 .ge i2 x1.1 = true then
      some (none, x1.2)
    else
      b154_14 L xs zf D w (b154_2 L xs zf D w n) w o0 o1 i2 0 x1.2
theorem c154_2 {L : Nat} {xs : Nat → Int32} {zf : Value} {D : dD} {w k : Nat} (hD : dO L xs zf D k) (hz : zf.category = 1) : ∀ (n : Nat) (o0 : Option Nat) (o1 : Option Nat) (i2 : Int32) (lv : rm_L) (h : rm_H) (r : dR), rm_get lv 0 = some (va_rf o0) → rm_get lv 1 = some (va_rf o1) → rm_get lv 2 = some (.int i2) → b154_2 L xs zf D w n  o0 o1 i2 h = some r → dq L xs zf ah_M154 2 lv [] h (k + 1) r := by
  intro n
  induction n with
  | zero =>
    intro o0 o1 i2 lv h r G0 G1 G2 hh
    cases hh
  | succ n ih =>
    intro o0 o1 i2 lv h r G0 G1 G2 hh
    rw [b154_2] at hh
    refine dq_iln 2 3 (by decide +kernel) rfl G2 ?_
    refine dq_aln 1 4 (by decide +kernel) rfl G1 ?_
    obtain ⟨x1, q2, hh⟩ := db hh
    obtain ⟨a3, q4, q2⟩ := db q2
    rw [dq_xI q2] at q4
    refine dq_cif hD 54 1 101 7 0 [5] o1 [] [.int i2] 9 [.int x1.1, .int i2] (by decide +kernel) ap_101 ⟨⟨Nat.le_of_ble_eq_true rfl, by decide⟩, rfl, rfl⟩ (dq_ok8 [1] [1] (dc_r dc_n) (dc_i dc_n) (by decide +kernel)) (by decide +kernel) rfl q4 rfl ?_
    rcases di hh with ⟨q5, hh⟩ | ⟨q5, hh⟩
    · refine dq_2 .ge 72 true 81 q5 (by decide +kernel) ?_
      cases hh
      exact dq_ret0 (by decide +kernel) rfl
    · refine dq_2 .ge 72 false 12 q5 (by decide +kernel) ?_
      refine dq_S (.iconst 0) 1 [] 13 _ [.int 0] (by decide +kernel) rfl ?_
      refine dq_isn 3 14 (by decide +kernel) (by decide +kernel) ?_
      have g6 := dg_ne (i := 3) (u := .int 0) (by decide) (Or.inl (by decide)) G0
      have g7 := dg_ne (i := 3) (u := .int 0) (by decide) (Or.inl (by decide)) G1
      have g8 := dg_ne (i := 3) (u := .int 0) (by decide) (Or.inr rfl) G2
      have g9 := dg_eq (lv) 3 (.int 0)
      exact c154_14 hD hz ih _ _ _ _ _ _ _ _ g6 g7 g8 g9 hh
def b154_0 (L : Nat) (xs : Nat → Int32) (zf : Value) (D : dD) (w : Nat) (o0 : Option Nat) (o1 : Option Nat) (h : rm_H) : Option dR :=
  b154_2 L xs zf D w w o0 o1 0 h
theorem c154_0 {L : Nat} {xs : Nat → Int32} {zf : Value} {D : dD} {w k : Nat} (hD : dO L xs zf D k) (hz : zf.category = 1) : ∀ (o0 : Option Nat) (o1 : Option Nat) (lv : rm_L) (h : rm_H) (r : dR), rm_get lv 0 = some (va_rf o0) → rm_get lv 1 = some (va_rf o1) → b154_0 L xs zf D w  o0 o1 h = some r → dq L xs zf ah_M154 0 lv [] h (k + 1) r := by
  intro o0 o1 lv h r G0 G1 hh
  unfold b154_0 at hh
  refine dq_S (.iconst 0) 1 [] 1 _ [.int 0] (by decide +kernel) rfl ?_
  refine dq_isn 2 2 (by decide +kernel) (by decide +kernel) ?_
  have g1 := dg_ne (i := 2) (u := .int 0) (by decide) (Or.inl (by decide)) G0
  have g2 := dg_ne (i := 2) (u := .int 0) (by decide) (Or.inr (drc _)) G1
  have g3 := dg_eq (lv) 2 (.int 0)
  exact c154_2 hD hz _ _ _ _ _ _ _ g1 g2 g3 hh
def f154 (L : Nat) (xs : Nat → Int32) (zf : Value) (D : dD) (w : Nat) (As : List Value) (h : rm_H) : Option dR := match As with
  | [v0, v1] => (rm_rf v0).bind fun o0 => (rm_rf v1).bind fun o1 => b154_0 L xs zf D w o0 o1 h
  | _ => none
theorem d154 {L : Nat} {xs : Nat → Int32} {zf : Value} {D : dD} {w k : Nat} (hD : dO L xs zf D k) (hz : zf.category = 1) (As : List Value) (h : rm_H) (r : dR) (hh : f154 L xs zf D w As h = some r) : dq L xs zf ah_M154 0 (lv_args 0 As) [] h (k + 1) r := by
  unfold f154 at hh
  split at hh
  · obtain ⟨o0, e0, hb0⟩ := db hh
    have e0 := rm_rf_v _ _ e0
    obtain ⟨o1, e1, hb1⟩ := db hb0
    have e1 := rm_rf_v _ _ e1
    subst e0 e1
    refine c154_0 hD hz _ _ _ _ _ ?_ ?_ hb1
    all_goals (simp only [la_r, la_i, la_j]; rfl)
  · cases hh
def b155_54 (L : Nat) (xs : Nat → Int32) (zf : Value) (D : dD) (w : Nat) (K2 : Option Nat → Option Nat → Int32 → rm_H → Option dR) (o0 : Option Nat) (o1 : Option Nat) (i2 : Int32) (h : rm_H) : Option dR :=
  K2 o0 o1 (i2 + 1) h
theorem c155_54 {L : Nat} {xs : Nat → Int32} {zf : Value} {D : dD} {w k : Nat} {K2 : Option Nat → Option Nat → Int32 → rm_H → Option dR} (hD : dO L xs zf D k) (hz : zf.category = 1) (hK2 : ∀ (o0 : Option Nat) (o1 : Option Nat) (i2 : Int32) (lv : rm_L) (h : rm_H) (r : dR), rm_get lv 0 = some (va_rf o0) → rm_get lv 1 = some (va_rf o1) → rm_get lv 2 = some (.int i2) → K2 o0 o1 i2 h = some r → dq L xs zf ah_M155 2 lv [] h (k + 1) r) : ∀ (o0 : Option Nat) (o1 : Option Nat) (i2 : Int32) (lv : rm_L) (h : rm_H) (r : dR), rm_get lv 0 = some (va_rf o0) → rm_get lv 1 = some (va_rf o1) → rm_get lv 2 = some (.int i2) → b155_54 L xs zf D w K2  o0 o1 i2 h = some r → dq L xs zf ah_M155 54 lv [] h (k + 1) r := by
  intro o0 o1 i2 lv h r G0 G1 G2 hh
  unfold b155_54 at hh
  refine dq_incy 2 1 1 57 (by decide +kernel) ⟨rfl, by decide +kernel, by decide +kernel⟩ G2 ?_
  have g1 := dg_ne (i := 2) (u := .int (i2 + 1)) (by decide) (Or.inl (by decide)) G0
  have g2 := dg_ne (i := 2) (u := .int (i2 + 1)) (by decide) (Or.inr (drc _)) G1
  have g3 := dg_eq (lv) 2 (.int (i2 + 1))
  refine dq_S (.goto (-55)) 3 [] 2 _ [] (by decide +kernel) rfl ?_
  exact hK2 _ _ _ _ _ _ g1 g2 g3 hh
def b155_2 (L : Nat) (xs : Nat → Int32) (zf : Value) (D : dD) (w : Nat) : Nat → Option Nat → Option Nat → Int32 → rm_H → Option dR
  | 0, _, _, _, _ => none
  | n + 1, o0, o1, i2, h =>
    (dgR L xs h 5 [9] o1).bind fun p1 =>
    ((dcV L xs D 101 [5] p1 [] h).bind dxI).bind fun x3 =>
    if mx_f2 .ge i2 x3.1 = true then
      some (none, x3.2)
    else
      (dgR L xs x3.2 5 [9] o1).bind fun p8 =>
      ((dcV L xs D 146 [5] p8 [.int i2] x3.2).bind dxR).bind fun p10 =>
      if dcK L xs p10.2 [11] p10.1 = false then none else
      (dgR L xs p10.2 3 [11] p10.1).bind fun p19 =>
      (dgI L xs p10.2 0 [11] p10.1).bind fun x21 =>
      ((dcV L xs D 156 [9] o1 [va_rf p19, .int x21] p10.2).bind dxR).bind fun p23 =>
      if dcm p23.1 p10.1 = true then
        if dsm p23.1 p10.1 = true then
          b155_54 L xs zf D w (b155_2 L xs zf D w n) o0 o1 i2 p23.2
        else
          (dgI L xs p23.2 4 [11] p10.1).bind fun x29 =>
          ((dcV L xs D 144 [4] o0 [.int 2, .int x29] p23.2).bind dxV).bind fun h31 =>
          b155_54 L xs zf D w (b155_2 L xs zf D w n) o0 o1 i2 h31
      else
        none
theorem c155_2 {L : Nat} {xs : Nat → Int32} {zf : Value} {D : dD} {w k : Nat} (hD : dO L xs zf D k) (hz : zf.category = 1) : ∀ (n : Nat) (o0 : Option Nat) (o1 : Option Nat) (i2 : Int32) (lv : rm_L) (h : rm_H) (r : dR), rm_get lv 0 = some (va_rf o0) → rm_get lv 1 = some (va_rf o1) → rm_get lv 2 = some (.int i2) → b155_2 L xs zf D w n  o0 o1 i2 h = some r → dq L xs zf ah_M155 2 lv [] h (k + 1) r := by
  intro n
  induction n with
  | zero =>
    intro o0 o1 i2 lv h r G0 G1 G2 hh
    cases hh
  | succ n ih =>
    intro o0 o1 i2 lv h r G0 G1 G2 hh
    rw [b155_2] at hh
    refine dq_iln 2 3 (by decide +kernel) rfl G2 ?_
    refine dq_aln 1 4 (by decide +kernel) rfl G1 ?_
    obtain ⟨p1, q2, hh⟩ := db hh
    refine dq_gR 153 5 [9] 7 (by decide +kernel) rfl q2 ?_
    obtain ⟨x3, q4, hh⟩ := db hh
    obtain ⟨a5, q6, q4⟩ := db q4
    rw [dq_xI q4] at q6
    refine dq_cif hD 54 1 101 7 0 [5] p1 [] [.int i2] 12 [.int x3.1, .int i2] (by decide +kernel) ap_101 ⟨⟨Nat.le_of_ble_eq_true rfl, by decide⟩, rfl, rfl⟩ (dq_ok8 [1] [1] (dc_r dc_n) (dc_i dc_n) (by decide +kernel)) (by decide +kernel) rfl q6 rfl ?_
    rcases di hh with ⟨q7, hh⟩ | ⟨q7, hh⟩
    · refine dq_2 .ge 48 true 60 q7 (by decide +kernel) ?_
      cases hh
      exact dq_ret0 (by decide +kernel) rfl
    · refine dq_2 .ge 48 false 15 q7 (by decide +kernel) ?_
      refine dq_aln 1 16 (by decide +kernel) rfl G1 ?_
      obtain ⟨p8, q9, hh⟩ := db hh
      refine dq_gR 153 5 [9] 19 (by decide +kernel) rfl q9 ?_
      refine dq_iln 2 20 (by decide +kernel) rfl G2 ?_
      obtain ⟨p10, q11, hh⟩ := db hh
      obtain ⟨a12, q13, q11⟩ := db q11
      rw [dq_xR q11] at q13
      refine dq_cif hD 59 2 146 7 1 [5] p8 [.int i2] [] 25 [va_rf p10.1] (by decide +kernel) ap_146 ⟨⟨Nat.le_of_ble_eq_true rfl, by decide⟩, rfl, rfl⟩ (dq_ok8 [1, 1] [] (dc_r (dc_i dc_n)) dc_n (by decide +kernel)) (by decide +kernel) rfl q13 rfl ?_
      rcases dp hh with ⟨_, hh⟩ | ⟨q14, hh⟩
      · cases hh
      refine dq_cast 68 [11] 28 (by decide +kernel) ⟨rfl, by decide⟩ (by rw [Bool.not_eq_false] at q14; exact q14) ?_
      refine dq_asn 3 29 (by decide +kernel) (by decide +kernel) ?_
      have g15 := dg_ne (i := 3) (u := va_rf p10.1) (by decide) (Or.inl (by decide)) G0
      have g16 := dg_ne (i := 3) (u := va_rf p10.1) (by decide) (Or.inl (by decide)) G1
      have g17 := dg_ne (i := 3) (u := va_rf p10.1) (by decide) (Or.inr rfl) G2
      have g18 := dg_eq (lv) 3 (va_rf p10.1)
      refine dq_aln 1 30 (by decide +kernel) rfl g16 ?_
      refine dq_aln 3 31 (by decide +kernel) rfl g18 ?_
      obtain ⟨p19, q20, hh⟩ := db hh
      refine dq_gR 154 3 [11] 34 (by decide +kernel) rfl q20 ?_
      refine dq_aln 3 35 (by decide +kernel) rfl g18 ?_
      obtain ⟨x21, q22, hh⟩ := db hh
      refine dq_gI 155 0 [11] 38 (by decide +kernel) rfl q22 ?_
      obtain ⟨p23, q24, hh⟩ := db hh
      obtain ⟨a25, q26, q24⟩ := db q24
      rw [dq_xR q24] at q26
      refine dq_cvi hD 158 156 5 2 [9] o1 [va_rf p19, .int x21] [] 41 [va_rf p23.1] (by decide +kernel) ap_156 ⟨⟨Nat.le_of_ble_eq_true rfl, by decide⟩, rfl, rfl⟩ (dq_ok8 [1, 1, 1] [] (dc_r (dc_r (dc_i dc_n))) dc_n (by decide +kernel)) (by decide +kernel) rfl q26 rfl ?_
      refine dq_aln 3 42 (by decide +kernel) rfl g18 ?_
      rcases di hh with ⟨q28, hh⟩ | ⟨_, hh⟩
      rotate_left
      · cases hh
      rcases di hh with ⟨q27, hh⟩ | ⟨q27, hh⟩
      · refine dq_acmp .eq 12 true 54 q28 q27 (by decide +kernel) (by decide +kernel) ?_
        exact c155_54 hD hz ih _ _ _ _ _ _ g15 g16 g17 hh
      · refine dq_acmp .eq 12 false 45 q28 q27 (by decide +kernel) (by decide +kernel) ?_
        refine dq_aln 0 46 (by decide +kernel) rfl g15 ?_
        refine dq_S (.iconst 2) 1 [] 47 _ [.int 2, va_rf o0] (by decide +kernel) rfl ?_
        refine dq_aln 3 48 (by decide +kernel) rfl g18 ?_
        obtain ⟨x29, q30, hh⟩ := db hh
        refine dq_gI 162 4 [11] 51 (by decide +kernel) rfl q30 ?_
        obtain ⟨h31, q32, hh⟩ := db hh
        obtain ⟨a33, q34, q32⟩ := db q32
        rw [dq_xV q32] at q34
        refine dq_cvi hD 87 144 5 2 [4] o0 [.int 2, .int x29] [] 54 [] (by decide +kernel) ap_144 ⟨⟨Nat.le_of_ble_eq_true rfl, by decide⟩, rfl, rfl⟩ (dq_ok8 [1, 1, 1] [] (dc_r (dc_i (dc_i dc_n))) dc_n (by decide +kernel)) (by decide +kernel) rfl q34 rfl ?_
        exact c155_54 hD hz ih _ _ _ _ _ _ g15 g16 g17 hh
def b155_0 (L : Nat) (xs : Nat → Int32) (zf : Value) (D : dD) (w : Nat) (o0 : Option Nat) (o1 : Option Nat) (h : rm_H) : Option dR :=
  b155_2 L xs zf D w w o0 o1 0 h
theorem c155_0 {L : Nat} {xs : Nat → Int32} {zf : Value} {D : dD} {w k : Nat} (hD : dO L xs zf D k) (hz : zf.category = 1) : ∀ (o0 : Option Nat) (o1 : Option Nat) (lv : rm_L) (h : rm_H) (r : dR), rm_get lv 0 = some (va_rf o0) → rm_get lv 1 = some (va_rf o1) → b155_0 L xs zf D w  o0 o1 h = some r → dq L xs zf ah_M155 0 lv [] h (k + 1) r := by
  intro o0 o1 lv h r G0 G1 hh
  unfold b155_0 at hh
  refine dq_S (.iconst 0) 1 [] 1 _ [.int 0] (by decide +kernel) rfl ?_
  refine dq_isn 2 2 (by decide +kernel) (by decide +kernel) ?_
  have g1 := dg_ne (i := 2) (u := .int 0) (by decide) (Or.inl (by decide)) G0
  have g2 := dg_ne (i := 2) (u := .int 0) (by decide) (Or.inr (drc _)) G1
  have g3 := dg_eq (lv) 2 (.int 0)
  exact c155_2 hD hz _ _ _ _ _ _ _ g1 g2 g3 hh
def f155 (L : Nat) (xs : Nat → Int32) (zf : Value) (D : dD) (w : Nat) (As : List Value) (h : rm_H) : Option dR := match As with
  | [v0, v1] => (rm_rf v0).bind fun o0 => (rm_rf v1).bind fun o1 => b155_0 L xs zf D w o0 o1 h
  | _ => none
theorem d155 {L : Nat} {xs : Nat → Int32} {zf : Value} {D : dD} {w k : Nat} (hD : dO L xs zf D k) (hz : zf.category = 1) (As : List Value) (h : rm_H) (r : dR) (hh : f155 L xs zf D w As h = some r) : dq L xs zf ah_M155 0 (lv_args 0 As) [] h (k + 1) r := by
  unfold f155 at hh
  split at hh
  · obtain ⟨o0, e0, hb0⟩ := db hh
    have e0 := rm_rf_v _ _ e0
    obtain ⟨o1, e1, hb1⟩ := db hb0
    have e1 := rm_rf_v _ _ e1
    subst e0 e1
    refine c155_0 hD hz _ _ _ _ _ ?_ ?_ hb1
    all_goals (simp only [la_r, la_i, la_j]; rfl)
  · cases hh
def b156_57 (L : Nat) (xs : Nat → Int32) (zf : Value) (D : dD) (w : Nat) (s0 : Option Nat) (h : rm_H) : Option dR :=
  some (some (va_rf s0), h)
theorem c156_57 {L : Nat} {xs : Nat → Int32} {zf : Value} {D : dD} {w k : Nat} (hD : dO L xs zf D k) (hz : zf.category = 1) : ∀ (s0 : Option Nat) (lv : rm_L) (h : rm_H) (r : dR), b156_57 L xs zf D w  s0 h = some r → dq L xs zf ah_M156 57 lv [va_rf s0] h (k + 1) r := by
  intro s0 lv h r hh
  unfold b156_57 at hh
  cases hh
  exact dq_retR (by decide +kernel) rfl
def b156_2 (L : Nat) (xs : Nat → Int32) (zf : Value) (D : dD) (w : Nat) : Nat → Option Nat → Option Nat → Int32 → Int32 → rm_H → Option dR
  | 0, _, _, _, _, _ => none
  | n + 1, o0, o1, i2, i3, h =>
    (dgR L xs h 5 [9] o0).bind fun p1 =>
    ((dcV L xs D 101 [5] p1 [] h).bind dxI).bind fun x3 =>
    if mx_f2 .ge i3 x3.1 = true then
      some (some (va_rf none), x3.2)
    else
      (dgR L xs x3.2 5 [9] o0).bind fun p8 =>
      ((dcV L xs D 146 [5] p8 [.int i3] x3.2).bind dxR).bind fun p10 =>
      if dcK L xs p10.2 [11] p10.1 = false then none else
      (dgR L xs p10.2 3 [11] p10.1).bind fun p20 =>
      ((dcV L xs D 151 [7, 16] p20 [va_rf o1] p10.2).bind dxI).bind fun x22 =>
      if mx_f1 .eq x22.1 = true then
        b156_2 L xs zf D w n o0 o1 i2 (i3 + 1) x22.2
      else
        (dgI L xs x22.2 0 [11] p10.1).bind fun x32 =>
        if mx_f2 .ne x32 i2 = true then
          b156_57 L xs zf D w none x22.2
        else
          b156_57 L xs zf D w p10.1 x22.2
theorem c156_2 {L : Nat} {xs : Nat → Int32} {zf : Value} {D : dD} {w k : Nat} (hD : dO L xs zf D k) (hz : zf.category = 1) : ∀ (n : Nat) (o0 : Option Nat) (o1 : Option Nat) (i2 : Int32) (i3 : Int32) (lv : rm_L) (h : rm_H) (r : dR), rm_get lv 0 = some (va_rf o0) → rm_get lv 1 = some (va_rf o1) → rm_get lv 2 = some (.int i2) → rm_get lv 3 = some (.int i3) → b156_2 L xs zf D w n  o0 o1 i2 i3 h = some r → dq L xs zf ah_M156 2 lv [] h (k + 1) r := by
  intro n
  induction n with
  | zero =>
    intro o0 o1 i2 i3 lv h r G0 G1 G2 G3 hh
    cases hh
  | succ n ih =>
    intro o0 o1 i2 i3 lv h r G0 G1 G2 G3 hh
    rw [b156_2] at hh
    refine dq_iln 3 3 (by decide +kernel) rfl G3 ?_
    refine dq_aln 0 4 (by decide +kernel) rfl G0 ?_
    obtain ⟨p1, q2, hh⟩ := db hh
    refine dq_gR 31 5 [9] 7 (by decide +kernel) rfl q2 ?_
    obtain ⟨x3, q4, hh⟩ := db hh
    obtain ⟨a5, q6, q4⟩ := db q4
    rw [dq_xI q4] at q6
    refine dq_cif hD 38 1 101 7 0 [5] p1 [] [.int i3] 12 [.int x3.1, .int i3] (by decide +kernel) ap_101 ⟨⟨Nat.le_of_ble_eq_true rfl, by decide⟩, rfl, rfl⟩ (dq_ok8 [1] [1] (dc_r dc_n) (dc_i dc_n) (by decide +kernel)) (by decide +kernel) rfl q6 rfl ?_
    rcases di hh with ⟨q7, hh⟩ | ⟨q7, hh⟩
    · refine dq_2 .ge 52 true 64 q7 (by decide +kernel) ?_
      refine dq_S (.aconst_null) 1 [] 65 _ [va_rf none] (by decide +kernel) rfl ?_
      cases hh
      exact dq_retR (by decide +kernel) rfl
    · refine dq_2 .ge 52 false 15 q7 (by decide +kernel) ?_
      refine dq_aln 0 16 (by decide +kernel) rfl G0 ?_
      obtain ⟨p8, q9, hh⟩ := db hh
      refine dq_gR 31 5 [9] 19 (by decide +kernel) rfl q9 ?_
      refine dq_iln 3 20 (by decide +kernel) rfl G3 ?_
      obtain ⟨p10, q11, hh⟩ := db hh
      obtain ⟨a12, q13, q11⟩ := db q11
      rw [dq_xR q11] at q13
      refine dq_cif hD 44 2 146 7 1 [5] p8 [.int i3] [] 25 [va_rf p10.1] (by decide +kernel) ap_146 ⟨⟨Nat.le_of_ble_eq_true rfl, by decide⟩, rfl, rfl⟩ (dq_ok8 [1, 1] [] (dc_r (dc_i dc_n)) dc_n (by decide +kernel)) (by decide +kernel) rfl q13 rfl ?_
      rcases dp hh with ⟨_, hh⟩ | ⟨q14, hh⟩
      · cases hh
      refine dq_cast 59 [11] 28 (by decide +kernel) ⟨rfl, by decide⟩ (by rw [Bool.not_eq_false] at q14; exact q14) ?_
      refine dq_as 4 30 (by decide +kernel) (by decide +kernel) ?_
      have g15 := dg_ne (i := 4) (u := va_rf p10.1) (by decide) (Or.inl (by decide)) G0
      have g16 := dg_ne (i := 4) (u := va_rf p10.1) (by decide) (Or.inl (by decide)) G1
      have g17 := dg_ne (i := 4) (u := va_rf p10.1) (by decide) (Or.inl (by decide)) G2
      have g18 := dg_ne (i := 4) (u := va_rf p10.1) (by decide) (Or.inr rfl) G3
      have g19 := dg_eq (lv) 4 (va_rf p10.1)
      refine dq_al 4 32 (by decide +kernel) rfl g19 ?_
      obtain ⟨p20, q21, hh⟩ := db hh
      refine dq_gR 61 3 [11] 35 (by decide +kernel) rfl q21 ?_
      refine dq_aln 1 36 (by decide +kernel) rfl g16 ?_
      obtain ⟨x22, q23, hh⟩ := db hh
      obtain ⟨a24, q25, q23⟩ := db q23
      rw [dq_xI q23] at q25
      refine dq_cvi hD 53 151 5 1 [7, 16] p20 [va_rf o1] [] 39 [.int x22.1] (by decide +kernel) ap_151 ⟨⟨Nat.le_of_ble_eq_true rfl, by decide⟩, rfl, rfl⟩ (dq_ok8 [1, 1] [] (dc_r (dc_r dc_n)) dc_n (by decide +kernel)) (by decide +kernel) rfl q25 rfl ?_
      rcases di hh with ⟨q26, hh⟩ | ⟨q26, hh⟩
      · refine dq_1 .eq 19 true 58 q26 (by decide +kernel) ?_
        refine dq_incy 3 1 1 61 (by decide +kernel) ⟨rfl, by decide +kernel, by decide +kernel⟩ g18 ?_
        have g27 := dg_ne (i := 3) (u := .int (i3 + 1)) (by decide) (Or.inl (by decide)) g15
        have g28 := dg_ne (i := 3) (u := .int (i3 + 1)) (by decide) (Or.inl (by decide)) g16
        have g29 := dg_ne (i := 3) (u := .int (i3 + 1)) (by decide) (Or.inr rfl) g17
        have g30 := dg_ne (i := 3) (u := .int (i3 + 1)) (by decide) (Or.inl (by decide)) g19
        have g31 := dg_eq (rm_set1 (lv) 4 (va_rf p10.1)) 3 (.int (i3 + 1))
        refine dq_S (.goto (-59)) 3 [] 2 _ [] (by decide +kernel) rfl ?_
        exact ih _ _ _ _ _ _ _ g27 g28 g29 g31 hh
      · refine dq_1 .eq 19 false 42 q26 (by decide +kernel) ?_
        refine dq_al 4 44 (by decide +kernel) rfl g19 ?_
        obtain ⟨x32, q33, hh⟩ := db hh
        refine dq_gI 62 0 [11] 47 (by decide +kernel) rfl q33 ?_
        refine dq_iln 2 48 (by decide +kernel) rfl g17 ?_
        rcases di hh with ⟨q34, hh⟩ | ⟨q34, hh⟩
        · refine dq_2 .ne 8 true 56 q34 (by decide +kernel) ?_
          refine dq_S (.aconst_null) 1 [] 57 _ [va_rf none] (by decide +kernel) rfl ?_
          exact c156_57 hD hz _ _ _ _  hh
        · refine dq_2 .ne 8 false 51 q34 (by decide +kernel) ?_
          refine dq_al 4 53 (by decide +kernel) rfl g19 ?_
          refine dq_S (.goto 4) 3 [] 57 _ [va_rf p10.1] (by decide +kernel) rfl ?_
          exact c156_57 hD hz _ _ _ _  hh
def b156_0 (L : Nat) (xs : Nat → Int32) (zf : Value) (D : dD) (w : Nat) (o0 : Option Nat) (o1 : Option Nat) (i2 : Int32) (h : rm_H) : Option dR :=
  b156_2 L xs zf D w w o0 o1 i2 0 h
theorem c156_0 {L : Nat} {xs : Nat → Int32} {zf : Value} {D : dD} {w k : Nat} (hD : dO L xs zf D k) (hz : zf.category = 1) : ∀ (o0 : Option Nat) (o1 : Option Nat) (i2 : Int32) (lv : rm_L) (h : rm_H) (r : dR), rm_get lv 0 = some (va_rf o0) → rm_get lv 1 = some (va_rf o1) → rm_get lv 2 = some (.int i2) → b156_0 L xs zf D w  o0 o1 i2 h = some r → dq L xs zf ah_M156 0 lv [] h (k + 1) r := by
  intro o0 o1 i2 lv h r G0 G1 G2 hh
  unfold b156_0 at hh
  refine dq_S (.iconst 0) 1 [] 1 _ [.int 0] (by decide +kernel) rfl ?_
  refine dq_isn 3 2 (by decide +kernel) (by decide +kernel) ?_
  have g1 := dg_ne (i := 3) (u := .int 0) (by decide) (Or.inl (by decide)) G0
  have g2 := dg_ne (i := 3) (u := .int 0) (by decide) (Or.inl (by decide)) G1
  have g3 := dg_ne (i := 3) (u := .int 0) (by decide) (Or.inr rfl) G2
  have g4 := dg_eq (lv) 3 (.int 0)
  exact c156_2 hD hz _ _ _ _ _ _ _ _ g1 g2 g3 g4 hh
def f156 (L : Nat) (xs : Nat → Int32) (zf : Value) (D : dD) (w : Nat) (As : List Value) (h : rm_H) : Option dR := match As with
  | [v0, v1, .int i2] => (rm_rf v0).bind fun o0 => (rm_rf v1).bind fun o1 => b156_0 L xs zf D w o0 o1 i2 h
  | _ => none
theorem d156 {L : Nat} {xs : Nat → Int32} {zf : Value} {D : dD} {w k : Nat} (hD : dO L xs zf D k) (hz : zf.category = 1) (As : List Value) (h : rm_H) (r : dR) (hh : f156 L xs zf D w As h = some r) : dq L xs zf ah_M156 0 (lv_args 0 As) [] h (k + 1) r := by
  unfold f156 at hh
  split at hh
  · obtain ⟨o0, e0, hb0⟩ := db hh
    have e0 := rm_rf_v _ _ e0
    obtain ⟨o1, e1, hb1⟩ := db hb0
    have e1 := rm_rf_v _ _ e1
    subst e0 e1
    refine c156_0 hD hz _ _ _ _ _ _ ?_ ?_ ?_ hb1
    all_goals (simp only [la_r, la_i, la_j]; rfl)
  · cases hh
def b157_121 (L : Nat) (xs : Nat → Int32) (zf : Value) (D : dD) (w : Nat) (K47 : Option Nat → Option Nat → Int32 → Int32 → rm_H → Option dR) (o0 : Option Nat) (o1 : Option Nat) (i2 : Int32) (i3 : Int32) (h : rm_H) : Option dR :=
  K47 o0 o1 i2 (i3 + 1) h
theorem c157_121 {L : Nat} {xs : Nat → Int32} {zf : Value} {D : dD} {w k : Nat} {K47 : Option Nat → Option Nat → Int32 → Int32 → rm_H → Option dR} (hD : dO L xs zf D k) (hz : zf.category = 1) (hK47 : ∀ (o0 : Option Nat) (o1 : Option Nat) (i2 : Int32) (i3 : Int32) (lv : rm_L) (h : rm_H) (r : dR), rm_get lv 0 = some (va_rf o0) → rm_get lv 1 = some (va_rf o1) → rm_get lv 2 = some (.int i2) → rm_get lv 3 = some (.int i3) → K47 o0 o1 i2 i3 h = some r → dq L xs zf ah_M157 47 lv [] h (k + 1) r) : ∀ (o0 : Option Nat) (o1 : Option Nat) (i2 : Int32) (i3 : Int32) (lv : rm_L) (h : rm_H) (r : dR), rm_get lv 0 = some (va_rf o0) → rm_get lv 1 = some (va_rf o1) → rm_get lv 2 = some (.int i2) → rm_get lv 3 = some (.int i3) → b157_121 L xs zf D w K47  o0 o1 i2 i3 h = some r → dq L xs zf ah_M157 121 lv [] h (k + 1) r := by
  intro o0 o1 i2 i3 lv h r G0 G1 G2 G3 hh
  unfold b157_121 at hh
  refine dq_incy 3 1 1 124 (by decide +kernel) ⟨rfl, by decide +kernel, by decide +kernel⟩ G3 ?_
  have g1 := dg_ne (i := 3) (u := .int (i3 + 1)) (by decide) (Or.inl (by decide)) G0
  have g2 := dg_ne (i := 3) (u := .int (i3 + 1)) (by decide) (Or.inl (by decide)) G1
  have g3 := dg_ne (i := 3) (u := .int (i3 + 1)) (by decide) (Or.inr rfl) G2
  have g4 := dg_eq (lv) 3 (.int (i3 + 1))
  refine dq_S (.goto (-77)) 3 [] 47 _ [] (by decide +kernel) rfl ?_
  exact hK47 _ _ _ _ _ _ _ g1 g2 g3 g4 hh
def b157_160 (L : Nat) (xs : Nat → Int32) (zf : Value) (D : dD) (w : Nat) (s0 : Int32) (s1 : Option Nat) (h : rm_H) : Option dR :=
  (dpF h 13 [11] s1 (.int s0)).bind fun h1 =>
  some (none, h1)
theorem c157_160 {L : Nat} {xs : Nat → Int32} {zf : Value} {D : dD} {w k : Nat} (hD : dO L xs zf D k) (hz : zf.category = 1) : ∀ (s0 : Int32) (s1 : Option Nat) (lv : rm_L) (h : rm_H) (r : dR), b157_160 L xs zf D w  s0 s1 h = some r → dq L xs zf ah_M157 160 lv [.int s0, va_rf s1] h (k + 1) r := by
  intro s0 s1 lv h r hh
  unfold b157_160 at hh
  obtain ⟨h1, q2, hh⟩ := db hh
  refine dq_put 179 13 [11] 163 (by decide +kernel) rfl q2 ?_
  cases hh
  exact dq_ret0 (by decide +kernel) rfl
def b157_155 (L : Nat) (xs : Nat → Int32) (zf : Value) (D : dD) (w : Nat) (s0 : Option Nat) (h : rm_H) : Option dR :=
  b157_160 L xs zf D w 1 s0 h
theorem c157_155 {L : Nat} {xs : Nat → Int32} {zf : Value} {D : dD} {w k : Nat} (hD : dO L xs zf D k) (hz : zf.category = 1) : ∀ (s0 : Option Nat) (lv : rm_L) (h : rm_H) (r : dR), b157_155 L xs zf D w  s0 h = some r → dq L xs zf ah_M157 155 lv [va_rf s0] h (k + 1) r := by
  intro s0 lv h r hh
  unfold b157_155 at hh
  refine dq_S (.iconst 1) 1 [] 156 _ [.int 1, va_rf s0] (by decide +kernel) rfl ?_
  refine dq_S (.goto 4) 3 [] 160 _ [.int 1, va_rf s0] (by decide +kernel) rfl ?_
  exact c157_160 hD hz _ _ _ _ _  hh
def b157_159 (L : Nat) (xs : Nat → Int32) (zf : Value) (D : dD) (w : Nat) (s0 : Option Nat) (h : rm_H) : Option dR :=
  b157_160 L xs zf D w 0 s0 h
theorem c157_159 {L : Nat} {xs : Nat → Int32} {zf : Value} {D : dD} {w k : Nat} (hD : dO L xs zf D k) (hz : zf.category = 1) : ∀ (s0 : Option Nat) (lv : rm_L) (h : rm_H) (r : dR), b157_159 L xs zf D w  s0 h = some r → dq L xs zf ah_M157 159 lv [va_rf s0] h (k + 1) r := by
  intro s0 lv h r hh
  unfold b157_159 at hh
  refine dq_S (.iconst 0) 1 [] 160 _ [.int 0, va_rf s0] (by decide +kernel) rfl ?_
  exact c157_160 hD hz _ _ _ _ _  hh
def b157_47 (L : Nat) (xs : Nat → Int32) (zf : Value) (D : dD) (w : Nat) : Nat → Option Nat → Option Nat → Int32 → Int32 → rm_H → Option dR
  | 0, _, _, _, _, _ => none
  | n + 1, o0, o1, i2, i3, h =>
    (dgR L xs h 5 [11] o1).bind fun p1 =>
    ((dcV L xs D 101 [5] p1 [] h).bind dxI).bind fun x3 =>
    if mx_f2 .ge i3 x3.1 = true then
      (dgI L xs x3.2 12 [11] o1).bind fun x8 =>
      if mx_f1 .eq x8 = true then
        b157_159 L xs zf D w o1 x3.2
      else
        (dgR L xs x3.2 8 [11] o1).bind fun p11 =>
        if dnl p11 = true then
          b157_155 L xs zf D w o1 x3.2
        else
          (dgR L xs x3.2 8 [11] o1).bind fun p14 =>
          (dgI L xs x3.2 7 [10] p14).bind fun x16 =>
          ((D 158 [.int x16] x3.2).bind dxI).bind fun x18 =>
          if mx_f1 .eq x18.1 = true then
            b157_159 L xs zf D w o1 x18.2
          else
            b157_155 L xs zf D w o1 x18.2
    else
      (dgR L xs x3.2 5 [11] o1).bind fun p23 =>
      ((dcV L xs D 146 [5] p23 [.int i3] x3.2).bind dxR).bind fun p25 =>
      if dcK L xs p25.2 [10] p25.1 = false then none else
      (dgI L xs p25.2 7 [10] p25.1).bind fun x35 =>
      ((D 158 [.int x35] p25.2).bind dxI).bind fun x37 =>
      if mx_f1 .ne x37.1 = true then
        b157_121 L xs zf D w (b157_47 L xs zf D w n) o0 o1 i2 i3 x37.2
      else
        (dpF x37.2 12 [11] o1 (.int 0)).bind fun h42 =>
        if mx_f1 .eq i2 = true then
          b157_121 L xs zf D w (b157_47 L xs zf D w n) o0 o1 i2 i3 h42
        else
          (dgI L xs h42 0 [11] o1).bind fun x45 =>
          if mx_f2 .eq x45 1 = true then
            b157_121 L xs zf D w (b157_47 L xs zf D w n) o0 o1 i2 i3 h42
          else
            (dgI L xs h42 7 [10] p25.1).bind fun x48 =>
            if mx_f1 .eq x48 = true then
              b157_121 L xs zf D w (b157_47 L xs zf D w n) o0 o1 i2 i3 h42
            else
              (dgI L xs h42 1 [10] p25.1).bind fun x51 =>
              ((dcV L xs D 144 [4] o0 [.int 4, .int x51] h42).bind dxV).bind fun h53 =>
              b157_121 L xs zf D w (b157_47 L xs zf D w n) o0 o1 i2 i3 h53
theorem c157_47 {L : Nat} {xs : Nat → Int32} {zf : Value} {D : dD} {w k : Nat} (hD : dO L xs zf D k) (hz : zf.category = 1) : ∀ (n : Nat) (o0 : Option Nat) (o1 : Option Nat) (i2 : Int32) (i3 : Int32) (lv : rm_L) (h : rm_H) (r : dR), rm_get lv 0 = some (va_rf o0) → rm_get lv 1 = some (va_rf o1) → rm_get lv 2 = some (.int i2) → rm_get lv 3 = some (.int i3) → b157_47 L xs zf D w n  o0 o1 i2 i3 h = some r → dq L xs zf ah_M157 47 lv [] h (k + 1) r := by
  intro n
  induction n with
  | zero =>
    intro o0 o1 i2 i3 lv h r G0 G1 G2 G3 hh
    cases hh
  | succ n ih =>
    intro o0 o1 i2 i3 lv h r G0 G1 G2 G3 hh
    rw [b157_47] at hh
    refine dq_iln 3 48 (by decide +kernel) rfl G3 ?_
    refine dq_aln 1 49 (by decide +kernel) rfl G1 ?_
    obtain ⟨p1, q2, hh⟩ := db hh
    refine dq_gR 113 5 [11] 52 (by decide +kernel) rfl q2 ?_
    obtain ⟨x3, q4, hh⟩ := db hh
    obtain ⟨a5, q6, q4⟩ := db q4
    rw [dq_xI q4] at q6
    refine dq_cif hD 54 1 101 7 0 [5] p1 [] [.int i3] 57 [.int x3.1, .int i3] (by decide +kernel) ap_101 ⟨⟨Nat.le_of_ble_eq_true rfl, by decide⟩, rfl, rfl⟩ (dq_ok8 [1] [1] (dc_r dc_n) (dc_i dc_n) (by decide +kernel)) (by decide +kernel) rfl q6 rfl ?_
    rcases di hh with ⟨q7, hh⟩ | ⟨q7, hh⟩
    · refine dq_2 .ge 70 true 127 q7 (by decide +kernel) ?_
      refine dq_aln 1 128 (by decide +kernel) rfl G1 ?_
      refine dq_aln 1 129 (by decide +kernel) rfl G1 ?_
      obtain ⟨x8, q9, hh⟩ := db hh
      refine dq_gI 172 12 [11] 132 (by decide +kernel) rfl q9 ?_
      rcases di hh with ⟨q10, hh⟩ | ⟨q10, hh⟩
      · refine dq_1 .eq 27 true 159 q10 (by decide +kernel) ?_
        exact c157_159 hD hz _ _ _ _  hh
      · refine dq_1 .eq 27 false 135 q10 (by decide +kernel) ?_
        refine dq_aln 1 136 (by decide +kernel) rfl G1 ?_
        obtain ⟨p11, q12, hh⟩ := db hh
        refine dq_gR 175 8 [11] 139 (by decide +kernel) rfl q12 ?_
        rcases di hh with ⟨q13, hh⟩ | ⟨q13, hh⟩
        · refine dq_null 16 true 155 q13 (by decide +kernel) (by decide +kernel) ?_
          exact c157_155 hD hz _ _ _ _  hh
        · refine dq_null 16 false 142 q13 (by decide +kernel) (by decide +kernel) ?_
          refine dq_aln 1 143 (by decide +kernel) rfl G1 ?_
          obtain ⟨p14, q15, hh⟩ := db hh
          refine dq_gR 175 8 [11] 146 (by decide +kernel) rfl q15 ?_
          obtain ⟨x16, q17, hh⟩ := db hh
          refine dq_gI 127 7 [10] 149 (by decide +kernel) rfl q17 ?_
          obtain ⟨x18, q19, hh⟩ := db hh
          obtain ⟨a20, q21, q19⟩ := db q19
          rw [dq_xI q19] at q21
          refine dq_cst hD 168 158 1 1 [.int x16] [va_rf o1] 152 [.int x18.1, va_rf o1] (by decide +kernel) ap_158 ⟨⟨Nat.le_of_ble_eq_true rfl, by decide⟩, rfl, rfl⟩ (dq_ok8 [1] [1] (dc_i dc_n) (dc_r dc_n) (by decide +kernel)) (by decide +kernel) rfl q21 rfl ?_
          rcases di hh with ⟨q22, hh⟩ | ⟨q22, hh⟩
          · refine dq_1 .eq 7 true 159 q22 (by decide +kernel) ?_
            exact c157_159 hD hz _ _ _ _  hh
          · refine dq_1 .eq 7 false 155 q22 (by decide +kernel) ?_
            exact c157_155 hD hz _ _ _ _  hh
    · refine dq_2 .ge 70 false 60 q7 (by decide +kernel) ?_
      refine dq_aln 1 61 (by decide +kernel) rfl G1 ?_
      obtain ⟨p23, q24, hh⟩ := db hh
      refine dq_gR 113 5 [11] 64 (by decide +kernel) rfl q24 ?_
      refine dq_iln 3 65 (by decide +kernel) rfl G3 ?_
      obtain ⟨p25, q26, hh⟩ := db hh
      obtain ⟨a27, q28, q26⟩ := db q26
      rw [dq_xR q26] at q28
      refine dq_cif hD 59 2 146 7 1 [5] p23 [.int i3] [] 70 [va_rf p25.1] (by decide +kernel) ap_146 ⟨⟨Nat.le_of_ble_eq_true rfl, by decide⟩, rfl, rfl⟩ (dq_ok8 [1, 1] [] (dc_r (dc_i dc_n)) dc_n (by decide +kernel)) (by decide +kernel) rfl q28 rfl ?_
      rcases dp hh with ⟨_, hh⟩ | ⟨q29, hh⟩
      · cases hh
      refine dq_cast 70 [10] 73 (by decide +kernel) ⟨rfl, by decide⟩ (by rw [Bool.not_eq_false] at q29; exact q29) ?_
      refine dq_as 4 75 (by decide +kernel) (by decide +kernel) ?_
      have g30 := dg_ne (i := 4) (u := va_rf p25.1) (by decide) (Or.inl (by decide)) G0
      have g31 := dg_ne (i := 4) (u := va_rf p25.1) (by decide) (Or.inl (by decide)) G1
      have g32 := dg_ne (i := 4) (u := va_rf p25.1) (by decide) (Or.inl (by decide)) G2
      have g33 := dg_ne (i := 4) (u := va_rf p25.1) (by decide) (Or.inr rfl) G3
      have g34 := dg_eq (lv) 4 (va_rf p25.1)
      refine dq_al 4 77 (by decide +kernel) rfl g34 ?_
      obtain ⟨x35, q36, hh⟩ := db hh
      refine dq_gI 127 7 [10] 80 (by decide +kernel) rfl q36 ?_
      obtain ⟨x37, q38, hh⟩ := db hh
      obtain ⟨a39, q40, q38⟩ := db q38
      rw [dq_xI q38] at q40
      refine dq_cst hD 168 158 1 1 [.int x35] [] 83 [.int x37.1] (by decide +kernel) ap_158 ⟨⟨Nat.le_of_ble_eq_true rfl, by decide⟩, rfl, rfl⟩ (dq_ok8 [1] [] (dc_i dc_n) dc_n (by decide +kernel)) (by decide +kernel) rfl q40 rfl ?_
      rcases di hh with ⟨q41, hh⟩ | ⟨q41, hh⟩
      · refine dq_1 .ne 38 true 121 q41 (by decide +kernel) ?_
        exact c157_121 hD hz ih _ _ _ _ _ _ _ g30 g31 g32 g33 hh
      · refine dq_1 .ne 38 false 86 q41 (by decide +kernel) ?_
        refine dq_aln 1 87 (by decide +kernel) rfl g31 ?_
        refine dq_S (.iconst 0) 1 [] 88 _ [.int 0, va_rf o1] (by decide +kernel) rfl ?_
        obtain ⟨h42, q43, hh⟩ := db hh
        refine dq_put 172 12 [11] 91 (by decide +kernel) rfl q43 ?_
        refine dq_iln 2 92 (by decide +kernel) rfl g32 ?_
        rcases di hh with ⟨q44, hh⟩ | ⟨q44, hh⟩
        · refine dq_1 .eq 29 true 121 q44 (by decide +kernel) ?_
          exact c157_121 hD hz ih _ _ _ _ _ _ _ g30 g31 g32 g33 hh
        · refine dq_1 .eq 29 false 95 q44 (by decide +kernel) ?_
          refine dq_aln 1 96 (by decide +kernel) rfl g31 ?_
          obtain ⟨x45, q46, hh⟩ := db hh
          refine dq_gI 155 0 [11] 99 (by decide +kernel) rfl q46 ?_
          refine dq_S (.iconst 1) 1 [] 100 _ [.int 1, .int x45] (by decide +kernel) rfl ?_
          rcases di hh with ⟨q47, hh⟩ | ⟨q47, hh⟩
          · refine dq_2 .eq 21 true 121 q47 (by decide +kernel) ?_
            exact c157_121 hD hz ih _ _ _ _ _ _ _ g30 g31 g32 g33 hh
          · refine dq_2 .eq 21 false 103 q47 (by decide +kernel) ?_
            refine dq_al 4 105 (by decide +kernel) rfl g34 ?_
            obtain ⟨x48, q49, hh⟩ := db hh
            refine dq_gI 127 7 [10] 108 (by decide +kernel) rfl q49 ?_
            rcases di hh with ⟨q50, hh⟩ | ⟨q50, hh⟩
            · refine dq_1 .eq 13 true 121 q50 (by decide +kernel) ?_
              exact c157_121 hD hz ih _ _ _ _ _ _ _ g30 g31 g32 g33 hh
            · refine dq_1 .eq 13 false 111 q50 (by decide +kernel) ?_
              refine dq_aln 0 112 (by decide +kernel) rfl g30 ?_
              refine dq_S (.iconst 4) 1 [] 113 _ [.int 4, va_rf o0] (by decide +kernel) rfl ?_
              refine dq_al 4 115 (by decide +kernel) rfl g34 ?_
              obtain ⟨x51, q52, hh⟩ := db hh
              refine dq_gI 152 1 [10] 118 (by decide +kernel) rfl q52 ?_
              obtain ⟨h53, q54, hh⟩ := db hh
              obtain ⟨a55, q56, q54⟩ := db q54
              rw [dq_xV q54] at q56
              refine dq_cvi hD 87 144 5 2 [4] o0 [.int 4, .int x51] [] 121 [] (by decide +kernel) ap_144 ⟨⟨Nat.le_of_ble_eq_true rfl, by decide⟩, rfl, rfl⟩ (dq_ok8 [1, 1, 1] [] (dc_r (dc_i (dc_i dc_n))) dc_n (by decide +kernel)) (by decide +kernel) rfl q56 rfl ?_
              exact c157_121 hD hz ih _ _ _ _ _ _ _ g30 g31 g32 g33 hh
def b157_45 (L : Nat) (xs : Nat → Int32) (zf : Value) (D : dD) (w : Nat) (o0 : Option Nat) (o1 : Option Nat) (i2 : Int32) (h : rm_H) : Option dR :=
  b157_47 L xs zf D w w o0 o1 i2 0 h
theorem c157_45 {L : Nat} {xs : Nat → Int32} {zf : Value} {D : dD} {w k : Nat} (hD : dO L xs zf D k) (hz : zf.category = 1) : ∀ (o0 : Option Nat) (o1 : Option Nat) (i2 : Int32) (lv : rm_L) (h : rm_H) (r : dR), rm_get lv 0 = some (va_rf o0) → rm_get lv 1 = some (va_rf o1) → rm_get lv 2 = some (.int i2) → b157_45 L xs zf D w  o0 o1 i2 h = some r → dq L xs zf ah_M157 45 lv [] h (k + 1) r := by
  intro o0 o1 i2 lv h r G0 G1 G2 hh
  unfold b157_45 at hh
  refine dq_S (.iconst 0) 1 [] 46 _ [.int 0] (by decide +kernel) rfl ?_
  refine dq_isn 3 47 (by decide +kernel) (by decide +kernel) ?_
  have g1 := dg_ne (i := 3) (u := .int 0) (by decide) (Or.inl (by decide)) G0
  have g2 := dg_ne (i := 3) (u := .int 0) (by decide) (Or.inl (by decide)) G1
  have g3 := dg_ne (i := 3) (u := .int 0) (by decide) (Or.inr rfl) G2
  have g4 := dg_eq (lv) 3 (.int 0)
  exact c157_47 hD hz _ _ _ _ _ _ _ _ g1 g2 g3 g4 hh
def b157_0 (L : Nat) (xs : Nat → Int32) (zf : Value) (D : dD) (w : Nat) (o0 : Option Nat) (o1 : Option Nat) (h : rm_H) : Option dR :=
  (dgR L xs h 5 [11] o1).bind fun p1 =>
  ((dcV L xs D 154 [4] o0 [va_rf p1] h).bind dxV).bind fun h3 =>
  (dgR L xs h3 1 [11] o1).bind fun p7 =>
  (dgI L xs h3 2 [9] p7).bind fun x9 =>
  if mx_f1 .eq x9 = true then
    b157_45 L xs zf D w o0 o1 x9 h3
  else
    (dgI L xs h3 0 [11] o1).bind fun x15 =>
    if mx_f2 .ne x15 1 = true then
      b157_45 L xs zf D w o0 o1 x9 h3
    else
      (dgI L xs h3 6 [11] o1).bind fun x18 =>
      if mx_f2 .eq x18 2 = true then
        b157_45 L xs zf D w o0 o1 x9 h3
      else
        (dgI L xs h3 7 [11] o1).bind fun x21 =>
        ((dcV L xs D 144 [4] o0 [.int 4, .int x21] h3).bind dxV).bind fun h23 =>
        b157_45 L xs zf D w o0 o1 x9 h23
theorem c157_0 {L : Nat} {xs : Nat → Int32} {zf : Value} {D : dD} {w k : Nat} (hD : dO L xs zf D k) (hz : zf.category = 1) : ∀ (o0 : Option Nat) (o1 : Option Nat) (lv : rm_L) (h : rm_H) (r : dR), rm_get lv 0 = some (va_rf o0) → rm_get lv 1 = some (va_rf o1) → b157_0 L xs zf D w  o0 o1 h = some r → dq L xs zf ah_M157 0 lv [] h (k + 1) r := by
  intro o0 o1 lv h r G0 G1 hh
  unfold b157_0 at hh
  refine dq_aln 0 1 (by decide +kernel) rfl G0 ?_
  refine dq_aln 1 2 (by decide +kernel) rfl G1 ?_
  obtain ⟨p1, q2, hh⟩ := db hh
  refine dq_gR 113 5 [11] 5 (by decide +kernel) rfl q2 ?_
  obtain ⟨h3, q4, hh⟩ := db hh
  obtain ⟨a5, q6, q4⟩ := db q4
  rw [dq_xV q4] at q6
  refine dq_cvi hD 91 154 5 1 [4] o0 [va_rf p1] [] 8 [] (by decide +kernel) ap_154 ⟨⟨Nat.le_of_ble_eq_true rfl, by decide⟩, rfl, rfl⟩ (dq_ok8 [1, 1] [] (dc_r (dc_r dc_n)) dc_n (by decide +kernel)) (by decide +kernel) rfl q6 rfl ?_
  refine dq_aln 1 9 (by decide +kernel) rfl G1 ?_
  obtain ⟨p7, q8, hh⟩ := db hh
  refine dq_gR 163 1 [11] 12 (by decide +kernel) rfl q8 ?_
  obtain ⟨x9, q10, hh⟩ := db hh
  refine dq_gI 105 2 [9] 15 (by decide +kernel) rfl q10 ?_
  refine dq_isn 2 16 (by decide +kernel) (by decide +kernel) ?_
  have g11 := dg_ne (i := 2) (u := .int x9) (by decide) (Or.inl (by decide)) G0
  have g12 := dg_ne (i := 2) (u := .int x9) (by decide) (Or.inr (drc _)) G1
  have g13 := dg_eq (lv) 2 (.int x9)
  refine dq_iln 2 17 (by decide +kernel) rfl g13 ?_
  rcases di hh with ⟨q14, hh⟩ | ⟨q14, hh⟩
  · refine dq_1 .eq 28 true 45 q14 (by decide +kernel) ?_
    exact c157_45 hD hz _ _ _ _ _ _ g11 g12 g13 hh
  · refine dq_1 .eq 28 false 20 q14 (by decide +kernel) ?_
    refine dq_aln 1 21 (by decide +kernel) rfl g12 ?_
    obtain ⟨x15, q16, hh⟩ := db hh
    refine dq_gI 155 0 [11] 24 (by decide +kernel) rfl q16 ?_
    refine dq_S (.iconst 1) 1 [] 25 _ [.int 1, .int x15] (by decide +kernel) rfl ?_
    rcases di hh with ⟨q17, hh⟩ | ⟨q17, hh⟩
    · refine dq_2 .ne 20 true 45 q17 (by decide +kernel) ?_
      exact c157_45 hD hz _ _ _ _ _ _ g11 g12 g13 hh
    · refine dq_2 .ne 20 false 28 q17 (by decide +kernel) ?_
      refine dq_aln 1 29 (by decide +kernel) rfl g12 ?_
      obtain ⟨x18, q19, hh⟩ := db hh
      refine dq_gI 166 6 [11] 32 (by decide +kernel) rfl q19 ?_
      refine dq_S (.iconst 2) 1 [] 33 _ [.int 2, .int x18] (by decide +kernel) rfl ?_
      rcases di hh with ⟨q20, hh⟩ | ⟨q20, hh⟩
      · refine dq_2 .eq 12 true 45 q20 (by decide +kernel) ?_
        exact c157_45 hD hz _ _ _ _ _ _ g11 g12 g13 hh
      · refine dq_2 .eq 12 false 36 q20 (by decide +kernel) ?_
        refine dq_aln 0 37 (by decide +kernel) rfl g11 ?_
        refine dq_S (.iconst 4) 1 [] 38 _ [.int 4, va_rf o0] (by decide +kernel) rfl ?_
        refine dq_aln 1 39 (by decide +kernel) rfl g12 ?_
        obtain ⟨x21, q22, hh⟩ := db hh
        refine dq_gI 167 7 [11] 42 (by decide +kernel) rfl q22 ?_
        obtain ⟨h23, q24, hh⟩ := db hh
        obtain ⟨a25, q26, q24⟩ := db q24
        rw [dq_xV q24] at q26
        refine dq_cvi hD 87 144 5 2 [4] o0 [.int 4, .int x21] [] 45 [] (by decide +kernel) ap_144 ⟨⟨Nat.le_of_ble_eq_true rfl, by decide⟩, rfl, rfl⟩ (dq_ok8 [1, 1, 1] [] (dc_r (dc_i (dc_i dc_n))) dc_n (by decide +kernel)) (by decide +kernel) rfl q26 rfl ?_
        exact c157_45 hD hz _ _ _ _ _ _ g11 g12 g13 hh
def f157 (L : Nat) (xs : Nat → Int32) (zf : Value) (D : dD) (w : Nat) (As : List Value) (h : rm_H) : Option dR := match As with
  | [v0, v1] => (rm_rf v0).bind fun o0 => (rm_rf v1).bind fun o1 => b157_0 L xs zf D w o0 o1 h
  | _ => none
theorem d157 {L : Nat} {xs : Nat → Int32} {zf : Value} {D : dD} {w k : Nat} (hD : dO L xs zf D k) (hz : zf.category = 1) (As : List Value) (h : rm_H) (r : dR) (hh : f157 L xs zf D w As h = some r) : dq L xs zf ah_M157 0 (lv_args 0 As) [] h (k + 1) r := by
  unfold f157 at hh
  split at hh
  · obtain ⟨o0, e0, hb0⟩ := db hh
    have e0 := rm_rf_v _ _ e0
    obtain ⟨o1, e1, hb1⟩ := db hb0
    have e1 := rm_rf_v _ _ e1
    subst e0 e1
    refine c157_0 hD hz _ _ _ _ _ ?_ ?_ hb1
    all_goals (simp only [la_r, la_i, la_j]; rfl)
  · cases hh
def b158_30 (L : Nat) (xs : Nat → Int32) (zf : Value) (D : dD) (w : Nat) (s0 : Int32) (h : rm_H) : Option dR :=
  drI (some .boolean) s0 h
theorem c158_30 {L : Nat} {xs : Nat → Int32} {zf : Value} {D : dD} {w k : Nat} (hD : dO L xs zf D k) (hz : zf.category = 1) : ∀ (s0 : Int32) (lv : rm_L) (h : rm_H) (r : dR), b158_30 L xs zf D w  s0 h = some r → dq L xs zf ah_M158 30 lv [.int s0] h (k + 1) r := by
  intro s0 lv h r hh
  unfold b158_30 at hh
  exact dq_retI (some .boolean) (by decide +kernel) rfl hh
def b158_25 (L : Nat) (xs : Nat → Int32) (zf : Value) (D : dD) (w : Nat) (h : rm_H) : Option dR :=
  b158_30 L xs zf D w 1 h
theorem c158_25 {L : Nat} {xs : Nat → Int32} {zf : Value} {D : dD} {w k : Nat} (hD : dO L xs zf D k) (hz : zf.category = 1) : ∀ (lv : rm_L) (h : rm_H) (r : dR), b158_25 L xs zf D w  h = some r → dq L xs zf ah_M158 25 lv [] h (k + 1) r := by
  intro lv h r hh
  unfold b158_25 at hh
  refine dq_S (.iconst 1) 1 [] 26 _ [.int 1] (by decide +kernel) rfl ?_
  refine dq_S (.goto 4) 3 [] 30 _ [.int 1] (by decide +kernel) rfl ?_
  exact c158_30 hD hz _ _ _ _  hh
def b158_46 (L : Nat) (xs : Nat → Int32) (zf : Value) (D : dD) (w : Nat) (s0 : Int32) (h : rm_H) : Option dR :=
  drI (some .boolean) s0 h
theorem c158_46 {L : Nat} {xs : Nat → Int32} {zf : Value} {D : dD} {w k : Nat} (hD : dO L xs zf D k) (hz : zf.category = 1) : ∀ (s0 : Int32) (lv : rm_L) (h : rm_H) (r : dR), b158_46 L xs zf D w  s0 h = some r → dq L xs zf ah_M158 46 lv [.int s0] h (k + 1) r := by
  intro s0 lv h r hh
  unfold b158_46 at hh
  exact dq_retI (some .boolean) (by decide +kernel) rfl hh
def b158_41 (L : Nat) (xs : Nat → Int32) (zf : Value) (D : dD) (w : Nat) (h : rm_H) : Option dR :=
  b158_46 L xs zf D w 1 h
theorem c158_41 {L : Nat} {xs : Nat → Int32} {zf : Value} {D : dD} {w k : Nat} (hD : dO L xs zf D k) (hz : zf.category = 1) : ∀ (lv : rm_L) (h : rm_H) (r : dR), b158_41 L xs zf D w  h = some r → dq L xs zf ah_M158 41 lv [] h (k + 1) r := by
  intro lv h r hh
  unfold b158_41 at hh
  refine dq_S (.iconst 1) 1 [] 42 _ [.int 1] (by decide +kernel) rfl ?_
  refine dq_S (.goto 4) 3 [] 46 _ [.int 1] (by decide +kernel) rfl ?_
  exact c158_46 hD hz _ _ _ _  hh
def b158_0 (L : Nat) (xs : Nat → Int32) (zf : Value) (D : dD) (w : Nat) (i0 : Int32) (h : rm_H) : Option dR :=
  ((D 159 [.int i0] h).bind dxI).bind fun x1 =>
  if mx_f2 .ne x1.1 5 = true then
    if mx_f2 .eq x1.1 1 = true then
      b158_41 L xs zf D w x1.2
    else
      if mx_f2 .ne x1.1 3 = true then
        b158_46 L xs zf D w 0 x1.2
      else
        b158_41 L xs zf D w x1.2
  else
    ((D 160 [.int i0] x1.2).bind dxI).bind fun x10 =>
    if mx_f1 .eq x10.1 = true then
      b158_25 L xs zf D w x10.2
    else
      ((D 160 [.int i0] x10.2).bind dxI).bind fun x15 =>
      if mx_f2 .ne x15.1 3 = true then
        b158_30 L xs zf D w 0 x15.2
      else
        b158_25 L xs zf D w x15.2
theorem c158_0 {L : Nat} {xs : Nat → Int32} {zf : Value} {D : dD} {w k : Nat} (hD : dO L xs zf D k) (hz : zf.category = 1) : ∀ (i0 : Int32) (lv : rm_L) (h : rm_H) (r : dR), rm_get lv 0 = some (.int i0) → b158_0 L xs zf D w  i0 h = some r → dq L xs zf ah_M158 0 lv [] h (k + 1) r := by
  intro i0 lv h r G0 hh
  unfold b158_0 at hh
  refine dq_iln 0 1 (by decide +kernel) rfl G0 ?_
  obtain ⟨x1, q2, hh⟩ := db hh
  obtain ⟨a3, q4, q2⟩ := db q2
  rw [dq_xI q2] at q4
  refine dq_cst hD 222 159 0 1 [.int i0] [] 4 [.int x1.1] (by decide +kernel) ap_159 ⟨⟨Nat.le_of_ble_eq_true rfl, by decide⟩, rfl, rfl⟩ (dq_ok8 [1] [] (dc_i dc_n) dc_n (by decide +kernel)) (by decide +kernel) rfl q4 rfl ?_
  refine dq_isn 1 5 (by decide +kernel) (by decide +kernel) ?_
  have g5 := dg_ne (i := 1) (u := .int x1.1) (by decide) (Or.inr rfl) G0
  have g6 := dg_eq (lv) 1 (.int x1.1)
  refine dq_iln 1 6 (by decide +kernel) rfl g6 ?_
  refine dq_S (.iconst 5) 1 [] 7 _ [.int 5, .int x1.1] (by decide +kernel) rfl ?_
  rcases di hh with ⟨q7, hh⟩ | ⟨q7, hh⟩
  · refine dq_2 .ne 24 true 31 q7 (by decide +kernel) ?_
    refine dq_iln 1 32 (by decide +kernel) rfl g6 ?_
    refine dq_S (.iconst 1) 1 [] 33 _ [.int 1, .int x1.1] (by decide +kernel) rfl ?_
    rcases di hh with ⟨q8, hh⟩ | ⟨q8, hh⟩
    · refine dq_2 .eq 8 true 41 q8 (by decide +kernel) ?_
      exact c158_41 hD hz  _ _ _  hh
    · refine dq_2 .eq 8 false 36 q8 (by decide +kernel) ?_
      refine dq_iln 1 37 (by decide +kernel) rfl g6 ?_
      refine dq_S (.iconst 3) 1 [] 38 _ [.int 3, .int x1.1] (by decide +kernel) rfl ?_
      rcases di hh with ⟨q9, hh⟩ | ⟨q9, hh⟩
      · refine dq_2 .ne 7 true 45 q9 (by decide +kernel) ?_
        refine dq_S (.iconst 0) 1 [] 46 _ [.int 0] (by decide +kernel) rfl ?_
        exact c158_46 hD hz _ _ _ _  hh
      · refine dq_2 .ne 7 false 41 q9 (by decide +kernel) ?_
        exact c158_41 hD hz  _ _ _  hh
  · refine dq_2 .ne 24 false 10 q7 (by decide +kernel) ?_
    refine dq_iln 0 11 (by decide +kernel) rfl g5 ?_
    obtain ⟨x10, q11, hh⟩ := db hh
    obtain ⟨a12, q13, q11⟩ := db q11
    rw [dq_xI q11] at q13
    refine dq_cst hD 225 160 0 1 [.int i0] [] 14 [.int x10.1] (by decide +kernel) ap_160 ⟨⟨Nat.le_of_ble_eq_true rfl, by decide⟩, rfl, rfl⟩ (dq_ok8 [1] [] (dc_i dc_n) dc_n (by decide +kernel)) (by decide +kernel) rfl q13 rfl ?_
    rcases di hh with ⟨q14, hh⟩ | ⟨q14, hh⟩
    · refine dq_1 .eq 11 true 25 q14 (by decide +kernel) ?_
      exact c158_25 hD hz  _ _ _  hh
    · refine dq_1 .eq 11 false 17 q14 (by decide +kernel) ?_
      refine dq_iln 0 18 (by decide +kernel) rfl g5 ?_
      obtain ⟨x15, q16, hh⟩ := db hh
      obtain ⟨a17, q18, q16⟩ := db q16
      rw [dq_xI q16] at q18
      refine dq_cst hD 225 160 0 1 [.int i0] [] 21 [.int x15.1] (by decide +kernel) ap_160 ⟨⟨Nat.le_of_ble_eq_true rfl, by decide⟩, rfl, rfl⟩ (dq_ok8 [1] [] (dc_i dc_n) dc_n (by decide +kernel)) (by decide +kernel) rfl q18 rfl ?_
      refine dq_S (.iconst 3) 1 [] 22 _ [.int 3, .int x15.1] (by decide +kernel) rfl ?_
      rcases di hh with ⟨q19, hh⟩ | ⟨q19, hh⟩
      · refine dq_2 .ne 7 true 29 q19 (by decide +kernel) ?_
        refine dq_S (.iconst 0) 1 [] 30 _ [.int 0] (by decide +kernel) rfl ?_
        exact c158_30 hD hz _ _ _ _  hh
      · refine dq_2 .ne 7 false 25 q19 (by decide +kernel) ?_
        exact c158_25 hD hz  _ _ _  hh
def f158 (L : Nat) (xs : Nat → Int32) (zf : Value) (D : dD) (w : Nat) (As : List Value) (h : rm_H) : Option dR := match As with
  | [.int i0] => b158_0 L xs zf D w i0 h
  | _ => none
theorem d158 {L : Nat} {xs : Nat → Int32} {zf : Value} {D : dD} {w k : Nat} (hD : dO L xs zf D k) (hz : zf.category = 1) (As : List Value) (h : rm_H) (r : dR) (hh : f158 L xs zf D w As h = some r) : dq L xs zf ah_M158 0 (lv_args 0 As) [] h (k + 1) r := by
  unfold f158 at hh
  split at hh
  · refine c158_0 hD hz _ _ _ _ ?_ hh
    all_goals (simp only [la_r, la_i, la_j]; rfl)
  · cases hh
def b159_0 (L : Nat) (xs : Nat → Int32) (zf : Value) (D : dD) (w : Nat) (i0 : Int32) (h : rm_H) : Option dR :=
  drI (some .int) (i0 &&& 15) h
theorem c159_0 {L : Nat} {xs : Nat → Int32} {zf : Value} {D : dD} {w k : Nat} (hD : dO L xs zf D k) (hz : zf.category = 1) : ∀ (i0 : Int32) (lv : rm_L) (h : rm_H) (r : dR), rm_get lv 0 = some (.int i0) → b159_0 L xs zf D w  i0 h = some r → dq L xs zf ah_M159 0 lv [] h (k + 1) r := by
  intro i0 lv h r G0 hh
  unfold b159_0 at hh
  refine dq_iln 0 1 (by decide +kernel) rfl G0 ?_
  refine dq_S (.bipush 15) 2 [] 3 _ [.int 15, .int i0] (by decide +kernel) rfl ?_
  refine dq_S (.iand) 1 [] 4 _ [.int (i0 &&& 15)] (by decide +kernel) rfl ?_
  exact dq_retI (some .int) (by decide +kernel) rfl hh
def f159 (L : Nat) (xs : Nat → Int32) (zf : Value) (D : dD) (w : Nat) (As : List Value) (h : rm_H) : Option dR := match As with
  | [.int i0] => b159_0 L xs zf D w i0 h
  | _ => none
theorem d159 {L : Nat} {xs : Nat → Int32} {zf : Value} {D : dD} {w k : Nat} (hD : dO L xs zf D k) (hz : zf.category = 1) (As : List Value) (h : rm_H) (r : dR) (hh : f159 L xs zf D w As h = some r) : dq L xs zf ah_M159 0 (lv_args 0 As) [] h (k + 1) r := by
  unfold f159 at hh
  split at hh
  · refine c159_0 hD hz _ _ _ _ ?_ hh
    all_goals (simp only [la_r, la_i, la_j]; rfl)
  · cases hh
def b160_0 (L : Nat) (xs : Nat → Int32) (zf : Value) (D : dD) (w : Nat) (i0 : Int32) (h : rm_H) : Option dR :=
  drI (some .int) ((i0 >>> ((8 : Int32) &&& 31)) &&& 7) h
theorem c160_0 {L : Nat} {xs : Nat → Int32} {zf : Value} {D : dD} {w k : Nat} (hD : dO L xs zf D k) (hz : zf.category = 1) : ∀ (i0 : Int32) (lv : rm_L) (h : rm_H) (r : dR), rm_get lv 0 = some (.int i0) → b160_0 L xs zf D w  i0 h = some r → dq L xs zf ah_M160 0 lv [] h (k + 1) r := by
  intro i0 lv h r G0 hh
  unfold b160_0 at hh
  refine dq_iln 0 1 (by decide +kernel) rfl G0 ?_
  refine dq_S (.bipush 8) 2 [] 3 _ [.int 8, .int i0] (by decide +kernel) rfl ?_
  refine dq_S (.ishr) 1 [] 4 _ [.int (i0 >>> ((8 : Int32) &&& 31))] (by decide +kernel) rfl ?_
  refine dq_S (.bipush 7) 2 [] 6 _ [.int 7, .int (i0 >>> ((8 : Int32) &&& 31))] (by decide +kernel) rfl ?_
  refine dq_S (.iand) 1 [] 7 _ [.int ((i0 >>> ((8 : Int32) &&& 31)) &&& 7)] (by decide +kernel) rfl ?_
  exact dq_retI (some .int) (by decide +kernel) rfl hh
def f160 (L : Nat) (xs : Nat → Int32) (zf : Value) (D : dD) (w : Nat) (As : List Value) (h : rm_H) : Option dR := match As with
  | [.int i0] => b160_0 L xs zf D w i0 h
  | _ => none
theorem d160 {L : Nat} {xs : Nat → Int32} {zf : Value} {D : dD} {w k : Nat} (hD : dO L xs zf D k) (hz : zf.category = 1) (As : List Value) (h : rm_H) (r : dR) (hh : f160 L xs zf D w As h = some r) : dq L xs zf ah_M160 0 (lv_args 0 As) [] h (k + 1) r := by
  unfold f160 at hh
  split at hh
  · refine c160_0 hD hz _ _ _ _ ?_ hh
    all_goals (simp only [la_r, la_i, la_j]; rfl)
  · cases hh
def b161_12 (L : Nat) (xs : Nat → Int32) (zf : Value) (D : dD) (w : Nat) (s0 : Int32) (h : rm_H) : Option dR :=
  drI (some .boolean) s0 h
theorem c161_12 {L : Nat} {xs : Nat → Int32} {zf : Value} {D : dD} {w k : Nat} (hD : dO L xs zf D k) (hz : zf.category = 1) : ∀ (s0 : Int32) (lv : rm_L) (h : rm_H) (r : dR), b161_12 L xs zf D w  s0 h = some r → dq L xs zf ah_M161 12 lv [.int s0] h (k + 1) r := by
  intro s0 lv h r hh
  unfold b161_12 at hh
  exact dq_retI (some .boolean) (by decide +kernel) rfl hh
def b161_0 (L : Nat) (xs : Nat → Int32) (zf : Value) (D : dD) (w : Nat) (o0 : Option Nat) (h : rm_H) : Option dR :=
  (dgI L xs h 1 [5] o0).bind fun x1 =>
  if mx_f1 .ne x1 = true then
    b161_12 L xs zf D w 0 h
  else
    b161_12 L xs zf D w 1 h
theorem c161_0 {L : Nat} {xs : Nat → Int32} {zf : Value} {D : dD} {w k : Nat} (hD : dO L xs zf D k) (hz : zf.category = 1) : ∀ (o0 : Option Nat) (lv : rm_L) (h : rm_H) (r : dR), rm_get lv 0 = some (va_rf o0) → b161_0 L xs zf D w  o0 h = some r → dq L xs zf ah_M161 0 lv [] h (k + 1) r := by
  intro o0 lv h r G0 hh
  unfold b161_0 at hh
  refine dq_aln 0 1 (by decide +kernel) rfl G0 ?_
  obtain ⟨x1, q2, hh⟩ := db hh
  refine dq_gI 48 1 [5] 4 (by decide +kernel) rfl q2 ?_
  rcases di hh with ⟨q3, hh⟩ | ⟨q3, hh⟩
  · refine dq_1 .ne 7 true 11 q3 (by decide +kernel) ?_
    refine dq_S (.iconst 0) 1 [] 12 _ [.int 0] (by decide +kernel) rfl ?_
    exact c161_12 hD hz _ _ _ _  hh
  · refine dq_1 .ne 7 false 7 q3 (by decide +kernel) ?_
    refine dq_S (.iconst 1) 1 [] 8 _ [.int 1] (by decide +kernel) rfl ?_
    refine dq_S (.goto 4) 3 [] 12 _ [.int 1] (by decide +kernel) rfl ?_
    exact c161_12 hD hz _ _ _ _  hh
def f161 (L : Nat) (xs : Nat → Int32) (zf : Value) (D : dD) (w : Nat) (As : List Value) (h : rm_H) : Option dR := match As with
  | [v0] => (rm_rf v0).bind fun o0 => b161_0 L xs zf D w o0 h
  | _ => none
theorem d161 {L : Nat} {xs : Nat → Int32} {zf : Value} {D : dD} {w k : Nat} (hD : dO L xs zf D k) (hz : zf.category = 1) (As : List Value) (h : rm_H) (r : dR) (hh : f161 L xs zf D w As h = some r) : dq L xs zf ah_M161 0 (lv_args 0 As) [] h (k + 1) r := by
  unfold f161 at hh
  split at hh
  · obtain ⟨o0, e0, hb0⟩ := db hh
    have e0 := rm_rf_v _ _ e0
    subst e0
    refine c161_0 hD hz _ _ _ _ ?_ hb0
    all_goals (simp only [la_r, la_i, la_j]; rfl)
  · cases hh
def b162_0 (L : Nat) (xs : Nat → Int32) (zf : Value) (D : dD) (w : Nat) (o0 : Option Nat) (o1 : Option Nat) (h : rm_H) : Option dR :=
  if dnl o0 = true then none else
  (dpF h 0 [13] o0 (va_rf o1)).bind fun h2 =>
  (dnR 6 16 h2).bind fun h4 =>
  (dpF h4 1 [13] o0 (va_rf (some (21 + List.length h2)))).bind fun h6 =>
  (dpF h6 2 [13] o0 (va_rf none)).bind fun h8 =>
  (dpF h8 3 [13] o0 (.int 0)).bind fun h10 =>
  (dpF h10 4 [13] o0 (.int 0)).bind fun h12 =>
  (dpF h12 5 [13] o0 (.int 0)).bind fun h14 =>
  (dpF h14 6 [13] o0 (.int 0)).bind fun h16 =>
  some (none, h16)
theorem c162_0 {L : Nat} {xs : Nat → Int32} {zf : Value} {D : dD} {w k : Nat} (hD : dO L xs zf D k) (hz : zf.category = 1) : ∀ (o0 : Option Nat) (o1 : Option Nat) (lv : rm_L) (h : rm_H) (r : dR), rm_get lv 0 = some (va_rf o0) → rm_get lv 1 = some (va_rf o1) → b162_0 L xs zf D w  o0 o1 h = some r → dq L xs zf ah_M162 0 lv [] h (k + 1) r := by
  intro o0 o1 lv h r G0 G1 hh
  unfold b162_0 at hh
  refine dq_aln 0 1 (by decide +kernel) rfl G0 ?_
  rcases di hh with ⟨_, hh⟩ | ⟨q1, hh⟩
  · cases hh
  refine dq_obj 3 4 (by decide +kernel) (dc_s dc_n (by decide +kernel)) rfl q1 ?_
  refine dq_aln 0 5 (by decide +kernel) rfl G0 ?_
  refine dq_aln 1 6 (by decide +kernel) rfl G1 ?_
  obtain ⟨h2, q3, hh⟩ := db hh
  refine dq_put 9 0 [13] 9 (by decide +kernel) rfl q3 ?_
  refine dq_aln 0 10 (by decide +kernel) rfl G0 ?_
  refine dq_S (.bipush 16) 2 [] 12 _ [.int 16, va_rf o0] (by decide +kernel) rfl ?_
  obtain ⟨h4, q5, hh⟩ := db hh
  refine dq_nR 15 6 15 (by decide +kernel) rfl q5 ?_
  obtain ⟨h6, q7, hh⟩ := db hh
  refine dq_put 17 1 [13] 18 (by decide +kernel) rfl q7 ?_
  refine dq_aln 0 19 (by decide +kernel) rfl G0 ?_
  refine dq_S (.aconst_null) 1 [] 20 _ [va_rf none, va_rf o0] (by decide +kernel) rfl ?_
  obtain ⟨h8, q9, hh⟩ := db hh
  refine dq_put 21 2 [13] 23 (by decide +kernel) rfl q9 ?_
  refine dq_aln 0 24 (by decide +kernel) rfl G0 ?_
  refine dq_S (.iconst 0) 1 [] 25 _ [.int 0, va_rf o0] (by decide +kernel) rfl ?_
  obtain ⟨h10, q11, hh⟩ := db hh
  refine dq_put 25 3 [13] 28 (by decide +kernel) rfl q11 ?_
  refine dq_aln 0 29 (by decide +kernel) rfl G0 ?_
  refine dq_S (.iconst 0) 1 [] 30 _ [.int 0, va_rf o0] (by decide +kernel) rfl ?_
  obtain ⟨h12, q13, hh⟩ := db hh
  refine dq_put 29 4 [13] 33 (by decide +kernel) rfl q13 ?_
  refine dq_aln 0 34 (by decide +kernel) rfl G0 ?_
  refine dq_S (.iconst 0) 1 [] 35 _ [.int 0, va_rf o0] (by decide +kernel) rfl ?_
  obtain ⟨h14, q15, hh⟩ := db hh
  refine dq_put 32 5 [13] 38 (by decide +kernel) rfl q15 ?_
  refine dq_aln 0 39 (by decide +kernel) rfl G0 ?_
  refine dq_S (.iconst 0) 1 [] 40 _ [.int 0, va_rf o0] (by decide +kernel) rfl ?_
  obtain ⟨h16, q17, hh⟩ := db hh
  refine dq_put 35 6 [13] 43 (by decide +kernel) rfl q17 ?_
  cases hh
  exact dq_ret0 (by decide +kernel) rfl
def f162 (L : Nat) (xs : Nat → Int32) (zf : Value) (D : dD) (w : Nat) (As : List Value) (h : rm_H) : Option dR := match As with
  | [v0, v1] => (rm_rf v0).bind fun o0 => (rm_rf v1).bind fun o1 => b162_0 L xs zf D w o0 o1 h
  | _ => none
theorem d162 {L : Nat} {xs : Nat → Int32} {zf : Value} {D : dD} {w k : Nat} (hD : dO L xs zf D k) (hz : zf.category = 1) (As : List Value) (h : rm_H) (r : dR) (hh : f162 L xs zf D w As h = some r) : dq L xs zf ah_M162 0 (lv_args 0 As) [] h (k + 1) r := by
  unfold f162 at hh
  split at hh
  · obtain ⟨o0, e0, hb0⟩ := db hh
    have e0 := rm_rf_v _ _ e0
    obtain ⟨o1, e1, hb1⟩ := db hb0
    have e1 := rm_rf_v _ _ e1
    subst e0 e1
    refine c162_0 hD hz _ _ _ _ _ ?_ ?_ hb1
    all_goals (simp only [la_r, la_i, la_j]; rfl)
  · cases hh
def b163_54 (L : Nat) (xs : Nat → Int32) (zf : Value) (D : dD) (w : Nat) (h : rm_H) : Option dR :=
  some (none, h)
theorem c163_54 {L : Nat} {xs : Nat → Int32} {zf : Value} {D : dD} {w k : Nat} (hD : dO L xs zf D k) (hz : zf.category = 1) : ∀ (lv : rm_L) (h : rm_H) (r : dR), b163_54 L xs zf D w  h = some r → dq L xs zf ah_M163 54 lv [] h (k + 1) r := by
  intro lv h r hh
  unfold b163_54 at hh
  cases hh
  exact dq_ret0 (by decide +kernel) rfl
def b163_2 (L : Nat) (xs : Nat → Int32) (zf : Value) (D : dD) (w : Nat) : Nat → Option Nat → Int32 → rm_H → Option dR
  | 0, _, _, _ => none
  | n + 1, o0, i1, h =>
    (dgR L xs h 0 [13] o0).bind fun p1 =>
    (dgR L xs h 2 [4] p1).bind fun p3 =>
    ((dcV L xs D 101 [5] p3 [] h).bind dxI).bind fun x5 =>
    if mx_f2 .ge i1 x5.1 = true then
      b163_54 L xs zf D w x5.2
    else
      (dgR L xs x5.2 0 [13] o0).bind fun p10 =>
      (dgI L xs x5.2 7 [4] p10).bind fun x12 =>
      if mx_f1 .ne x12 = true then
        b163_54 L xs zf D w x5.2
      else
        (dgR L xs x5.2 0 [13] o0).bind fun p15 =>
        (dgR L xs x5.2 2 [4] p15).bind fun p17 =>
        ((dcV L xs D 146 [5] p17 [.int i1] x5.2).bind dxR).bind fun p19 =>
        if dcK L xs p19.2 [11] p19.1 = false then none else
        ((dcV L xs D 164 [13] o0 [va_rf p19.1] p19.2).bind dxV).bind fun h24 =>
        b163_2 L xs zf D w n o0 (i1 + 1) h24
theorem c163_2 {L : Nat} {xs : Nat → Int32} {zf : Value} {D : dD} {w k : Nat} (hD : dO L xs zf D k) (hz : zf.category = 1) : ∀ (n : Nat) (o0 : Option Nat) (i1 : Int32) (lv : rm_L) (h : rm_H) (r : dR), rm_get lv 0 = some (va_rf o0) → rm_get lv 1 = some (.int i1) → b163_2 L xs zf D w n  o0 i1 h = some r → dq L xs zf ah_M163 2 lv [] h (k + 1) r := by
  intro n
  induction n with
  | zero =>
    intro o0 i1 lv h r G0 G1 hh
    cases hh
  | succ n ih =>
    intro o0 i1 lv h r G0 G1 hh
    rw [b163_2] at hh
    refine dq_iln 1 3 (by decide +kernel) rfl G1 ?_
    refine dq_aln 0 4 (by decide +kernel) rfl G0 ?_
    obtain ⟨p1, q2, hh⟩ := db hh
    refine dq_gR 9 0 [13] 7 (by decide +kernel) rfl q2 ?_
    obtain ⟨p3, q4, hh⟩ := db hh
    refine dq_gR 39 2 [4] 10 (by decide +kernel) rfl q4 ?_
    obtain ⟨x5, q6, hh⟩ := db hh
    obtain ⟨a7, q8, q6⟩ := db q6
    rw [dq_xI q6] at q8
    refine dq_cif hD 45 1 101 7 0 [5] p3 [] [.int i1] 15 [.int x5.1, .int i1] (by decide +kernel) ap_101 ⟨⟨Nat.le_of_ble_eq_true rfl, by decide⟩, rfl, rfl⟩ (dq_ok8 [1] [1] (dc_r dc_n) (dc_i dc_n) (by decide +kernel)) (by decide +kernel) rfl q8 rfl ?_
    rcases di hh with ⟨q9, hh⟩ | ⟨q9, hh⟩
    · refine dq_2 .ge 39 true 54 q9 (by decide +kernel) ?_
      exact c163_54 hD hz  _ _ _  hh
    · refine dq_2 .ge 39 false 18 q9 (by decide +kernel) ?_
      refine dq_aln 0 19 (by decide +kernel) rfl G0 ?_
      obtain ⟨p10, q11, hh⟩ := db hh
      refine dq_gR 9 0 [13] 22 (by decide +kernel) rfl q11 ?_
      obtain ⟨x12, q13, hh⟩ := db hh
      refine dq_gI 51 7 [4] 25 (by decide +kernel) rfl q13 ?_
      rcases di hh with ⟨q14, hh⟩ | ⟨q14, hh⟩
      · refine dq_1 .ne 29 true 54 q14 (by decide +kernel) ?_
        exact c163_54 hD hz  _ _ _  hh
      · refine dq_1 .ne 29 false 28 q14 (by decide +kernel) ?_
        refine dq_aln 0 29 (by decide +kernel) rfl G0 ?_
        refine dq_aln 0 30 (by decide +kernel) rfl G0 ?_
        obtain ⟨p15, q16, hh⟩ := db hh
        refine dq_gR 9 0 [13] 33 (by decide +kernel) rfl q16 ?_
        obtain ⟨p17, q18, hh⟩ := db hh
        refine dq_gR 39 2 [4] 36 (by decide +kernel) rfl q18 ?_
        refine dq_iln 1 37 (by decide +kernel) rfl G1 ?_
        obtain ⟨p19, q20, hh⟩ := db hh
        obtain ⟨a21, q22, q20⟩ := db q20
        rw [dq_xR q20] at q22
        refine dq_cif hD 54 2 146 7 1 [5] p17 [.int i1] [va_rf o0] 42 [va_rf p19.1, va_rf o0] (by decide +kernel) ap_146 ⟨⟨Nat.le_of_ble_eq_true rfl, by decide⟩, rfl, rfl⟩ (dq_ok8 [1, 1] [1] (dc_r (dc_i dc_n)) (dc_r dc_n) (by decide +kernel)) (by decide +kernel) rfl q22 rfl ?_
        rcases dp hh with ⟨_, hh⟩ | ⟨q23, hh⟩
        · cases hh
        refine dq_cast 58 [11] 45 (by decide +kernel) ⟨rfl, by decide⟩ (by rw [Bool.not_eq_false] at q23; exact q23) ?_
        obtain ⟨h24, q25, hh⟩ := db hh
        obtain ⟨a26, q27, q25⟩ := db q25
        rw [dq_xV q25] at q27
        refine dq_cvi hD 60 164 5 1 [13] o0 [va_rf p19.1] [] 48 [] (by decide +kernel) ap_164 ⟨⟨Nat.le_of_ble_eq_true rfl, by decide⟩, rfl, rfl⟩ (dq_ok8 [1, 1] [] (dc_r (dc_r dc_n)) dc_n (by decide +kernel)) (by decide +kernel) rfl q27 rfl ?_
        refine dq_incy 1 1 1 51 (by decide +kernel) ⟨rfl, by decide +kernel, by decide +kernel⟩ G1 ?_
        have g28 := dg_ne (i := 1) (u := .int (i1 + 1)) (by decide) (Or.inr (drc _)) G0
        have g29 := dg_eq (lv) 1 (.int (i1 + 1))
        refine dq_S (.goto (-49)) 3 [] 2 _ [] (by decide +kernel) rfl ?_
        exact ih _ _ _ _ _ g28 g29 hh
def b163_0 (L : Nat) (xs : Nat → Int32) (zf : Value) (D : dD) (w : Nat) (o0 : Option Nat) (h : rm_H) : Option dR :=
  b163_2 L xs zf D w w o0 0 h
theorem c163_0 {L : Nat} {xs : Nat → Int32} {zf : Value} {D : dD} {w k : Nat} (hD : dO L xs zf D k) (hz : zf.category = 1) : ∀ (o0 : Option Nat) (lv : rm_L) (h : rm_H) (r : dR), rm_get lv 0 = some (va_rf o0) → b163_0 L xs zf D w  o0 h = some r → dq L xs zf ah_M163 0 lv [] h (k + 1) r := by
  intro o0 lv h r G0 hh
  unfold b163_0 at hh
  refine dq_S (.iconst 0) 1 [] 1 _ [.int 0] (by decide +kernel) rfl ?_
  refine dq_isn 1 2 (by decide +kernel) (by decide +kernel) ?_
  have g1 := dg_ne (i := 1) (u := .int 0) (by decide) (Or.inr (drc _)) G0
  have g2 := dg_eq (lv) 1 (.int 0)
  exact c163_2 hD hz _ _ _ _ _ _ g1 g2 hh
def f163 (L : Nat) (xs : Nat → Int32) (zf : Value) (D : dD) (w : Nat) (As : List Value) (h : rm_H) : Option dR := match As with
  | [v0] => (rm_rf v0).bind fun o0 => b163_0 L xs zf D w o0 h
  | _ => none
theorem d163 {L : Nat} {xs : Nat → Int32} {zf : Value} {D : dD} {w k : Nat} (hD : dO L xs zf D k) (hz : zf.category = 1) (As : List Value) (h : rm_H) (r : dR) (hh : f163 L xs zf D w As h = some r) : dq L xs zf ah_M163 0 (lv_args 0 As) [] h (k + 1) r := by
  unfold f163 at hh
  split at hh
  · obtain ⟨o0, e0, hb0⟩ := db hh
    have e0 := rm_rf_v _ _ e0
    subst e0
    refine c163_0 hD hz _ _ _ _ ?_ hb0
    all_goals (simp only [la_r, la_i, la_j]; rfl)
  · cases hh
def b164_159 (L : Nat) (xs : Nat → Int32) (zf : Value) (D : dD) (w : Nat) (h : rm_H) : Option dR :=
  some (none, h)
theorem c164_159 {L : Nat} {xs : Nat → Int32} {zf : Value} {D : dD} {w k : Nat} (hD : dO L xs zf D k) (hz : zf.category = 1) : ∀ (lv : rm_L) (h : rm_H) (r : dR), b164_159 L xs zf D w  h = some r → dq L xs zf ah_M164 159 lv [] h (k + 1) r := by
  intro lv h r hh
  unfold b164_159 at hh
  cases hh
  exact dq_ret0 (by decide +kernel) rfl
def b164_155 (L : Nat) (xs : Nat → Int32) (zf : Value) (D : dD) (w : Nat) (s0 : Int32) (s1 : Int32) (s2 : Option Nat) (h : rm_H) : Option dR :=
  ((dcV L xs D 175 [4] s2 [.int s1, .int s0] h).bind dxI).bind fun x1 =>
  b164_159 L xs zf D w x1.2
theorem c164_155 {L : Nat} {xs : Nat → Int32} {zf : Value} {D : dD} {w k : Nat} (hD : dO L xs zf D k) (hz : zf.category = 1) : ∀ (s0 : Int32) (s1 : Int32) (s2 : Option Nat) (lv : rm_L) (h : rm_H) (r : dR), b164_155 L xs zf D w  s0 s1 s2 h = some r → dq L xs zf ah_M164 155 lv [.int s0, .int s1, va_rf s2] h (k + 1) r := by
  intro s0 s1 s2 lv h r hh
  unfold b164_155 at hh
  obtain ⟨x1, q2, hh⟩ := db hh
  obtain ⟨a3, q4, q2⟩ := db q2
  rw [dq_xI q2] at q4
  refine dq_cvi hD 104 175 5 2 [4] s2 [.int s1, .int s0] [] 158 [.int x1.1] (by decide +kernel) ap_175 ⟨⟨Nat.le_of_ble_eq_true rfl, by decide⟩, rfl, rfl⟩ (dq_ok8 [1, 1, 1] [] (dc_r (dc_i (dc_i dc_n))) dc_n (by decide +kernel)) (by decide +kernel) rfl q4 rfl ?_
  refine dq_S (.pop) 1 [] 159 _ [] (by decide +kernel) rfl ?_
  exact c164_159 hD hz  _ _ _  hh
def b164_139 (L : Nat) (xs : Nat → Int32) (zf : Value) (D : dD) (w : Nat) (o0 : Option Nat) (s0 : Int32) (h : rm_H) : Option dR :=
  (dgR L xs h 0 [13] o0).bind fun p3 =>
  if mx_f1 .eq s0 = true then
    b164_155 L xs zf D w 0 19 p3 h
  else
    b164_155 L xs zf D w 1 19 p3 h
theorem c164_139 {L : Nat} {xs : Nat → Int32} {zf : Value} {D : dD} {w k : Nat} (hD : dO L xs zf D k) (hz : zf.category = 1) : ∀ (o0 : Option Nat) (s0 : Int32) (lv : rm_L) (h : rm_H) (r : dR), rm_get lv 0 = some (va_rf o0) → b164_139 L xs zf D w  o0 s0 h = some r → dq L xs zf ah_M164 139 lv [.int s0] h (k + 1) r := by
  intro o0 s0 lv h r G0 hh
  unfold b164_139 at hh
  refine dq_isn 2 140 (by decide +kernel) (by decide +kernel) ?_
  have g1 := dg_ne (i := 2) (u := .int s0) (by decide) (Or.inl (by decide)) G0
  have g2 := dg_eq (lv) 2 (.int s0)
  refine dq_aln 0 141 (by decide +kernel) rfl g1 ?_
  obtain ⟨p3, q4, hh⟩ := db hh
  refine dq_gR 9 0 [13] 144 (by decide +kernel) rfl q4 ?_
  refine dq_S (.bipush 19) 2 [] 146 _ [.int 19, va_rf p3] (by decide +kernel) rfl ?_
  refine dq_iln 2 147 (by decide +kernel) rfl g2 ?_
  rcases di hh with ⟨q5, hh⟩ | ⟨q5, hh⟩
  · refine dq_1 .eq 7 true 154 q5 (by decide +kernel) ?_
    refine dq_S (.iconst 0) 1 [] 155 _ [.int 0, .int 19, va_rf p3] (by decide +kernel) rfl ?_
    exact c164_155 hD hz _ _ _ _ _ _  hh
  · refine dq_1 .eq 7 false 150 q5 (by decide +kernel) ?_
    refine dq_S (.iconst 1) 1 [] 151 _ [.int 1, .int 19, va_rf p3] (by decide +kernel) rfl ?_
    refine dq_S (.goto 4) 3 [] 155 _ [.int 1, .int 19, va_rf p3] (by decide +kernel) rfl ?_
    exact c164_155 hD hz _ _ _ _ _ _  hh
def b164_138 (L : Nat) (xs : Nat → Int32) (zf : Value) (D : dD) (w : Nat) (o0 : Option Nat) (h : rm_H) : Option dR :=
  b164_139 L xs zf D w o0 0 h
theorem c164_138 {L : Nat} {xs : Nat → Int32} {zf : Value} {D : dD} {w k : Nat} (hD : dO L xs zf D k) (hz : zf.category = 1) : ∀ (o0 : Option Nat) (lv : rm_L) (h : rm_H) (r : dR), rm_get lv 0 = some (va_rf o0) → b164_138 L xs zf D w  o0 h = some r → dq L xs zf ah_M164 138 lv [] h (k + 1) r := by
  intro o0 lv h r G0 hh
  unfold b164_138 at hh
  refine dq_S (.iconst 0) 1 [] 139 _ [.int 0] (by decide +kernel) rfl ?_
  exact c164_139 hD hz _ _ _ _ _ G0 hh
def b164_97 (L : Nat) (xs : Nat → Int32) (zf : Value) (D : dD) (w : Nat) (o0 : Option Nat) (s0 : Int32) (s1 : Option Nat) (s2 : Option Nat) (h : rm_H) : Option dR :=
  ((dcV L xs D 166 [13] s2 [va_rf s1, .int s0] h).bind dxI).bind fun x1 =>
  (dgR L xs x1.2 2 [13] o0).bind fun p5 =>
  (dgR L xs x1.2 8 [11] p5).bind fun p7 =>
  if dnl p7 = true then
    (dgR L xs x1.2 2 [13] o0).bind fun p10 =>
    (dgI L xs x1.2 0 [11] p10).bind fun x12 =>
    if mx_f1 .ne x12 = true then
      b164_138 L xs zf D w o0 x1.2
    else
      (dgR L xs x1.2 2 [13] o0).bind fun p15 =>
      (dgR L xs x1.2 1 [11] p15).bind fun p17 =>
      (dgI L xs x1.2 2 [9] p17).bind fun x19 =>
      if mx_f1 .ne x19 = true then
        b164_138 L xs zf D w o0 x1.2
      else
        b164_139 L xs zf D w o0 1 x1.2
  else
    b164_159 L xs zf D w x1.2
theorem c164_97 {L : Nat} {xs : Nat → Int32} {zf : Value} {D : dD} {w k : Nat} (hD : dO L xs zf D k) (hz : zf.category = 1) : ∀ (o0 : Option Nat) (s0 : Int32) (s1 : Option Nat) (s2 : Option Nat) (lv : rm_L) (h : rm_H) (r : dR), rm_get lv 0 = some (va_rf o0) → b164_97 L xs zf D w  o0 s0 s1 s2 h = some r → dq L xs zf ah_M164 97 lv [.int s0, va_rf s1, va_rf s2] h (k + 1) r := by
  intro o0 s0 s1 s2 lv h r G0 hh
  unfold b164_97 at hh
  obtain ⟨x1, q2, hh⟩ := db hh
  obtain ⟨a3, q4, q2⟩ := db q2
  rw [dq_xI q2] at q4
  refine dq_cvi hD 86 166 5 2 [13] s2 [va_rf s1, .int s0] [] 100 [.int x1.1] (by decide +kernel) ap_166 ⟨⟨Nat.le_of_ble_eq_true rfl, by decide⟩, rfl, rfl⟩ (dq_ok8 [1, 1, 1] [] (dc_r (dc_r (dc_i dc_n))) dc_n (by decide +kernel)) (by decide +kernel) rfl q4 rfl ?_
  refine dq_S (.pop) 1 [] 101 _ [] (by decide +kernel) rfl ?_
  refine dq_aln 0 102 (by decide +kernel) rfl G0 ?_
  obtain ⟨p5, q6, hh⟩ := db hh
  refine dq_gR 21 2 [13] 105 (by decide +kernel) rfl q6 ?_
  obtain ⟨p7, q8, hh⟩ := db hh
  refine dq_gR 80 8 [11] 108 (by decide +kernel) rfl q8 ?_
  rcases di hh with ⟨q9, hh⟩ | ⟨q9, hh⟩
  · refine dq_nnull 51 false 111 q9 (by decide +kernel) (by decide +kernel) ?_
    refine dq_aln 0 112 (by decide +kernel) rfl G0 ?_
    obtain ⟨p10, q11, hh⟩ := db hh
    refine dq_gR 21 2 [13] 115 (by decide +kernel) rfl q11 ?_
    obtain ⟨x12, q13, hh⟩ := db hh
    refine dq_gI 90 0 [11] 118 (by decide +kernel) rfl q13 ?_
    rcases di hh with ⟨q14, hh⟩ | ⟨q14, hh⟩
    · refine dq_1 .ne 20 true 138 q14 (by decide +kernel) ?_
      exact c164_138 hD hz _ _ _ _ G0 hh
    · refine dq_1 .ne 20 false 121 q14 (by decide +kernel) ?_
      refine dq_aln 0 122 (by decide +kernel) rfl G0 ?_
      obtain ⟨p15, q16, hh⟩ := db hh
      refine dq_gR 21 2 [13] 125 (by decide +kernel) rfl q16 ?_
      obtain ⟨p17, q18, hh⟩ := db hh
      refine dq_gR 93 1 [11] 128 (by decide +kernel) rfl q18 ?_
      obtain ⟨x19, q20, hh⟩ := db hh
      refine dq_gI 97 2 [9] 131 (by decide +kernel) rfl q20 ?_
      rcases di hh with ⟨q21, hh⟩ | ⟨q21, hh⟩
      · refine dq_1 .ne 7 true 138 q21 (by decide +kernel) ?_
        exact c164_138 hD hz _ _ _ _ G0 hh
      · refine dq_1 .ne 7 false 134 q21 (by decide +kernel) ?_
        refine dq_S (.iconst 1) 1 [] 135 _ [.int 1] (by decide +kernel) rfl ?_
        refine dq_S (.goto 4) 3 [] 139 _ [.int 1] (by decide +kernel) rfl ?_
        exact c164_139 hD hz _ _ _ _ _ G0 hh
  · refine dq_nnull 51 true 159 q9 (by decide +kernel) (by decide +kernel) ?_
    exact c164_159 hD hz  _ _ _  hh
def b164_17 (L : Nat) (xs : Nat → Int32) (zf : Value) (D : dD) (w : Nat) : Nat → Option Nat → Int32 → rm_H → Option dR
  | 0, _, _, _ => none
  | n + 1, o0, i2, h =>
    (dgR L xs h 2 [13] o0).bind fun p1 =>
    (dgR L xs h 5 [11] p1).bind fun p3 =>
    ((dcV L xs D 101 [5] p3 [] h).bind dxI).bind fun x5 =>
    if mx_f2 .ge i2 x5.1 = true then
      (dgR L xs x5.2 2 [13] o0).bind fun p10 =>
      (dgR L xs x5.2 0 [13] o0).bind fun p12 =>
      (dgI L xs x5.2 11 [4] p12).bind fun x14 =>
      (dpF x5.2 11 [11] p10 (.int x14)).bind fun h16 =>
      (dgR L xs h16 2 [13] o0).bind fun p18 =>
      (dgR L xs h16 9 [11] p18).bind fun p20 =>
      (dgR L xs h16 2 [13] o0).bind fun p22 =>
      (dgR L xs h16 8 [11] p22).bind fun p24 =>
      if dnl p24 = true then
        b164_97 L xs zf D w o0 0 p20 o0 h16
      else
        b164_97 L xs zf D w o0 19 p20 o0 h16
    else
      (dgR L xs x5.2 2 [13] o0).bind fun p27 =>
      (dgR L xs x5.2 5 [11] p27).bind fun p29 =>
      ((dcV L xs D 146 [5] p29 [.int i2] x5.2).bind dxR).bind fun p31 =>
      if dcK L xs p31.2 [10] p31.1 = false then none else
      ((dcV L xs D 165 [13] o0 [va_rf p31.1] p31.2).bind dxV).bind fun h36 =>
      b164_17 L xs zf D w n o0 (i2 + 1) h36
theorem c164_17 {L : Nat} {xs : Nat → Int32} {zf : Value} {D : dD} {w k : Nat} (hD : dO L xs zf D k) (hz : zf.category = 1) : ∀ (n : Nat) (o0 : Option Nat) (i2 : Int32) (lv : rm_L) (h : rm_H) (r : dR), rm_get lv 0 = some (va_rf o0) → rm_get lv 2 = some (.int i2) → b164_17 L xs zf D w n  o0 i2 h = some r → dq L xs zf ah_M164 17 lv [] h (k + 1) r := by
  intro n
  induction n with
  | zero =>
    intro o0 i2 lv h r G0 G2 hh
    cases hh
  | succ n ih =>
    intro o0 i2 lv h r G0 G2 hh
    rw [b164_17] at hh
    refine dq_iln 2 18 (by decide +kernel) rfl G2 ?_
    refine dq_aln 0 19 (by decide +kernel) rfl G0 ?_
    obtain ⟨p1, q2, hh⟩ := db hh
    refine dq_gR 21 2 [13] 22 (by decide +kernel) rfl q2 ?_
    obtain ⟨p3, q4, hh⟩ := db hh
    refine dq_gR 64 5 [11] 25 (by decide +kernel) rfl q4 ?_
    obtain ⟨x5, q6, hh⟩ := db hh
    obtain ⟨a7, q8, q6⟩ := db q6
    rw [dq_xI q6] at q8
    refine dq_cif hD 45 1 101 7 0 [5] p3 [] [.int i2] 30 [.int x5.1, .int i2] (by decide +kernel) ap_101 ⟨⟨Nat.le_of_ble_eq_true rfl, by decide⟩, rfl, rfl⟩ (dq_ok8 [1] [1] (dc_r dc_n) (dc_i dc_n) (by decide +kernel)) (by decide +kernel) rfl q8 rfl ?_
    rcases di hh with ⟨q9, hh⟩ | ⟨q9, hh⟩
    · refine dq_2 .ge 29 true 59 q9 (by decide +kernel) ?_
      refine dq_aln 0 60 (by decide +kernel) rfl G0 ?_
      obtain ⟨p10, q11, hh⟩ := db hh
      refine dq_gR 21 2 [13] 63 (by decide +kernel) rfl q11 ?_
      refine dq_aln 0 64 (by decide +kernel) rfl G0 ?_
      obtain ⟨p12, q13, hh⟩ := db hh
      refine dq_gR 9 0 [13] 67 (by decide +kernel) rfl q13 ?_
      obtain ⟨x14, q15, hh⟩ := db hh
      refine dq_gI 71 11 [4] 70 (by decide +kernel) rfl q15 ?_
      obtain ⟨h16, q17, hh⟩ := db hh
      refine dq_put 73 11 [11] 73 (by decide +kernel) rfl q17 ?_
      refine dq_aln 0 74 (by decide +kernel) rfl G0 ?_
      refine dq_aln 0 75 (by decide +kernel) rfl G0 ?_
      obtain ⟨p18, q19, hh⟩ := db hh
      refine dq_gR 21 2 [13] 78 (by decide +kernel) rfl q19 ?_
      obtain ⟨p20, q21, hh⟩ := db hh
      refine dq_gR 76 9 [11] 81 (by decide +kernel) rfl q21 ?_
      refine dq_aln 0 82 (by decide +kernel) rfl G0 ?_
      obtain ⟨p22, q23, hh⟩ := db hh
      refine dq_gR 21 2 [13] 85 (by decide +kernel) rfl q23 ?_
      obtain ⟨p24, q25, hh⟩ := db hh
      refine dq_gR 80 8 [11] 88 (by decide +kernel) rfl q25 ?_
      rcases di hh with ⟨q26, hh⟩ | ⟨q26, hh⟩
      · refine dq_nnull 7 false 91 q26 (by decide +kernel) (by decide +kernel) ?_
        refine dq_S (.iconst 0) 1 [] 92 _ [.int 0, va_rf p20, va_rf o0] (by decide +kernel) rfl ?_
        refine dq_S (.goto 5) 3 [] 97 _ [.int 0, va_rf p20, va_rf o0] (by decide +kernel) rfl ?_
        exact c164_97 hD hz _ _ _ _ _ _ _ G0 hh
      · refine dq_nnull 7 true 95 q26 (by decide +kernel) (by decide +kernel) ?_
        refine dq_S (.bipush 19) 2 [] 97 _ [.int 19, va_rf p20, va_rf o0] (by decide +kernel) rfl ?_
        exact c164_97 hD hz _ _ _ _ _ _ _ G0 hh
    · refine dq_2 .ge 29 false 33 q9 (by decide +kernel) ?_
      refine dq_aln 0 34 (by decide +kernel) rfl G0 ?_
      refine dq_aln 0 35 (by decide +kernel) rfl G0 ?_
      obtain ⟨p27, q28, hh⟩ := db hh
      refine dq_gR 21 2 [13] 38 (by decide +kernel) rfl q28 ?_
      obtain ⟨p29, q30, hh⟩ := db hh
      refine dq_gR 64 5 [11] 41 (by decide +kernel) rfl q30 ?_
      refine dq_iln 2 42 (by decide +kernel) rfl G2 ?_
      obtain ⟨p31, q32, hh⟩ := db hh
      obtain ⟨a33, q34, q32⟩ := db q32
      rw [dq_xR q32] at q34
      refine dq_cif hD 54 2 146 7 1 [5] p29 [.int i2] [va_rf o0] 47 [va_rf p31.1, va_rf o0] (by decide +kernel) ap_146 ⟨⟨Nat.le_of_ble_eq_true rfl, by decide⟩, rfl, rfl⟩ (dq_ok8 [1, 1] [1] (dc_r (dc_i dc_n)) (dc_r dc_n) (by decide +kernel)) (by decide +kernel) rfl q34 rfl ?_
      rcases dp hh with ⟨_, hh⟩ | ⟨q35, hh⟩
      · cases hh
      refine dq_cast 15 [10] 50 (by decide +kernel) ⟨rfl, by decide⟩ (by rw [Bool.not_eq_false] at q35; exact q35) ?_
      obtain ⟨h36, q37, hh⟩ := db hh
      obtain ⟨a38, q39, q37⟩ := db q37
      rw [dq_xV q37] at q39
      refine dq_cvi hD 67 165 5 1 [13] o0 [va_rf p31.1] [] 53 [] (by decide +kernel) ap_165 ⟨⟨Nat.le_of_ble_eq_true rfl, by decide⟩, rfl, rfl⟩ (dq_ok8 [1, 1] [] (dc_r (dc_r dc_n)) dc_n (by decide +kernel)) (by decide +kernel) rfl q39 rfl ?_
      refine dq_incy 2 1 1 56 (by decide +kernel) ⟨rfl, by decide +kernel, by decide +kernel⟩ G2 ?_
      have g40 := dg_ne (i := 2) (u := .int (i2 + 1)) (by decide) (Or.inl (by decide)) G0
      have g41 := dg_eq (lv) 2 (.int (i2 + 1))
      refine dq_S (.goto (-39)) 3 [] 17 _ [] (by decide +kernel) rfl ?_
      exact ih _ _ _ _ _ g40 g41 hh
def b164_0 (L : Nat) (xs : Nat → Int32) (zf : Value) (D : dD) (w : Nat) (o0 : Option Nat) (o1 : Option Nat) (h : rm_H) : Option dR :=
  (dpF h 2 [13] o0 (va_rf o1)).bind fun h1 =>
  (dpF h1 3 [13] o0 (.int 0)).bind fun h3 =>
  (dpF h3 4 [13] o0 (.int 0)).bind fun h5 =>
  b164_17 L xs zf D w w o0 0 h5
theorem c164_0 {L : Nat} {xs : Nat → Int32} {zf : Value} {D : dD} {w k : Nat} (hD : dO L xs zf D k) (hz : zf.category = 1) : ∀ (o0 : Option Nat) (o1 : Option Nat) (lv : rm_L) (h : rm_H) (r : dR), rm_get lv 0 = some (va_rf o0) → rm_get lv 1 = some (va_rf o1) → b164_0 L xs zf D w  o0 o1 h = some r → dq L xs zf ah_M164 0 lv [] h (k + 1) r := by
  intro o0 o1 lv h r G0 G1 hh
  unfold b164_0 at hh
  refine dq_aln 0 1 (by decide +kernel) rfl G0 ?_
  refine dq_aln 1 2 (by decide +kernel) rfl G1 ?_
  obtain ⟨h1, q2, hh⟩ := db hh
  refine dq_put 21 2 [13] 5 (by decide +kernel) rfl q2 ?_
  refine dq_aln 0 6 (by decide +kernel) rfl G0 ?_
  refine dq_S (.iconst 0) 1 [] 7 _ [.int 0, va_rf o0] (by decide +kernel) rfl ?_
  obtain ⟨h3, q4, hh⟩ := db hh
  refine dq_put 25 3 [13] 10 (by decide +kernel) rfl q4 ?_
  refine dq_aln 0 11 (by decide +kernel) rfl G0 ?_
  refine dq_S (.iconst 0) 1 [] 12 _ [.int 0, va_rf o0] (by decide +kernel) rfl ?_
  obtain ⟨h5, q6, hh⟩ := db hh
  refine dq_put 29 4 [13] 15 (by decide +kernel) rfl q6 ?_
  refine dq_S (.iconst 0) 1 [] 16 _ [.int 0] (by decide +kernel) rfl ?_
  refine dq_isn 2 17 (by decide +kernel) (by decide +kernel) ?_
  have g7 := dg_ne (i := 2) (u := .int 0) (by decide) (Or.inl (by decide)) G0
  have g8 := dg_ne (i := 2) (u := .int 0) (by decide) (Or.inr (drc _)) G1
  have g9 := dg_eq (lv) 2 (.int 0)
  exact c164_17 hD hz _ _ _ _ _ _ g7 g9 hh
def f164 (L : Nat) (xs : Nat → Int32) (zf : Value) (D : dD) (w : Nat) (As : List Value) (h : rm_H) : Option dR := match As with
  | [v0, v1] => (rm_rf v0).bind fun o0 => (rm_rf v1).bind fun o1 => b164_0 L xs zf D w o0 o1 h
  | _ => none
theorem d164 {L : Nat} {xs : Nat → Int32} {zf : Value} {D : dD} {w k : Nat} (hD : dO L xs zf D k) (hz : zf.category = 1) (As : List Value) (h : rm_H) (r : dR) (hh : f164 L xs zf D w As h = some r) : dq L xs zf ah_M164 0 (lv_args 0 As) [] h (k + 1) r := by
  unfold f164 at hh
  split at hh
  · obtain ⟨o0, e0, hb0⟩ := db hh
    have e0 := rm_rf_v _ _ e0
    obtain ⟨o1, e1, hb1⟩ := db hb0
    have e1 := rm_rf_v _ _ e1
    subst e0 e1
    refine c164_0 hD hz _ _ _ _ _ ?_ ?_ hb1
    all_goals (simp only [la_r, la_i, la_j]; rfl)
  · cases hh
def b165_32 (L : Nat) (xs : Nat → Int32) (zf : Value) (D : dD) (w : Nat) (h : rm_H) : Option dR :=
  some (none, h)
theorem c165_32 {L : Nat} {xs : Nat → Int32} {zf : Value} {D : dD} {w k : Nat} (hD : dO L xs zf D k) (hz : zf.category = 1) : ∀ (lv : rm_L) (h : rm_H) (r : dR), b165_32 L xs zf D w  h = some r → dq L xs zf ah_M165 32 lv [] h (k + 1) r := by
  intro lv h r hh
  unfold b165_32 at hh
  cases hh
  exact dq_ret0 (by decide +kernel) rfl
def b165_0 (L : Nat) (xs : Nat → Int32) (zf : Value) (D : dD) (w : Nat) (o0 : Option Nat) (o1 : Option Nat) (h : rm_H) : Option dR :=
  (dgI L xs h 3 [13] o0).bind fun x1 =>
  (dgR L xs h 1 [13] o0).bind fun p3 =>
  (daN L xs h p3).bind fun x5 =>
  if mx_f2 .ge x1 x5 = true then
    b165_32 L xs zf D w h
  else
    (dgR L xs h 1 [13] o0).bind fun p8 =>
    (dgI L xs h 3 [13] o0).bind fun x10 =>
    (dsR L xs h p8 x10 o1).bind fun h12 =>
    (dgI L xs h12 3 [13] o0).bind fun x14 =>
    (dpF h12 3 [13] o0 (.int (x14 + 1))).bind fun h16 =>
    b165_32 L xs zf D w h16
theorem c165_0 {L : Nat} {xs : Nat → Int32} {zf : Value} {D : dD} {w k : Nat} (hD : dO L xs zf D k) (hz : zf.category = 1) : ∀ (o0 : Option Nat) (o1 : Option Nat) (lv : rm_L) (h : rm_H) (r : dR), rm_get lv 0 = some (va_rf o0) → rm_get lv 1 = some (va_rf o1) → b165_0 L xs zf D w  o0 o1 h = some r → dq L xs zf ah_M165 0 lv [] h (k + 1) r := by
  intro o0 o1 lv h r G0 G1 hh
  unfold b165_0 at hh
  refine dq_aln 0 1 (by decide +kernel) rfl G0 ?_
  obtain ⟨x1, q2, hh⟩ := db hh
  refine dq_gI 25 3 [13] 4 (by decide +kernel) rfl q2 ?_
  refine dq_aln 0 5 (by decide +kernel) rfl G0 ?_
  obtain ⟨p3, q4, hh⟩ := db hh
  refine dq_gR 17 1 [13] 8 (by decide +kernel) rfl q4 ?_
  obtain ⟨x5, q6, hh⟩ := db hh
  refine dq_aN 9 (by decide +kernel) rfl q6 ?_
  rcases di hh with ⟨q7, hh⟩ | ⟨q7, hh⟩
  · refine dq_2 .ge 23 true 32 q7 (by decide +kernel) ?_
    exact c165_32 hD hz  _ _ _  hh
  · refine dq_2 .ge 23 false 12 q7 (by decide +kernel) ?_
    refine dq_aln 0 13 (by decide +kernel) rfl G0 ?_
    obtain ⟨p8, q9, hh⟩ := db hh
    refine dq_gR 17 1 [13] 16 (by decide +kernel) rfl q9 ?_
    refine dq_aln 0 17 (by decide +kernel) rfl G0 ?_
    obtain ⟨x10, q11, hh⟩ := db hh
    refine dq_gI 25 3 [13] 20 (by decide +kernel) rfl q11 ?_
    refine dq_aln 1 21 (by decide +kernel) rfl G1 ?_
    obtain ⟨h12, q13, hh⟩ := db hh
    refine dq_sR 22 (by decide +kernel) rfl q13 ?_
    refine dq_aln 0 23 (by decide +kernel) rfl G0 ?_
    refine dq_dup 24 (by decide +kernel) rfl ?_
    obtain ⟨x14, q15, hh⟩ := db hh
    refine dq_gI 25 3 [13] 27 (by decide +kernel) rfl q15 ?_
    refine dq_S (.iconst 1) 1 [] 28 _ [.int 1, .int x14, va_rf o0] (by decide +kernel) rfl ?_
    refine dq_S (.iadd) 1 [] 29 _ [.int (x14 + 1), va_rf o0] (by decide +kernel) rfl ?_
    obtain ⟨h16, q17, hh⟩ := db hh
    refine dq_put 25 3 [13] 32 (by decide +kernel) rfl q17 ?_
    exact c165_32 hD hz  _ _ _  hh
def f165 (L : Nat) (xs : Nat → Int32) (zf : Value) (D : dD) (w : Nat) (As : List Value) (h : rm_H) : Option dR := match As with
  | [v0, v1] => (rm_rf v0).bind fun o0 => (rm_rf v1).bind fun o1 => b165_0 L xs zf D w o0 o1 h
  | _ => none
theorem d165 {L : Nat} {xs : Nat → Int32} {zf : Value} {D : dD} {w k : Nat} (hD : dO L xs zf D k) (hz : zf.category = 1) (As : List Value) (h : rm_H) (r : dR) (hh : f165 L xs zf D w As h = some r) : dq L xs zf ah_M165 0 (lv_args 0 As) [] h (k + 1) r := by
  unfold f165 at hh
  split at hh
  · obtain ⟨o0, e0, hb0⟩ := db hh
    have e0 := rm_rf_v _ _ e0
    obtain ⟨o1, e1, hb1⟩ := db hb0
    have e1 := rm_rf_v _ _ e1
    subst e0 e1
    refine c165_0 hD hz _ _ _ _ _ ?_ ?_ hb1
    all_goals (simp only [la_r, la_i, la_j]; rfl)
  · cases hh
def b166_61 (L : Nat) (xs : Nat → Int32) (zf : Value) (D : dD) (w : Nat) (K23 : Option Nat → Option Nat → Int32 → Int32 → Int32 → Int32 → Int32 → rm_H → Option dR) (o0 : Option Nat) (o1 : Option Nat) (i2 : Int32) (i3 : Int32) (i5 : Int32) (i6 : Int32) (s0 : Int32) (s1 : Option Nat) (s2 : Option Nat) (h : rm_H) : Option dR :=
  ((dcV L xs D 169 [13] s2 [va_rf s1, .int s0] h).bind dxI).bind fun x1 =>
  K23 o0 o1 i2 i3 x1.1 i5 (i6 + 1) x1.2
theorem c166_61 {L : Nat} {xs : Nat → Int32} {zf : Value} {D : dD} {w k : Nat} {K23 : Option Nat → Option Nat → Int32 → Int32 → Int32 → Int32 → Int32 → rm_H → Option dR} (hD : dO L xs zf D k) (hz : zf.category = 1) (hK23 : ∀ (o0 : Option Nat) (o1 : Option Nat) (i2 : Int32) (i3 : Int32) (i4 : Int32) (i5 : Int32) (i6 : Int32) (lv : rm_L) (h : rm_H) (r : dR), rm_get lv 0 = some (va_rf o0) → rm_get lv 1 = some (va_rf o1) → rm_get lv 2 = some (.int i2) → rm_get lv 3 = some (.int i3) → rm_get lv 4 = some (.int i4) → rm_get lv 5 = some (.int i5) → rm_get lv 6 = some (.int i6) → K23 o0 o1 i2 i3 i4 i5 i6 h = some r → dq L xs zf ah_M166 23 lv [] h (k + 1) r) : ∀ (o0 : Option Nat) (o1 : Option Nat) (i2 : Int32) (i3 : Int32) (i5 : Int32) (i6 : Int32) (s0 : Int32) (s1 : Option Nat) (s2 : Option Nat) (lv : rm_L) (h : rm_H) (r : dR), rm_get lv 0 = some (va_rf o0) → rm_get lv 1 = some (va_rf o1) → rm_get lv 2 = some (.int i2) → rm_get lv 3 = some (.int i3) → rm_get lv 5 = some (.int i5) → rm_get lv 6 = some (.int i6) → b166_61 L xs zf D w K23  o0 o1 i2 i3 i5 i6 s0 s1 s2 h = some r → dq L xs zf ah_M166 61 lv [.int s0, va_rf s1, va_rf s2] h (k + 1) r := by
  intro o0 o1 i2 i3 i5 i6 s0 s1 s2 lv h r G0 G1 G2 G3 G5 G6 hh
  unfold b166_61 at hh
  obtain ⟨x1, q2, hh⟩ := db hh
  obtain ⟨a3, q4, q2⟩ := db q2
  rw [dq_xI q2] at q4
  refine dq_cvi hD 131 169 5 2 [13] s2 [va_rf s1, .int s0] [] 64 [.int x1.1] (by decide +kernel) ap_169 ⟨⟨Nat.le_of_ble_eq_true rfl, by decide⟩, rfl, rfl⟩ (dq_ok8 [1, 1, 1] [] (dc_r (dc_r (dc_i dc_n))) dc_n (by decide +kernel)) (by decide +kernel) rfl q4 rfl ?_
  refine dq_is 4 66 (by decide +kernel) (by decide +kernel) ?_
  have g5 := dg_ne (i := 4) (u := .int x1.1) (by decide) (Or.inl (by decide)) G0
  have g6 := dg_ne (i := 4) (u := .int x1.1) (by decide) (Or.inl (by decide)) G1
  have g7 := dg_ne (i := 4) (u := .int x1.1) (by decide) (Or.inl (by decide)) G2
  have g8 := dg_ne (i := 4) (u := .int x1.1) (by decide) (Or.inr rfl) G3
  have g9 := dg_ne (i := 4) (u := .int x1.1) (by decide) (Or.inl (by decide)) G5
  have g10 := dg_ne (i := 4) (u := .int x1.1) (by decide) (Or.inl (by decide)) G6
  have g11 := dg_eq (lv) 4 (.int x1.1)
  refine dq_incy 6 1 1 69 (by decide +kernel) ⟨rfl, by decide +kernel, by decide +kernel⟩ g10 ?_
  have g12 := dg_ne (i := 6) (u := .int (i6 + 1)) (by decide) (Or.inl (by decide)) g5
  have g13 := dg_ne (i := 6) (u := .int (i6 + 1)) (by decide) (Or.inl (by decide)) g6
  have g14 := dg_ne (i := 6) (u := .int (i6 + 1)) (by decide) (Or.inl (by decide)) g7
  have g15 := dg_ne (i := 6) (u := .int (i6 + 1)) (by decide) (Or.inl (by decide)) g8
  have g16 := dg_ne (i := 6) (u := .int (i6 + 1)) (by decide) (Or.inr rfl) g9
  have g17 := dg_ne (i := 6) (u := .int (i6 + 1)) (by decide) (Or.inl (by decide)) g11
  have g18 := dg_eq (rm_set1 (lv) 4 (.int x1.1)) 6 (.int (i6 + 1))
  refine dq_S (.goto (-46)) 3 [] 23 _ [] (by decide +kernel) rfl ?_
  exact hK23 _ _ _ _ _ _ _ _ _ _ g12 g13 g14 g15 g17 g16 g18 hh
def b166_110 (L : Nat) (xs : Nat → Int32) (zf : Value) (D : dD) (w : Nat) (o0 : Option Nat) (i3 : Int32) (i4 : Int32) (h : rm_H) : Option dR :=
  (dpF h 3 [13] o0 (.int i3)).bind fun h1 =>
  drI (some .int) i4 h1
theorem c166_110 {L : Nat} {xs : Nat → Int32} {zf : Value} {D : dD} {w k : Nat} (hD : dO L xs zf D k) (hz : zf.category = 1) : ∀ (o0 : Option Nat) (i3 : Int32) (i4 : Int32) (lv : rm_L) (h : rm_H) (r : dR), rm_get lv 0 = some (va_rf o0) → rm_get lv 3 = some (.int i3) → rm_get lv 4 = some (.int i4) → b166_110 L xs zf D w  o0 i3 i4 h = some r → dq L xs zf ah_M166 110 lv [] h (k + 1) r := by
  intro o0 i3 i4 lv h r G0 G3 G4 hh
  unfold b166_110 at hh
  refine dq_aln 0 111 (by decide +kernel) rfl G0 ?_
  refine dq_iln 3 112 (by decide +kernel) rfl G3 ?_
  obtain ⟨h1, q2, hh⟩ := db hh
  refine dq_put 25 3 [13] 115 (by decide +kernel) rfl q2 ?_
  refine dq_il 4 117 (by decide +kernel) rfl G4 ?_
  exact dq_retI (some .int) (by decide +kernel) rfl hh
def b166_100 (L : Nat) (xs : Nat → Int32) (zf : Value) (D : dD) (w : Nat) (o0 : Option Nat) (o1 : Option Nat) (i3 : Int32) (i4 : Int32) (h : rm_H) : Option dR :=
  (dgI L xs h 3 [12] o1).bind fun x1 =>
  ((dcV L xs D 178 [13] o0 [.int 8, .int x1] h).bind dxV).bind fun h3 =>
  b166_110 L xs zf D w o0 i3 i4 h3
theorem c166_100 {L : Nat} {xs : Nat → Int32} {zf : Value} {D : dD} {w k : Nat} (hD : dO L xs zf D k) (hz : zf.category = 1) : ∀ (o0 : Option Nat) (o1 : Option Nat) (i3 : Int32) (i4 : Int32) (lv : rm_L) (h : rm_H) (r : dR), rm_get lv 0 = some (va_rf o0) → rm_get lv 1 = some (va_rf o1) → rm_get lv 3 = some (.int i3) → rm_get lv 4 = some (.int i4) → b166_100 L xs zf D w  o0 o1 i3 i4 h = some r → dq L xs zf ah_M166 100 lv [] h (k + 1) r := by
  intro o0 o1 i3 i4 lv h r G0 G1 G3 G4 hh
  unfold b166_100 at hh
  refine dq_aln 0 101 (by decide +kernel) rfl G0 ?_
  refine dq_S (.bipush 8) 2 [] 103 _ [.int 8, va_rf o0] (by decide +kernel) rfl ?_
  refine dq_aln 1 104 (by decide +kernel) rfl G1 ?_
  obtain ⟨x1, q2, hh⟩ := db hh
  refine dq_gI 137 3 [12] 107 (by decide +kernel) rfl q2 ?_
  obtain ⟨h3, q4, hh⟩ := db hh
  obtain ⟨a5, q6, q4⟩ := db q4
  rw [dq_xV q4] at q6
  refine dq_cvi hD 140 178 5 2 [13] o0 [.int 8, .int x1] [] 110 [] (by decide +kernel) ap_178 ⟨⟨Nat.le_of_ble_eq_true rfl, by decide⟩, rfl, rfl⟩ (dq_ok8 [1, 1, 1] [] (dc_r (dc_i (dc_i dc_n))) dc_n (by decide +kernel)) (by decide +kernel) rfl q6 rfl ?_
  exact c166_110 hD hz _ _ _ _ _ _ G0 G3 G4 hh
def b166_72 (L : Nat) (xs : Nat → Int32) (zf : Value) (D : dD) (w : Nat) (o0 : Option Nat) (o1 : Option Nat) (i2 : Int32) (i3 : Int32) (i4 : Int32) (i5 : Int32) (h : rm_H) : Option dR :=
  ((dcV L xs D 168 [12] o1 [.int (i5 - 1)] h).bind dxR).bind fun p1 =>
  if mx_f1 .eq i2 = true then
    b166_110 L xs zf D w o0 i3 i4 p1.2
  else
    if dnl p1.1 = true then
      b166_100 L xs zf D w o0 o1 i3 i4 p1.2
    else
      (dgI L xs p1.2 0 [12] p1.1).bind fun x14 =>
      if mx_f2 .eq x14 i2 = true then
        b166_110 L xs zf D w o0 i3 i4 p1.2
      else
        b166_100 L xs zf D w o0 o1 i3 i4 p1.2
theorem c166_72 {L : Nat} {xs : Nat → Int32} {zf : Value} {D : dD} {w k : Nat} (hD : dO L xs zf D k) (hz : zf.category = 1) : ∀ (o0 : Option Nat) (o1 : Option Nat) (i2 : Int32) (i3 : Int32) (i4 : Int32) (i5 : Int32) (lv : rm_L) (h : rm_H) (r : dR), rm_get lv 0 = some (va_rf o0) → rm_get lv 1 = some (va_rf o1) → rm_get lv 2 = some (.int i2) → rm_get lv 3 = some (.int i3) → rm_get lv 4 = some (.int i4) → rm_get lv 5 = some (.int i5) → b166_72 L xs zf D w  o0 o1 i2 i3 i4 i5 h = some r → dq L xs zf ah_M166 72 lv [] h (k + 1) r := by
  intro o0 o1 i2 i3 i4 i5 lv h r G0 G1 G2 G3 G4 G5 hh
  unfold b166_72 at hh
  refine dq_aln 1 73 (by decide +kernel) rfl G1 ?_
  refine dq_il 5 75 (by decide +kernel) rfl G5 ?_
  refine dq_S (.iconst 1) 1 [] 76 _ [.int 1, .int i5, va_rf o1] (by decide +kernel) rfl ?_
  refine dq_S (.isub) 1 [] 77 _ [.int (i5 - 1), va_rf o1] (by decide +kernel) rfl ?_
  obtain ⟨p1, q2, hh⟩ := db hh
  obtain ⟨a3, q4, q2⟩ := db q2
  rw [dq_xR q2] at q4
  refine dq_cvi hD 127 168 5 1 [12] o1 [.int (i5 - 1)] [] 80 [va_rf p1.1] (by decide +kernel) ap_168 ⟨⟨Nat.le_of_ble_eq_true rfl, by decide⟩, rfl, rfl⟩ (dq_ok8 [1, 1] [] (dc_r (dc_i dc_n)) dc_n (by decide +kernel)) (by decide +kernel) rfl q4 rfl ?_
  refine dq_as 6 82 (by decide +kernel) (by decide +kernel) ?_
  have g5 := dg_ne (i := 6) (u := va_rf p1.1) (by decide) (Or.inl (by decide)) G0
  have g6 := dg_ne (i := 6) (u := va_rf p1.1) (by decide) (Or.inl (by decide)) G1
  have g7 := dg_ne (i := 6) (u := va_rf p1.1) (by decide) (Or.inl (by decide)) G2
  have g8 := dg_ne (i := 6) (u := va_rf p1.1) (by decide) (Or.inl (by decide)) G3
  have g9 := dg_ne (i := 6) (u := va_rf p1.1) (by decide) (Or.inl (by decide)) G4
  have g10 := dg_ne (i := 6) (u := va_rf p1.1) (by decide) (Or.inr rfl) G5
  have g11 := dg_eq (lv) 6 (va_rf p1.1)
  refine dq_iln 2 83 (by decide +kernel) rfl g7 ?_
  rcases di hh with ⟨q12, hh⟩ | ⟨q12, hh⟩
  · refine dq_1 .eq 27 true 110 q12 (by decide +kernel) ?_
    exact c166_110 hD hz _ _ _ _ _ _ g5 g8 g9 hh
  · refine dq_1 .eq 27 false 86 q12 (by decide +kernel) ?_
    refine dq_al 6 88 (by decide +kernel) rfl g11 ?_
    rcases di hh with ⟨q13, hh⟩ | ⟨q13, hh⟩
    · refine dq_null 12 true 100 q13 (by decide +kernel) (by decide +kernel) ?_
      exact c166_100 hD hz _ _ _ _ _ _ _ g5 g6 g8 g9 hh
    · refine dq_null 12 false 91 q13 (by decide +kernel) (by decide +kernel) ?_
      refine dq_al 6 93 (by decide +kernel) rfl g11 ?_
      obtain ⟨x14, q15, hh⟩ := db hh
      refine dq_gI 134 0 [12] 96 (by decide +kernel) rfl q15 ?_
      refine dq_iln 2 97 (by decide +kernel) rfl g7 ?_
      rcases di hh with ⟨q16, hh⟩ | ⟨q16, hh⟩
      · refine dq_2 .eq 13 true 110 q16 (by decide +kernel) ?_
        exact c166_110 hD hz _ _ _ _ _ _ g5 g8 g9 hh
      · refine dq_2 .eq 13 false 100 q16 (by decide +kernel) ?_
        exact c166_100 hD hz _ _ _ _ _ _ _ g5 g6 g8 g9 hh
def b166_23 (L : Nat) (xs : Nat → Int32) (zf : Value) (D : dD) (w : Nat) : Nat → Option Nat → Option Nat → Int32 → Int32 → Int32 → Int32 → Int32 → rm_H → Option dR
  | 0, _, _, _, _, _, _, _, _ => none
  | n + 1, o0, o1, i2, i3, i4, i5, i6, h =>
    if mx_f2 .ge i6 i5 = true then
      b166_72 L xs zf D w o0 o1 i2 i3 i4 i5 h
    else
      (dgR L xs h 0 [13] o0).bind fun p2 =>
      (dgI L xs h 7 [4] p2).bind fun x4 =>
      if mx_f1 .ne x4 = true then
        b166_72 L xs zf D w o0 o1 i2 i3 i4 i5 h
      else
        ((dcV L xs D 168 [12] o1 [.int i6] h).bind dxR).bind fun p7 =>
        if mx_f2 .ne i6 (i5 - 1) = true then
          b166_61 L xs zf D w (b166_23 L xs zf D w n) o0 o1 i2 i3 i5 i6 0 p7.1 o0 p7.2
        else
          b166_61 L xs zf D w (b166_23 L xs zf D w n) o0 o1 i2 i3 i5 i6 i2 p7.1 o0 p7.2
theorem c166_23 {L : Nat} {xs : Nat → Int32} {zf : Value} {D : dD} {w k : Nat} (hD : dO L xs zf D k) (hz : zf.category = 1) : ∀ (n : Nat) (o0 : Option Nat) (o1 : Option Nat) (i2 : Int32) (i3 : Int32) (i4 : Int32) (i5 : Int32) (i6 : Int32) (lv : rm_L) (h : rm_H) (r : dR), rm_get lv 0 = some (va_rf o0) → rm_get lv 1 = some (va_rf o1) → rm_get lv 2 = some (.int i2) → rm_get lv 3 = some (.int i3) → rm_get lv 4 = some (.int i4) → rm_get lv 5 = some (.int i5) → rm_get lv 6 = some (.int i6) → b166_23 L xs zf D w n  o0 o1 i2 i3 i4 i5 i6 h = some r → dq L xs zf ah_M166 23 lv [] h (k + 1) r := by
  intro n
  induction n with
  | zero =>
    intro o0 o1 i2 i3 i4 i5 i6 lv h r G0 G1 G2 G3 G4 G5 G6 hh
    cases hh
  | succ n ih =>
    intro o0 o1 i2 i3 i4 i5 i6 lv h r G0 G1 G2 G3 G4 G5 G6 hh
    rw [b166_23] at hh
    refine dq_il 6 25 (by decide +kernel) rfl G6 ?_
    refine dq_il 5 27 (by decide +kernel) rfl G5 ?_
    rcases di hh with ⟨q1, hh⟩ | ⟨q1, hh⟩
    · refine dq_2 .ge 45 true 72 q1 (by decide +kernel) ?_
      exact c166_72 hD hz _ _ _ _ _ _ _ _ _ G0 G1 G2 G3 G4 G5 hh
    · refine dq_2 .ge 45 false 30 q1 (by decide +kernel) ?_
      refine dq_aln 0 31 (by decide +kernel) rfl G0 ?_
      obtain ⟨p2, q3, hh⟩ := db hh
      refine dq_gR 9 0 [13] 34 (by decide +kernel) rfl q3 ?_
      obtain ⟨x4, q5, hh⟩ := db hh
      refine dq_gI 51 7 [4] 37 (by decide +kernel) rfl q5 ?_
      rcases di hh with ⟨q6, hh⟩ | ⟨q6, hh⟩
      · refine dq_1 .ne 35 true 72 q6 (by decide +kernel) ?_
        exact c166_72 hD hz _ _ _ _ _ _ _ _ _ G0 G1 G2 G3 G4 G5 hh
      · refine dq_1 .ne 35 false 40 q6 (by decide +kernel) ?_
        refine dq_aln 0 41 (by decide +kernel) rfl G0 ?_
        refine dq_aln 1 42 (by decide +kernel) rfl G1 ?_
        refine dq_il 6 44 (by decide +kernel) rfl G6 ?_
        obtain ⟨p7, q8, hh⟩ := db hh
        obtain ⟨a9, q10, q8⟩ := db q8
        rw [dq_xR q8] at q10
        refine dq_cvi hD 127 168 5 1 [12] o1 [.int i6] [va_rf o0] 47 [va_rf p7.1, va_rf o0] (by decide +kernel) ap_168 ⟨⟨Nat.le_of_ble_eq_true rfl, by decide⟩, rfl, rfl⟩ (dq_ok8 [1, 1] [1] (dc_r (dc_i dc_n)) (dc_r dc_n) (by decide +kernel)) (by decide +kernel) rfl q10 rfl ?_
        refine dq_il 6 49 (by decide +kernel) rfl G6 ?_
        refine dq_il 5 51 (by decide +kernel) rfl G5 ?_
        refine dq_S (.iconst 1) 1 [] 52 _ [.int 1, .int i5, .int i6, va_rf p7.1, va_rf o0] (by decide +kernel) rfl ?_
        refine dq_S (.isub) 1 [] 53 _ [.int (i5 - 1), .int i6, va_rf p7.1, va_rf o0] (by decide +kernel) rfl ?_
        rcases di hh with ⟨q11, hh⟩ | ⟨q11, hh⟩
        · refine dq_2 .ne 7 true 60 q11 (by decide +kernel) ?_
          refine dq_S (.iconst 0) 1 [] 61 _ [.int 0, va_rf p7.1, va_rf o0] (by decide +kernel) rfl ?_
          exact c166_61 hD hz ih _ _ _ _ _ _ _ _ _ _ _ _ G0 G1 G2 G3 G5 G6 hh
        · refine dq_2 .ne 7 false 56 q11 (by decide +kernel) ?_
          refine dq_iln 2 57 (by decide +kernel) rfl G2 ?_
          refine dq_S (.goto 4) 3 [] 61 _ [.int i2, va_rf p7.1, va_rf o0] (by decide +kernel) rfl ?_
          exact c166_61 hD hz ih _ _ _ _ _ _ _ _ _ _ _ _ G0 G1 G2 G3 G5 G6 hh
def b166_0 (L : Nat) (xs : Nat → Int32) (zf : Value) (D : dD) (w : Nat) (o0 : Option Nat) (o1 : Option Nat) (i2 : Int32) (h : rm_H) : Option dR :=
  if dnl o1 = true then
    drI (some .int) 0 h
  else
    (dgI L xs h 3 [13] o0).bind fun x2 =>
    ((dcV L xs D 167 [12] o1 [] h).bind dxI).bind fun x13 =>
    b166_23 L xs zf D w w o0 o1 i2 x2 0 x13.1 0 x13.2
theorem c166_0 {L : Nat} {xs : Nat → Int32} {zf : Value} {D : dD} {w k : Nat} (hD : dO L xs zf D k) (hz : zf.category = 1) : ∀ (o0 : Option Nat) (o1 : Option Nat) (i2 : Int32) (lv : rm_L) (h : rm_H) (r : dR), rm_get lv 0 = some (va_rf o0) → rm_get lv 1 = some (va_rf o1) → rm_get lv 2 = some (.int i2) → b166_0 L xs zf D w  o0 o1 i2 h = some r → dq L xs zf ah_M166 0 lv [] h (k + 1) r := by
  intro o0 o1 i2 lv h r G0 G1 G2 hh
  unfold b166_0 at hh
  refine dq_aln 1 1 (by decide +kernel) rfl G1 ?_
  rcases di hh with ⟨q1, hh⟩ | ⟨q1, hh⟩
  · refine dq_nnull 5 false 4 q1 (by decide +kernel) (by decide +kernel) ?_
    refine dq_S (.iconst 0) 1 [] 5 _ [.int 0] (by decide +kernel) rfl ?_
    exact dq_retI (some .int) (by decide +kernel) rfl hh
  · refine dq_nnull 5 true 6 q1 (by decide +kernel) (by decide +kernel) ?_
    refine dq_aln 0 7 (by decide +kernel) rfl G0 ?_
    obtain ⟨x2, q3, hh⟩ := db hh
    refine dq_gI 25 3 [13] 10 (by decide +kernel) rfl q3 ?_
    refine dq_isn 3 11 (by decide +kernel) (by decide +kernel) ?_
    have g4 := dg_ne (i := 3) (u := .int x2) (by decide) (Or.inl (by decide)) G0
    have g5 := dg_ne (i := 3) (u := .int x2) (by decide) (Or.inl (by decide)) G1
    have g6 := dg_ne (i := 3) (u := .int x2) (by decide) (Or.inr rfl) G2
    have g7 := dg_eq (lv) 3 (.int x2)
    refine dq_S (.iconst 0) 1 [] 12 _ [.int 0] (by decide +kernel) rfl ?_
    refine dq_is 4 14 (by decide +kernel) (by decide +kernel) ?_
    have g8 := dg_ne (i := 4) (u := .int 0) (by decide) (Or.inl (by decide)) g4
    have g9 := dg_ne (i := 4) (u := .int 0) (by decide) (Or.inl (by decide)) g5
    have g10 := dg_ne (i := 4) (u := .int 0) (by decide) (Or.inl (by decide)) g6
    have g11 := dg_ne (i := 4) (u := .int 0) (by decide) (Or.inr rfl) g7
    have g12 := dg_eq (rm_set1 (lv) 3 (.int x2)) 4 (.int 0)
    refine dq_aln 1 15 (by decide +kernel) rfl g9 ?_
    obtain ⟨x13, q14, hh⟩ := db hh
    obtain ⟨a15, q16, q14⟩ := db q14
    rw [dq_xI q14] at q16
    refine dq_cvi hD 124 167 5 0 [12] o1 [] [] 18 [.int x13.1] (by decide +kernel) ap_167 ⟨⟨Nat.le_of_ble_eq_true rfl, by decide⟩, rfl, rfl⟩ (dq_ok8 [1] [] (dc_r dc_n) dc_n (by decide +kernel)) (by decide +kernel) rfl q16 rfl ?_
    refine dq_is 5 20 (by decide +kernel) (by decide +kernel) ?_
    have g17 := dg_ne (i := 5) (u := .int x13.1) (by decide) (Or.inl (by decide)) g8
    have g18 := dg_ne (i := 5) (u := .int x13.1) (by decide) (Or.inl (by decide)) g9
    have g19 := dg_ne (i := 5) (u := .int x13.1) (by decide) (Or.inl (by decide)) g10
    have g20 := dg_ne (i := 5) (u := .int x13.1) (by decide) (Or.inl (by decide)) g11
    have g21 := dg_ne (i := 5) (u := .int x13.1) (by decide) (Or.inr rfl) g12
    have g22 := dg_eq (rm_set1 (rm_set1 (lv) 3 (.int x2)) 4 (.int 0)) 5 (.int x13.1)
    refine dq_S (.iconst 0) 1 [] 21 _ [.int 0] (by decide +kernel) rfl ?_
    refine dq_is 6 23 (by decide +kernel) (by decide +kernel) ?_
    have g23 := dg_ne (i := 6) (u := .int 0) (by decide) (Or.inl (by decide)) g17
    have g24 := dg_ne (i := 6) (u := .int 0) (by decide) (Or.inl (by decide)) g18
    have g25 := dg_ne (i := 6) (u := .int 0) (by decide) (Or.inl (by decide)) g19
    have g26 := dg_ne (i := 6) (u := .int 0) (by decide) (Or.inl (by decide)) g20
    have g27 := dg_ne (i := 6) (u := .int 0) (by decide) (Or.inl (by decide)) g21
    have g28 := dg_ne (i := 6) (u := .int 0) (by decide) (Or.inr rfl) g22
    have g29 := dg_eq (rm_set1 (rm_set1 (rm_set1 (lv) 3 (.int x2)) 4 (.int 0)) 5 (.int x13.1)) 6 (.int 0)
    exact c166_23 hD hz _ _ _ _ _ _ _ _ _ _ _ g23 g24 g25 g26 g27 g28 g29 hh
def f166 (L : Nat) (xs : Nat → Int32) (zf : Value) (D : dD) (w : Nat) (As : List Value) (h : rm_H) : Option dR := match As with
  | [v0, v1, .int i2] => (rm_rf v0).bind fun o0 => (rm_rf v1).bind fun o1 => b166_0 L xs zf D w o0 o1 i2 h
  | _ => none
theorem d166 {L : Nat} {xs : Nat → Int32} {zf : Value} {D : dD} {w k : Nat} (hD : dO L xs zf D k) (hz : zf.category = 1) (As : List Value) (h : rm_H) (r : dR) (hh : f166 L xs zf D w As h = some r) : dq L xs zf ah_M166 0 (lv_args 0 As) [] h (k + 1) r := by
  unfold f166 at hh
  split at hh
  · obtain ⟨o0, e0, hb0⟩ := db hh
    have e0 := rm_rf_v _ _ e0
    obtain ⟨o1, e1, hb1⟩ := db hb0
    have e1 := rm_rf_v _ _ e1
    subst e0 e1
    refine c166_0 hD hz _ _ _ _ _ _ ?_ ?_ ?_ hb1
    all_goals (simp only [la_r, la_i, la_j]; rfl)
  · cases hh
def b167_20 (L : Nat) (xs : Nat → Int32) (zf : Value) (D : dD) (w : Nat) (s0 : Int32) (h : rm_H) : Option dR :=
  drI (some .int) s0 h
theorem c167_20 {L : Nat} {xs : Nat → Int32} {zf : Value} {D : dD} {w k : Nat} (hD : dO L xs zf D k) (hz : zf.category = 1) : ∀ (s0 : Int32) (lv : rm_L) (h : rm_H) (r : dR), b167_20 L xs zf D w  s0 h = some r → dq L xs zf ah_M167 20 lv [.int s0] h (k + 1) r := by
  intro s0 lv h r hh
  unfold b167_20 at hh
  exact dq_retI (some .int) (by decide +kernel) rfl hh
def b167_0 (L : Nat) (xs : Nat → Int32) (zf : Value) (D : dD) (w : Nat) (o0 : Option Nat) (h : rm_H) : Option dR :=
  (dgR L xs h 11 [12] o0).bind fun p1 =>
  if dnl p1 = true then
    b167_20 L xs zf D w 0 h
  else
    (dgR L xs h 11 [12] o0).bind fun p4 =>
    ((dcV L xs D 101 [5] p4 [] h).bind dxI).bind fun x6 =>
    b167_20 L xs zf D w x6.1 x6.2
theorem c167_0 {L : Nat} {xs : Nat → Int32} {zf : Value} {D : dD} {w k : Nat} (hD : dO L xs zf D k) (hz : zf.category = 1) : ∀ (o0 : Option Nat) (lv : rm_L) (h : rm_H) (r : dR), rm_get lv 0 = some (va_rf o0) → b167_0 L xs zf D w  o0 h = some r → dq L xs zf ah_M167 0 lv [] h (k + 1) r := by
  intro o0 lv h r G0 hh
  unfold b167_0 at hh
  refine dq_aln 0 1 (by decide +kernel) rfl G0 ?_
  obtain ⟨p1, q2, hh⟩ := db hh
  refine dq_gR 50 11 [12] 4 (by decide +kernel) rfl q2 ?_
  rcases di hh with ⟨q3, hh⟩ | ⟨q3, hh⟩
  · refine dq_nnull 7 false 7 q3 (by decide +kernel) (by decide +kernel) ?_
    refine dq_S (.iconst 0) 1 [] 8 _ [.int 0] (by decide +kernel) rfl ?_
    refine dq_S (.goto 12) 3 [] 20 _ [.int 0] (by decide +kernel) rfl ?_
    exact c167_20 hD hz _ _ _ _  hh
  · refine dq_nnull 7 true 11 q3 (by decide +kernel) (by decide +kernel) ?_
    refine dq_aln 0 12 (by decide +kernel) rfl G0 ?_
    obtain ⟨p4, q5, hh⟩ := db hh
    refine dq_gR 50 11 [12] 15 (by decide +kernel) rfl q5 ?_
    obtain ⟨x6, q7, hh⟩ := db hh
    obtain ⟨a8, q9, q7⟩ := db q7
    rw [dq_xI q7] at q9
    refine dq_cif hD 66 1 101 7 0 [5] p4 [] [] 20 [.int x6.1] (by decide +kernel) ap_101 ⟨⟨Nat.le_of_ble_eq_true rfl, by decide⟩, rfl, rfl⟩ (dq_ok8 [1] [] (dc_r dc_n) dc_n (by decide +kernel)) (by decide +kernel) rfl q9 rfl ?_
    exact c167_20 hD hz _ _ _ _  hh
def f167 (L : Nat) (xs : Nat → Int32) (zf : Value) (D : dD) (w : Nat) (As : List Value) (h : rm_H) : Option dR := match As with
  | [v0] => (rm_rf v0).bind fun o0 => b167_0 L xs zf D w o0 h
  | _ => none
theorem d167 {L : Nat} {xs : Nat → Int32} {zf : Value} {D : dD} {w k : Nat} (hD : dO L xs zf D k) (hz : zf.category = 1) (As : List Value) (h : rm_H) (r : dR) (hh : f167 L xs zf D w As h = some r) : dq L xs zf ah_M167 0 (lv_args 0 As) [] h (k + 1) r := by
  unfold f167 at hh
  split at hh
  · obtain ⟨o0, e0, hb0⟩ := db hh
    have e0 := rm_rf_v _ _ e0
    subst e0
    refine c167_0 hD hz _ _ _ _ ?_ hb0
    all_goals (simp only [la_r, la_i, la_j]; rfl)
  · cases hh
def b168_41 (L : Nat) (xs : Nat → Int32) (zf : Value) (D : dD) (w : Nat) (s0 : Option Nat) (h : rm_H) : Option dR :=
  some (some (va_rf s0), h)
theorem c168_41 {L : Nat} {xs : Nat → Int32} {zf : Value} {D : dD} {w k : Nat} (hD : dO L xs zf D k) (hz : zf.category = 1) : ∀ (s0 : Option Nat) (lv : rm_L) (h : rm_H) (r : dR), b168_41 L xs zf D w  s0 h = some r → dq L xs zf ah_M168 41 lv [va_rf s0] h (k + 1) r := by
  intro s0 lv h r hh
  unfold b168_41 at hh
  cases hh
  exact dq_retR (by decide +kernel) rfl
def b168_24 (L : Nat) (xs : Nat → Int32) (zf : Value) (D : dD) (w : Nat) (h : rm_H) : Option dR :=
  b168_41 L xs zf D w none h
theorem c168_24 {L : Nat} {xs : Nat → Int32} {zf : Value} {D : dD} {w k : Nat} (hD : dO L xs zf D k) (hz : zf.category = 1) : ∀ (lv : rm_L) (h : rm_H) (r : dR), b168_24 L xs zf D w  h = some r → dq L xs zf ah_M168 24 lv [] h (k + 1) r := by
  intro lv h r hh
  unfold b168_24 at hh
  refine dq_S (.aconst_null) 1 [] 25 _ [va_rf none] (by decide +kernel) rfl ?_
  refine dq_S (.goto 16) 3 [] 41 _ [va_rf none] (by decide +kernel) rfl ?_
  exact c168_41 hD hz _ _ _ _  hh
def b168_0 (L : Nat) (xs : Nat → Int32) (zf : Value) (D : dD) (w : Nat) (o0 : Option Nat) (i1 : Int32) (h : rm_H) : Option dR :=
  (dgR L xs h 11 [12] o0).bind fun p1 =>
  if dnl p1 = true then
    b168_24 L xs zf D w h
  else
    if mx_f1 .lt i1 = true then
      b168_24 L xs zf D w h
    else
      (dgR L xs h 11 [12] o0).bind fun p5 =>
      ((dcV L xs D 101 [5] p5 [] h).bind dxI).bind fun x7 =>
      if mx_f2 .lt i1 x7.1 = true then
        (dgR L xs x7.2 11 [12] o0).bind fun p12 =>
        ((dcV L xs D 146 [5] p12 [.int i1] x7.2).bind dxR).bind fun p14 =>
        if dcK L xs p14.2 [12] p14.1 = false then none else
        b168_41 L xs zf D w p14.1 p14.2
      else
        b168_24 L xs zf D w x7.2
theorem c168_0 {L : Nat} {xs : Nat → Int32} {zf : Value} {D : dD} {w k : Nat} (hD : dO L xs zf D k) (hz : zf.category = 1) : ∀ (o0 : Option Nat) (i1 : Int32) (lv : rm_L) (h : rm_H) (r : dR), rm_get lv 0 = some (va_rf o0) → rm_get lv 1 = some (.int i1) → b168_0 L xs zf D w  o0 i1 h = some r → dq L xs zf ah_M168 0 lv [] h (k + 1) r := by
  intro o0 i1 lv h r G0 G1 hh
  unfold b168_0 at hh
  refine dq_aln 0 1 (by decide +kernel) rfl G0 ?_
  obtain ⟨p1, q2, hh⟩ := db hh
  refine dq_gR 50 11 [12] 4 (by decide +kernel) rfl q2 ?_
  rcases di hh with ⟨q3, hh⟩ | ⟨q3, hh⟩
  · refine dq_null 20 true 24 q3 (by decide +kernel) (by decide +kernel) ?_
    exact c168_24 hD hz  _ _ _  hh
  · refine dq_null 20 false 7 q3 (by decide +kernel) (by decide +kernel) ?_
    refine dq_iln 1 8 (by decide +kernel) rfl G1 ?_
    rcases di hh with ⟨q4, hh⟩ | ⟨q4, hh⟩
    · refine dq_1 .lt 16 true 24 q4 (by decide +kernel) ?_
      exact c168_24 hD hz  _ _ _  hh
    · refine dq_1 .lt 16 false 11 q4 (by decide +kernel) ?_
      refine dq_iln 1 12 (by decide +kernel) rfl G1 ?_
      refine dq_aln 0 13 (by decide +kernel) rfl G0 ?_
      obtain ⟨p5, q6, hh⟩ := db hh
      refine dq_gR 50 11 [12] 16 (by decide +kernel) rfl q6 ?_
      obtain ⟨x7, q8, hh⟩ := db hh
      obtain ⟨a9, q10, q8⟩ := db q8
      rw [dq_xI q8] at q10
      refine dq_cif hD 66 1 101 7 0 [5] p5 [] [.int i1] 21 [.int x7.1, .int i1] (by decide +kernel) ap_101 ⟨⟨Nat.le_of_ble_eq_true rfl, by decide⟩, rfl, rfl⟩ (dq_ok8 [1] [1] (dc_r dc_n) (dc_i dc_n) (by decide +kernel)) (by decide +kernel) rfl q10 rfl ?_
      rcases di hh with ⟨q11, hh⟩ | ⟨q11, hh⟩
      · refine dq_2 .lt 7 true 28 q11 (by decide +kernel) ?_
        refine dq_aln 0 29 (by decide +kernel) rfl G0 ?_
        obtain ⟨p12, q13, hh⟩ := db hh
        refine dq_gR 50 11 [12] 32 (by decide +kernel) rfl q13 ?_
        refine dq_iln 1 33 (by decide +kernel) rfl G1 ?_
        obtain ⟨p14, q15, hh⟩ := db hh
        obtain ⟨a16, q17, q15⟩ := db q15
        rw [dq_xR q15] at q17
        refine dq_cif hD 70 2 146 7 1 [5] p12 [.int i1] [] 38 [va_rf p14.1] (by decide +kernel) ap_146 ⟨⟨Nat.le_of_ble_eq_true rfl, by decide⟩, rfl, rfl⟩ (dq_ok8 [1, 1] [] (dc_r (dc_i dc_n)) dc_n (by decide +kernel)) (by decide +kernel) rfl q17 rfl ?_
        rcases dp hh with ⟨_, hh⟩ | ⟨q18, hh⟩
        · cases hh
        refine dq_cast 10 [12] 41 (by decide +kernel) ⟨rfl, by decide⟩ (by rw [Bool.not_eq_false] at q18; exact q18) ?_
        exact c168_41 hD hz _ _ _ _  hh
      · refine dq_2 .lt 7 false 24 q11 (by decide +kernel) ?_
        exact c168_24 hD hz  _ _ _  hh
def f168 (L : Nat) (xs : Nat → Int32) (zf : Value) (D : dD) (w : Nat) (As : List Value) (h : rm_H) : Option dR := match As with
  | [v0, .int i1] => (rm_rf v0).bind fun o0 => b168_0 L xs zf D w o0 i1 h
  | _ => none
theorem d168 {L : Nat} {xs : Nat → Int32} {zf : Value} {D : dD} {w k : Nat} (hD : dO L xs zf D k) (hz : zf.category = 1) (As : List Value) (h : rm_H) (r : dR) (hh : f168 L xs zf D w As h = some r) : dq L xs zf ah_M168 0 (lv_args 0 As) [] h (k + 1) r := by
  unfold f168 at hh
  split at hh
  · obtain ⟨o0, e0, hb0⟩ := db hh
    have e0 := rm_rf_v _ _ e0
    subst e0
    refine c168_0 hD hz _ _ _ _ _ ?_ ?_ hb0
    all_goals (simp only [la_r, la_i, la_j]; rfl)
  · cases hh
def b169_0 (L : Nat) (xs : Nat → Int32) (zf : Value) (D : dD) (w : Nat) (o0 : Option Nat) (o1 : Option Nat) (i2 : Int32) (h : rm_H) : Option dR :=
  (dgI L xs h 0 [12] o1).bind fun x1 =>
  if dsw 15 22 x1 = true then
    ((dcV L xs D 215 [13] o0 [va_rf o1, .int i2] h).bind dxI).bind fun x4 =>
    drI (some .int) x4.1 x4.2
  else if x1 = 15 then
    ((dcV L xs D 170 [13] o0 [va_rf o1] h).bind dxV).bind fun h9 =>
    drI (some .int) 0 h9
  else if x1 = 16 then
    ((dcV L xs D 210 [13] o0 [va_rf o1] h).bind dxV).bind fun h14 =>
    drI (some .int) 0 h14
  else if x1 = 17 then
    ((dcV L xs D 213 [13] o0 [va_rf o1] h).bind dxV).bind fun h19 =>
    drI (some .int) 0 h19
  else if x1 = 18 then
    (dgR L xs h 8 [12] o1).bind fun p24 =>
    ((dcV L xs D 211 [13] o0 [va_rf p24] h).bind dxV).bind fun h26 =>
    (dgR L xs h26 0 [13] o0).bind fun p30 =>
    ((dcV L xs D 175 [4] p30 [.int 14, .int 0] h26).bind dxI).bind fun x32 =>
    drI (some .int) 0 x32.2
  else if x1 = 19 then
    ((dcV L xs D 215 [13] o0 [va_rf o1, .int i2] h).bind dxI).bind fun x37 =>
    drI (some .int) x37.1 x37.2
  else if x1 = 20 then
    ((dcV L xs D 215 [13] o0 [va_rf o1, .int i2] h).bind dxI).bind fun x42 =>
    drI (some .int) x42.1 x42.2
  else if x1 = 21 then
    (dgR L xs h 8 [12] o1).bind fun p47 =>
    (dgR L xs h 9 [12] o1).bind fun p49 =>
    ((dcV L xs D 186 [13] o0 [va_rf p47, va_rf p49, .int 0] h).bind dxI).bind fun x51 =>
    drI (some .int) 0 x51.2
  else if x1 = 22 then
    (dgR L xs h 8 [12] o1).bind fun p56 =>
    ((dcV L xs D 172 [13] o0 [va_rf p56] h).bind dxI).bind fun x58 =>
    (dgR L xs x58.2 0 [13] o0).bind fun p62 =>
    ((dcV L xs D 175 [4] p62 [.int 17, .int 0] x58.2).bind dxI).bind fun x64 =>
    drI (some .int) 0 x64.2
  else none
theorem c169_0 {L : Nat} {xs : Nat → Int32} {zf : Value} {D : dD} {w k : Nat} (hD : dO L xs zf D k) (hz : zf.category = 1) : ∀ (o0 : Option Nat) (o1 : Option Nat) (i2 : Int32) (lv : rm_L) (h : rm_H) (r : dR), rm_get lv 0 = some (va_rf o0) → rm_get lv 1 = some (va_rf o1) → rm_get lv 2 = some (.int i2) → b169_0 L xs zf D w  o0 o1 i2 h = some r → dq L xs zf ah_M169 0 lv [] h (k + 1) r := by
  intro o0 o1 i2 lv h r G0 G1 G2 hh
  unfold b169_0 at hh
  refine dq_aln 1 1 (by decide +kernel) rfl G1 ?_
  obtain ⟨x1, q2, hh⟩ := db hh
  refine dq_gI 134 0 [12] 4 (by decide +kernel) rfl q2 ?_
  rcases di hh with ⟨q3, hh⟩ | ⟨_, hh⟩
  · refine dq_sd 128 15 22 #[48, 55, 62, 69, 128, 128, 90, 106] 48 132 (by decide +kernel) (by decide +kernel) q3 ?_
    refine dq_aln 0 133 (by decide +kernel) rfl G0 ?_
    refine dq_aln 1 134 (by decide +kernel) rfl G1 ?_
    refine dq_iln 2 135 (by decide +kernel) rfl G2 ?_
    obtain ⟨x4, q5, hh⟩ := db hh
    obtain ⟨a6, q7, q5⟩ := db q5
    rw [dq_xI q5] at q7
    refine dq_cvi hD 171 215 5 2 [13] o0 [va_rf o1, .int i2] [] 138 [.int x4.1] (by decide +kernel) ap_215 ⟨⟨Nat.le_of_ble_eq_true rfl, by decide⟩, rfl, rfl⟩ (dq_ok8 [1, 1, 1] [] (dc_r (dc_r (dc_i dc_n))) dc_n (by decide +kernel)) (by decide +kernel) rfl q7 rfl ?_
    exact dq_retI (some .int) (by decide +kernel) rfl hh
  rcases dp hh with ⟨q8, hh⟩ | ⟨_, hh⟩
  · refine dq_eq 15 q8 ?_
    refine dq_S (.tableswitch 128 15 22 #[48, 55, 62, 69, 128, 128, 90, 106]) 48 [] 52 _ [] (by decide +kernel) rfl ?_
    refine dq_aln 0 53 (by decide +kernel) rfl G0 ?_
    refine dq_aln 1 54 (by decide +kernel) rfl G1 ?_
    obtain ⟨h9, q10, hh⟩ := db hh
    obtain ⟨a11, q12, q10⟩ := db q10
    rw [dq_xV q10] at q12
    refine dq_cvi hD 144 170 5 1 [13] o0 [va_rf o1] [] 57 [] (by decide +kernel) ap_170 ⟨⟨Nat.le_of_ble_eq_true rfl, by decide⟩, rfl, rfl⟩ (dq_ok8 [1, 1] [] (dc_r (dc_r dc_n)) dc_n (by decide +kernel)) (by decide +kernel) rfl q12 rfl ?_
    refine dq_S (.iconst 0) 1 [] 58 _ [.int 0] (by decide +kernel) rfl ?_
    exact dq_retI (some .int) (by decide +kernel) rfl hh
  rcases dp hh with ⟨q13, hh⟩ | ⟨_, hh⟩
  · refine dq_eq 16 q13 ?_
    refine dq_S (.tableswitch 128 15 22 #[48, 55, 62, 69, 128, 128, 90, 106]) 48 [] 59 _ [] (by decide +kernel) rfl ?_
    refine dq_aln 0 60 (by decide +kernel) rfl G0 ?_
    refine dq_aln 1 61 (by decide +kernel) rfl G1 ?_
    obtain ⟨h14, q15, hh⟩ := db hh
    obtain ⟨a16, q17, q15⟩ := db q15
    rw [dq_xV q15] at q17
    refine dq_cvi hD 148 210 5 1 [13] o0 [va_rf o1] [] 64 [] (by decide +kernel) ap_210 ⟨⟨Nat.le_of_ble_eq_true rfl, by decide⟩, rfl, rfl⟩ (dq_ok8 [1, 1] [] (dc_r (dc_r dc_n)) dc_n (by decide +kernel)) (by decide +kernel) rfl q17 rfl ?_
    refine dq_S (.iconst 0) 1 [] 65 _ [.int 0] (by decide +kernel) rfl ?_
    exact dq_retI (some .int) (by decide +kernel) rfl hh
  rcases dp hh with ⟨q18, hh⟩ | ⟨_, hh⟩
  · refine dq_eq 17 q18 ?_
    refine dq_S (.tableswitch 128 15 22 #[48, 55, 62, 69, 128, 128, 90, 106]) 48 [] 66 _ [] (by decide +kernel) rfl ?_
    refine dq_aln 0 67 (by decide +kernel) rfl G0 ?_
    refine dq_aln 1 68 (by decide +kernel) rfl G1 ?_
    obtain ⟨h19, q20, hh⟩ := db hh
    obtain ⟨a21, q22, q20⟩ := db q20
    rw [dq_xV q20] at q22
    refine dq_cvi hD 151 213 5 1 [13] o0 [va_rf o1] [] 71 [] (by decide +kernel) ap_213 ⟨⟨Nat.le_of_ble_eq_true rfl, by decide⟩, rfl, rfl⟩ (dq_ok8 [1, 1] [] (dc_r (dc_r dc_n)) dc_n (by decide +kernel)) (by decide +kernel) rfl q22 rfl ?_
    refine dq_S (.iconst 0) 1 [] 72 _ [.int 0] (by decide +kernel) rfl ?_
    exact dq_retI (some .int) (by decide +kernel) rfl hh
  rcases dp hh with ⟨q23, hh⟩ | ⟨_, hh⟩
  · refine dq_eq 18 q23 ?_
    refine dq_S (.tableswitch 128 15 22 #[48, 55, 62, 69, 128, 128, 90, 106]) 48 [] 73 _ [] (by decide +kernel) rfl ?_
    refine dq_aln 0 74 (by decide +kernel) rfl G0 ?_
    refine dq_aln 1 75 (by decide +kernel) rfl G1 ?_
    obtain ⟨p24, q25, hh⟩ := db hh
    refine dq_gR 154 8 [12] 78 (by decide +kernel) rfl q25 ?_
    obtain ⟨h26, q27, hh⟩ := db hh
    obtain ⟨a28, q29, q27⟩ := db q27
    rw [dq_xV q27] at q29
    refine dq_cvi hD 157 211 5 1 [13] o0 [va_rf p24] [] 81 [] (by decide +kernel) ap_211 ⟨⟨Nat.le_of_ble_eq_true rfl, by decide⟩, rfl, rfl⟩ (dq_ok8 [1, 1] [] (dc_r (dc_r dc_n)) dc_n (by decide +kernel)) (by decide +kernel) rfl q29 rfl ?_
    refine dq_aln 0 82 (by decide +kernel) rfl G0 ?_
    obtain ⟨p30, q31, hh⟩ := db hh
    refine dq_gR 9 0 [13] 85 (by decide +kernel) rfl q31 ?_
    refine dq_S (.bipush 14) 2 [] 87 _ [.int 14, va_rf p30] (by decide +kernel) rfl ?_
    refine dq_S (.iconst 0) 1 [] 88 _ [.int 0, .int 14, va_rf p30] (by decide +kernel) rfl ?_
    obtain ⟨x32, q33, hh⟩ := db hh
    obtain ⟨a34, q35, q33⟩ := db q33
    rw [dq_xI q33] at q35
    refine dq_cvi hD 104 175 5 2 [4] p30 [.int 14, .int 0] [] 91 [.int x32.1] (by decide +kernel) ap_175 ⟨⟨Nat.le_of_ble_eq_true rfl, by decide⟩, rfl, rfl⟩ (dq_ok8 [1, 1, 1] [] (dc_r (dc_i (dc_i dc_n))) dc_n (by decide +kernel)) (by decide +kernel) rfl q35 rfl ?_
    refine dq_S (.pop) 1 [] 92 _ [] (by decide +kernel) rfl ?_
    refine dq_S (.iconst 0) 1 [] 93 _ [.int 0] (by decide +kernel) rfl ?_
    exact dq_retI (some .int) (by decide +kernel) rfl hh
  rcases dp hh with ⟨q36, hh⟩ | ⟨_, hh⟩
  · refine dq_eq 19 q36 ?_
    refine dq_S (.tableswitch 128 15 22 #[48, 55, 62, 69, 128, 128, 90, 106]) 48 [] 132 _ [] (by decide +kernel) rfl ?_
    refine dq_aln 0 133 (by decide +kernel) rfl G0 ?_
    refine dq_aln 1 134 (by decide +kernel) rfl G1 ?_
    refine dq_iln 2 135 (by decide +kernel) rfl G2 ?_
    obtain ⟨x37, q38, hh⟩ := db hh
    obtain ⟨a39, q40, q38⟩ := db q38
    rw [dq_xI q38] at q40
    refine dq_cvi hD 171 215 5 2 [13] o0 [va_rf o1, .int i2] [] 138 [.int x37.1] (by decide +kernel) ap_215 ⟨⟨Nat.le_of_ble_eq_true rfl, by decide⟩, rfl, rfl⟩ (dq_ok8 [1, 1, 1] [] (dc_r (dc_r (dc_i dc_n))) dc_n (by decide +kernel)) (by decide +kernel) rfl q40 rfl ?_
    exact dq_retI (some .int) (by decide +kernel) rfl hh
  rcases dp hh with ⟨q41, hh⟩ | ⟨_, hh⟩
  · refine dq_eq 20 q41 ?_
    refine dq_S (.tableswitch 128 15 22 #[48, 55, 62, 69, 128, 128, 90, 106]) 48 [] 132 _ [] (by decide +kernel) rfl ?_
    refine dq_aln 0 133 (by decide +kernel) rfl G0 ?_
    refine dq_aln 1 134 (by decide +kernel) rfl G1 ?_
    refine dq_iln 2 135 (by decide +kernel) rfl G2 ?_
    obtain ⟨x42, q43, hh⟩ := db hh
    obtain ⟨a44, q45, q43⟩ := db q43
    rw [dq_xI q43] at q45
    refine dq_cvi hD 171 215 5 2 [13] o0 [va_rf o1, .int i2] [] 138 [.int x42.1] (by decide +kernel) ap_215 ⟨⟨Nat.le_of_ble_eq_true rfl, by decide⟩, rfl, rfl⟩ (dq_ok8 [1, 1, 1] [] (dc_r (dc_r (dc_i dc_n))) dc_n (by decide +kernel)) (by decide +kernel) rfl q45 rfl ?_
    exact dq_retI (some .int) (by decide +kernel) rfl hh
  rcases dp hh with ⟨q46, hh⟩ | ⟨_, hh⟩
  · refine dq_eq 21 q46 ?_
    refine dq_S (.tableswitch 128 15 22 #[48, 55, 62, 69, 128, 128, 90, 106]) 48 [] 94 _ [] (by decide +kernel) rfl ?_
    refine dq_aln 0 95 (by decide +kernel) rfl G0 ?_
    refine dq_aln 1 96 (by decide +kernel) rfl G1 ?_
    obtain ⟨p47, q48, hh⟩ := db hh
    refine dq_gR 154 8 [12] 99 (by decide +kernel) rfl q48 ?_
    refine dq_aln 1 100 (by decide +kernel) rfl G1 ?_
    obtain ⟨p49, q50, hh⟩ := db hh
    refine dq_gR 160 9 [12] 103 (by decide +kernel) rfl q50 ?_
    refine dq_S (.iconst 0) 1 [] 104 _ [.int 0, va_rf p49, va_rf p47, va_rf o0] (by decide +kernel) rfl ?_
    obtain ⟨x51, q52, hh⟩ := db hh
    obtain ⟨a53, q54, q52⟩ := db q52
    rw [dq_xI q52] at q54
    refine dq_cvi hD 163 186 5 3 [13] o0 [va_rf p47, va_rf p49, .int 0] [] 107 [.int x51.1] (by decide +kernel) ap_186 ⟨⟨Nat.le_of_ble_eq_true rfl, by decide⟩, rfl, rfl⟩ (dq_ok8 [1, 1, 1, 1] [] (dc_r (dc_r (dc_r (dc_i dc_n)))) dc_n (by decide +kernel)) (by decide +kernel) rfl q54 rfl ?_
    refine dq_S (.pop) 1 [] 108 _ [] (by decide +kernel) rfl ?_
    refine dq_S (.iconst 0) 1 [] 109 _ [.int 0] (by decide +kernel) rfl ?_
    exact dq_retI (some .int) (by decide +kernel) rfl hh
  rcases dp hh with ⟨q55, hh⟩ | ⟨_, hh⟩
  · refine dq_eq 22 q55 ?_
    refine dq_S (.tableswitch 128 15 22 #[48, 55, 62, 69, 128, 128, 90, 106]) 48 [] 110 _ [] (by decide +kernel) rfl ?_
    refine dq_aln 0 111 (by decide +kernel) rfl G0 ?_
    refine dq_aln 1 112 (by decide +kernel) rfl G1 ?_
    obtain ⟨p56, q57, hh⟩ := db hh
    refine dq_gR 154 8 [12] 115 (by decide +kernel) rfl q57 ?_
    obtain ⟨x58, q59, hh⟩ := db hh
    obtain ⟨a60, q61, q59⟩ := db q59
    rw [dq_xI q59] at q61
    refine dq_cvi hD 167 172 5 1 [13] o0 [va_rf p56] [] 118 [.int x58.1] (by decide +kernel) ap_172 ⟨⟨Nat.le_of_ble_eq_true rfl, by decide⟩, rfl, rfl⟩ (dq_ok8 [1, 1] [] (dc_r (dc_r dc_n)) dc_n (by decide +kernel)) (by decide +kernel) rfl q61 rfl ?_
    refine dq_S (.pop) 1 [] 119 _ [] (by decide +kernel) rfl ?_
    refine dq_aln 0 120 (by decide +kernel) rfl G0 ?_
    obtain ⟨p62, q63, hh⟩ := db hh
    refine dq_gR 9 0 [13] 123 (by decide +kernel) rfl q63 ?_
    refine dq_S (.bipush 17) 2 [] 125 _ [.int 17, va_rf p62] (by decide +kernel) rfl ?_
    refine dq_S (.iconst 0) 1 [] 126 _ [.int 0, .int 17, va_rf p62] (by decide +kernel) rfl ?_
    obtain ⟨x64, q65, hh⟩ := db hh
    obtain ⟨a66, q67, q65⟩ := db q65
    rw [dq_xI q65] at q67
    refine dq_cvi hD 104 175 5 2 [4] p62 [.int 17, .int 0] [] 129 [.int x64.1] (by decide +kernel) ap_175 ⟨⟨Nat.le_of_ble_eq_true rfl, by decide⟩, rfl, rfl⟩ (dq_ok8 [1, 1, 1] [] (dc_r (dc_i (dc_i dc_n))) dc_n (by decide +kernel)) (by decide +kernel) rfl q67 rfl ?_
    refine dq_S (.pop) 1 [] 130 _ [] (by decide +kernel) rfl ?_
    refine dq_S (.iconst 0) 1 [] 131 _ [.int 0] (by decide +kernel) rfl ?_
    exact dq_retI (some .int) (by decide +kernel) rfl hh
  cases hh
def f169 (L : Nat) (xs : Nat → Int32) (zf : Value) (D : dD) (w : Nat) (As : List Value) (h : rm_H) : Option dR := match As with
  | [v0, v1, .int i2] => (rm_rf v0).bind fun o0 => (rm_rf v1).bind fun o1 => b169_0 L xs zf D w o0 o1 i2 h
  | _ => none
theorem d169 {L : Nat} {xs : Nat → Int32} {zf : Value} {D : dD} {w k : Nat} (hD : dO L xs zf D k) (hz : zf.category = 1) (As : List Value) (h : rm_H) (r : dR) (hh : f169 L xs zf D w As h = some r) : dq L xs zf ah_M169 0 (lv_args 0 As) [] h (k + 1) r := by
  unfold f169 at hh
  split at hh
  · obtain ⟨o0, e0, hb0⟩ := db hh
    have e0 := rm_rf_v _ _ e0
    obtain ⟨o1, e1, hb1⟩ := db hb0
    have e1 := rm_rf_v _ _ e1
    subst e0 e1
    refine c169_0 hD hz _ _ _ _ _ _ ?_ ?_ ?_ hb1
    all_goals (simp only [la_r, la_i, la_j]; rfl)
  · cases hh
def b170_36 (L : Nat) (xs : Nat → Int32) (zf : Value) (D : dD) (w : Nat) (o0 : Option Nat) (o1 : Option Nat) (i2 : Int32) (h : rm_H) : Option dR :=
  (dgR L xs h 8 [12] o1).bind fun p1 =>
  (dgR L xs h 5 [12] o1).bind fun p3 =>
  (dgI L xs h 7 [10] p3).bind fun x5 =>
  ((dcV L xs D 188 [13] o0 [va_rf p1, .int i2, .int x5] h).bind dxV).bind fun h7 =>
  (dgR L xs h7 0 [13] o0).bind fun p11 =>
  (dgR L xs h7 5 [12] o1).bind fun p13 =>
  (dgI L xs h7 8 [10] p13).bind fun x15 =>
  ((dcV L xs D 175 [4] p11 [.int 11, .int x15] h7).bind dxI).bind fun x17 =>
  (dgR L xs x17.2 5 [12] o1).bind fun p21 =>
  ((dcV L xs D 165 [13] o0 [va_rf p21] x17.2).bind dxV).bind fun h23 =>
  some (none, h23)
theorem c170_36 {L : Nat} {xs : Nat → Int32} {zf : Value} {D : dD} {w k : Nat} (hD : dO L xs zf D k) (hz : zf.category = 1) : ∀ (o0 : Option Nat) (o1 : Option Nat) (i2 : Int32) (lv : rm_L) (h : rm_H) (r : dR), rm_get lv 0 = some (va_rf o0) → rm_get lv 1 = some (va_rf o1) → rm_get lv 2 = some (.int i2) → b170_36 L xs zf D w  o0 o1 i2 h = some r → dq L xs zf ah_M170 36 lv [] h (k + 1) r := by
  intro o0 o1 i2 lv h r G0 G1 G2 hh
  unfold b170_36 at hh
  refine dq_aln 0 37 (by decide +kernel) rfl G0 ?_
  refine dq_aln 1 38 (by decide +kernel) rfl G1 ?_
  obtain ⟨p1, q2, hh⟩ := db hh
  refine dq_gR 154 8 [12] 41 (by decide +kernel) rfl q2 ?_
  refine dq_iln 2 42 (by decide +kernel) rfl G2 ?_
  refine dq_aln 1 43 (by decide +kernel) rfl G1 ?_
  obtain ⟨p3, q4, hh⟩ := db hh
  refine dq_gR 187 5 [12] 46 (by decide +kernel) rfl q4 ?_
  obtain ⟨x5, q6, hh⟩ := db hh
  refine dq_gI 180 7 [10] 49 (by decide +kernel) rfl q6 ?_
  obtain ⟨h7, q8, hh⟩ := db hh
  obtain ⟨a9, q10, q8⟩ := db q8
  rw [dq_xV q8] at q10
  refine dq_cvi hD 183 188 5 3 [13] o0 [va_rf p1, .int i2, .int x5] [] 52 [] (by decide +kernel) ap_188 ⟨⟨Nat.le_of_ble_eq_true rfl, by decide⟩, rfl, rfl⟩ (dq_ok8 [1, 1, 1, 1] [] (dc_r (dc_r (dc_i (dc_i dc_n)))) dc_n (by decide +kernel)) (by decide +kernel) rfl q10 rfl ?_
  refine dq_aln 0 53 (by decide +kernel) rfl G0 ?_
  obtain ⟨p11, q12, hh⟩ := db hh
  refine dq_gR 9 0 [13] 56 (by decide +kernel) rfl q12 ?_
  refine dq_S (.bipush 11) 2 [] 58 _ [.int 11, va_rf p11] (by decide +kernel) rfl ?_
  refine dq_aln 1 59 (by decide +kernel) rfl G1 ?_
  obtain ⟨p13, q14, hh⟩ := db hh
  refine dq_gR 187 5 [12] 62 (by decide +kernel) rfl q14 ?_
  obtain ⟨x15, q16, hh⟩ := db hh
  refine dq_gI 121 8 [10] 65 (by decide +kernel) rfl q16 ?_
  obtain ⟨x17, q18, hh⟩ := db hh
  obtain ⟨a19, q20, q18⟩ := db q18
  rw [dq_xI q18] at q20
  refine dq_cvi hD 104 175 5 2 [4] p11 [.int 11, .int x15] [] 68 [.int x17.1] (by decide +kernel) ap_175 ⟨⟨Nat.le_of_ble_eq_true rfl, by decide⟩, rfl, rfl⟩ (dq_ok8 [1, 1, 1] [] (dc_r (dc_i (dc_i dc_n))) dc_n (by decide +kernel)) (by decide +kernel) rfl q20 rfl ?_
  refine dq_S (.pop) 1 [] 69 _ [] (by decide +kernel) rfl ?_
  refine dq_aln 0 70 (by decide +kernel) rfl G0 ?_
  refine dq_aln 1 71 (by decide +kernel) rfl G1 ?_
  obtain ⟨p21, q22, hh⟩ := db hh
  refine dq_gR 187 5 [12] 74 (by decide +kernel) rfl q22 ?_
  obtain ⟨h23, q24, hh⟩ := db hh
  obtain ⟨a25, q26, q24⟩ := db q24
  rw [dq_xV q24] at q26
  refine dq_cvi hD 67 165 5 1 [13] o0 [va_rf p21] [] 77 [] (by decide +kernel) ap_165 ⟨⟨Nat.le_of_ble_eq_true rfl, by decide⟩, rfl, rfl⟩ (dq_ok8 [1, 1] [] (dc_r (dc_r dc_n)) dc_n (by decide +kernel)) (by decide +kernel) rfl q26 rfl ?_
  cases hh
  exact dq_ret0 (by decide +kernel) rfl
def b170_0 (L : Nat) (xs : Nat → Int32) (zf : Value) (D : dD) (w : Nat) (o0 : Option Nat) (o1 : Option Nat) (h : rm_H) : Option dR :=
  (dgR L xs h 8 [12] o1).bind fun p1 =>
  ((dcV L xs D 171 [13] o0 [va_rf p1] h).bind dxI).bind fun x3 =>
  (dgR L xs x3.2 5 [12] o1).bind fun p10 =>
  (dgR L xs x3.2 0 [10] p10).bind fun p12 =>
  ((dcV L xs D 181 [13] o0 [va_rf p12] x3.2).bind dxI).bind fun x14 =>
  if mx_f2 .eq x14.1 (-1) = true then
    b170_36 L xs zf D w o0 o1 x3.1 x14.2
  else
    (dgR L xs x14.2 5 [12] o1).bind fun p19 =>
    (dgI L xs x14.2 1 [10] p19).bind fun x21 =>
    ((dcV L xs D 178 [13] o0 [.int 2, .int x21] x14.2).bind dxV).bind fun h23 =>
    b170_36 L xs zf D w o0 o1 x3.1 h23
theorem c170_0 {L : Nat} {xs : Nat → Int32} {zf : Value} {D : dD} {w k : Nat} (hD : dO L xs zf D k) (hz : zf.category = 1) : ∀ (o0 : Option Nat) (o1 : Option Nat) (lv : rm_L) (h : rm_H) (r : dR), rm_get lv 0 = some (va_rf o0) → rm_get lv 1 = some (va_rf o1) → b170_0 L xs zf D w  o0 o1 h = some r → dq L xs zf ah_M170 0 lv [] h (k + 1) r := by
  intro o0 o1 lv h r G0 G1 hh
  unfold b170_0 at hh
  refine dq_aln 0 1 (by decide +kernel) rfl G0 ?_
  refine dq_aln 1 2 (by decide +kernel) rfl G1 ?_
  obtain ⟨p1, q2, hh⟩ := db hh
  refine dq_gR 154 8 [12] 5 (by decide +kernel) rfl q2 ?_
  obtain ⟨x3, q4, hh⟩ := db hh
  obtain ⟨a5, q6, q4⟩ := db q4
  rw [dq_xI q4] at q6
  refine dq_cvi hD 177 171 5 1 [13] o0 [va_rf p1] [] 8 [.int x3.1] (by decide +kernel) ap_171 ⟨⟨Nat.le_of_ble_eq_true rfl, by decide⟩, rfl, rfl⟩ (dq_ok8 [1, 1] [] (dc_r (dc_r dc_n)) dc_n (by decide +kernel)) (by decide +kernel) rfl q6 rfl ?_
  refine dq_isn 2 9 (by decide +kernel) (by decide +kernel) ?_
  have g7 := dg_ne (i := 2) (u := .int x3.1) (by decide) (Or.inl (by decide)) G0
  have g8 := dg_ne (i := 2) (u := .int x3.1) (by decide) (Or.inr (drc _)) G1
  have g9 := dg_eq (lv) 2 (.int x3.1)
  refine dq_aln 0 10 (by decide +kernel) rfl g7 ?_
  refine dq_aln 1 11 (by decide +kernel) rfl g8 ?_
  obtain ⟨p10, q11, hh⟩ := db hh
  refine dq_gR 187 5 [12] 14 (by decide +kernel) rfl q11 ?_
  obtain ⟨p12, q13, hh⟩ := db hh
  refine dq_gR 111 0 [10] 17 (by decide +kernel) rfl q13 ?_
  obtain ⟨x14, q15, hh⟩ := db hh
  obtain ⟨a16, q17, q15⟩ := db q15
  rw [dq_xI q15] at q17
  refine dq_cvi hD 190 181 5 1 [13] o0 [va_rf p12] [] 20 [.int x14.1] (by decide +kernel) ap_181 ⟨⟨Nat.le_of_ble_eq_true rfl, by decide⟩, rfl, rfl⟩ (dq_ok8 [1, 1] [] (dc_r (dc_r dc_n)) dc_n (by decide +kernel)) (by decide +kernel) rfl q17 rfl ?_
  refine dq_S (.iconst (-1)) 1 [] 21 _ [.int (-1), .int x14.1] (by decide +kernel) rfl ?_
  rcases di hh with ⟨q18, hh⟩ | ⟨q18, hh⟩
  · refine dq_2 .eq 15 true 36 q18 (by decide +kernel) ?_
    exact c170_36 hD hz _ _ _ _ _ _ g7 g8 g9 hh
  · refine dq_2 .eq 15 false 24 q18 (by decide +kernel) ?_
    refine dq_aln 0 25 (by decide +kernel) rfl g7 ?_
    refine dq_S (.iconst 2) 1 [] 26 _ [.int 2, va_rf o0] (by decide +kernel) rfl ?_
    refine dq_aln 1 27 (by decide +kernel) rfl g8 ?_
    obtain ⟨p19, q20, hh⟩ := db hh
    refine dq_gR 187 5 [12] 30 (by decide +kernel) rfl q20 ?_
    obtain ⟨x21, q22, hh⟩ := db hh
    refine dq_gI 194 1 [10] 33 (by decide +kernel) rfl q22 ?_
    obtain ⟨h23, q24, hh⟩ := db hh
    obtain ⟨a25, q26, q24⟩ := db q24
    rw [dq_xV q24] at q26
    refine dq_cvi hD 140 178 5 2 [13] o0 [.int 2, .int x21] [] 36 [] (by decide +kernel) ap_178 ⟨⟨Nat.le_of_ble_eq_true rfl, by decide⟩, rfl, rfl⟩ (dq_ok8 [1, 1, 1] [] (dc_r (dc_i (dc_i dc_n))) dc_n (by decide +kernel)) (by decide +kernel) rfl q26 rfl ?_
    exact c170_36 hD hz _ _ _ _ _ _ g7 g8 g9 hh
def f170 (L : Nat) (xs : Nat → Int32) (zf : Value) (D : dD) (w : Nat) (As : List Value) (h : rm_H) : Option dR := match As with
  | [v0, v1] => (rm_rf v0).bind fun o0 => (rm_rf v1).bind fun o1 => b170_0 L xs zf D w o0 o1 h
  | _ => none
theorem d170 {L : Nat} {xs : Nat → Int32} {zf : Value} {D : dD} {w k : Nat} (hD : dO L xs zf D k) (hz : zf.category = 1) (As : List Value) (h : rm_H) (r : dR) (hh : f170 L xs zf D w As h = some r) : dq L xs zf ah_M170 0 (lv_args 0 As) [] h (k + 1) r := by
  unfold f170 at hh
  split at hh
  · obtain ⟨o0, e0, hb0⟩ := db hh
    have e0 := rm_rf_v _ _ e0
    obtain ⟨o1, e1, hb1⟩ := db hb0
    have e1 := rm_rf_v _ _ e1
    subst e0 e1
    refine c170_0 hD hz _ _ _ _ _ ?_ ?_ hb1
    all_goals (simp only [la_r, la_i, la_j]; rfl)
  · cases hh
def b171_94 (L : Nat) (xs : Nat → Int32) (zf : Value) (D : dD) (w : Nat) (i2 : Int32) (h : rm_H) : Option dR :=
  drI (some .int) i2 h
theorem c171_94 {L : Nat} {xs : Nat → Int32} {zf : Value} {D : dD} {w k : Nat} (hD : dO L xs zf D k) (hz : zf.category = 1) : ∀ (i2 : Int32) (lv : rm_L) (h : rm_H) (r : dR), rm_get lv 2 = some (.int i2) → b171_94 L xs zf D w  i2 h = some r → dq L xs zf ah_M171 94 lv [] h (k + 1) r := by
  intro i2 lv h r G2 hh
  unfold b171_94 at hh
  refine dq_iln 2 95 (by decide +kernel) rfl G2 ?_
  exact dq_retI (some .int) (by decide +kernel) rfl hh
def b171_23 (L : Nat) (xs : Nat → Int32) (zf : Value) (D : dD) (w : Nat) (o0 : Option Nat) (o1 : Option Nat) (i2 : Int32) (h : rm_H) : Option dR :=
  ((D 159 [.int i2] h).bind dxI).bind fun x1 =>
  if mx_f2 .ne x1.1 4 = true then
    ((D 159 [.int i2] x1.2).bind dxI).bind fun x6 =>
    if mx_f2 .ne x6.1 5 = true then
      b171_94 L xs zf D w i2 x6.2
    else
      ((dcV L xs D 206 [12] o1 [] x6.2).bind dxI).bind fun x11 =>
      if mx_f1 .eq x11.1 = true then
        b171_94 L xs zf D w i2 x11.2
      else
        ((D 160 [.int i2] x11.2).bind dxI).bind fun x16 =>
        if mx_f1 .ne x16.1 = true then
          ((D 160 [.int i2] x16.2).bind dxI).bind fun x21 =>
          if mx_f2 .ne x21.1 1 = true then
            b171_94 L xs zf D w i2 x21.2
          else
            ((D 189 [.int i2] x21.2).bind dxI).bind fun x26 =>
            ((D 153 [.int 5, .int x26.1, .int 4] x26.2).bind dxI).bind fun x30 =>
            drI (some .int) x30.1 x30.2
        else
          (dgI L xs x16.2 1 [12] o1).bind fun x34 =>
          ((dcV L xs D 178 [13] o0 [.int 6, .int x34] x16.2).bind dxV).bind fun h36 =>
          b171_94 L xs zf D w i2 h36
  else
    ((D 189 [.int i2] x1.2).bind dxI).bind fun x40 =>
    ((D 153 [.int 3, .int x40.1, .int 2] x40.2).bind dxI).bind fun x44 =>
    drI (some .int) x44.1 x44.2
theorem c171_23 {L : Nat} {xs : Nat → Int32} {zf : Value} {D : dD} {w k : Nat} (hD : dO L xs zf D k) (hz : zf.category = 1) : ∀ (o0 : Option Nat) (o1 : Option Nat) (i2 : Int32) (lv : rm_L) (h : rm_H) (r : dR), rm_get lv 0 = some (va_rf o0) → rm_get lv 1 = some (va_rf o1) → rm_get lv 2 = some (.int i2) → b171_23 L xs zf D w  o0 o1 i2 h = some r → dq L xs zf ah_M171 23 lv [] h (k + 1) r := by
  intro o0 o1 i2 lv h r G0 G1 G2 hh
  unfold b171_23 at hh
  refine dq_iln 2 24 (by decide +kernel) rfl G2 ?_
  obtain ⟨x1, q2, hh⟩ := db hh
  obtain ⟨a3, q4, q2⟩ := db q2
  rw [dq_xI q2] at q4
  refine dq_cst hD 209 159 1 1 [.int i2] [] 27 [.int x1.1] (by decide +kernel) ap_159 ⟨⟨Nat.le_of_ble_eq_true rfl, by decide⟩, rfl, rfl⟩ (dq_ok8 [1] [] (dc_i dc_n) dc_n (by decide +kernel)) (by decide +kernel) rfl q4 rfl ?_
  refine dq_S (.iconst 4) 1 [] 28 _ [.int 4, .int x1.1] (by decide +kernel) rfl ?_
  rcases di hh with ⟨q5, hh⟩ | ⟨q5, hh⟩
  · refine dq_2 .ne 13 true 41 q5 (by decide +kernel) ?_
    refine dq_iln 2 42 (by decide +kernel) rfl G2 ?_
    obtain ⟨x6, q7, hh⟩ := db hh
    obtain ⟨a8, q9, q7⟩ := db q7
    rw [dq_xI q7] at q9
    refine dq_cst hD 209 159 1 1 [.int i2] [] 45 [.int x6.1] (by decide +kernel) ap_159 ⟨⟨Nat.le_of_ble_eq_true rfl, by decide⟩, rfl, rfl⟩ (dq_ok8 [1] [] (dc_i dc_n) dc_n (by decide +kernel)) (by decide +kernel) rfl q9 rfl ?_
    refine dq_S (.iconst 5) 1 [] 46 _ [.int 5, .int x6.1] (by decide +kernel) rfl ?_
    rcases di hh with ⟨q10, hh⟩ | ⟨q10, hh⟩
    · refine dq_2 .ne 48 true 94 q10 (by decide +kernel) ?_
      exact c171_94 hD hz _ _ _ _ G2 hh
    · refine dq_2 .ne 48 false 49 q10 (by decide +kernel) ?_
      refine dq_aln 1 50 (by decide +kernel) rfl G1 ?_
      obtain ⟨x11, q12, hh⟩ := db hh
      obtain ⟨a13, q14, q12⟩ := db q12
      rw [dq_xI q12] at q14
      refine dq_cvi hD 220 206 5 0 [12] o1 [] [] 53 [.int x11.1] (by decide +kernel) ap_206 ⟨⟨Nat.le_of_ble_eq_true rfl, by decide⟩, rfl, rfl⟩ (dq_ok8 [1] [] (dc_r dc_n) dc_n (by decide +kernel)) (by decide +kernel) rfl q14 rfl ?_
      rcases di hh with ⟨q15, hh⟩ | ⟨q15, hh⟩
      · refine dq_1 .eq 41 true 94 q15 (by decide +kernel) ?_
        exact c171_94 hD hz _ _ _ _ G2 hh
      · refine dq_1 .eq 41 false 56 q15 (by decide +kernel) ?_
        refine dq_iln 2 57 (by decide +kernel) rfl G2 ?_
        obtain ⟨x16, q17, hh⟩ := db hh
        obtain ⟨a18, q19, q17⟩ := db q17
        rw [dq_xI q17] at q19
        refine dq_cst hD 224 160 1 1 [.int i2] [] 60 [.int x16.1] (by decide +kernel) ap_160 ⟨⟨Nat.le_of_ble_eq_true rfl, by decide⟩, rfl, rfl⟩ (dq_ok8 [1] [] (dc_i dc_n) dc_n (by decide +kernel)) (by decide +kernel) rfl q19 rfl ?_
        rcases di hh with ⟨q20, hh⟩ | ⟨q20, hh⟩
        · refine dq_1 .ne 16 true 76 q20 (by decide +kernel) ?_
          refine dq_iln 2 77 (by decide +kernel) rfl G2 ?_
          obtain ⟨x21, q22, hh⟩ := db hh
          obtain ⟨a23, q24, q22⟩ := db q22
          rw [dq_xI q22] at q24
          refine dq_cst hD 224 160 1 1 [.int i2] [] 80 [.int x21.1] (by decide +kernel) ap_160 ⟨⟨Nat.le_of_ble_eq_true rfl, by decide⟩, rfl, rfl⟩ (dq_ok8 [1] [] (dc_i dc_n) dc_n (by decide +kernel)) (by decide +kernel) rfl q24 rfl ?_
          refine dq_S (.iconst 1) 1 [] 81 _ [.int 1, .int x21.1] (by decide +kernel) rfl ?_
          rcases di hh with ⟨q25, hh⟩ | ⟨q25, hh⟩
          · refine dq_2 .ne 13 true 94 q25 (by decide +kernel) ?_
            exact c171_94 hD hz _ _ _ _ G2 hh
          · refine dq_2 .ne 13 false 84 q25 (by decide +kernel) ?_
            refine dq_S (.iconst 5) 1 [] 85 _ [.int 5] (by decide +kernel) rfl ?_
            refine dq_iln 2 86 (by decide +kernel) rfl G2 ?_
            obtain ⟨x26, q27, hh⟩ := db hh
            obtain ⟨a28, q29, q27⟩ := db q27
            rw [dq_xI q27] at q29
            refine dq_cst hD 213 189 1 1 [.int i2] [.int 5] 89 [.int x26.1, .int 5] (by decide +kernel) ap_189 ⟨⟨Nat.le_of_ble_eq_true rfl, by decide⟩, rfl, rfl⟩ (dq_ok8 [1] [1] (dc_i dc_n) (dc_i dc_n) (by decide +kernel)) (by decide +kernel) rfl q29 rfl ?_
            refine dq_S (.iconst 4) 1 [] 90 _ [.int 4, .int x26.1, .int 5] (by decide +kernel) rfl ?_
            obtain ⟨x30, q31, hh⟩ := db hh
            obtain ⟨a32, q33, q31⟩ := db q31
            rw [dq_xI q31] at q33
            refine dq_cst hD 216 153 1 3 [.int 5, .int x26.1, .int 4] [] 93 [.int x30.1] (by decide +kernel) ap_153 ⟨⟨Nat.le_of_ble_eq_true rfl, by decide⟩, rfl, rfl⟩ (dq_ok8 [1, 1, 1] [] (dc_i (dc_i (dc_i dc_n))) dc_n (by decide +kernel)) (by decide +kernel) rfl q33 rfl ?_
            exact dq_retI (some .int) (by decide +kernel) rfl hh
        · refine dq_1 .ne 16 false 63 q20 (by decide +kernel) ?_
          refine dq_aln 0 64 (by decide +kernel) rfl G0 ?_
          refine dq_S (.bipush 6) 2 [] 66 _ [.int 6, va_rf o0] (by decide +kernel) rfl ?_
          refine dq_aln 1 67 (by decide +kernel) rfl G1 ?_
          obtain ⟨x34, q35, hh⟩ := db hh
          refine dq_gI 174 1 [12] 70 (by decide +kernel) rfl q35 ?_
          obtain ⟨h36, q37, hh⟩ := db hh
          obtain ⟨a38, q39, q37⟩ := db q37
          rw [dq_xV q37] at q39
          refine dq_cvi hD 140 178 5 2 [13] o0 [.int 6, .int x34] [] 73 [] (by decide +kernel) ap_178 ⟨⟨Nat.le_of_ble_eq_true rfl, by decide⟩, rfl, rfl⟩ (dq_ok8 [1, 1, 1] [] (dc_r (dc_i (dc_i dc_n))) dc_n (by decide +kernel)) (by decide +kernel) rfl q39 rfl ?_
          refine dq_S (.goto 21) 3 [] 94 _ [] (by decide +kernel) rfl ?_
          exact c171_94 hD hz _ _ _ _ G2 hh
  · refine dq_2 .ne 13 false 31 q5 (by decide +kernel) ?_
    refine dq_S (.iconst 3) 1 [] 32 _ [.int 3] (by decide +kernel) rfl ?_
    refine dq_iln 2 33 (by decide +kernel) rfl G2 ?_
    obtain ⟨x40, q41, hh⟩ := db hh
    obtain ⟨a42, q43, q41⟩ := db q41
    rw [dq_xI q41] at q43
    refine dq_cst hD 213 189 1 1 [.int i2] [.int 3] 36 [.int x40.1, .int 3] (by decide +kernel) ap_189 ⟨⟨Nat.le_of_ble_eq_true rfl, by decide⟩, rfl, rfl⟩ (dq_ok8 [1] [1] (dc_i dc_n) (dc_i dc_n) (by decide +kernel)) (by decide +kernel) rfl q43 rfl ?_
    refine dq_S (.iconst 2) 1 [] 37 _ [.int 2, .int x40.1, .int 3] (by decide +kernel) rfl ?_
    obtain ⟨x44, q45, hh⟩ := db hh
    obtain ⟨a46, q47, q45⟩ := db q45
    rw [dq_xI q45] at q47
    refine dq_cst hD 216 153 1 3 [.int 3, .int x40.1, .int 2] [] 40 [.int x44.1] (by decide +kernel) ap_153 ⟨⟨Nat.le_of_ble_eq_true rfl, by decide⟩, rfl, rfl⟩ (dq_ok8 [1, 1, 1] [] (dc_i (dc_i (dc_i dc_n))) dc_n (by decide +kernel)) (by decide +kernel) rfl q47 rfl ?_
    exact dq_retI (some .int) (by decide +kernel) rfl hh
def b171_0 (L : Nat) (xs : Nat → Int32) (zf : Value) (D : dD) (w : Nat) (o0 : Option Nat) (o1 : Option Nat) (h : rm_H) : Option dR :=
  ((dcV L xs D 172 [13] o0 [va_rf o1] h).bind dxI).bind fun x1 =>
  ((D 159 [.int x1.1] x1.2).bind dxI).bind fun x8 =>
  if mx_f1 .ne x8.1 = true then
    b171_23 L xs zf D w o0 o1 x1.1 x8.2
  else
    (dgI L xs x8.2 1 [12] o1).bind fun x13 =>
    ((dcV L xs D 178 [13] o0 [.int 8, .int x13] x8.2).bind dxV).bind fun h15 =>
    b171_23 L xs zf D w o0 o1 x1.1 h15
theorem c171_0 {L : Nat} {xs : Nat → Int32} {zf : Value} {D : dD} {w k : Nat} (hD : dO L xs zf D k) (hz : zf.category = 1) : ∀ (o0 : Option Nat) (o1 : Option Nat) (lv : rm_L) (h : rm_H) (r : dR), rm_get lv 0 = some (va_rf o0) → rm_get lv 1 = some (va_rf o1) → b171_0 L xs zf D w  o0 o1 h = some r → dq L xs zf ah_M171 0 lv [] h (k + 1) r := by
  intro o0 o1 lv h r G0 G1 hh
  unfold b171_0 at hh
  refine dq_aln 0 1 (by decide +kernel) rfl G0 ?_
  refine dq_aln 1 2 (by decide +kernel) rfl G1 ?_
  obtain ⟨x1, q2, hh⟩ := db hh
  obtain ⟨a3, q4, q2⟩ := db q2
  rw [dq_xI q2] at q4
  refine dq_cvi hD 167 172 5 1 [13] o0 [va_rf o1] [] 5 [.int x1.1] (by decide +kernel) ap_172 ⟨⟨Nat.le_of_ble_eq_true rfl, by decide⟩, rfl, rfl⟩ (dq_ok8 [1, 1] [] (dc_r (dc_r dc_n)) dc_n (by decide +kernel)) (by decide +kernel) rfl q4 rfl ?_
  refine dq_isn 2 6 (by decide +kernel) (by decide +kernel) ?_
  have g5 := dg_ne (i := 2) (u := .int x1.1) (by decide) (Or.inl (by decide)) G0
  have g6 := dg_ne (i := 2) (u := .int x1.1) (by decide) (Or.inr (drc _)) G1
  have g7 := dg_eq (lv) 2 (.int x1.1)
  refine dq_iln 2 7 (by decide +kernel) rfl g7 ?_
  obtain ⟨x8, q9, hh⟩ := db hh
  obtain ⟨a10, q11, q9⟩ := db q9
  rw [dq_xI q9] at q11
  refine dq_cst hD 209 159 1 1 [.int x1.1] [] 10 [.int x8.1] (by decide +kernel) ap_159 ⟨⟨Nat.le_of_ble_eq_true rfl, by decide⟩, rfl, rfl⟩ (dq_ok8 [1] [] (dc_i dc_n) dc_n (by decide +kernel)) (by decide +kernel) rfl q11 rfl ?_
  rcases di hh with ⟨q12, hh⟩ | ⟨q12, hh⟩
  · refine dq_1 .ne 13 true 23 q12 (by decide +kernel) ?_
    exact c171_23 hD hz _ _ _ _ _ _ g5 g6 g7 hh
  · refine dq_1 .ne 13 false 13 q12 (by decide +kernel) ?_
    refine dq_aln 0 14 (by decide +kernel) rfl g5 ?_
    refine dq_S (.bipush 8) 2 [] 16 _ [.int 8, va_rf o0] (by decide +kernel) rfl ?_
    refine dq_aln 1 17 (by decide +kernel) rfl g6 ?_
    obtain ⟨x13, q14, hh⟩ := db hh
    refine dq_gI 174 1 [12] 20 (by decide +kernel) rfl q14 ?_
    obtain ⟨h15, q16, hh⟩ := db hh
    obtain ⟨a17, q18, q16⟩ := db q16
    rw [dq_xV q16] at q18
    refine dq_cvi hD 140 178 5 2 [13] o0 [.int 8, .int x13] [] 23 [] (by decide +kernel) ap_178 ⟨⟨Nat.le_of_ble_eq_true rfl, by decide⟩, rfl, rfl⟩ (dq_ok8 [1, 1, 1] [] (dc_r (dc_i (dc_i dc_n))) dc_n (by decide +kernel)) (by decide +kernel) rfl q18 rfl ?_
    exact c171_23 hD hz _ _ _ _ _ _ g5 g6 g7 hh
def f171 (L : Nat) (xs : Nat → Int32) (zf : Value) (D : dD) (w : Nat) (As : List Value) (h : rm_H) : Option dR := match As with
  | [v0, v1] => (rm_rf v0).bind fun o0 => (rm_rf v1).bind fun o1 => b171_0 L xs zf D w o0 o1 h
  | _ => none
theorem d171 {L : Nat} {xs : Nat → Int32} {zf : Value} {D : dD} {w k : Nat} (hD : dO L xs zf D k) (hz : zf.category = 1) (As : List Value) (h : rm_H) (r : dR) (hh : f171 L xs zf D w As h = some r) : dq L xs zf ah_M171 0 (lv_args 0 As) [] h (k + 1) r := by
  unfold f171 at hh
  split at hh
  · obtain ⟨o0, e0, hb0⟩ := db hh
    have e0 := rm_rf_v _ _ e0
    obtain ⟨o1, e1, hb1⟩ := db hb0
    have e1 := rm_rf_v _ _ e1
    subst e0 e1
    refine c171_0 hD hz _ _ _ _ _ ?_ ?_ hb1
    all_goals (simp only [la_r, la_i, la_j]; rfl)
  · cases hh
def b172_32 (L : Nat) (xs : Nat → Int32) (zf : Value) (D : dD) (w : Nat) (K2 : Option Nat → Option Nat → Option Nat → rm_H → Option dR) (o0 : Option Nat) (o1 : Option Nat) (o2 : Option Nat) (h : rm_H) : Option dR :=
  (dgR L xs h 6 [12] o2).bind fun p1 =>
  K2 o0 o1 p1 h
theorem c172_32 {L : Nat} {xs : Nat → Int32} {zf : Value} {D : dD} {w k : Nat} {K2 : Option Nat → Option Nat → Option Nat → rm_H → Option dR} (hD : dO L xs zf D k) (hz : zf.category = 1) (hK2 : ∀ (o0 : Option Nat) (o1 : Option Nat) (o2 : Option Nat) (lv : rm_L) (h : rm_H) (r : dR), rm_get lv 0 = some (va_rf o0) → rm_get lv 1 = some (va_rf o1) → rm_get lv 2 = some (va_rf o2) → K2 o0 o1 o2 h = some r → dq L xs zf ah_M172 2 lv [] h (k + 1) r) : ∀ (o0 : Option Nat) (o1 : Option Nat) (o2 : Option Nat) (lv : rm_L) (h : rm_H) (r : dR), rm_get lv 0 = some (va_rf o0) → rm_get lv 1 = some (va_rf o1) → rm_get lv 2 = some (va_rf o2) → b172_32 L xs zf D w K2  o0 o1 o2 h = some r → dq L xs zf ah_M172 32 lv [] h (k + 1) r := by
  intro o0 o1 o2 lv h r G0 G1 G2 hh
  unfold b172_32 at hh
  refine dq_aln 2 33 (by decide +kernel) rfl G2 ?_
  obtain ⟨p1, q2, hh⟩ := db hh
  refine dq_gR 235 6 [12] 36 (by decide +kernel) rfl q2 ?_
  refine dq_asn 2 37 (by decide +kernel) (by decide +kernel) ?_
  have g3 := dg_ne (i := 2) (u := va_rf p1) (by decide) (Or.inl (by decide)) G0
  have g4 := dg_ne (i := 2) (u := va_rf p1) (by decide) (Or.inr (drc _)) G1
  have g5 := dg_eq (lv) 2 (va_rf p1)
  refine dq_S (.goto (-35)) 3 [] 2 _ [] (by decide +kernel) rfl ?_
  exact hK2 _ _ _ _ _ _ g3 g4 g5 hh
def b172_27 (L : Nat) (xs : Nat → Int32) (zf : Value) (D : dD) (w : Nat) (K2 : Option Nat → Option Nat → Option Nat → rm_H → Option dR) (o0 : Option Nat) (o1 : Option Nat) (o2 : Option Nat) (h : rm_H) : Option dR :=
  ((dcV L xs D 173 [13] o0 [va_rf o2] h).bind dxV).bind fun h1 =>
  b172_32 L xs zf D w K2 o0 o1 o2 h1
theorem c172_27 {L : Nat} {xs : Nat → Int32} {zf : Value} {D : dD} {w k : Nat} {K2 : Option Nat → Option Nat → Option Nat → rm_H → Option dR} (hD : dO L xs zf D k) (hz : zf.category = 1) (hK2 : ∀ (o0 : Option Nat) (o1 : Option Nat) (o2 : Option Nat) (lv : rm_L) (h : rm_H) (r : dR), rm_get lv 0 = some (va_rf o0) → rm_get lv 1 = some (va_rf o1) → rm_get lv 2 = some (va_rf o2) → K2 o0 o1 o2 h = some r → dq L xs zf ah_M172 2 lv [] h (k + 1) r) : ∀ (o0 : Option Nat) (o1 : Option Nat) (o2 : Option Nat) (lv : rm_L) (h : rm_H) (r : dR), rm_get lv 0 = some (va_rf o0) → rm_get lv 1 = some (va_rf o1) → rm_get lv 2 = some (va_rf o2) → b172_27 L xs zf D w K2  o0 o1 o2 h = some r → dq L xs zf ah_M172 27 lv [] h (k + 1) r := by
  intro o0 o1 o2 lv h r G0 G1 G2 hh
  unfold b172_27 at hh
  refine dq_aln 0 28 (by decide +kernel) rfl G0 ?_
  refine dq_aln 2 29 (by decide +kernel) rfl G2 ?_
  obtain ⟨h1, q2, hh⟩ := db hh
  obtain ⟨a3, q4, q2⟩ := db q2
  rw [dq_xV q2] at q4
  refine dq_cvi hD 238 173 5 1 [13] o0 [va_rf o2] [] 32 [] (by decide +kernel) ap_173 ⟨⟨Nat.le_of_ble_eq_true rfl, by decide⟩, rfl, rfl⟩ (dq_ok8 [1, 1] [] (dc_r (dc_r dc_n)) dc_n (by decide +kernel)) (by decide +kernel) rfl q4 rfl ?_
  exact c172_32 hD hz hK2 _ _ _ _ _ _ G0 G1 G2 hh
def b172_73 (L : Nat) (xs : Nat → Int32) (zf : Value) (D : dD) (w : Nat) (i3 : Int32) (h : rm_H) : Option dR :=
  drI (some .int) i3 h
theorem c172_73 {L : Nat} {xs : Nat → Int32} {zf : Value} {D : dD} {w k : Nat} (hD : dO L xs zf D k) (hz : zf.category = 1) : ∀ (i3 : Int32) (lv : rm_L) (h : rm_H) (r : dR), rm_get lv 3 = some (.int i3) → b172_73 L xs zf D w  i3 h = some r → dq L xs zf ah_M172 73 lv [] h (k + 1) r := by
  intro i3 lv h r G3 hh
  unfold b172_73 at hh
  refine dq_iln 3 74 (by decide +kernel) rfl G3 ?_
  exact dq_retI (some .int) (by decide +kernel) rfl hh
def b172_46 (L : Nat) (xs : Nat → Int32) (zf : Value) (D : dD) (w : Nat) : Nat → Option Nat → Option Nat → Option Nat → Int32 → rm_H → Option dR
  | 0, _, _, _, _, _ => none
  | n + 1, o0, o1, o2, i3, h =>
    if dcm o2 o1 = true then
      if dsm o2 o1 = true then
        b172_73 L xs zf D w i3 h
      else
        (dgR L xs h 7 [12] o2).bind fun p3 =>
        if dnl p3 = true then
          b172_73 L xs zf D w i3 h
        else
          (dgR L xs h 7 [12] o2).bind fun p6 =>
          ((dcV L xs D 202 [13] o0 [va_rf p6, .int i3] h).bind dxI).bind fun x12 =>
          b172_46 L xs zf D w n o0 o1 p6 x12.1 x12.2
    else
      none
theorem c172_46 {L : Nat} {xs : Nat → Int32} {zf : Value} {D : dD} {w k : Nat} (hD : dO L xs zf D k) (hz : zf.category = 1) : ∀ (n : Nat) (o0 : Option Nat) (o1 : Option Nat) (o2 : Option Nat) (i3 : Int32) (lv : rm_L) (h : rm_H) (r : dR), rm_get lv 0 = some (va_rf o0) → rm_get lv 1 = some (va_rf o1) → rm_get lv 2 = some (va_rf o2) → rm_get lv 3 = some (.int i3) → b172_46 L xs zf D w n  o0 o1 o2 i3 h = some r → dq L xs zf ah_M172 46 lv [] h (k + 1) r := by
  intro n
  induction n with
  | zero =>
    intro o0 o1 o2 i3 lv h r G0 G1 G2 G3 hh
    cases hh
  | succ n ih =>
    intro o0 o1 o2 i3 lv h r G0 G1 G2 G3 hh
    rw [b172_46] at hh
    refine dq_aln 2 47 (by decide +kernel) rfl G2 ?_
    refine dq_aln 1 48 (by decide +kernel) rfl G1 ?_
    rcases di hh with ⟨q2, hh⟩ | ⟨_, hh⟩
    rotate_left
    · cases hh
    rcases di hh with ⟨q1, hh⟩ | ⟨q1, hh⟩
    · refine dq_acmp .eq 25 true 73 q2 q1 (by decide +kernel) (by decide +kernel) ?_
      exact c172_73 hD hz _ _ _ _ G3 hh
    · refine dq_acmp .eq 25 false 51 q2 q1 (by decide +kernel) (by decide +kernel) ?_
      refine dq_aln 2 52 (by decide +kernel) rfl G2 ?_
      obtain ⟨p3, q4, hh⟩ := db hh
      refine dq_gR 244 7 [12] 55 (by decide +kernel) rfl q4 ?_
      rcases di hh with ⟨q5, hh⟩ | ⟨q5, hh⟩
      · refine dq_null 18 true 73 q5 (by decide +kernel) (by decide +kernel) ?_
        exact c172_73 hD hz _ _ _ _ G3 hh
      · refine dq_null 18 false 58 q5 (by decide +kernel) (by decide +kernel) ?_
        refine dq_aln 2 59 (by decide +kernel) rfl G2 ?_
        obtain ⟨p6, q7, hh⟩ := db hh
        refine dq_gR 244 7 [12] 62 (by decide +kernel) rfl q7 ?_
        refine dq_asn 2 63 (by decide +kernel) (by decide +kernel) ?_
        have g8 := dg_ne (i := 2) (u := va_rf p6) (by decide) (Or.inl (by decide)) G0
        have g9 := dg_ne (i := 2) (u := va_rf p6) (by decide) (Or.inr (drc _)) G1
        have g10 := dg_ne (i := 2) (u := va_rf p6) (by decide) (Or.inl (by decide)) G3
        have g11 := dg_eq (lv) 2 (va_rf p6)
        refine dq_aln 0 64 (by decide +kernel) rfl g8 ?_
        refine dq_aln 2 65 (by decide +kernel) rfl g11 ?_
        refine dq_iln 3 66 (by decide +kernel) rfl g10 ?_
        obtain ⟨x12, q13, hh⟩ := db hh
        obtain ⟨a14, q15, q13⟩ := db q13
        rw [dq_xI q13] at q15
        refine dq_cvi hD 247 202 5 2 [13] o0 [va_rf p6, .int i3] [] 69 [.int x12.1] (by decide +kernel) ap_202 ⟨⟨Nat.le_of_ble_eq_true rfl, by decide⟩, rfl, rfl⟩ (dq_ok8 [1, 1, 1] [] (dc_r (dc_r (dc_i dc_n))) dc_n (by decide +kernel)) (by decide +kernel) rfl q15 rfl ?_
        refine dq_isn 3 70 (by decide +kernel) (by decide +kernel) ?_
        have g16 := dg_ne (i := 3) (u := .int x12.1) (by decide) (Or.inl (by decide)) g8
        have g17 := dg_ne (i := 3) (u := .int x12.1) (by decide) (Or.inl (by decide)) g9
        have g18 := dg_ne (i := 3) (u := .int x12.1) (by decide) (Or.inr (drc _)) g11
        have g19 := dg_eq (rm_set1 (lv) 2 (va_rf p6)) 3 (.int x12.1)
        refine dq_S (.goto (-24)) 3 [] 46 _ [] (by decide +kernel) rfl ?_
        exact ih _ _ _ _ _ _ _ g16 g17 g18 g19 hh
def b172_2 (L : Nat) (xs : Nat → Int32) (zf : Value) (D : dD) (w : Nat) : Nat → Option Nat → Option Nat → Option Nat → rm_H → Option dR
  | 0, _, _, _, _ => none
  | n + 1, o0, o1, o2, h =>
    (dgR L xs h 6 [12] o2).bind fun p1 =>
    if dnl p1 = true then
      ((dcV L xs D 174 [13] o0 [va_rf o2] h).bind dxI).bind fun x4 =>
      b172_46 L xs zf D w w o0 o1 o2 x4.1 x4.2
    else
      (dgI L xs h 0 [12] o2).bind fun x12 =>
      if mx_f2 .eq x12 11 = true then
        b172_27 L xs zf D w (b172_2 L xs zf D w n) o0 o1 o2 h
      else
        (dgI L xs h 0 [12] o2).bind fun x15 =>
        if mx_f2 .ne x15 12 = true then
          b172_32 L xs zf D w (b172_2 L xs zf D w n) o0 o1 o2 h
        else
          b172_27 L xs zf D w (b172_2 L xs zf D w n) o0 o1 o2 h
theorem c172_2 {L : Nat} {xs : Nat → Int32} {zf : Value} {D : dD} {w k : Nat} (hD : dO L xs zf D k) (hz : zf.category = 1) : ∀ (n : Nat) (o0 : Option Nat) (o1 : Option Nat) (o2 : Option Nat) (lv : rm_L) (h : rm_H) (r : dR), rm_get lv 0 = some (va_rf o0) → rm_get lv 1 = some (va_rf o1) → rm_get lv 2 = some (va_rf o2) → b172_2 L xs zf D w n  o0 o1 o2 h = some r → dq L xs zf ah_M172 2 lv [] h (k + 1) r := by
  intro n
  induction n with
  | zero =>
    intro o0 o1 o2 lv h r G0 G1 G2 hh
    cases hh
  | succ n ih =>
    intro o0 o1 o2 lv h r G0 G1 G2 hh
    rw [b172_2] at hh
    refine dq_aln 2 3 (by decide +kernel) rfl G2 ?_
    obtain ⟨p1, q2, hh⟩ := db hh
    refine dq_gR 235 6 [12] 6 (by decide +kernel) rfl q2 ?_
    rcases di hh with ⟨q3, hh⟩ | ⟨q3, hh⟩
    · refine dq_null 34 true 40 q3 (by decide +kernel) (by decide +kernel) ?_
      refine dq_aln 0 41 (by decide +kernel) rfl G0 ?_
      refine dq_aln 2 42 (by decide +kernel) rfl G2 ?_
      obtain ⟨x4, q5, hh⟩ := db hh
      obtain ⟨a6, q7, q5⟩ := db q5
      rw [dq_xI q5] at q7
      refine dq_cvi hD 241 174 5 1 [13] o0 [va_rf o2] [] 45 [.int x4.1] (by decide +kernel) ap_174 ⟨⟨Nat.le_of_ble_eq_true rfl, by decide⟩, rfl, rfl⟩ (dq_ok8 [1, 1] [] (dc_r (dc_r dc_n)) dc_n (by decide +kernel)) (by decide +kernel) rfl q7 rfl ?_
      refine dq_isn 3 46 (by decide +kernel) (by decide +kernel) ?_
      have g8 := dg_ne (i := 3) (u := .int x4.1) (by decide) (Or.inl (by decide)) G0
      have g9 := dg_ne (i := 3) (u := .int x4.1) (by decide) (Or.inl (by decide)) G1
      have g10 := dg_ne (i := 3) (u := .int x4.1) (by decide) (Or.inr (drc _)) G2
      have g11 := dg_eq (lv) 3 (.int x4.1)
      exact c172_46 hD hz _ _ _ _ _ _ _ _ g8 g9 g10 g11 hh
    · refine dq_null 34 false 9 q3 (by decide +kernel) (by decide +kernel) ?_
      refine dq_aln 2 10 (by decide +kernel) rfl G2 ?_
      obtain ⟨x12, q13, hh⟩ := db hh
      refine dq_gI 134 0 [12] 13 (by decide +kernel) rfl q13 ?_
      refine dq_S (.bipush 11) 2 [] 15 _ [.int 11, .int x12] (by decide +kernel) rfl ?_
      rcases di hh with ⟨q14, hh⟩ | ⟨q14, hh⟩
      · refine dq_2 .eq 12 true 27 q14 (by decide +kernel) ?_
        exact c172_27 hD hz ih _ _ _ _ _ _ G0 G1 G2 hh
      · refine dq_2 .eq 12 false 18 q14 (by decide +kernel) ?_
        refine dq_aln 2 19 (by decide +kernel) rfl G2 ?_
        obtain ⟨x15, q16, hh⟩ := db hh
        refine dq_gI 134 0 [12] 22 (by decide +kernel) rfl q16 ?_
        refine dq_S (.bipush 12) 2 [] 24 _ [.int 12, .int x15] (by decide +kernel) rfl ?_
        rcases di hh with ⟨q17, hh⟩ | ⟨q17, hh⟩
        · refine dq_2 .ne 8 true 32 q17 (by decide +kernel) ?_
          exact c172_32 hD hz ih _ _ _ _ _ _ G0 G1 G2 hh
        · refine dq_2 .ne 8 false 27 q17 (by decide +kernel) ?_
          exact c172_27 hD hz ih _ _ _ _ _ _ G0 G1 G2 hh
def b172_0 (L : Nat) (xs : Nat → Int32) (zf : Value) (D : dD) (w : Nat) (o0 : Option Nat) (o1 : Option Nat) (h : rm_H) : Option dR :=
  b172_2 L xs zf D w w o0 o1 o1 h
theorem c172_0 {L : Nat} {xs : Nat → Int32} {zf : Value} {D : dD} {w k : Nat} (hD : dO L xs zf D k) (hz : zf.category = 1) : ∀ (o0 : Option Nat) (o1 : Option Nat) (lv : rm_L) (h : rm_H) (r : dR), rm_get lv 0 = some (va_rf o0) → rm_get lv 1 = some (va_rf o1) → b172_0 L xs zf D w  o0 o1 h = some r → dq L xs zf ah_M172 0 lv [] h (k + 1) r := by
  intro o0 o1 lv h r G0 G1 hh
  unfold b172_0 at hh
  refine dq_aln 1 1 (by decide +kernel) rfl G1 ?_
  refine dq_asn 2 2 (by decide +kernel) (by decide +kernel) ?_
  have g1 := dg_ne (i := 2) (u := va_rf o1) (by decide) (Or.inl (by decide)) G0
  have g2 := dg_ne (i := 2) (u := va_rf o1) (by decide) (Or.inr (drc _)) G1
  have g3 := dg_eq (lv) 2 (va_rf o1)
  exact c172_2 hD hz _ _ _ _ _ _ _ g1 g2 g3 hh
def f172 (L : Nat) (xs : Nat → Int32) (zf : Value) (D : dD) (w : Nat) (As : List Value) (h : rm_H) : Option dR := match As with
  | [v0, v1] => (rm_rf v0).bind fun o0 => (rm_rf v1).bind fun o1 => b172_0 L xs zf D w o0 o1 h
  | _ => none
theorem d172 {L : Nat} {xs : Nat → Int32} {zf : Value} {D : dD} {w k : Nat} (hD : dO L xs zf D k) (hz : zf.category = 1) (As : List Value) (h : rm_H) (r : dR) (hh : f172 L xs zf D w As h = some r) : dq L xs zf ah_M172 0 (lv_args 0 As) [] h (k + 1) r := by
  unfold f172 at hh
  split at hh
  · obtain ⟨o0, e0, hb0⟩ := db hh
    have e0 := rm_rf_v _ _ e0
    obtain ⟨o1, e1, hb1⟩ := db hb0
    have e1 := rm_rf_v _ _ e1
    subst e0 e1
    refine c172_0 hD hz _ _ _ _ _ ?_ ?_ hb1
    all_goals (simp only [la_r, la_i, la_j]; rfl)
  · cases hh
def b173_2 (L : Nat) (xs : Nat → Int32) (zf : Value) (D : dD) (w : Nat) : Nat → Option Nat → Option Nat → Int32 → rm_H → Option dR
  | 0, _, _, _, _ => none
  | n + 1, o0, o1, i2, h =>
    ((dcV L xs D 167 [12] o1 [] h).bind dxI).bind fun x1 =>
    if mx_f2 .ge i2 x1.1 = true then
      some (none, x1.2)
    else
      ((dcV L xs D 168 [12] o1 [.int i2] x1.2).bind dxR).bind fun p6 =>
      ((dcV L xs D 171 [13] o0 [va_rf p6.1] p6.2).bind dxI).bind fun x14 =>
      (dpF x14.2 12 [12] p6.1 (.int x14.1)).bind fun h18 =>
      b173_2 L xs zf D w n o0 o1 (i2 + 1) h18
theorem c173_2 {L : Nat} {xs : Nat → Int32} {zf : Value} {D : dD} {w k : Nat} (hD : dO L xs zf D k) (hz : zf.category = 1) : ∀ (n : Nat) (o0 : Option Nat) (o1 : Option Nat) (i2 : Int32) (lv : rm_L) (h : rm_H) (r : dR), rm_get lv 0 = some (va_rf o0) → rm_get lv 1 = some (va_rf o1) → rm_get lv 2 = some (.int i2) → b173_2 L xs zf D w n  o0 o1 i2 h = some r → dq L xs zf ah_M173 2 lv [] h (k + 1) r := by
  intro n
  induction n with
  | zero =>
    intro o0 o1 i2 lv h r G0 G1 G2 hh
    cases hh
  | succ n ih =>
    intro o0 o1 i2 lv h r G0 G1 G2 hh
    rw [b173_2] at hh
    refine dq_iln 2 3 (by decide +kernel) rfl G2 ?_
    refine dq_aln 1 4 (by decide +kernel) rfl G1 ?_
    obtain ⟨x1, q2, hh⟩ := db hh
    obtain ⟨a3, q4, q2⟩ := db q2
    rw [dq_xI q2] at q4
    refine dq_cvi hD 124 167 5 0 [12] o1 [] [.int i2] 7 [.int x1.1, .int i2] (by decide +kernel) ap_167 ⟨⟨Nat.le_of_ble_eq_true rfl, by decide⟩, rfl, rfl⟩ (dq_ok8 [1] [1] (dc_r dc_n) (dc_i dc_n) (by decide +kernel)) (by decide +kernel) rfl q4 rfl ?_
    rcases di hh with ⟨q5, hh⟩ | ⟨q5, hh⟩
    · refine dq_2 .ge 24 true 31 q5 (by decide +kernel) ?_
      cases hh
      exact dq_ret0 (by decide +kernel) rfl
    · refine dq_2 .ge 24 false 10 q5 (by decide +kernel) ?_
      refine dq_aln 1 11 (by decide +kernel) rfl G1 ?_
      refine dq_iln 2 12 (by decide +kernel) rfl G2 ?_
      obtain ⟨p6, q7, hh⟩ := db hh
      obtain ⟨a8, q9, q7⟩ := db q7
      rw [dq_xR q7] at q9
      refine dq_cvi hD 127 168 5 1 [12] o1 [.int i2] [] 15 [va_rf p6.1] (by decide +kernel) ap_168 ⟨⟨Nat.le_of_ble_eq_true rfl, by decide⟩, rfl, rfl⟩ (dq_ok8 [1, 1] [] (dc_r (dc_i dc_n)) dc_n (by decide +kernel)) (by decide +kernel) rfl q9 rfl ?_
      refine dq_asn 3 16 (by decide +kernel) (by decide +kernel) ?_
      have g10 := dg_ne (i := 3) (u := va_rf p6.1) (by decide) (Or.inl (by decide)) G0
      have g11 := dg_ne (i := 3) (u := va_rf p6.1) (by decide) (Or.inl (by decide)) G1
      have g12 := dg_ne (i := 3) (u := va_rf p6.1) (by decide) (Or.inr rfl) G2
      have g13 := dg_eq (lv) 3 (va_rf p6.1)
      refine dq_aln 3 17 (by decide +kernel) rfl g13 ?_
      refine dq_aln 0 18 (by decide +kernel) rfl g10 ?_
      refine dq_aln 3 19 (by decide +kernel) rfl g13 ?_
      obtain ⟨x14, q15, hh⟩ := db hh
      obtain ⟨a16, q17, q15⟩ := db q15
      rw [dq_xI q15] at q17
      refine dq_cvi hD 177 171 5 1 [13] o0 [va_rf p6.1] [va_rf p6.1] 22 [.int x14.1, va_rf p6.1] (by decide +kernel) ap_171 ⟨⟨Nat.le_of_ble_eq_true rfl, by decide⟩, rfl, rfl⟩ (dq_ok8 [1, 1] [1] (dc_r (dc_r dc_n)) (dc_r dc_n) (by decide +kernel)) (by decide +kernel) rfl q17 rfl ?_
      obtain ⟨h18, q19, hh⟩ := db hh
      refine dq_put 250 12 [12] 25 (by decide +kernel) rfl q19 ?_
      refine dq_incy 2 1 1 28 (by decide +kernel) ⟨rfl, by decide +kernel, by decide +kernel⟩ g12 ?_
      have g20 := dg_ne (i := 2) (u := .int (i2 + 1)) (by decide) (Or.inl (by decide)) g10
      have g21 := dg_ne (i := 2) (u := .int (i2 + 1)) (by decide) (Or.inr (drc _)) g11
      have g22 := dg_ne (i := 2) (u := .int (i2 + 1)) (by decide) (Or.inl (by decide)) g13
      have g23 := dg_eq (rm_set1 (lv) 3 (va_rf p6.1)) 2 (.int (i2 + 1))
      refine dq_S (.goto (-26)) 3 [] 2 _ [] (by decide +kernel) rfl ?_
      exact ih _ _ _ _ _ _ g20 g21 g23 hh
def b173_0 (L : Nat) (xs : Nat → Int32) (zf : Value) (D : dD) (w : Nat) (o0 : Option Nat) (o1 : Option Nat) (h : rm_H) : Option dR :=
  b173_2 L xs zf D w w o0 o1 0 h
theorem c173_0 {L : Nat} {xs : Nat → Int32} {zf : Value} {D : dD} {w k : Nat} (hD : dO L xs zf D k) (hz : zf.category = 1) : ∀ (o0 : Option Nat) (o1 : Option Nat) (lv : rm_L) (h : rm_H) (r : dR), rm_get lv 0 = some (va_rf o0) → rm_get lv 1 = some (va_rf o1) → b173_0 L xs zf D w  o0 o1 h = some r → dq L xs zf ah_M173 0 lv [] h (k + 1) r := by
  intro o0 o1 lv h r G0 G1 hh
  unfold b173_0 at hh
  refine dq_S (.iconst 0) 1 [] 1 _ [.int 0] (by decide +kernel) rfl ?_
  refine dq_isn 2 2 (by decide +kernel) (by decide +kernel) ?_
  have g1 := dg_ne (i := 2) (u := .int 0) (by decide) (Or.inl (by decide)) G0
  have g2 := dg_ne (i := 2) (u := .int 0) (by decide) (Or.inr (drc _)) G1
  have g3 := dg_eq (lv) 2 (.int 0)
  exact c173_2 hD hz _ _ _ _ _ _ _ g1 g2 g3 hh
def f173 (L : Nat) (xs : Nat → Int32) (zf : Value) (D : dD) (w : Nat) (As : List Value) (h : rm_H) : Option dR := match As with
  | [v0, v1] => (rm_rf v0).bind fun o0 => (rm_rf v1).bind fun o1 => b173_0 L xs zf D w o0 o1 h
  | _ => none
theorem d173 {L : Nat} {xs : Nat → Int32} {zf : Value} {D : dD} {w k : Nat} (hD : dO L xs zf D k) (hz : zf.category = 1) (As : List Value) (h : rm_H) (r : dR) (hh : f173 L xs zf D w As h = some r) : dq L xs zf ah_M173 0 (lv_args 0 As) [] h (k + 1) r := by
  unfold f173 at hh
  split at hh
  · obtain ⟨o0, e0, hb0⟩ := db hh
    have e0 := rm_rf_v _ _ e0
    obtain ⟨o1, e1, hb1⟩ := db hb0
    have e1 := rm_rf_v _ _ e1
    subst e0 e1
    refine c173_0 hD hz _ _ _ _ _ ?_ ?_ hb1
    all_goals (simp only [la_r, la_i, la_j]; rfl)
  · cases hh
