/-! METHODS AS FUNCTIONS, printed by wip/whole/gen_fun.py -/
def b174_0 (L : Nat) (xs : Nat → Int32) (zf : Value) (D : dD) (w : Nat) (o0 : Option Nat) (o1 : Option Nat) (h : rm_H) : Option dR :=
  (dgI L xs h 0 [12] o1).bind fun x1 =>
  if dsw 1 8 x1 = true then
    ((dcV L xs D 201 [13] o0 [va_rf o1] h).bind dxI).bind fun x4 =>
    drI (some .int) x4.1 x4.2
  else if x1 = 1 then
    (dgR L xs h 0 [13] o0).bind fun p9 =>
    (dgI L xs h 4 [12] o1).bind fun x11 =>
    ((dcV L xs D 175 [4] p9 [.int 0, .int x11] h).bind dxI).bind fun x13 =>
    drI (some .int) 1 x13.2
  else if x1 = 2 then
    (dgR L xs h 0 [13] o0).bind fun p18 =>
    ((dcV L xs D 175 [4] p18 [.int 0, .int 0] h).bind dxI).bind fun x20 =>
    drI (some .int) 2 x20.2
  else if x1 = 3 then
    ((dcV L xs D 177 [13] o0 [va_rf o1] h).bind dxI).bind fun x25 =>
    drI (some .int) x25.1 x25.2
  else if x1 = 4 then
    ((dcV L xs D 179 [13] o0 [va_rf o1] h).bind dxI).bind fun x30 =>
    drI (some .int) x30.1 x30.2
  else if x1 = 5 then
    ((dcV L xs D 184 [13] o0 [va_rf o1] h).bind dxI).bind fun x35 =>
    drI (some .int) x35.1 x35.2
  else if x1 = 6 then
    ((dcV L xs D 185 [13] o0 [va_rf o1] h).bind dxI).bind fun x40 =>
    drI (some .int) x40.1 x40.2
  else if x1 = 7 then
    (dgR L xs h 8 [12] o1).bind fun p45 =>
    (dgR L xs h 9 [12] o1).bind fun p47 =>
    ((dcV L xs D 186 [13] o0 [va_rf p45, va_rf p47, .int 1] h).bind dxI).bind fun x49 =>
    drI (some .int) x49.1 x49.2
  else if x1 = 8 then
    ((dcV L xs D 198 [13] o0 [va_rf o1] h).bind dxI).bind fun x54 =>
    drI (some .int) x54.1 x54.2
  else none
theorem c174_0 {L : Nat} {xs : Nat → Int32} {zf : Value} {D : dD} {w k : Nat} (hD : dO L xs zf D k) (hz : zf.category = 1) : ∀ (o0 : Option Nat) (o1 : Option Nat) (lv : rm_L) (h : rm_H) (r : dR), rm_get lv 0 = some (va_rf o0) → rm_get lv 1 = some (va_rf o1) → b174_0 L xs zf D w  o0 o1 h = some r → dq L xs zf ah_M174 0 lv [] h (k + 1) r := by
  intro o0 o1 lv h r G0 G1 hh
  unfold b174_0 at hh
  refine dq_aln 1 1 (by decide +kernel) rfl G1 ?_
  obtain ⟨x1, q2, hh⟩ := db hh
  refine dq_gI 134 0 [12] 4 (by decide +kernel) rfl q2 ?_
  rcases di hh with ⟨q3, hh⟩ | ⟨_, hh⟩
  · refine dq_sd 119 1 8 #[48, 63, 75, 81, 87, 93, 99, 113] 48 123 (by decide +kernel) (by decide +kernel) q3 ?_
    refine dq_aln 0 124 (by decide +kernel) rfl G0 ?_
    refine dq_aln 1 125 (by decide +kernel) rfl G1 ?_
    obtain ⟨x4, q5, hh⟩ := db hh
    obtain ⟨a6, q7, q5⟩ := db q5
    rw [dq_xI q5] at q7
    refine dq_cvi hD 281 201 5 1 [13] o0 [va_rf o1] [] 128 [.int x4.1] (by decide +kernel) ap_201 ⟨⟨Nat.le_of_ble_eq_true rfl, by decide⟩, rfl, rfl⟩ (dq_ok8 [1, 1] [] (dc_r (dc_r dc_n)) dc_n (by decide +kernel)) (by decide +kernel) rfl q7 rfl ?_
    exact dq_retI (some .int) (by decide +kernel) rfl hh
  rcases dp hh with ⟨q8, hh⟩ | ⟨_, hh⟩
  · refine dq_eq 1 q8 ?_
    refine dq_S (.tableswitch 119 1 8 #[48, 63, 75, 81, 87, 93, 99, 113]) 48 [] 52 _ [] (by decide +kernel) rfl ?_
    refine dq_aln 0 53 (by decide +kernel) rfl G0 ?_
    obtain ⟨p9, q10, hh⟩ := db hh
    refine dq_gR 9 0 [13] 56 (by decide +kernel) rfl q10 ?_
    refine dq_S (.iconst 0) 1 [] 57 _ [.int 0, va_rf p9] (by decide +kernel) rfl ?_
    refine dq_aln 1 58 (by decide +kernel) rfl G1 ?_
    obtain ⟨x11, q12, hh⟩ := db hh
    refine dq_gI 263 4 [12] 61 (by decide +kernel) rfl q12 ?_
    obtain ⟨x13, q14, hh⟩ := db hh
    obtain ⟨a15, q16, q14⟩ := db q14
    rw [dq_xI q14] at q16
    refine dq_cvi hD 104 175 5 2 [4] p9 [.int 0, .int x11] [] 64 [.int x13.1] (by decide +kernel) ap_175 ⟨⟨Nat.le_of_ble_eq_true rfl, by decide⟩, rfl, rfl⟩ (dq_ok8 [1, 1, 1] [] (dc_r (dc_i (dc_i dc_n))) dc_n (by decide +kernel)) (by decide +kernel) rfl q16 rfl ?_
    refine dq_S (.pop) 1 [] 65 _ [] (by decide +kernel) rfl ?_
    refine dq_S (.iconst 1) 1 [] 66 _ [.int 1] (by decide +kernel) rfl ?_
    exact dq_retI (some .int) (by decide +kernel) rfl hh
  rcases dp hh with ⟨q17, hh⟩ | ⟨_, hh⟩
  · refine dq_eq 2 q17 ?_
    refine dq_S (.tableswitch 119 1 8 #[48, 63, 75, 81, 87, 93, 99, 113]) 48 [] 67 _ [] (by decide +kernel) rfl ?_
    refine dq_aln 0 68 (by decide +kernel) rfl G0 ?_
    obtain ⟨p18, q19, hh⟩ := db hh
    refine dq_gR 9 0 [13] 71 (by decide +kernel) rfl q19 ?_
    refine dq_S (.iconst 0) 1 [] 72 _ [.int 0, va_rf p18] (by decide +kernel) rfl ?_
    refine dq_S (.iconst 0) 1 [] 73 _ [.int 0, .int 0, va_rf p18] (by decide +kernel) rfl ?_
    obtain ⟨x20, q21, hh⟩ := db hh
    obtain ⟨a22, q23, q21⟩ := db q21
    rw [dq_xI q21] at q23
    refine dq_cvi hD 104 175 5 2 [4] p18 [.int 0, .int 0] [] 76 [.int x20.1] (by decide +kernel) ap_175 ⟨⟨Nat.le_of_ble_eq_true rfl, by decide⟩, rfl, rfl⟩ (dq_ok8 [1, 1, 1] [] (dc_r (dc_i (dc_i dc_n))) dc_n (by decide +kernel)) (by decide +kernel) rfl q23 rfl ?_
    refine dq_S (.pop) 1 [] 77 _ [] (by decide +kernel) rfl ?_
    refine dq_S (.iconst 2) 1 [] 78 _ [.int 2] (by decide +kernel) rfl ?_
    exact dq_retI (some .int) (by decide +kernel) rfl hh
  rcases dp hh with ⟨q24, hh⟩ | ⟨_, hh⟩
  · refine dq_eq 3 q24 ?_
    refine dq_S (.tableswitch 119 1 8 #[48, 63, 75, 81, 87, 93, 99, 113]) 48 [] 79 _ [] (by decide +kernel) rfl ?_
    refine dq_aln 0 80 (by decide +kernel) rfl G0 ?_
    refine dq_aln 1 81 (by decide +kernel) rfl G1 ?_
    obtain ⟨x25, q26, hh⟩ := db hh
    obtain ⟨a27, q28, q26⟩ := db q26
    rw [dq_xI q26] at q28
    refine dq_cvi hD 266 177 5 1 [13] o0 [va_rf o1] [] 84 [.int x25.1] (by decide +kernel) ap_177 ⟨⟨Nat.le_of_ble_eq_true rfl, by decide⟩, rfl, rfl⟩ (dq_ok8 [1, 1] [] (dc_r (dc_r dc_n)) dc_n (by decide +kernel)) (by decide +kernel) rfl q28 rfl ?_
    exact dq_retI (some .int) (by decide +kernel) rfl hh
  rcases dp hh with ⟨q29, hh⟩ | ⟨_, hh⟩
  · refine dq_eq 4 q29 ?_
    refine dq_S (.tableswitch 119 1 8 #[48, 63, 75, 81, 87, 93, 99, 113]) 48 [] 85 _ [] (by decide +kernel) rfl ?_
    refine dq_aln 0 86 (by decide +kernel) rfl G0 ?_
    refine dq_aln 1 87 (by decide +kernel) rfl G1 ?_
    obtain ⟨x30, q31, hh⟩ := db hh
    obtain ⟨a32, q33, q31⟩ := db q31
    rw [dq_xI q31] at q33
    refine dq_cvi hD 269 179 5 1 [13] o0 [va_rf o1] [] 90 [.int x30.1] (by decide +kernel) ap_179 ⟨⟨Nat.le_of_ble_eq_true rfl, by decide⟩, rfl, rfl⟩ (dq_ok8 [1, 1] [] (dc_r (dc_r dc_n)) dc_n (by decide +kernel)) (by decide +kernel) rfl q33 rfl ?_
    exact dq_retI (some .int) (by decide +kernel) rfl hh
  rcases dp hh with ⟨q34, hh⟩ | ⟨_, hh⟩
  · refine dq_eq 5 q34 ?_
    refine dq_S (.tableswitch 119 1 8 #[48, 63, 75, 81, 87, 93, 99, 113]) 48 [] 91 _ [] (by decide +kernel) rfl ?_
    refine dq_aln 0 92 (by decide +kernel) rfl G0 ?_
    refine dq_aln 1 93 (by decide +kernel) rfl G1 ?_
    obtain ⟨x35, q36, hh⟩ := db hh
    obtain ⟨a37, q38, q36⟩ := db q36
    rw [dq_xI q36] at q38
    refine dq_cvi hD 272 184 5 1 [13] o0 [va_rf o1] [] 96 [.int x35.1] (by decide +kernel) ap_184 ⟨⟨Nat.le_of_ble_eq_true rfl, by decide⟩, rfl, rfl⟩ (dq_ok8 [1, 1] [] (dc_r (dc_r dc_n)) dc_n (by decide +kernel)) (by decide +kernel) rfl q38 rfl ?_
    exact dq_retI (some .int) (by decide +kernel) rfl hh
  rcases dp hh with ⟨q39, hh⟩ | ⟨_, hh⟩
  · refine dq_eq 6 q39 ?_
    refine dq_S (.tableswitch 119 1 8 #[48, 63, 75, 81, 87, 93, 99, 113]) 48 [] 97 _ [] (by decide +kernel) rfl ?_
    refine dq_aln 0 98 (by decide +kernel) rfl G0 ?_
    refine dq_aln 1 99 (by decide +kernel) rfl G1 ?_
    obtain ⟨x40, q41, hh⟩ := db hh
    obtain ⟨a42, q43, q41⟩ := db q41
    rw [dq_xI q41] at q43
    refine dq_cvi hD 275 185 5 1 [13] o0 [va_rf o1] [] 102 [.int x40.1] (by decide +kernel) ap_185 ⟨⟨Nat.le_of_ble_eq_true rfl, by decide⟩, rfl, rfl⟩ (dq_ok8 [1, 1] [] (dc_r (dc_r dc_n)) dc_n (by decide +kernel)) (by decide +kernel) rfl q43 rfl ?_
    exact dq_retI (some .int) (by decide +kernel) rfl hh
  rcases dp hh with ⟨q44, hh⟩ | ⟨_, hh⟩
  · refine dq_eq 7 q44 ?_
    refine dq_S (.tableswitch 119 1 8 #[48, 63, 75, 81, 87, 93, 99, 113]) 48 [] 103 _ [] (by decide +kernel) rfl ?_
    refine dq_aln 0 104 (by decide +kernel) rfl G0 ?_
    refine dq_aln 1 105 (by decide +kernel) rfl G1 ?_
    obtain ⟨p45, q46, hh⟩ := db hh
    refine dq_gR 154 8 [12] 108 (by decide +kernel) rfl q46 ?_
    refine dq_aln 1 109 (by decide +kernel) rfl G1 ?_
    obtain ⟨p47, q48, hh⟩ := db hh
    refine dq_gR 160 9 [12] 112 (by decide +kernel) rfl q48 ?_
    refine dq_S (.iconst 1) 1 [] 113 _ [.int 1, va_rf p47, va_rf p45, va_rf o0] (by decide +kernel) rfl ?_
    obtain ⟨x49, q50, hh⟩ := db hh
    obtain ⟨a51, q52, q50⟩ := db q50
    rw [dq_xI q50] at q52
    refine dq_cvi hD 163 186 5 3 [13] o0 [va_rf p45, va_rf p47, .int 1] [] 116 [.int x49.1] (by decide +kernel) ap_186 ⟨⟨Nat.le_of_ble_eq_true rfl, by decide⟩, rfl, rfl⟩ (dq_ok8 [1, 1, 1, 1] [] (dc_r (dc_r (dc_r (dc_i dc_n)))) dc_n (by decide +kernel)) (by decide +kernel) rfl q52 rfl ?_
    exact dq_retI (some .int) (by decide +kernel) rfl hh
  rcases dp hh with ⟨q53, hh⟩ | ⟨_, hh⟩
  · refine dq_eq 8 q53 ?_
    refine dq_S (.tableswitch 119 1 8 #[48, 63, 75, 81, 87, 93, 99, 113]) 48 [] 117 _ [] (by decide +kernel) rfl ?_
    refine dq_aln 0 118 (by decide +kernel) rfl G0 ?_
    refine dq_aln 1 119 (by decide +kernel) rfl G1 ?_
    obtain ⟨x54, q55, hh⟩ := db hh
    obtain ⟨a56, q57, q55⟩ := db q55
    rw [dq_xI q55] at q57
    refine dq_cvi hD 278 198 5 1 [13] o0 [va_rf o1] [] 122 [.int x54.1] (by decide +kernel) ap_198 ⟨⟨Nat.le_of_ble_eq_true rfl, by decide⟩, rfl, rfl⟩ (dq_ok8 [1, 1] [] (dc_r (dc_r dc_n)) dc_n (by decide +kernel)) (by decide +kernel) rfl q57 rfl ?_
    exact dq_retI (some .int) (by decide +kernel) rfl hh
  cases hh
def f174 (L : Nat) (xs : Nat → Int32) (zf : Value) (D : dD) (w : Nat) (As : List Value) (h : rm_H) : Option dR := match As with
  | [v0, v1] => (rm_rf v0).bind fun o0 => (rm_rf v1).bind fun o1 => b174_0 L xs zf D w o0 o1 h
  | _ => none
theorem d174 {L : Nat} {xs : Nat → Int32} {zf : Value} {D : dD} {w k : Nat} (hD : dO L xs zf D k) (hz : zf.category = 1) (As : List Value) (h : rm_H) (r : dR) (hh : f174 L xs zf D w As h = some r) : dq L xs zf ah_M174 0 (lv_args 0 As) [] h (k + 1) r := by
  unfold f174 at hh
  split at hh
  · obtain ⟨o0, e0, hb0⟩ := db hh
    have e0 := rm_rf_v _ _ e0
    obtain ⟨o1, e1, hb1⟩ := db hb0
    have e1 := rm_rf_v _ _ e1
    subst e0 e1
    refine c174_0 hD hz _ _ _ _ _ ?_ ?_ hb1
    all_goals (simp only [la_r, la_i, la_j]; rfl)
  · cases hh
def b175_46 (L : Nat) (xs : Nat → Int32) (zf : Value) (D : dD) (w : Nat) (o0 : Option Nat) (i1 : Int32) (i2 : Int32) (h : rm_H) : Option dR :=
  (dgR L xs h 9 [4] o0).bind fun p1 =>
  (dgI L xs h 11 [4] o0).bind fun x3 =>
  (dsI h p1 x3 i1).bind fun h5 =>
  (dgR L xs h5 10 [4] o0).bind fun p7 =>
  (dgI L xs h5 11 [4] o0).bind fun x9 =>
  (dsI h5 p7 x9 i2).bind fun h11 =>
  (dgI L xs h11 11 [4] o0).bind fun x13 =>
  (dpF h11 11 [4] o0 (.int (x13 + 1))).bind fun h15 =>
  (dgI L xs h15 11 [4] o0).bind fun x17 =>
  drI (some .int) (x17 - 1) h15
theorem c175_46 {L : Nat} {xs : Nat → Int32} {zf : Value} {D : dD} {w k : Nat} (hD : dO L xs zf D k) (hz : zf.category = 1) : ∀ (o0 : Option Nat) (i1 : Int32) (i2 : Int32) (lv : rm_L) (h : rm_H) (r : dR), rm_get lv 0 = some (va_rf o0) → rm_get lv 1 = some (.int i1) → rm_get lv 2 = some (.int i2) → b175_46 L xs zf D w  o0 i1 i2 h = some r → dq L xs zf ah_M175 46 lv [] h (k + 1) r := by
  intro o0 i1 i2 lv h r G0 G1 G2 hh
  unfold b175_46 at hh
  refine dq_aln 0 47 (by decide +kernel) rfl G0 ?_
  obtain ⟨p1, q2, hh⟩ := db hh
  refine dq_gR 44 9 [4] 50 (by decide +kernel) rfl q2 ?_
  refine dq_aln 0 51 (by decide +kernel) rfl G0 ?_
  obtain ⟨x3, q4, hh⟩ := db hh
  refine dq_gI 51 11 [4] 54 (by decide +kernel) rfl q4 ?_
  refine dq_iln 1 55 (by decide +kernel) rfl G1 ?_
  obtain ⟨h5, q6, hh⟩ := db hh
  refine dq_sI 56 (by decide +kernel) rfl q6 ?_
  refine dq_aln 0 57 (by decide +kernel) rfl G0 ?_
  obtain ⟨p7, q8, hh⟩ := db hh
  refine dq_gR 48 10 [4] 60 (by decide +kernel) rfl q8 ?_
  refine dq_aln 0 61 (by decide +kernel) rfl G0 ?_
  obtain ⟨x9, q10, hh⟩ := db hh
  refine dq_gI 51 11 [4] 64 (by decide +kernel) rfl q10 ?_
  refine dq_iln 2 65 (by decide +kernel) rfl G2 ?_
  obtain ⟨h11, q12, hh⟩ := db hh
  refine dq_sI 66 (by decide +kernel) rfl q12 ?_
  refine dq_aln 0 67 (by decide +kernel) rfl G0 ?_
  refine dq_dup 68 (by decide +kernel) rfl ?_
  obtain ⟨x13, q14, hh⟩ := db hh
  refine dq_gI 51 11 [4] 71 (by decide +kernel) rfl q14 ?_
  refine dq_S (.iconst 1) 1 [] 72 _ [.int 1, .int x13, va_rf o0] (by decide +kernel) rfl ?_
  refine dq_S (.iadd) 1 [] 73 _ [.int (x13 + 1), va_rf o0] (by decide +kernel) rfl ?_
  obtain ⟨h15, q16, hh⟩ := db hh
  refine dq_put 51 11 [4] 76 (by decide +kernel) rfl q16 ?_
  refine dq_aln 0 77 (by decide +kernel) rfl G0 ?_
  obtain ⟨x17, q18, hh⟩ := db hh
  refine dq_gI 51 11 [4] 80 (by decide +kernel) rfl q18 ?_
  refine dq_S (.iconst 1) 1 [] 81 _ [.int 1, .int x17] (by decide +kernel) rfl ?_
  refine dq_S (.isub) 1 [] 82 _ [.int (x17 - 1)] (by decide +kernel) rfl ?_
  exact dq_retI (some .int) (by decide +kernel) rfl hh
def b175_0 (L : Nat) (xs : Nat → Int32) (zf : Value) (D : dD) (w : Nat) (o0 : Option Nat) (i1 : Int32) (i2 : Int32) (h : rm_H) : Option dR :=
  (dgI L xs h 11 [4] o0).bind fun x1 =>
  (dgR L xs h 9 [4] o0).bind fun p3 =>
  (daN L xs h p3).bind fun x5 =>
  if mx_f2 .lt x1 x5 = true then
    b175_46 L xs zf D w o0 i1 i2 h
  else
    (dgR L xs h 9 [4] o0).bind fun p8 =>
    (dgI L xs h 11 [4] o0).bind fun x10 =>
    ((D 176 [va_rf p8, .int (x10 * 2)] h).bind dxR).bind fun p12 =>
    (dpF p12.2 9 [4] o0 (va_rf p12.1)).bind fun h16 =>
    (dgR L xs h16 10 [4] o0).bind fun p18 =>
    (dgI L xs h16 11 [4] o0).bind fun x20 =>
    ((D 176 [va_rf p18, .int (x20 * 2)] h16).bind dxR).bind fun p22 =>
    (dpF p22.2 10 [4] o0 (va_rf p22.1)).bind fun h26 =>
    b175_46 L xs zf D w o0 i1 i2 h26
theorem c175_0 {L : Nat} {xs : Nat → Int32} {zf : Value} {D : dD} {w k : Nat} (hD : dO L xs zf D k) (hz : zf.category = 1) : ∀ (o0 : Option Nat) (i1 : Int32) (i2 : Int32) (lv : rm_L) (h : rm_H) (r : dR), rm_get lv 0 = some (va_rf o0) → rm_get lv 1 = some (.int i1) → rm_get lv 2 = some (.int i2) → b175_0 L xs zf D w  o0 i1 i2 h = some r → dq L xs zf ah_M175 0 lv [] h (k + 1) r := by
  intro o0 i1 i2 lv h r G0 G1 G2 hh
  unfold b175_0 at hh
  refine dq_aln 0 1 (by decide +kernel) rfl G0 ?_
  obtain ⟨x1, q2, hh⟩ := db hh
  refine dq_gI 51 11 [4] 4 (by decide +kernel) rfl q2 ?_
  refine dq_aln 0 5 (by decide +kernel) rfl G0 ?_
  obtain ⟨p3, q4, hh⟩ := db hh
  refine dq_gR 44 9 [4] 8 (by decide +kernel) rfl q4 ?_
  obtain ⟨x5, q6, hh⟩ := db hh
  refine dq_aN 9 (by decide +kernel) rfl q6 ?_
  rcases di hh with ⟨q7, hh⟩ | ⟨q7, hh⟩
  · refine dq_2 .lt 37 true 46 q7 (by decide +kernel) ?_
    exact c175_46 hD hz _ _ _ _ _ _ G0 G1 G2 hh
  · refine dq_2 .lt 37 false 12 q7 (by decide +kernel) ?_
    refine dq_aln 0 13 (by decide +kernel) rfl G0 ?_
    refine dq_aln 0 14 (by decide +kernel) rfl G0 ?_
    obtain ⟨p8, q9, hh⟩ := db hh
    refine dq_gR 44 9 [4] 17 (by decide +kernel) rfl q9 ?_
    refine dq_aln 0 18 (by decide +kernel) rfl G0 ?_
    obtain ⟨x10, q11, hh⟩ := db hh
    refine dq_gI 51 11 [4] 21 (by decide +kernel) rfl q11 ?_
    refine dq_S (.iconst 2) 1 [] 22 _ [.int 2, .int x10, va_rf p8, va_rf o0] (by decide +kernel) rfl ?_
    refine dq_S (.imul) 1 [] 23 _ [.int (x10 * 2), va_rf p8, va_rf o0] (by decide +kernel) rfl ?_
    obtain ⟨p12, q13, hh⟩ := db hh
    obtain ⟨a14, q15, q13⟩ := db q13
    rw [dq_xR q13] at q15
    refine dq_cst hD 182 176 0 2 [va_rf p8, .int (x10 * 2)] [va_rf o0] 26 [va_rf p12.1, va_rf o0] (by decide +kernel) ap_176 ⟨⟨Nat.le_of_ble_eq_true rfl, by decide⟩, rfl, rfl⟩ (dq_ok8 [1, 1] [1] (dc_r (dc_i dc_n)) (dc_r dc_n) (by decide +kernel)) (by decide +kernel) rfl q15 rfl ?_
    obtain ⟨h16, q17, hh⟩ := db hh
    refine dq_put 44 9 [4] 29 (by decide +kernel) rfl q17 ?_
    refine dq_aln 0 30 (by decide +kernel) rfl G0 ?_
    refine dq_aln 0 31 (by decide +kernel) rfl G0 ?_
    obtain ⟨p18, q19, hh⟩ := db hh
    refine dq_gR 48 10 [4] 34 (by decide +kernel) rfl q19 ?_
    refine dq_aln 0 35 (by decide +kernel) rfl G0 ?_
    obtain ⟨x20, q21, hh⟩ := db hh
    refine dq_gI 51 11 [4] 38 (by decide +kernel) rfl q21 ?_
    refine dq_S (.iconst 2) 1 [] 39 _ [.int 2, .int x20, va_rf p18, va_rf o0] (by decide +kernel) rfl ?_
    refine dq_S (.imul) 1 [] 40 _ [.int (x20 * 2), va_rf p18, va_rf o0] (by decide +kernel) rfl ?_
    obtain ⟨p22, q23, hh⟩ := db hh
    obtain ⟨a24, q25, q23⟩ := db q23
    rw [dq_xR q23] at q25
    refine dq_cst hD 182 176 0 2 [va_rf p18, .int (x20 * 2)] [va_rf o0] 43 [va_rf p22.1, va_rf o0] (by decide +kernel) ap_176 ⟨⟨Nat.le_of_ble_eq_true rfl, by decide⟩, rfl, rfl⟩ (dq_ok8 [1, 1] [1] (dc_r (dc_i dc_n)) (dc_r dc_n) (by decide +kernel)) (by decide +kernel) rfl q25 rfl ?_
    obtain ⟨h26, q27, hh⟩ := db hh
    refine dq_put 48 10 [4] 46 (by decide +kernel) rfl q27 ?_
    exact c175_46 hD hz _ _ _ _ _ _ G0 G1 G2 hh
def f175 (L : Nat) (xs : Nat → Int32) (zf : Value) (D : dD) (w : Nat) (As : List Value) (h : rm_H) : Option dR := match As with
  | [v0, .int i1, .int i2] => (rm_rf v0).bind fun o0 => b175_0 L xs zf D w o0 i1 i2 h
  | _ => none
theorem d175 {L : Nat} {xs : Nat → Int32} {zf : Value} {D : dD} {w k : Nat} (hD : dO L xs zf D k) (hz : zf.category = 1) (As : List Value) (h : rm_H) (r : dR) (hh : f175 L xs zf D w As h = some r) : dq L xs zf ah_M175 0 (lv_args 0 As) [] h (k + 1) r := by
  unfold f175 at hh
  split at hh
  · obtain ⟨o0, e0, hb0⟩ := db hh
    have e0 := rm_rf_v _ _ e0
    subst e0
    refine c175_0 hD hz _ _ _ _ _ _ ?_ ?_ ?_ hb0
    all_goals (simp only [la_r, la_i, la_j]; rfl)
  · cases hh
def b176_0 (L : Nat) (xs : Nat → Int32) (zf : Value) (D : dD) (w : Nat) (o0 : Option Nat) (i1 : Int32) (h : rm_H) : Option dR :=
  (daN L xs h o0).bind fun x1 =>
  if mx_f2 .ne i1 x1 = true then
    (dnI 0 i1 h).bind fun h4 =>
    (daN L xs h4 o0).bind fun x9 =>
    ((D 21 [.int x9, .int i1] h4).bind dxI).bind fun x11 =>
    (dcpy x11.2 o0 0 (some (21 + List.length h)) 0 x11.1).bind fun h15 =>
    some (some (va_rf (some (21 + List.length h))), h15)
  else
    none
theorem c176_0 {L : Nat} {xs : Nat → Int32} {zf : Value} {D : dD} {w k : Nat} (hD : dO L xs zf D k) (hz : zf.category = 1) : ∀ (o0 : Option Nat) (i1 : Int32) (lv : rm_L) (h : rm_H) (r : dR), rm_get lv 0 = some (va_rf o0) → rm_get lv 1 = some (.int i1) → b176_0 L xs zf D w  o0 i1 h = some r → dq L xs zf ah_M176 0 lv [] h (k + 1) r := by
  intro o0 i1 lv h r G0 G1 hh
  unfold b176_0 at hh
  refine dq_iln 1 1 (by decide +kernel) rfl G1 ?_
  refine dq_aln 0 2 (by decide +kernel) rfl G0 ?_
  obtain ⟨x1, q2, hh⟩ := db hh
  refine dq_aN 3 (by decide +kernel) rfl q2 ?_
  rcases di hh with ⟨q3, hh⟩ | ⟨q3, hh⟩
  · refine dq_2 .ne 11 true 14 q3 (by decide +kernel) ?_
    refine dq_iln 1 15 (by decide +kernel) rfl G1 ?_
    obtain ⟨h4, q5, hh⟩ := db hh
    refine dq_nI .int 0 17 ⟨Or.inl rfl, rfl⟩ (by decide +kernel) rfl q5 ?_
    refine dq_asn 2 18 (by decide +kernel) (by decide +kernel) ?_
    have g6 := dg_ne (i := 2) (u := va_rf (some (21 + List.length h))) (by decide) (Or.inl (by decide)) G0
    have g7 := dg_ne (i := 2) (u := va_rf (some (21 + List.length h))) (by decide) (Or.inr rfl) G1
    have g8 := dg_eq (lv) 2 (va_rf (some (21 + List.length h)))
    refine dq_aln 0 19 (by decide +kernel) rfl g6 ?_
    refine dq_S (.iconst 0) 1 [] 20 _ [.int 0, va_rf o0] (by decide +kernel) rfl ?_
    refine dq_aln 2 21 (by decide +kernel) rfl g8 ?_
    refine dq_S (.iconst 0) 1 [] 22 _ [.int 0, va_rf (some (21 + List.length h)), .int 0, va_rf o0] (by decide +kernel) rfl ?_
    refine dq_aln 0 23 (by decide +kernel) rfl g6 ?_
    obtain ⟨x9, q10, hh⟩ := db hh
    refine dq_aN 24 (by decide +kernel) rfl q10 ?_
    refine dq_iln 1 25 (by decide +kernel) rfl g7 ?_
    obtain ⟨x11, q12, hh⟩ := db hh
    obtain ⟨a13, q14, q12⟩ := db q12
    rw [dq_xI q12] at q14
    refine dq_cst hD 304 21 0 2 [.int x9, .int i1] [.int 0, va_rf (some (21 + List.length h)), .int 0, va_rf o0] 28 [.int x11.1, .int 0, va_rf (some (21 + List.length h)), .int 0, va_rf o0] (by decide +kernel) ap_21 ⟨⟨Nat.le_of_ble_eq_true rfl, by decide⟩, rfl, rfl⟩ (dq_ok8 [1, 1] [1, 1, 1, 1] (dc_i (dc_i dc_n)) (dc_i (dc_r (dc_i (dc_r dc_n)))) (by decide +kernel)) (by decide +kernel) rfl q14 rfl ?_
    obtain ⟨h15, q16, hh⟩ := db hh
    refine dq_acp 150 31 (by decide +kernel) (dc_s dc_n (by decide +kernel)) rfl q16 ?_
    refine dq_aln 2 32 (by decide +kernel) rfl g8 ?_
    cases hh
    exact dq_retR (by decide +kernel) rfl
  · refine dq_2 .ne 11 false 6 q3 (by decide +kernel) ?_
    cases hh
def f176 (L : Nat) (xs : Nat → Int32) (zf : Value) (D : dD) (w : Nat) (As : List Value) (h : rm_H) : Option dR := match As with
  | [v0, .int i1] => (rm_rf v0).bind fun o0 => b176_0 L xs zf D w o0 i1 h
  | _ => none
theorem d176 {L : Nat} {xs : Nat → Int32} {zf : Value} {D : dD} {w k : Nat} (hD : dO L xs zf D k) (hz : zf.category = 1) (As : List Value) (h : rm_H) (r : dR) (hh : f176 L xs zf D w As h = some r) : dq L xs zf ah_M176 0 (lv_args 0 As) [] h (k + 1) r := by
  unfold f176 at hh
  split at hh
  · obtain ⟨o0, e0, hb0⟩ := db hh
    have e0 := rm_rf_v _ _ e0
    subst e0
    refine c176_0 hD hz _ _ _ _ _ ?_ ?_ hb0
    all_goals (simp only [la_r, la_i, la_j]; rfl)
  · cases hh
def b177_46 (L : Nat) (xs : Nat → Int32) (zf : Value) (D : dD) (w : Nat) (i2 : Int32) (s0 : Int32) (h : rm_H) : Option dR :=
  ((D 153 [.int s0, .int i2, .int 2] h).bind dxI).bind fun x1 =>
  drI (some .int) x1.1 x1.2
theorem c177_46 {L : Nat} {xs : Nat → Int32} {zf : Value} {D : dD} {w k : Nat} (hD : dO L xs zf D k) (hz : zf.category = 1) : ∀ (i2 : Int32) (s0 : Int32) (lv : rm_L) (h : rm_H) (r : dR), rm_get lv 2 = some (.int i2) → b177_46 L xs zf D w  i2 s0 h = some r → dq L xs zf ah_M177 46 lv [.int s0] h (k + 1) r := by
  intro i2 s0 lv h r G2 hh
  unfold b177_46 at hh
  refine dq_iln 2 47 (by decide +kernel) rfl G2 ?_
  refine dq_S (.iconst 2) 1 [] 48 _ [.int 2, .int i2, .int s0] (by decide +kernel) rfl ?_
  obtain ⟨x1, q2, hh⟩ := db hh
  obtain ⟨a3, q4, q2⟩ := db q2
  rw [dq_xI q2] at q4
  refine dq_cst hD 216 153 1 3 [.int s0, .int i2, .int 2] [] 51 [.int x1.1] (by decide +kernel) ap_153 ⟨⟨Nat.le_of_ble_eq_true rfl, by decide⟩, rfl, rfl⟩ (dq_ok8 [1, 1, 1] [] (dc_i (dc_i (dc_i dc_n))) dc_n (by decide +kernel)) (by decide +kernel) rfl q4 rfl ?_
  exact dq_retI (some .int) (by decide +kernel) rfl hh
def b177_80 (L : Nat) (xs : Nat → Int32) (zf : Value) (D : dD) (w : Nat) (o0 : Option Nat) (i2 : Int32) (h : rm_H) : Option dR :=
  (dgR L xs h 2 [13] o0).bind fun p1 =>
  (dgI L xs h 6 [11] p1).bind fun x3 =>
  ((D 153 [.int 5, .int i2, .int x3] h).bind dxI).bind fun x5 =>
  drI (some .int) x5.1 x5.2
theorem c177_80 {L : Nat} {xs : Nat → Int32} {zf : Value} {D : dD} {w k : Nat} (hD : dO L xs zf D k) (hz : zf.category = 1) : ∀ (o0 : Option Nat) (i2 : Int32) (lv : rm_L) (h : rm_H) (r : dR), rm_get lv 0 = some (va_rf o0) → rm_get lv 2 = some (.int i2) → b177_80 L xs zf D w  o0 i2 h = some r → dq L xs zf ah_M177 80 lv [] h (k + 1) r := by
  intro o0 i2 lv h r G0 G2 hh
  unfold b177_80 at hh
  refine dq_S (.iconst 5) 1 [] 81 _ [.int 5] (by decide +kernel) rfl ?_
  refine dq_iln 2 82 (by decide +kernel) rfl G2 ?_
  refine dq_aln 0 83 (by decide +kernel) rfl G0 ?_
  obtain ⟨p1, q2, hh⟩ := db hh
  refine dq_gR 21 2 [13] 86 (by decide +kernel) rfl q2 ?_
  obtain ⟨x3, q4, hh⟩ := db hh
  refine dq_gI 285 6 [11] 89 (by decide +kernel) rfl q4 ?_
  obtain ⟨x5, q6, hh⟩ := db hh
  obtain ⟨a7, q8, q6⟩ := db q6
  rw [dq_xI q6] at q8
  refine dq_cst hD 216 153 1 3 [.int 5, .int i2, .int x3] [] 92 [.int x5.1] (by decide +kernel) ap_153 ⟨⟨Nat.le_of_ble_eq_true rfl, by decide⟩, rfl, rfl⟩ (dq_ok8 [1, 1, 1] [] (dc_i (dc_i (dc_i dc_n))) dc_n (by decide +kernel)) (by decide +kernel) rfl q8 rfl ?_
  exact dq_retI (some .int) (by decide +kernel) rfl hh
def b177_0 (L : Nat) (xs : Nat → Int32) (zf : Value) (D : dD) (w : Nat) (o0 : Option Nat) (o1 : Option Nat) (h : rm_H) : Option dR :=
  (dgR L xs h 0 [13] o0).bind fun p1 =>
  ((dcV L xs D 175 [4] p1 [.int 1, .int 0] h).bind dxI).bind fun x3 =>
  (dgR L xs x3.2 2 [13] o0).bind fun p7 =>
  (dgR L xs x3.2 1 [11] p7).bind fun p9 =>
  (dgI L xs x3.2 3 [9] p9).bind fun x11 =>
  (dgR L xs x3.2 2 [13] o0).bind fun p16 =>
  (dgR L xs x3.2 1 [11] p16).bind fun p18 =>
  (dgI L xs x3.2 2 [9] p18).bind fun x20 =>
  if mx_f1 .eq x20 = true then
    (dgI L xs x3.2 6 [13] o0).bind fun x23 =>
    if mx_f1 .eq x23 = true then
      b177_80 L xs zf D w o0 x11 x3.2
    else
      (dgR L xs x3.2 2 [13] o0).bind fun p26 =>
      (dgI L xs x3.2 6 [11] p26).bind fun x28 =>
      if mx_f2 .eq x28 3 = true then
        b177_80 L xs zf D w o0 x11 x3.2
      else
        (dgI L xs x3.2 1 [12] o1).bind fun x31 =>
        ((dcV L xs D 178 [13] o0 [.int 6, .int x31] x3.2).bind dxV).bind fun h33 =>
        b177_80 L xs zf D w o0 x11 h33
  else
    (dgI L xs x3.2 6 [13] o0).bind fun x37 =>
    if mx_f1 .eq x37 = true then
      b177_46 L xs zf D w x11 4 x3.2
    else
      b177_46 L xs zf D w x11 3 x3.2
theorem c177_0 {L : Nat} {xs : Nat → Int32} {zf : Value} {D : dD} {w k : Nat} (hD : dO L xs zf D k) (hz : zf.category = 1) : ∀ (o0 : Option Nat) (o1 : Option Nat) (lv : rm_L) (h : rm_H) (r : dR), rm_get lv 0 = some (va_rf o0) → rm_get lv 1 = some (va_rf o1) → b177_0 L xs zf D w  o0 o1 h = some r → dq L xs zf ah_M177 0 lv [] h (k + 1) r := by
  intro o0 o1 lv h r G0 G1 hh
  unfold b177_0 at hh
  refine dq_aln 0 1 (by decide +kernel) rfl G0 ?_
  obtain ⟨p1, q2, hh⟩ := db hh
  refine dq_gR 9 0 [13] 4 (by decide +kernel) rfl q2 ?_
  refine dq_S (.iconst 1) 1 [] 5 _ [.int 1, va_rf p1] (by decide +kernel) rfl ?_
  refine dq_S (.iconst 0) 1 [] 6 _ [.int 0, .int 1, va_rf p1] (by decide +kernel) rfl ?_
  obtain ⟨x3, q4, hh⟩ := db hh
  obtain ⟨a5, q6, q4⟩ := db q4
  rw [dq_xI q4] at q6
  refine dq_cvi hD 104 175 5 2 [4] p1 [.int 1, .int 0] [] 9 [.int x3.1] (by decide +kernel) ap_175 ⟨⟨Nat.le_of_ble_eq_true rfl, by decide⟩, rfl, rfl⟩ (dq_ok8 [1, 1, 1] [] (dc_r (dc_i (dc_i dc_n))) dc_n (by decide +kernel)) (by decide +kernel) rfl q6 rfl ?_
  refine dq_S (.pop) 1 [] 10 _ [] (by decide +kernel) rfl ?_
  refine dq_aln 0 11 (by decide +kernel) rfl G0 ?_
  obtain ⟨p7, q8, hh⟩ := db hh
  refine dq_gR 21 2 [13] 14 (by decide +kernel) rfl q8 ?_
  obtain ⟨p9, q10, hh⟩ := db hh
  refine dq_gR 93 1 [11] 17 (by decide +kernel) rfl q10 ?_
  obtain ⟨x11, q12, hh⟩ := db hh
  refine dq_gI 284 3 [9] 20 (by decide +kernel) rfl q12 ?_
  refine dq_isn 2 21 (by decide +kernel) (by decide +kernel) ?_
  have g13 := dg_ne (i := 2) (u := .int x11) (by decide) (Or.inl (by decide)) G0
  have g14 := dg_ne (i := 2) (u := .int x11) (by decide) (Or.inr (drc _)) G1
  have g15 := dg_eq (lv) 2 (.int x11)
  refine dq_aln 0 22 (by decide +kernel) rfl g13 ?_
  obtain ⟨p16, q17, hh⟩ := db hh
  refine dq_gR 21 2 [13] 25 (by decide +kernel) rfl q17 ?_
  obtain ⟨p18, q19, hh⟩ := db hh
  refine dq_gR 93 1 [11] 28 (by decide +kernel) rfl q19 ?_
  obtain ⟨x20, q21, hh⟩ := db hh
  refine dq_gI 97 2 [9] 31 (by decide +kernel) rfl q21 ?_
  rcases di hh with ⟨q22, hh⟩ | ⟨q22, hh⟩
  · refine dq_1 .eq 21 true 52 q22 (by decide +kernel) ?_
    refine dq_aln 0 53 (by decide +kernel) rfl g13 ?_
    obtain ⟨x23, q24, hh⟩ := db hh
    refine dq_gI 35 6 [13] 56 (by decide +kernel) rfl q24 ?_
    rcases di hh with ⟨q25, hh⟩ | ⟨q25, hh⟩
    · refine dq_1 .eq 24 true 80 q25 (by decide +kernel) ?_
      exact c177_80 hD hz _ _ _ _ _ g13 g15 hh
    · refine dq_1 .eq 24 false 59 q25 (by decide +kernel) ?_
      refine dq_aln 0 60 (by decide +kernel) rfl g13 ?_
      obtain ⟨p26, q27, hh⟩ := db hh
      refine dq_gR 21 2 [13] 63 (by decide +kernel) rfl q27 ?_
      obtain ⟨x28, q29, hh⟩ := db hh
      refine dq_gI 285 6 [11] 66 (by decide +kernel) rfl q29 ?_
      refine dq_S (.iconst 3) 1 [] 67 _ [.int 3, .int x28] (by decide +kernel) rfl ?_
      rcases di hh with ⟨q30, hh⟩ | ⟨q30, hh⟩
      · refine dq_2 .eq 13 true 80 q30 (by decide +kernel) ?_
        exact c177_80 hD hz _ _ _ _ _ g13 g15 hh
      · refine dq_2 .eq 13 false 70 q30 (by decide +kernel) ?_
        refine dq_aln 0 71 (by decide +kernel) rfl g13 ?_
        refine dq_S (.bipush 6) 2 [] 73 _ [.int 6, va_rf o0] (by decide +kernel) rfl ?_
        refine dq_aln 1 74 (by decide +kernel) rfl g14 ?_
        obtain ⟨x31, q32, hh⟩ := db hh
        refine dq_gI 174 1 [12] 77 (by decide +kernel) rfl q32 ?_
        obtain ⟨h33, q34, hh⟩ := db hh
        obtain ⟨a35, q36, q34⟩ := db q34
        rw [dq_xV q34] at q36
        refine dq_cvi hD 140 178 5 2 [13] o0 [.int 6, .int x31] [] 80 [] (by decide +kernel) ap_178 ⟨⟨Nat.le_of_ble_eq_true rfl, by decide⟩, rfl, rfl⟩ (dq_ok8 [1, 1, 1] [] (dc_r (dc_i (dc_i dc_n))) dc_n (by decide +kernel)) (by decide +kernel) rfl q36 rfl ?_
        exact c177_80 hD hz _ _ _ _ _ g13 g15 hh
  · refine dq_1 .eq 21 false 34 q22 (by decide +kernel) ?_
    refine dq_aln 0 35 (by decide +kernel) rfl g13 ?_
    obtain ⟨x37, q38, hh⟩ := db hh
    refine dq_gI 35 6 [13] 38 (by decide +kernel) rfl q38 ?_
    rcases di hh with ⟨q39, hh⟩ | ⟨q39, hh⟩
    · refine dq_1 .eq 7 true 45 q39 (by decide +kernel) ?_
      refine dq_S (.iconst 4) 1 [] 46 _ [.int 4] (by decide +kernel) rfl ?_
      exact c177_46 hD hz _ _ _ _ _ g15 hh
    · refine dq_1 .eq 7 false 41 q39 (by decide +kernel) ?_
      refine dq_S (.iconst 3) 1 [] 42 _ [.int 3] (by decide +kernel) rfl ?_
      refine dq_S (.goto 4) 3 [] 46 _ [.int 3] (by decide +kernel) rfl ?_
      exact c177_46 hD hz _ _ _ _ _ g15 hh
def f177 (L : Nat) (xs : Nat → Int32) (zf : Value) (D : dD) (w : Nat) (As : List Value) (h : rm_H) : Option dR := match As with
  | [v0, v1] => (rm_rf v0).bind fun o0 => (rm_rf v1).bind fun o1 => b177_0 L xs zf D w o0 o1 h
  | _ => none
theorem d177 {L : Nat} {xs : Nat → Int32} {zf : Value} {D : dD} {w k : Nat} (hD : dO L xs zf D k) (hz : zf.category = 1) (As : List Value) (h : rm_H) (r : dR) (hh : f177 L xs zf D w As h = some r) : dq L xs zf ah_M177 0 (lv_args 0 As) [] h (k + 1) r := by
  unfold f177 at hh
  split at hh
  · obtain ⟨o0, e0, hb0⟩ := db hh
    have e0 := rm_rf_v _ _ e0
    obtain ⟨o1, e1, hb1⟩ := db hb0
    have e1 := rm_rf_v _ _ e1
    subst e0 e1
    refine c177_0 hD hz _ _ _ _ _ ?_ ?_ hb1
    all_goals (simp only [la_r, la_i, la_j]; rfl)
  · cases hh
def b178_26 (L : Nat) (xs : Nat → Int32) (zf : Value) (D : dD) (w : Nat) (h : rm_H) : Option dR :=
  some (none, h)
theorem c178_26 {L : Nat} {xs : Nat → Int32} {zf : Value} {D : dD} {w k : Nat} (hD : dO L xs zf D k) (hz : zf.category = 1) : ∀ (lv : rm_L) (h : rm_H) (r : dR), b178_26 L xs zf D w  h = some r → dq L xs zf ah_M178 26 lv [] h (k + 1) r := by
  intro lv h r hh
  unfold b178_26 at hh
  cases hh
  exact dq_ret0 (by decide +kernel) rfl
def b178_0 (L : Nat) (xs : Nat → Int32) (zf : Value) (D : dD) (w : Nat) (o0 : Option Nat) (i1 : Int32) (i2 : Int32) (h : rm_H) : Option dR :=
  (dgR L xs h 0 [13] o0).bind fun p1 =>
  (dgI L xs h 7 [4] p1).bind fun x3 =>
  if mx_f1 .ne x3 = true then
    b178_26 L xs zf D w h
  else
    (dgR L xs h 0 [13] o0).bind fun p6 =>
    (dpF h 7 [4] p6 (.int i1)).bind fun h8 =>
    (dgR L xs h8 0 [13] o0).bind fun p10 =>
    (dpF h8 8 [4] p10 (.int i2)).bind fun h12 =>
    b178_26 L xs zf D w h12
theorem c178_0 {L : Nat} {xs : Nat → Int32} {zf : Value} {D : dD} {w k : Nat} (hD : dO L xs zf D k) (hz : zf.category = 1) : ∀ (o0 : Option Nat) (i1 : Int32) (i2 : Int32) (lv : rm_L) (h : rm_H) (r : dR), rm_get lv 0 = some (va_rf o0) → rm_get lv 1 = some (.int i1) → rm_get lv 2 = some (.int i2) → b178_0 L xs zf D w  o0 i1 i2 h = some r → dq L xs zf ah_M178 0 lv [] h (k + 1) r := by
  intro o0 i1 i2 lv h r G0 G1 G2 hh
  unfold b178_0 at hh
  refine dq_aln 0 1 (by decide +kernel) rfl G0 ?_
  obtain ⟨p1, q2, hh⟩ := db hh
  refine dq_gR 9 0 [13] 4 (by decide +kernel) rfl q2 ?_
  obtain ⟨x3, q4, hh⟩ := db hh
  refine dq_gI 51 7 [4] 7 (by decide +kernel) rfl q4 ?_
  rcases di hh with ⟨q5, hh⟩ | ⟨q5, hh⟩
  · refine dq_1 .ne 19 true 26 q5 (by decide +kernel) ?_
    exact c178_26 hD hz  _ _ _  hh
  · refine dq_1 .ne 19 false 10 q5 (by decide +kernel) ?_
    refine dq_aln 0 11 (by decide +kernel) rfl G0 ?_
    obtain ⟨p6, q7, hh⟩ := db hh
    refine dq_gR 9 0 [13] 14 (by decide +kernel) rfl q7 ?_
    refine dq_iln 1 15 (by decide +kernel) rfl G1 ?_
    obtain ⟨h8, q9, hh⟩ := db hh
    refine dq_put 51 7 [4] 18 (by decide +kernel) rfl q9 ?_
    refine dq_aln 0 19 (by decide +kernel) rfl G0 ?_
    obtain ⟨p10, q11, hh⟩ := db hh
    refine dq_gR 9 0 [13] 22 (by decide +kernel) rfl q11 ?_
    refine dq_iln 2 23 (by decide +kernel) rfl G2 ?_
    obtain ⟨h12, q13, hh⟩ := db hh
    refine dq_put 108 8 [4] 26 (by decide +kernel) rfl q13 ?_
    exact c178_26 hD hz  _ _ _  hh
def f178 (L : Nat) (xs : Nat → Int32) (zf : Value) (D : dD) (w : Nat) (As : List Value) (h : rm_H) : Option dR := match As with
  | [v0, .int i1, .int i2] => (rm_rf v0).bind fun o0 => b178_0 L xs zf D w o0 i1 i2 h
  | _ => none
theorem d178 {L : Nat} {xs : Nat → Int32} {zf : Value} {D : dD} {w k : Nat} (hD : dO L xs zf D k) (hz : zf.category = 1) (As : List Value) (h : rm_H) (r : dR) (hh : f178 L xs zf D w As h = some r) : dq L xs zf ah_M178 0 (lv_args 0 As) [] h (k + 1) r := by
  unfold f178 at hh
  split at hh
  · obtain ⟨o0, e0, hb0⟩ := db hh
    have e0 := rm_rf_v _ _ e0
    subst e0
    refine c178_0 hD hz _ _ _ _ _ _ ?_ ?_ ?_ hb0
    all_goals (simp only [la_r, la_i, la_j]; rfl)
  · cases hh
def b179_49 (L : Nat) (xs : Nat → Int32) (zf : Value) (D : dD) (w : Nat) (o0 : Option Nat) (o3 : Option Nat) (h : rm_H) : Option dR :=
  (dgR L xs h 0 [13] o0).bind fun p1 =>
  (dgI L xs h 8 [10] o3).bind fun x3 =>
  ((dcV L xs D 175 [4] p1 [.int 2, .int x3] h).bind dxI).bind fun x5 =>
  (dgI L xs x5.2 7 [10] o3).bind fun x9 =>
  drI (some .int) x9 x5.2
theorem c179_49 {L : Nat} {xs : Nat → Int32} {zf : Value} {D : dD} {w k : Nat} (hD : dO L xs zf D k) (hz : zf.category = 1) : ∀ (o0 : Option Nat) (o3 : Option Nat) (lv : rm_L) (h : rm_H) (r : dR), rm_get lv 0 = some (va_rf o0) → rm_get lv 3 = some (va_rf o3) → b179_49 L xs zf D w  o0 o3 h = some r → dq L xs zf ah_M179 49 lv [] h (k + 1) r := by
  intro o0 o3 lv h r G0 G3 hh
  unfold b179_49 at hh
  refine dq_aln 0 50 (by decide +kernel) rfl G0 ?_
  obtain ⟨p1, q2, hh⟩ := db hh
  refine dq_gR 9 0 [13] 53 (by decide +kernel) rfl q2 ?_
  refine dq_S (.iconst 2) 1 [] 54 _ [.int 2, va_rf p1] (by decide +kernel) rfl ?_
  refine dq_aln 3 55 (by decide +kernel) rfl G3 ?_
  obtain ⟨x3, q4, hh⟩ := db hh
  refine dq_gI 121 8 [10] 58 (by decide +kernel) rfl q4 ?_
  obtain ⟨x5, q6, hh⟩ := db hh
  obtain ⟨a7, q8, q6⟩ := db q6
  rw [dq_xI q6] at q8
  refine dq_cvi hD 104 175 5 2 [4] p1 [.int 2, .int x3] [] 61 [.int x5.1] (by decide +kernel) ap_175 ⟨⟨Nat.le_of_ble_eq_true rfl, by decide⟩, rfl, rfl⟩ (dq_ok8 [1, 1, 1] [] (dc_r (dc_i (dc_i dc_n))) dc_n (by decide +kernel)) (by decide +kernel) rfl q8 rfl ?_
  refine dq_S (.pop) 1 [] 62 _ [] (by decide +kernel) rfl ?_
  refine dq_aln 3 63 (by decide +kernel) rfl G3 ?_
  obtain ⟨x9, q10, hh⟩ := db hh
  refine dq_gI 180 7 [10] 66 (by decide +kernel) rfl q10 ?_
  exact dq_retI (some .int) (by decide +kernel) rfl hh
def b179_0 (L : Nat) (xs : Nat → Int32) (zf : Value) (D : dD) (w : Nat) (o0 : Option Nat) (o1 : Option Nat) (h : rm_H) : Option dR :=
  ((dcV L xs D 180 [13] o0 [va_rf o1] h).bind dxI).bind fun x1 =>
  if mx_f2 .ne x1.1 (-1) = true then
    (dgR L xs x1.2 1 [13] o0).bind fun p9 =>
    (daR L xs x1.2 p9 x1.1).bind fun p11 =>
    (dgI L xs x1.2 5 [13] o0).bind fun x17 =>
    if mx_f2 .ge x1.1 x17 = true then
      b179_49 L xs zf D w o0 p11 x1.2
    else
      (dgI L xs x1.2 7 [10] p11).bind fun x20 =>
      ((dcV L xs D 183 [13] o0 [.int x20] x1.2).bind dxI).bind fun x22 =>
      if mx_f1 .ne x22.1 = true then
        b179_49 L xs zf D w o0 p11 x22.2
      else
        (dgI L xs x22.2 3 [12] o1).bind fun x27 =>
        ((dcV L xs D 178 [13] o0 [.int 6, .int x27] x22.2).bind dxV).bind fun h29 =>
        b179_49 L xs zf D w o0 p11 h29
  else
    drI (some .int) 2 x1.2
theorem c179_0 {L : Nat} {xs : Nat → Int32} {zf : Value} {D : dD} {w k : Nat} (hD : dO L xs zf D k) (hz : zf.category = 1) : ∀ (o0 : Option Nat) (o1 : Option Nat) (lv : rm_L) (h : rm_H) (r : dR), rm_get lv 0 = some (va_rf o0) → rm_get lv 1 = some (va_rf o1) → b179_0 L xs zf D w  o0 o1 h = some r → dq L xs zf ah_M179 0 lv [] h (k + 1) r := by
  intro o0 o1 lv h r G0 G1 hh
  unfold b179_0 at hh
  refine dq_aln 0 1 (by decide +kernel) rfl G0 ?_
  refine dq_aln 1 2 (by decide +kernel) rfl G1 ?_
  obtain ⟨x1, q2, hh⟩ := db hh
  obtain ⟨a3, q4, q2⟩ := db q2
  rw [dq_xI q2] at q4
  refine dq_cvi hD 288 180 5 1 [13] o0 [va_rf o1] [] 5 [.int x1.1] (by decide +kernel) ap_180 ⟨⟨Nat.le_of_ble_eq_true rfl, by decide⟩, rfl, rfl⟩ (dq_ok8 [1, 1] [] (dc_r (dc_r dc_n)) dc_n (by decide +kernel)) (by decide +kernel) rfl q4 rfl ?_
  refine dq_isn 2 6 (by decide +kernel) (by decide +kernel) ?_
  have g5 := dg_ne (i := 2) (u := .int x1.1) (by decide) (Or.inl (by decide)) G0
  have g6 := dg_ne (i := 2) (u := .int x1.1) (by decide) (Or.inr (drc _)) G1
  have g7 := dg_eq (lv) 2 (.int x1.1)
  refine dq_iln 2 7 (by decide +kernel) rfl g7 ?_
  refine dq_S (.iconst (-1)) 1 [] 8 _ [.int (-1), .int x1.1] (by decide +kernel) rfl ?_
  rcases di hh with ⟨q8, hh⟩ | ⟨q8, hh⟩
  · refine dq_2 .ne 5 true 13 q8 (by decide +kernel) ?_
    refine dq_aln 0 14 (by decide +kernel) rfl g5 ?_
    obtain ⟨p9, q10, hh⟩ := db hh
    refine dq_gR 17 1 [13] 17 (by decide +kernel) rfl q10 ?_
    refine dq_iln 2 18 (by decide +kernel) rfl g7 ?_
    obtain ⟨p11, q12, hh⟩ := db hh
    refine dq_aR 19 (by decide +kernel) rfl q12 ?_
    refine dq_asn 3 20 (by decide +kernel) (by decide +kernel) ?_
    have g13 := dg_ne (i := 3) (u := va_rf p11) (by decide) (Or.inl (by decide)) g5
    have g14 := dg_ne (i := 3) (u := va_rf p11) (by decide) (Or.inl (by decide)) g6
    have g15 := dg_ne (i := 3) (u := va_rf p11) (by decide) (Or.inr rfl) g7
    have g16 := dg_eq (rm_set1 (lv) 2 (.int x1.1)) 3 (va_rf p11)
    refine dq_iln 2 21 (by decide +kernel) rfl g15 ?_
    refine dq_aln 0 22 (by decide +kernel) rfl g13 ?_
    obtain ⟨x17, q18, hh⟩ := db hh
    refine dq_gI 32 5 [13] 25 (by decide +kernel) rfl q18 ?_
    rcases di hh with ⟨q19, hh⟩ | ⟨q19, hh⟩
    · refine dq_2 .ge 24 true 49 q19 (by decide +kernel) ?_
      exact c179_49 hD hz _ _ _ _ _ g13 g16 hh
    · refine dq_2 .ge 24 false 28 q19 (by decide +kernel) ?_
      refine dq_aln 0 29 (by decide +kernel) rfl g13 ?_
      refine dq_aln 3 30 (by decide +kernel) rfl g16 ?_
      obtain ⟨x20, q21, hh⟩ := db hh
      refine dq_gI 180 7 [10] 33 (by decide +kernel) rfl q21 ?_
      obtain ⟨x22, q23, hh⟩ := db hh
      obtain ⟨a24, q25, q23⟩ := db q23
      rw [dq_xI q23] at q25
      refine dq_cvi hD 291 183 5 1 [13] o0 [.int x20] [] 36 [.int x22.1] (by decide +kernel) ap_183 ⟨⟨Nat.le_of_ble_eq_true rfl, by decide⟩, rfl, rfl⟩ (dq_ok8 [1, 1] [] (dc_r (dc_i dc_n)) dc_n (by decide +kernel)) (by decide +kernel) rfl q25 rfl ?_
      rcases di hh with ⟨q26, hh⟩ | ⟨q26, hh⟩
      · refine dq_1 .ne 13 true 49 q26 (by decide +kernel) ?_
        exact c179_49 hD hz _ _ _ _ _ g13 g16 hh
      · refine dq_1 .ne 13 false 39 q26 (by decide +kernel) ?_
        refine dq_aln 0 40 (by decide +kernel) rfl g13 ?_
        refine dq_S (.bipush 6) 2 [] 42 _ [.int 6, va_rf o0] (by decide +kernel) rfl ?_
        refine dq_aln 1 43 (by decide +kernel) rfl g14 ?_
        obtain ⟨x27, q28, hh⟩ := db hh
        refine dq_gI 137 3 [12] 46 (by decide +kernel) rfl q28 ?_
        obtain ⟨h29, q30, hh⟩ := db hh
        obtain ⟨a31, q32, q30⟩ := db q30
        rw [dq_xV q30] at q32
        refine dq_cvi hD 140 178 5 2 [13] o0 [.int 6, .int x27] [] 49 [] (by decide +kernel) ap_178 ⟨⟨Nat.le_of_ble_eq_true rfl, by decide⟩, rfl, rfl⟩ (dq_ok8 [1, 1, 1] [] (dc_r (dc_i (dc_i dc_n))) dc_n (by decide +kernel)) (by decide +kernel) rfl q32 rfl ?_
        exact c179_49 hD hz _ _ _ _ _ g13 g16 hh
  · refine dq_2 .ne 5 false 11 q8 (by decide +kernel) ?_
    refine dq_S (.iconst 2) 1 [] 12 _ [.int 2] (by decide +kernel) rfl ?_
    exact dq_retI (some .int) (by decide +kernel) rfl hh
def f179 (L : Nat) (xs : Nat → Int32) (zf : Value) (D : dD) (w : Nat) (As : List Value) (h : rm_H) : Option dR := match As with
  | [v0, v1] => (rm_rf v0).bind fun o0 => (rm_rf v1).bind fun o1 => b179_0 L xs zf D w o0 o1 h
  | _ => none
theorem d179 {L : Nat} {xs : Nat → Int32} {zf : Value} {D : dD} {w k : Nat} (hD : dO L xs zf D k) (hz : zf.category = 1) (As : List Value) (h : rm_H) (r : dR) (hh : f179 L xs zf D w As h = some r) : dq L xs zf ah_M179 0 (lv_args 0 As) [] h (k + 1) r := by
  unfold f179 at hh
  split at hh
  · obtain ⟨o0, e0, hb0⟩ := db hh
    have e0 := rm_rf_v _ _ e0
    obtain ⟨o1, e1, hb1⟩ := db hb0
    have e1 := rm_rf_v _ _ e1
    subst e0 e1
    refine c179_0 hD hz _ _ _ _ _ ?_ ?_ hb1
    all_goals (simp only [la_r, la_i, la_j]; rfl)
  · cases hh
def b180_0 (L : Nat) (xs : Nat → Int32) (zf : Value) (D : dD) (w : Nat) (o0 : Option Nat) (o1 : Option Nat) (h : rm_H) : Option dR :=
  (dgR L xs h 2 [12] o1).bind fun p1 =>
  ((dcV L xs D 181 [13] o0 [va_rf p1] h).bind dxI).bind fun x3 =>
  if mx_f2 .ne x3.1 (-1) = true then
    (dgR L xs x3.2 1 [13] o0).bind fun p11 =>
    (daR L xs x3.2 p11 x3.1).bind fun p13 =>
    ((dcV L xs D 182 [13] o0 [va_rf p13] x3.2).bind dxI).bind fun x15 =>
    if mx_f1 .eq x15.1 = true then
      drI (some .int) x3.1 x15.2
    else
      (dgI L xs x15.2 3 [12] o1).bind fun x20 =>
      ((dcV L xs D 178 [13] o0 [.int 7, .int x20] x15.2).bind dxV).bind fun h22 =>
      drI (some .int) (-1) h22
  else
    (dgI L xs x3.2 3 [12] o1).bind fun x26 =>
    ((dcV L xs D 178 [13] o0 [.int 3, .int x26] x3.2).bind dxV).bind fun h28 =>
    drI (some .int) (-1) h28
theorem c180_0 {L : Nat} {xs : Nat → Int32} {zf : Value} {D : dD} {w k : Nat} (hD : dO L xs zf D k) (hz : zf.category = 1) : ∀ (o0 : Option Nat) (o1 : Option Nat) (lv : rm_L) (h : rm_H) (r : dR), rm_get lv 0 = some (va_rf o0) → rm_get lv 1 = some (va_rf o1) → b180_0 L xs zf D w  o0 o1 h = some r → dq L xs zf ah_M180 0 lv [] h (k + 1) r := by
  intro o0 o1 lv h r G0 G1 hh
  unfold b180_0 at hh
  refine dq_aln 0 1 (by decide +kernel) rfl G0 ?_
  refine dq_aln 1 2 (by decide +kernel) rfl G1 ?_
  obtain ⟨p1, q2, hh⟩ := db hh
  refine dq_gR 295 2 [12] 5 (by decide +kernel) rfl q2 ?_
  obtain ⟨x3, q4, hh⟩ := db hh
  obtain ⟨a5, q6, q4⟩ := db q4
  rw [dq_xI q4] at q6
  refine dq_cvi hD 190 181 5 1 [13] o0 [va_rf p1] [] 8 [.int x3.1] (by decide +kernel) ap_181 ⟨⟨Nat.le_of_ble_eq_true rfl, by decide⟩, rfl, rfl⟩ (dq_ok8 [1, 1] [] (dc_r (dc_r dc_n)) dc_n (by decide +kernel)) (by decide +kernel) rfl q6 rfl ?_
  refine dq_isn 2 9 (by decide +kernel) (by decide +kernel) ?_
  have g7 := dg_ne (i := 2) (u := .int x3.1) (by decide) (Or.inl (by decide)) G0
  have g8 := dg_ne (i := 2) (u := .int x3.1) (by decide) (Or.inr (drc _)) G1
  have g9 := dg_eq (lv) 2 (.int x3.1)
  refine dq_iln 2 10 (by decide +kernel) rfl g9 ?_
  refine dq_S (.iconst (-1)) 1 [] 11 _ [.int (-1), .int x3.1] (by decide +kernel) rfl ?_
  rcases di hh with ⟨q10, hh⟩ | ⟨q10, hh⟩
  · refine dq_2 .ne 14 true 25 q10 (by decide +kernel) ?_
    refine dq_aln 0 26 (by decide +kernel) rfl g7 ?_
    refine dq_aln 0 27 (by decide +kernel) rfl g7 ?_
    obtain ⟨p11, q12, hh⟩ := db hh
    refine dq_gR 17 1 [13] 30 (by decide +kernel) rfl q12 ?_
    refine dq_iln 2 31 (by decide +kernel) rfl g9 ?_
    obtain ⟨p13, q14, hh⟩ := db hh
    refine dq_aR 32 (by decide +kernel) rfl q14 ?_
    obtain ⟨x15, q16, hh⟩ := db hh
    obtain ⟨a17, q18, q16⟩ := db q16
    rw [dq_xI q16] at q18
    refine dq_cvi hD 296 182 5 1 [13] o0 [va_rf p13] [] 35 [.int x15.1] (by decide +kernel) ap_182 ⟨⟨Nat.le_of_ble_eq_true rfl, by decide⟩, rfl, rfl⟩ (dq_ok8 [1, 1] [] (dc_r (dc_r dc_n)) dc_n (by decide +kernel)) (by decide +kernel) rfl q18 rfl ?_
    rcases di hh with ⟨q19, hh⟩ | ⟨q19, hh⟩
    · refine dq_1 .eq 15 true 50 q19 (by decide +kernel) ?_
      refine dq_iln 2 51 (by decide +kernel) rfl g9 ?_
      exact dq_retI (some .int) (by decide +kernel) rfl hh
    · refine dq_1 .eq 15 false 38 q19 (by decide +kernel) ?_
      refine dq_aln 0 39 (by decide +kernel) rfl g7 ?_
      refine dq_S (.bipush 7) 2 [] 41 _ [.int 7, va_rf o0] (by decide +kernel) rfl ?_
      refine dq_aln 1 42 (by decide +kernel) rfl g8 ?_
      obtain ⟨x20, q21, hh⟩ := db hh
      refine dq_gI 137 3 [12] 45 (by decide +kernel) rfl q21 ?_
      obtain ⟨h22, q23, hh⟩ := db hh
      obtain ⟨a24, q25, q23⟩ := db q23
      rw [dq_xV q23] at q25
      refine dq_cvi hD 140 178 5 2 [13] o0 [.int 7, .int x20] [] 48 [] (by decide +kernel) ap_178 ⟨⟨Nat.le_of_ble_eq_true rfl, by decide⟩, rfl, rfl⟩ (dq_ok8 [1, 1, 1] [] (dc_r (dc_i (dc_i dc_n))) dc_n (by decide +kernel)) (by decide +kernel) rfl q25 rfl ?_
      refine dq_S (.iconst (-1)) 1 [] 49 _ [.int (-1)] (by decide +kernel) rfl ?_
      exact dq_retI (some .int) (by decide +kernel) rfl hh
  · refine dq_2 .ne 14 false 14 q10 (by decide +kernel) ?_
    refine dq_aln 0 15 (by decide +kernel) rfl g7 ?_
    refine dq_S (.iconst 3) 1 [] 16 _ [.int 3, va_rf o0] (by decide +kernel) rfl ?_
    refine dq_aln 1 17 (by decide +kernel) rfl g8 ?_
    obtain ⟨x26, q27, hh⟩ := db hh
    refine dq_gI 137 3 [12] 20 (by decide +kernel) rfl q27 ?_
    obtain ⟨h28, q29, hh⟩ := db hh
    obtain ⟨a30, q31, q29⟩ := db q29
    rw [dq_xV q29] at q31
    refine dq_cvi hD 140 178 5 2 [13] o0 [.int 3, .int x26] [] 23 [] (by decide +kernel) ap_178 ⟨⟨Nat.le_of_ble_eq_true rfl, by decide⟩, rfl, rfl⟩ (dq_ok8 [1, 1, 1] [] (dc_r (dc_i (dc_i dc_n))) dc_n (by decide +kernel)) (by decide +kernel) rfl q31 rfl ?_
    refine dq_S (.iconst (-1)) 1 [] 24 _ [.int (-1)] (by decide +kernel) rfl ?_
    exact dq_retI (some .int) (by decide +kernel) rfl hh
def f180 (L : Nat) (xs : Nat → Int32) (zf : Value) (D : dD) (w : Nat) (As : List Value) (h : rm_H) : Option dR := match As with
  | [v0, v1] => (rm_rf v0).bind fun o0 => (rm_rf v1).bind fun o1 => b180_0 L xs zf D w o0 o1 h
  | _ => none
theorem d180 {L : Nat} {xs : Nat → Int32} {zf : Value} {D : dD} {w k : Nat} (hD : dO L xs zf D k) (hz : zf.category = 1) (As : List Value) (h : rm_H) (r : dR) (hh : f180 L xs zf D w As h = some r) : dq L xs zf ah_M180 0 (lv_args 0 As) [] h (k + 1) r := by
  unfold f180 at hh
  split at hh
  · obtain ⟨o0, e0, hb0⟩ := db hh
    have e0 := rm_rf_v _ _ e0
    obtain ⟨o1, e1, hb1⟩ := db hb0
    have e1 := rm_rf_v _ _ e1
    subst e0 e1
    refine c180_0 hD hz _ _ _ _ _ ?_ ?_ hb1
    all_goals (simp only [la_r, la_i, la_j]; rfl)
  · cases hh
def b181_2 (L : Nat) (xs : Nat → Int32) (zf : Value) (D : dD) (w : Nat) : Nat → Option Nat → Option Nat → Int32 → rm_H → Option dR
  | 0, _, _, _, _ => none
  | n + 1, o0, o1, i2, h =>
    (dgI L xs h 3 [13] o0).bind fun x1 =>
    if mx_f2 .ge i2 x1 = true then
      drI (some .int) (-1) h
    else
      (dgR L xs h 1 [13] o0).bind fun p4 =>
      (daR L xs h p4 i2).bind fun p6 =>
      (dgR L xs h 0 [10] p6).bind fun p8 =>
      ((dcV L xs D 151 [7, 16] p8 [va_rf o1] h).bind dxI).bind fun x10 =>
      if mx_f1 .eq x10.1 = true then
        b181_2 L xs zf D w n o0 o1 (i2 + 1) x10.2
      else
        drI (some .int) i2 x10.2
theorem c181_2 {L : Nat} {xs : Nat → Int32} {zf : Value} {D : dD} {w k : Nat} (hD : dO L xs zf D k) (hz : zf.category = 1) : ∀ (n : Nat) (o0 : Option Nat) (o1 : Option Nat) (i2 : Int32) (lv : rm_L) (h : rm_H) (r : dR), rm_get lv 0 = some (va_rf o0) → rm_get lv 1 = some (va_rf o1) → rm_get lv 2 = some (.int i2) → b181_2 L xs zf D w n  o0 o1 i2 h = some r → dq L xs zf ah_M181 2 lv [] h (k + 1) r := by
  intro n
  induction n with
  | zero =>
    intro o0 o1 i2 lv h r G0 G1 G2 hh
    cases hh
  | succ n ih =>
    intro o0 o1 i2 lv h r G0 G1 G2 hh
    rw [b181_2] at hh
    refine dq_iln 2 3 (by decide +kernel) rfl G2 ?_
    refine dq_aln 0 4 (by decide +kernel) rfl G0 ?_
    obtain ⟨x1, q2, hh⟩ := db hh
    refine dq_gI 25 3 [13] 7 (by decide +kernel) rfl q2 ?_
    rcases di hh with ⟨q3, hh⟩ | ⟨q3, hh⟩
    · refine dq_2 .ge 27 true 34 q3 (by decide +kernel) ?_
      refine dq_S (.iconst (-1)) 1 [] 35 _ [.int (-1)] (by decide +kernel) rfl ?_
      exact dq_retI (some .int) (by decide +kernel) rfl hh
    · refine dq_2 .ge 27 false 10 q3 (by decide +kernel) ?_
      refine dq_aln 0 11 (by decide +kernel) rfl G0 ?_
      obtain ⟨p4, q5, hh⟩ := db hh
      refine dq_gR 17 1 [13] 14 (by decide +kernel) rfl q5 ?_
      refine dq_iln 2 15 (by decide +kernel) rfl G2 ?_
      obtain ⟨p6, q7, hh⟩ := db hh
      refine dq_aR 16 (by decide +kernel) rfl q7 ?_
      obtain ⟨p8, q9, hh⟩ := db hh
      refine dq_gR 111 0 [10] 19 (by decide +kernel) rfl q9 ?_
      refine dq_aln 1 20 (by decide +kernel) rfl G1 ?_
      obtain ⟨x10, q11, hh⟩ := db hh
      obtain ⟨a12, q13, q11⟩ := db q11
      rw [dq_xI q11] at q13
      refine dq_cvi hD 115 151 5 1 [7, 16] p8 [va_rf o1] [] 23 [.int x10.1] (by decide +kernel) ap_151 ⟨⟨Nat.le_of_ble_eq_true rfl, by decide⟩, rfl, rfl⟩ (dq_ok8 [1, 1] [] (dc_r (dc_r dc_n)) dc_n (by decide +kernel)) (by decide +kernel) rfl q13 rfl ?_
      rcases di hh with ⟨q14, hh⟩ | ⟨q14, hh⟩
      · refine dq_1 .eq 5 true 28 q14 (by decide +kernel) ?_
        refine dq_incy 2 1 1 31 (by decide +kernel) ⟨rfl, by decide +kernel, by decide +kernel⟩ G2 ?_
        have g15 := dg_ne (i := 2) (u := .int (i2 + 1)) (by decide) (Or.inl (by decide)) G0
        have g16 := dg_ne (i := 2) (u := .int (i2 + 1)) (by decide) (Or.inr (drc _)) G1
        have g17 := dg_eq (lv) 2 (.int (i2 + 1))
        refine dq_S (.goto (-29)) 3 [] 2 _ [] (by decide +kernel) rfl ?_
        exact ih _ _ _ _ _ _ g15 g16 g17 hh
      · refine dq_1 .eq 5 false 26 q14 (by decide +kernel) ?_
        refine dq_iln 2 27 (by decide +kernel) rfl G2 ?_
        exact dq_retI (some .int) (by decide +kernel) rfl hh
def b181_0 (L : Nat) (xs : Nat → Int32) (zf : Value) (D : dD) (w : Nat) (o0 : Option Nat) (o1 : Option Nat) (h : rm_H) : Option dR :=
  b181_2 L xs zf D w w o0 o1 0 h
theorem c181_0 {L : Nat} {xs : Nat → Int32} {zf : Value} {D : dD} {w k : Nat} (hD : dO L xs zf D k) (hz : zf.category = 1) : ∀ (o0 : Option Nat) (o1 : Option Nat) (lv : rm_L) (h : rm_H) (r : dR), rm_get lv 0 = some (va_rf o0) → rm_get lv 1 = some (va_rf o1) → b181_0 L xs zf D w  o0 o1 h = some r → dq L xs zf ah_M181 0 lv [] h (k + 1) r := by
  intro o0 o1 lv h r G0 G1 hh
  unfold b181_0 at hh
  refine dq_S (.iconst 0) 1 [] 1 _ [.int 0] (by decide +kernel) rfl ?_
  refine dq_isn 2 2 (by decide +kernel) (by decide +kernel) ?_
  have g1 := dg_ne (i := 2) (u := .int 0) (by decide) (Or.inl (by decide)) G0
  have g2 := dg_ne (i := 2) (u := .int 0) (by decide) (Or.inr (drc _)) G1
  have g3 := dg_eq (lv) 2 (.int 0)
  exact c181_2 hD hz _ _ _ _ _ _ _ g1 g2 g3 hh
def f181 (L : Nat) (xs : Nat → Int32) (zf : Value) (D : dD) (w : Nat) (As : List Value) (h : rm_H) : Option dR := match As with
  | [v0, v1] => (rm_rf v0).bind fun o0 => (rm_rf v1).bind fun o1 => b181_0 L xs zf D w o0 o1 h
  | _ => none
theorem d181 {L : Nat} {xs : Nat → Int32} {zf : Value} {D : dD} {w k : Nat} (hD : dO L xs zf D k) (hz : zf.category = 1) (As : List Value) (h : rm_H) (r : dR) (hh : f181 L xs zf D w As h = some r) : dq L xs zf ah_M181 0 (lv_args 0 As) [] h (k + 1) r := by
  unfold f181 at hh
  split at hh
  · obtain ⟨o0, e0, hb0⟩ := db hh
    have e0 := rm_rf_v _ _ e0
    obtain ⟨o1, e1, hb1⟩ := db hb0
    have e1 := rm_rf_v _ _ e1
    subst e0 e1
    refine c181_0 hD hz _ _ _ _ _ ?_ ?_ hb1
    all_goals (simp only [la_r, la_i, la_j]; rfl)
  · cases hh
def b182_19 (L : Nat) (xs : Nat → Int32) (zf : Value) (D : dD) (w : Nat) (s0 : Int32) (h : rm_H) : Option dR :=
  drI (some .boolean) s0 h
theorem c182_19 {L : Nat} {xs : Nat → Int32} {zf : Value} {D : dD} {w k : Nat} (hD : dO L xs zf D k) (hz : zf.category = 1) : ∀ (s0 : Int32) (lv : rm_L) (h : rm_H) (r : dR), b182_19 L xs zf D w  s0 h = some r → dq L xs zf ah_M182 19 lv [.int s0] h (k + 1) r := by
  intro s0 lv h r hh
  unfold b182_19 at hh
  exact dq_retI (some .boolean) (by decide +kernel) rfl hh
def b182_0 (L : Nat) (xs : Nat → Int32) (zf : Value) (D : dD) (w : Nat) (o0 : Option Nat) (o1 : Option Nat) (h : rm_H) : Option dR :=
  (dgI L xs h 4 [13] o0).bind fun x1 =>
  (dgI L xs h 8 [10] o1).bind fun x3 =>
  if mx_f1 .eq ((x1 >>> (x3 &&& 31)) &&& 1) = true then
    b182_19 L xs zf D w 0 h
  else
    b182_19 L xs zf D w 1 h
theorem c182_0 {L : Nat} {xs : Nat → Int32} {zf : Value} {D : dD} {w k : Nat} (hD : dO L xs zf D k) (hz : zf.category = 1) : ∀ (o0 : Option Nat) (o1 : Option Nat) (lv : rm_L) (h : rm_H) (r : dR), rm_get lv 0 = some (va_rf o0) → rm_get lv 1 = some (va_rf o1) → b182_0 L xs zf D w  o0 o1 h = some r → dq L xs zf ah_M182 0 lv [] h (k + 1) r := by
  intro o0 o1 lv h r G0 G1 hh
  unfold b182_0 at hh
  refine dq_aln 0 1 (by decide +kernel) rfl G0 ?_
  obtain ⟨x1, q2, hh⟩ := db hh
  refine dq_gI 29 4 [13] 4 (by decide +kernel) rfl q2 ?_
  refine dq_aln 1 5 (by decide +kernel) rfl G1 ?_
  obtain ⟨x3, q4, hh⟩ := db hh
  refine dq_gI 121 8 [10] 8 (by decide +kernel) rfl q4 ?_
  refine dq_S (.ishr) 1 [] 9 _ [.int (x1 >>> (x3 &&& 31))] (by decide +kernel) rfl ?_
  refine dq_S (.iconst 1) 1 [] 10 _ [.int 1, .int (x1 >>> (x3 &&& 31))] (by decide +kernel) rfl ?_
  refine dq_S (.iand) 1 [] 11 _ [.int ((x1 >>> (x3 &&& 31)) &&& 1)] (by decide +kernel) rfl ?_
  rcases di hh with ⟨q5, hh⟩ | ⟨q5, hh⟩
  · refine dq_1 .eq 7 true 18 q5 (by decide +kernel) ?_
    refine dq_S (.iconst 0) 1 [] 19 _ [.int 0] (by decide +kernel) rfl ?_
    exact c182_19 hD hz _ _ _ _  hh
  · refine dq_1 .eq 7 false 14 q5 (by decide +kernel) ?_
    refine dq_S (.iconst 1) 1 [] 15 _ [.int 1] (by decide +kernel) rfl ?_
    refine dq_S (.goto 4) 3 [] 19 _ [.int 1] (by decide +kernel) rfl ?_
    exact c182_19 hD hz _ _ _ _  hh
def f182 (L : Nat) (xs : Nat → Int32) (zf : Value) (D : dD) (w : Nat) (As : List Value) (h : rm_H) : Option dR := match As with
  | [v0, v1] => (rm_rf v0).bind fun o0 => (rm_rf v1).bind fun o1 => b182_0 L xs zf D w o0 o1 h
  | _ => none
theorem d182 {L : Nat} {xs : Nat → Int32} {zf : Value} {D : dD} {w k : Nat} (hD : dO L xs zf D k) (hz : zf.category = 1) (As : List Value) (h : rm_H) (r : dR) (hh : f182 L xs zf D w As h = some r) : dq L xs zf ah_M182 0 (lv_args 0 As) [] h (k + 1) r := by
  unfold f182 at hh
  split at hh
  · obtain ⟨o0, e0, hb0⟩ := db hh
    have e0 := rm_rf_v _ _ e0
    obtain ⟨o1, e1, hb1⟩ := db hb0
    have e1 := rm_rf_v _ _ e1
    subst e0 e1
    refine c182_0 hD hz _ _ _ _ _ ?_ ?_ hb1
    all_goals (simp only [la_r, la_i, la_j]; rfl)
  · cases hh
def b183_21 (L : Nat) (xs : Nat → Int32) (zf : Value) (D : dD) (w : Nat) (s0 : Int32) (h : rm_H) : Option dR :=
  drI (some .boolean) s0 h
theorem c183_21 {L : Nat} {xs : Nat → Int32} {zf : Value} {D : dD} {w k : Nat} (hD : dO L xs zf D k) (hz : zf.category = 1) : ∀ (s0 : Int32) (lv : rm_L) (h : rm_H) (r : dR), b183_21 L xs zf D w  s0 h = some r → dq L xs zf ah_M183 21 lv [.int s0] h (k + 1) r := by
  intro s0 lv h r hh
  unfold b183_21 at hh
  exact dq_retI (some .boolean) (by decide +kernel) rfl hh
def b183_16 (L : Nat) (xs : Nat → Int32) (zf : Value) (D : dD) (w : Nat) (h : rm_H) : Option dR :=
  b183_21 L xs zf D w 1 h
theorem c183_16 {L : Nat} {xs : Nat → Int32} {zf : Value} {D : dD} {w k : Nat} (hD : dO L xs zf D k) (hz : zf.category = 1) : ∀ (lv : rm_L) (h : rm_H) (r : dR), b183_16 L xs zf D w  h = some r → dq L xs zf ah_M183 16 lv [] h (k + 1) r := by
  intro lv h r hh
  unfold b183_16 at hh
  refine dq_S (.iconst 1) 1 [] 17 _ [.int 1] (by decide +kernel) rfl ?_
  refine dq_S (.goto 4) 3 [] 21 _ [.int 1] (by decide +kernel) rfl ?_
  exact c183_21 hD hz _ _ _ _  hh
def b183_0 (L : Nat) (xs : Nat → Int32) (zf : Value) (D : dD) (w : Nat) (i1 : Int32) (h : rm_H) : Option dR :=
  ((D 159 [.int i1] h).bind dxI).bind fun x1 =>
  if mx_f2 .ne x1.1 5 = true then
    b183_16 L xs zf D w x1.2
  else
    ((D 160 [.int i1] x1.2).bind dxI).bind fun x6 =>
    if mx_f2 .ne x6.1 3 = true then
      b183_21 L xs zf D w 0 x6.2
    else
      b183_16 L xs zf D w x6.2
theorem c183_0 {L : Nat} {xs : Nat → Int32} {zf : Value} {D : dD} {w k : Nat} (hD : dO L xs zf D k) (hz : zf.category = 1) : ∀ (i1 : Int32) (lv : rm_L) (h : rm_H) (r : dR), rm_get lv 1 = some (.int i1) → b183_0 L xs zf D w  i1 h = some r → dq L xs zf ah_M183 0 lv [] h (k + 1) r := by
  intro i1 lv h r G1 hh
  unfold b183_0 at hh
  refine dq_iln 1 1 (by decide +kernel) rfl G1 ?_
  obtain ⟨x1, q2, hh⟩ := db hh
  obtain ⟨a3, q4, q2⟩ := db q2
  rw [dq_xI q2] at q4
  refine dq_cst hD 209 159 1 1 [.int i1] [] 4 [.int x1.1] (by decide +kernel) ap_159 ⟨⟨Nat.le_of_ble_eq_true rfl, by decide⟩, rfl, rfl⟩ (dq_ok8 [1] [] (dc_i dc_n) dc_n (by decide +kernel)) (by decide +kernel) rfl q4 rfl ?_
  refine dq_S (.iconst 5) 1 [] 5 _ [.int 5, .int x1.1] (by decide +kernel) rfl ?_
  rcases di hh with ⟨q5, hh⟩ | ⟨q5, hh⟩
  · refine dq_2 .ne 11 true 16 q5 (by decide +kernel) ?_
    exact c183_16 hD hz  _ _ _  hh
  · refine dq_2 .ne 11 false 8 q5 (by decide +kernel) ?_
    refine dq_iln 1 9 (by decide +kernel) rfl G1 ?_
    obtain ⟨x6, q7, hh⟩ := db hh
    obtain ⟨a8, q9, q7⟩ := db q7
    rw [dq_xI q7] at q9
    refine dq_cst hD 224 160 1 1 [.int i1] [] 12 [.int x6.1] (by decide +kernel) ap_160 ⟨⟨Nat.le_of_ble_eq_true rfl, by decide⟩, rfl, rfl⟩ (dq_ok8 [1] [] (dc_i dc_n) dc_n (by decide +kernel)) (by decide +kernel) rfl q9 rfl ?_
    refine dq_S (.iconst 3) 1 [] 13 _ [.int 3, .int x6.1] (by decide +kernel) rfl ?_
    rcases di hh with ⟨q10, hh⟩ | ⟨q10, hh⟩
    · refine dq_2 .ne 7 true 20 q10 (by decide +kernel) ?_
      refine dq_S (.iconst 0) 1 [] 21 _ [.int 0] (by decide +kernel) rfl ?_
      exact c183_21 hD hz _ _ _ _  hh
    · refine dq_2 .ne 7 false 16 q10 (by decide +kernel) ?_
      exact c183_16 hD hz  _ _ _  hh
def f183 (L : Nat) (xs : Nat → Int32) (zf : Value) (D : dD) (w : Nat) (As : List Value) (h : rm_H) : Option dR := match As with
  | [v0, .int i1] => (rm_rf v0).bind fun u0 => b183_0 L xs zf D w i1 h
  | _ => none
theorem d183 {L : Nat} {xs : Nat → Int32} {zf : Value} {D : dD} {w k : Nat} (hD : dO L xs zf D k) (hz : zf.category = 1) (As : List Value) (h : rm_H) (r : dR) (hh : f183 L xs zf D w As h = some r) : dq L xs zf ah_M183 0 (lv_args 0 As) [] h (k + 1) r := by
  unfold f183 at hh
  split at hh
  · obtain ⟨u0, e0, hb0⟩ := db hh
    have e0 := rm_rf_v _ _ e0
    subst e0
    refine c183_0 hD hz _ _ _ _ ?_ hb0
    all_goals (simp only [la_r, la_i, la_j]; rfl)
  · cases hh
def b184_82 (L : Nat) (xs : Nat → Int32) (zf : Value) (D : dD) (w : Nat) (o0 : Option Nat) (o3 : Option Nat) (h : rm_H) : Option dR :=
  (dgI L xs h 4 [13] o0).bind fun x1 =>
  (dgI L xs h 8 [10] o3).bind fun x3 =>
  (dpF h 4 [13] o0 (.int (x1 ||| ((1 : Int32) <<< (x3 &&& 31))))).bind fun h5 =>
  (dgR L xs h5 0 [13] o0).bind fun p7 =>
  (dgI L xs h5 8 [10] o3).bind fun x9 =>
  ((dcV L xs D 175 [4] p7 [.int 2, .int x9] h5).bind dxI).bind fun x11 =>
  (dgI L xs x11.2 7 [10] o3).bind fun x15 =>
  drI (some .int) x15 x11.2
theorem c184_82 {L : Nat} {xs : Nat → Int32} {zf : Value} {D : dD} {w k : Nat} (hD : dO L xs zf D k) (hz : zf.category = 1) : ∀ (o0 : Option Nat) (o3 : Option Nat) (lv : rm_L) (h : rm_H) (r : dR), rm_get lv 0 = some (va_rf o0) → rm_get lv 3 = some (va_rf o3) → b184_82 L xs zf D w  o0 o3 h = some r → dq L xs zf ah_M184 82 lv [] h (k + 1) r := by
  intro o0 o3 lv h r G0 G3 hh
  unfold b184_82 at hh
  refine dq_aln 0 83 (by decide +kernel) rfl G0 ?_
  refine dq_dup 84 (by decide +kernel) rfl ?_
  obtain ⟨x1, q2, hh⟩ := db hh
  refine dq_gI 29 4 [13] 87 (by decide +kernel) rfl q2 ?_
  refine dq_S (.iconst 1) 1 [] 88 _ [.int 1, .int x1, va_rf o0] (by decide +kernel) rfl ?_
  refine dq_aln 3 89 (by decide +kernel) rfl G3 ?_
  obtain ⟨x3, q4, hh⟩ := db hh
  refine dq_gI 121 8 [10] 92 (by decide +kernel) rfl q4 ?_
  refine dq_S (.ishl) 1 [] 93 _ [.int ((1 : Int32) <<< (x3 &&& 31)), .int x1, va_rf o0] (by decide +kernel) rfl ?_
  refine dq_S (.ior) 1 [] 94 _ [.int (x1 ||| ((1 : Int32) <<< (x3 &&& 31))), va_rf o0] (by decide +kernel) rfl ?_
  obtain ⟨h5, q6, hh⟩ := db hh
  refine dq_put 29 4 [13] 97 (by decide +kernel) rfl q6 ?_
  refine dq_aln 0 98 (by decide +kernel) rfl G0 ?_
  obtain ⟨p7, q8, hh⟩ := db hh
  refine dq_gR 9 0 [13] 101 (by decide +kernel) rfl q8 ?_
  refine dq_S (.iconst 2) 1 [] 102 _ [.int 2, va_rf p7] (by decide +kernel) rfl ?_
  refine dq_aln 3 103 (by decide +kernel) rfl G3 ?_
  obtain ⟨x9, q10, hh⟩ := db hh
  refine dq_gI 121 8 [10] 106 (by decide +kernel) rfl q10 ?_
  obtain ⟨x11, q12, hh⟩ := db hh
  obtain ⟨a13, q14, q12⟩ := db q12
  rw [dq_xI q12] at q14
  refine dq_cvi hD 104 175 5 2 [4] p7 [.int 2, .int x9] [] 109 [.int x11.1] (by decide +kernel) ap_175 ⟨⟨Nat.le_of_ble_eq_true rfl, by decide⟩, rfl, rfl⟩ (dq_ok8 [1, 1, 1] [] (dc_r (dc_i (dc_i dc_n))) dc_n (by decide +kernel)) (by decide +kernel) rfl q14 rfl ?_
  refine dq_S (.pop) 1 [] 110 _ [] (by decide +kernel) rfl ?_
  refine dq_aln 3 111 (by decide +kernel) rfl G3 ?_
  obtain ⟨x15, q16, hh⟩ := db hh
  refine dq_gI 180 7 [10] 114 (by decide +kernel) rfl q16 ?_
  exact dq_retI (some .int) (by decide +kernel) rfl hh
def b184_46 (L : Nat) (xs : Nat → Int32) (zf : Value) (D : dD) (w : Nat) (o0 : Option Nat) (o1 : Option Nat) (i2 : Int32) (o3 : Option Nat) (s0 : Int32) (h : rm_H) : Option dR :=
  (dgI L xs h 5 [13] o0).bind fun x6 =>
  if mx_f2 .ge i2 x6 = true then
    b184_82 L xs zf D w o0 o3 h
  else
    if mx_f1 .ne s0 = true then
      b184_82 L xs zf D w o0 o3 h
    else
      (dgI L xs h 7 [10] o3).bind fun x10 =>
      ((dcV L xs D 183 [13] o0 [.int x10] h).bind dxI).bind fun x12 =>
      if mx_f1 .ne x12.1 = true then
        b184_82 L xs zf D w o0 o3 x12.2
      else
        (dgI L xs x12.2 3 [12] o1).bind fun x17 =>
        ((dcV L xs D 178 [13] o0 [.int 6, .int x17] x12.2).bind dxV).bind fun h19 =>
        b184_82 L xs zf D w o0 o3 h19
theorem c184_46 {L : Nat} {xs : Nat → Int32} {zf : Value} {D : dD} {w k : Nat} (hD : dO L xs zf D k) (hz : zf.category = 1) : ∀ (o0 : Option Nat) (o1 : Option Nat) (i2 : Int32) (o3 : Option Nat) (s0 : Int32) (lv : rm_L) (h : rm_H) (r : dR), rm_get lv 0 = some (va_rf o0) → rm_get lv 1 = some (va_rf o1) → rm_get lv 2 = some (.int i2) → rm_get lv 3 = some (va_rf o3) → b184_46 L xs zf D w  o0 o1 i2 o3 s0 h = some r → dq L xs zf ah_M184 46 lv [.int s0] h (k + 1) r := by
  intro o0 o1 i2 o3 s0 lv h r G0 G1 G2 G3 hh
  unfold b184_46 at hh
  refine dq_is 4 48 (by decide +kernel) (by decide +kernel) ?_
  have g1 := dg_ne (i := 4) (u := .int s0) (by decide) (Or.inl (by decide)) G0
  have g2 := dg_ne (i := 4) (u := .int s0) (by decide) (Or.inl (by decide)) G1
  have g3 := dg_ne (i := 4) (u := .int s0) (by decide) (Or.inl (by decide)) G2
  have g4 := dg_ne (i := 4) (u := .int s0) (by decide) (Or.inr (drc _)) G3
  have g5 := dg_eq (lv) 4 (.int s0)
  refine dq_iln 2 49 (by decide +kernel) rfl g3 ?_
  refine dq_aln 0 50 (by decide +kernel) rfl g1 ?_
  obtain ⟨x6, q7, hh⟩ := db hh
  refine dq_gI 32 5 [13] 53 (by decide +kernel) rfl q7 ?_
  rcases di hh with ⟨q8, hh⟩ | ⟨q8, hh⟩
  · refine dq_2 .ge 29 true 82 q8 (by decide +kernel) ?_
    exact c184_82 hD hz _ _ _ _ _ g1 g4 hh
  · refine dq_2 .ge 29 false 56 q8 (by decide +kernel) ?_
    refine dq_il 4 58 (by decide +kernel) rfl g5 ?_
    rcases di hh with ⟨q9, hh⟩ | ⟨q9, hh⟩
    · refine dq_1 .ne 24 true 82 q9 (by decide +kernel) ?_
      exact c184_82 hD hz _ _ _ _ _ g1 g4 hh
    · refine dq_1 .ne 24 false 61 q9 (by decide +kernel) ?_
      refine dq_aln 0 62 (by decide +kernel) rfl g1 ?_
      refine dq_aln 3 63 (by decide +kernel) rfl g4 ?_
      obtain ⟨x10, q11, hh⟩ := db hh
      refine dq_gI 180 7 [10] 66 (by decide +kernel) rfl q11 ?_
      obtain ⟨x12, q13, hh⟩ := db hh
      obtain ⟨a14, q15, q13⟩ := db q13
      rw [dq_xI q13] at q15
      refine dq_cvi hD 291 183 5 1 [13] o0 [.int x10] [] 69 [.int x12.1] (by decide +kernel) ap_183 ⟨⟨Nat.le_of_ble_eq_true rfl, by decide⟩, rfl, rfl⟩ (dq_ok8 [1, 1] [] (dc_r (dc_i dc_n)) dc_n (by decide +kernel)) (by decide +kernel) rfl q15 rfl ?_
      rcases di hh with ⟨q16, hh⟩ | ⟨q16, hh⟩
      · refine dq_1 .ne 13 true 82 q16 (by decide +kernel) ?_
        exact c184_82 hD hz _ _ _ _ _ g1 g4 hh
      · refine dq_1 .ne 13 false 72 q16 (by decide +kernel) ?_
        refine dq_aln 0 73 (by decide +kernel) rfl g1 ?_
        refine dq_S (.bipush 6) 2 [] 75 _ [.int 6, va_rf o0] (by decide +kernel) rfl ?_
        refine dq_aln 1 76 (by decide +kernel) rfl g2 ?_
        obtain ⟨x17, q18, hh⟩ := db hh
        refine dq_gI 137 3 [12] 79 (by decide +kernel) rfl q18 ?_
        obtain ⟨h19, q20, hh⟩ := db hh
        obtain ⟨a21, q22, q20⟩ := db q20
        rw [dq_xV q20] at q22
        refine dq_cvi hD 140 178 5 2 [13] o0 [.int 6, .int x17] [] 82 [] (by decide +kernel) ap_178 ⟨⟨Nat.le_of_ble_eq_true rfl, by decide⟩, rfl, rfl⟩ (dq_ok8 [1, 1, 1] [] (dc_r (dc_i (dc_i dc_n))) dc_n (by decide +kernel)) (by decide +kernel) rfl q22 rfl ?_
        exact c184_82 hD hz _ _ _ _ _ g1 g4 hh
def b184_45 (L : Nat) (xs : Nat → Int32) (zf : Value) (D : dD) (w : Nat) (o0 : Option Nat) (o1 : Option Nat) (i2 : Int32) (o3 : Option Nat) (h : rm_H) : Option dR :=
  b184_46 L xs zf D w o0 o1 i2 o3 0 h
theorem c184_45 {L : Nat} {xs : Nat → Int32} {zf : Value} {D : dD} {w k : Nat} (hD : dO L xs zf D k) (hz : zf.category = 1) : ∀ (o0 : Option Nat) (o1 : Option Nat) (i2 : Int32) (o3 : Option Nat) (lv : rm_L) (h : rm_H) (r : dR), rm_get lv 0 = some (va_rf o0) → rm_get lv 1 = some (va_rf o1) → rm_get lv 2 = some (.int i2) → rm_get lv 3 = some (va_rf o3) → b184_45 L xs zf D w  o0 o1 i2 o3 h = some r → dq L xs zf ah_M184 45 lv [] h (k + 1) r := by
  intro o0 o1 i2 o3 lv h r G0 G1 G2 G3 hh
  unfold b184_45 at hh
  refine dq_S (.iconst 0) 1 [] 46 _ [.int 0] (by decide +kernel) rfl ?_
  exact c184_46 hD hz _ _ _ _ _ _ _ _ G0 G1 G2 G3 hh
def b184_0 (L : Nat) (xs : Nat → Int32) (zf : Value) (D : dD) (w : Nat) (o0 : Option Nat) (o1 : Option Nat) (h : rm_H) : Option dR :=
  ((dcV L xs D 180 [13] o0 [va_rf o1] h).bind dxI).bind fun x1 =>
  if mx_f2 .ne x1.1 (-1) = true then
    (dgR L xs x1.2 1 [13] o0).bind fun p9 =>
    (daR L xs x1.2 p9 x1.1).bind fun p11 =>
    (dgI L xs x1.2 7 [10] p11).bind fun x17 =>
    ((D 159 [.int x17] x1.2).bind dxI).bind fun x19 =>
    if mx_f2 .ne x19.1 5 = true then
      b184_45 L xs zf D w o0 o1 x1.1 p11 x19.2
    else
      (dgI L xs x19.2 7 [10] p11).bind fun x24 =>
      ((D 160 [.int x24] x19.2).bind dxI).bind fun x26 =>
      if mx_f1 .ne x26.1 = true then
        b184_45 L xs zf D w o0 o1 x1.1 p11 x26.2
      else
        b184_46 L xs zf D w o0 o1 x1.1 p11 1 x26.2
  else
    drI (some .int) 2 x1.2
theorem c184_0 {L : Nat} {xs : Nat → Int32} {zf : Value} {D : dD} {w k : Nat} (hD : dO L xs zf D k) (hz : zf.category = 1) : ∀ (o0 : Option Nat) (o1 : Option Nat) (lv : rm_L) (h : rm_H) (r : dR), rm_get lv 0 = some (va_rf o0) → rm_get lv 1 = some (va_rf o1) → b184_0 L xs zf D w  o0 o1 h = some r → dq L xs zf ah_M184 0 lv [] h (k + 1) r := by
  intro o0 o1 lv h r G0 G1 hh
  unfold b184_0 at hh
  refine dq_aln 0 1 (by decide +kernel) rfl G0 ?_
  refine dq_aln 1 2 (by decide +kernel) rfl G1 ?_
  obtain ⟨x1, q2, hh⟩ := db hh
  obtain ⟨a3, q4, q2⟩ := db q2
  rw [dq_xI q2] at q4
  refine dq_cvi hD 288 180 5 1 [13] o0 [va_rf o1] [] 5 [.int x1.1] (by decide +kernel) ap_180 ⟨⟨Nat.le_of_ble_eq_true rfl, by decide⟩, rfl, rfl⟩ (dq_ok8 [1, 1] [] (dc_r (dc_r dc_n)) dc_n (by decide +kernel)) (by decide +kernel) rfl q4 rfl ?_
  refine dq_isn 2 6 (by decide +kernel) (by decide +kernel) ?_
  have g5 := dg_ne (i := 2) (u := .int x1.1) (by decide) (Or.inl (by decide)) G0
  have g6 := dg_ne (i := 2) (u := .int x1.1) (by decide) (Or.inr (drc _)) G1
  have g7 := dg_eq (lv) 2 (.int x1.1)
  refine dq_iln 2 7 (by decide +kernel) rfl g7 ?_
  refine dq_S (.iconst (-1)) 1 [] 8 _ [.int (-1), .int x1.1] (by decide +kernel) rfl ?_
  rcases di hh with ⟨q8, hh⟩ | ⟨q8, hh⟩
  · refine dq_2 .ne 5 true 13 q8 (by decide +kernel) ?_
    refine dq_aln 0 14 (by decide +kernel) rfl g5 ?_
    obtain ⟨p9, q10, hh⟩ := db hh
    refine dq_gR 17 1 [13] 17 (by decide +kernel) rfl q10 ?_
    refine dq_iln 2 18 (by decide +kernel) rfl g7 ?_
    obtain ⟨p11, q12, hh⟩ := db hh
    refine dq_aR 19 (by decide +kernel) rfl q12 ?_
    refine dq_asn 3 20 (by decide +kernel) (by decide +kernel) ?_
    have g13 := dg_ne (i := 3) (u := va_rf p11) (by decide) (Or.inl (by decide)) g5
    have g14 := dg_ne (i := 3) (u := va_rf p11) (by decide) (Or.inl (by decide)) g6
    have g15 := dg_ne (i := 3) (u := va_rf p11) (by decide) (Or.inr rfl) g7
    have g16 := dg_eq (rm_set1 (lv) 2 (.int x1.1)) 3 (va_rf p11)
    refine dq_aln 3 21 (by decide +kernel) rfl g16 ?_
    obtain ⟨x17, q18, hh⟩ := db hh
    refine dq_gI 180 7 [10] 24 (by decide +kernel) rfl q18 ?_
    obtain ⟨x19, q20, hh⟩ := db hh
    obtain ⟨a21, q22, q20⟩ := db q20
    rw [dq_xI q20] at q22
    refine dq_cst hD 209 159 1 1 [.int x17] [] 27 [.int x19.1] (by decide +kernel) ap_159 ⟨⟨Nat.le_of_ble_eq_true rfl, by decide⟩, rfl, rfl⟩ (dq_ok8 [1] [] (dc_i dc_n) dc_n (by decide +kernel)) (by decide +kernel) rfl q22 rfl ?_
    refine dq_S (.iconst 5) 1 [] 28 _ [.int 5, .int x19.1] (by decide +kernel) rfl ?_
    rcases di hh with ⟨q23, hh⟩ | ⟨q23, hh⟩
    · refine dq_2 .ne 17 true 45 q23 (by decide +kernel) ?_
      exact c184_45 hD hz _ _ _ _ _ _ _ g13 g14 g15 g16 hh
    · refine dq_2 .ne 17 false 31 q23 (by decide +kernel) ?_
      refine dq_aln 3 32 (by decide +kernel) rfl g16 ?_
      obtain ⟨x24, q25, hh⟩ := db hh
      refine dq_gI 180 7 [10] 35 (by decide +kernel) rfl q25 ?_
      obtain ⟨x26, q27, hh⟩ := db hh
      obtain ⟨a28, q29, q27⟩ := db q27
      rw [dq_xI q27] at q29
      refine dq_cst hD 224 160 1 1 [.int x24] [] 38 [.int x26.1] (by decide +kernel) ap_160 ⟨⟨Nat.le_of_ble_eq_true rfl, by decide⟩, rfl, rfl⟩ (dq_ok8 [1] [] (dc_i dc_n) dc_n (by decide +kernel)) (by decide +kernel) rfl q29 rfl ?_
      rcases di hh with ⟨q30, hh⟩ | ⟨q30, hh⟩
      · refine dq_1 .ne 7 true 45 q30 (by decide +kernel) ?_
        exact c184_45 hD hz _ _ _ _ _ _ _ g13 g14 g15 g16 hh
      · refine dq_1 .ne 7 false 41 q30 (by decide +kernel) ?_
        refine dq_S (.iconst 1) 1 [] 42 _ [.int 1] (by decide +kernel) rfl ?_
        refine dq_S (.goto 4) 3 [] 46 _ [.int 1] (by decide +kernel) rfl ?_
        exact c184_46 hD hz _ _ _ _ _ _ _ _ g13 g14 g15 g16 hh
  · refine dq_2 .ne 5 false 11 q8 (by decide +kernel) ?_
    refine dq_S (.iconst 2) 1 [] 12 _ [.int 2] (by decide +kernel) rfl ?_
    exact dq_retI (some .int) (by decide +kernel) rfl hh
def f184 (L : Nat) (xs : Nat → Int32) (zf : Value) (D : dD) (w : Nat) (As : List Value) (h : rm_H) : Option dR := match As with
  | [v0, v1] => (rm_rf v0).bind fun o0 => (rm_rf v1).bind fun o1 => b184_0 L xs zf D w o0 o1 h
  | _ => none
theorem d184 {L : Nat} {xs : Nat → Int32} {zf : Value} {D : dD} {w k : Nat} (hD : dO L xs zf D k) (hz : zf.category = 1) (As : List Value) (h : rm_H) (r : dR) (hh : f184 L xs zf D w As h = some r) : dq L xs zf ah_M184 0 (lv_args 0 As) [] h (k + 1) r := by
  unfold f184 at hh
  split at hh
  · obtain ⟨o0, e0, hb0⟩ := db hh
    have e0 := rm_rf_v _ _ e0
    obtain ⟨o1, e1, hb1⟩ := db hb0
    have e1 := rm_rf_v _ _ e1
    subst e0 e1
    refine c184_0 hD hz _ _ _ _ _ ?_ ?_ hb1
    all_goals (simp only [la_r, la_i, la_j]; rfl)
  · cases hh
def b185_48 (L : Nat) (xs : Nat → Int32) (zf : Value) (D : dD) (w : Nat) (o0 : Option Nat) (h : rm_H) : Option dR :=
  (dgR L xs h 0 [13] o0).bind fun p1 =>
  ((dcV L xs D 175 [4] p1 [.int 8, .int 0] h).bind dxI).bind fun x3 =>
  drI (some .int) 1 x3.2
theorem c185_48 {L : Nat} {xs : Nat → Int32} {zf : Value} {D : dD} {w k : Nat} (hD : dO L xs zf D k) (hz : zf.category = 1) : ∀ (o0 : Option Nat) (lv : rm_L) (h : rm_H) (r : dR), rm_get lv 0 = some (va_rf o0) → b185_48 L xs zf D w  o0 h = some r → dq L xs zf ah_M185 48 lv [] h (k + 1) r := by
  intro o0 lv h r G0 hh
  unfold b185_48 at hh
  refine dq_aln 0 49 (by decide +kernel) rfl G0 ?_
  obtain ⟨p1, q2, hh⟩ := db hh
  refine dq_gR 9 0 [13] 52 (by decide +kernel) rfl q2 ?_
  refine dq_S (.bipush 8) 2 [] 54 _ [.int 8, va_rf p1] (by decide +kernel) rfl ?_
  refine dq_S (.iconst 0) 1 [] 55 _ [.int 0, .int 8, va_rf p1] (by decide +kernel) rfl ?_
  obtain ⟨x3, q4, hh⟩ := db hh
  obtain ⟨a5, q6, q4⟩ := db q4
  rw [dq_xI q4] at q6
  refine dq_cvi hD 104 175 5 2 [4] p1 [.int 8, .int 0] [] 58 [.int x3.1] (by decide +kernel) ap_175 ⟨⟨Nat.le_of_ble_eq_true rfl, by decide⟩, rfl, rfl⟩ (dq_ok8 [1, 1, 1] [] (dc_r (dc_i (dc_i dc_n))) dc_n (by decide +kernel)) (by decide +kernel) rfl q6 rfl ?_
  refine dq_S (.pop) 1 [] 59 _ [] (by decide +kernel) rfl ?_
  refine dq_S (.iconst 1) 1 [] 60 _ [.int 1] (by decide +kernel) rfl ?_
  exact dq_retI (some .int) (by decide +kernel) rfl hh
def b185_38 (L : Nat) (xs : Nat → Int32) (zf : Value) (D : dD) (w : Nat) (o0 : Option Nat) (o1 : Option Nat) (s0 : Int32) (s1 : Option Nat) (h : rm_H) : Option dR :=
  (dgR L xs h 8 [12] o1).bind fun p1 =>
  (dgI L xs h 1 [12] p1).bind fun x3 =>
  ((dcV L xs D 178 [13] s1 [.int s0, .int x3] h).bind dxV).bind fun h5 =>
  b185_48 L xs zf D w o0 h5
theorem c185_38 {L : Nat} {xs : Nat → Int32} {zf : Value} {D : dD} {w k : Nat} (hD : dO L xs zf D k) (hz : zf.category = 1) : ∀ (o0 : Option Nat) (o1 : Option Nat) (s0 : Int32) (s1 : Option Nat) (lv : rm_L) (h : rm_H) (r : dR), rm_get lv 0 = some (va_rf o0) → rm_get lv 1 = some (va_rf o1) → b185_38 L xs zf D w  o0 o1 s0 s1 h = some r → dq L xs zf ah_M185 38 lv [.int s0, va_rf s1] h (k + 1) r := by
  intro o0 o1 s0 s1 lv h r G0 G1 hh
  unfold b185_38 at hh
  refine dq_aln 1 39 (by decide +kernel) rfl G1 ?_
  obtain ⟨p1, q2, hh⟩ := db hh
  refine dq_gR 154 8 [12] 42 (by decide +kernel) rfl q2 ?_
  obtain ⟨x3, q4, hh⟩ := db hh
  refine dq_gI 174 1 [12] 45 (by decide +kernel) rfl q4 ?_
  obtain ⟨h5, q6, hh⟩ := db hh
  obtain ⟨a7, q8, q6⟩ := db q6
  rw [dq_xV q6] at q8
  refine dq_cvi hD 140 178 5 2 [13] s1 [.int s0, .int x3] [] 48 [] (by decide +kernel) ap_178 ⟨⟨Nat.le_of_ble_eq_true rfl, by decide⟩, rfl, rfl⟩ (dq_ok8 [1, 1, 1] [] (dc_r (dc_i (dc_i dc_n))) dc_n (by decide +kernel)) (by decide +kernel) rfl q8 rfl ?_
  exact c185_48 hD hz _ _ _ _ G0 hh
def b185_24 (L : Nat) (xs : Nat → Int32) (zf : Value) (D : dD) (w : Nat) (o0 : Option Nat) (o1 : Option Nat) (i2 : Int32) (h : rm_H) : Option dR :=
  ((D 159 [.int i2] h).bind dxI).bind fun x1 =>
  if mx_f1 .ne x1.1 = true then
    b185_38 L xs zf D w o0 o1 5 o0 x1.2
  else
    b185_38 L xs zf D w o0 o1 8 o0 x1.2
theorem c185_24 {L : Nat} {xs : Nat → Int32} {zf : Value} {D : dD} {w k : Nat} (hD : dO L xs zf D k) (hz : zf.category = 1) : ∀ (o0 : Option Nat) (o1 : Option Nat) (i2 : Int32) (lv : rm_L) (h : rm_H) (r : dR), rm_get lv 0 = some (va_rf o0) → rm_get lv 1 = some (va_rf o1) → rm_get lv 2 = some (.int i2) → b185_24 L xs zf D w  o0 o1 i2 h = some r → dq L xs zf ah_M185 24 lv [] h (k + 1) r := by
  intro o0 o1 i2 lv h r G0 G1 G2 hh
  unfold b185_24 at hh
  refine dq_aln 0 25 (by decide +kernel) rfl G0 ?_
  refine dq_iln 2 26 (by decide +kernel) rfl G2 ?_
  obtain ⟨x1, q2, hh⟩ := db hh
  obtain ⟨a3, q4, q2⟩ := db q2
  rw [dq_xI q2] at q4
  refine dq_cst hD 209 159 1 1 [.int i2] [va_rf o0] 29 [.int x1.1, va_rf o0] (by decide +kernel) ap_159 ⟨⟨Nat.le_of_ble_eq_true rfl, by decide⟩, rfl, rfl⟩ (dq_ok8 [1] [1] (dc_i dc_n) (dc_r dc_n) (by decide +kernel)) (by decide +kernel) rfl q4 rfl ?_
  rcases di hh with ⟨q5, hh⟩ | ⟨q5, hh⟩
  · refine dq_1 .ne 8 true 37 q5 (by decide +kernel) ?_
    refine dq_S (.iconst 5) 1 [] 38 _ [.int 5, va_rf o0] (by decide +kernel) rfl ?_
    exact c185_38 hD hz _ _ _ _ _ _ _ G0 G1 hh
  · refine dq_1 .ne 8 false 32 q5 (by decide +kernel) ?_
    refine dq_S (.bipush 8) 2 [] 34 _ [.int 8, va_rf o0] (by decide +kernel) rfl ?_
    refine dq_S (.goto 4) 3 [] 38 _ [.int 8, va_rf o0] (by decide +kernel) rfl ?_
    exact c185_38 hD hz _ _ _ _ _ _ _ G0 G1 hh
def b185_0 (L : Nat) (xs : Nat → Int32) (zf : Value) (D : dD) (w : Nat) (o0 : Option Nat) (o1 : Option Nat) (h : rm_H) : Option dR :=
  (dgR L xs h 8 [12] o1).bind fun p1 =>
  ((dcV L xs D 172 [13] o0 [va_rf p1] h).bind dxI).bind fun x3 =>
  ((D 159 [.int x3.1] x3.2).bind dxI).bind fun x10 =>
  if mx_f1 .eq x10.1 = true then
    b185_24 L xs zf D w o0 o1 x3.1 x10.2
  else
    ((D 159 [.int x3.1] x10.2).bind dxI).bind fun x15 =>
    if mx_f2 .ne x15.1 1 = true then
      b185_48 L xs zf D w o0 x15.2
    else
      b185_24 L xs zf D w o0 o1 x3.1 x15.2
theorem c185_0 {L : Nat} {xs : Nat → Int32} {zf : Value} {D : dD} {w k : Nat} (hD : dO L xs zf D k) (hz : zf.category = 1) : ∀ (o0 : Option Nat) (o1 : Option Nat) (lv : rm_L) (h : rm_H) (r : dR), rm_get lv 0 = some (va_rf o0) → rm_get lv 1 = some (va_rf o1) → b185_0 L xs zf D w  o0 o1 h = some r → dq L xs zf ah_M185 0 lv [] h (k + 1) r := by
  intro o0 o1 lv h r G0 G1 hh
  unfold b185_0 at hh
  refine dq_aln 0 1 (by decide +kernel) rfl G0 ?_
  refine dq_aln 1 2 (by decide +kernel) rfl G1 ?_
  obtain ⟨p1, q2, hh⟩ := db hh
  refine dq_gR 154 8 [12] 5 (by decide +kernel) rfl q2 ?_
  obtain ⟨x3, q4, hh⟩ := db hh
  obtain ⟨a5, q6, q4⟩ := db q4
  rw [dq_xI q4] at q6
  refine dq_cvi hD 167 172 5 1 [13] o0 [va_rf p1] [] 8 [.int x3.1] (by decide +kernel) ap_172 ⟨⟨Nat.le_of_ble_eq_true rfl, by decide⟩, rfl, rfl⟩ (dq_ok8 [1, 1] [] (dc_r (dc_r dc_n)) dc_n (by decide +kernel)) (by decide +kernel) rfl q6 rfl ?_
  refine dq_isn 2 9 (by decide +kernel) (by decide +kernel) ?_
  have g7 := dg_ne (i := 2) (u := .int x3.1) (by decide) (Or.inl (by decide)) G0
  have g8 := dg_ne (i := 2) (u := .int x3.1) (by decide) (Or.inr (drc _)) G1
  have g9 := dg_eq (lv) 2 (.int x3.1)
  refine dq_iln 2 10 (by decide +kernel) rfl g9 ?_
  obtain ⟨x10, q11, hh⟩ := db hh
  obtain ⟨a12, q13, q11⟩ := db q11
  rw [dq_xI q11] at q13
  refine dq_cst hD 209 159 1 1 [.int x3.1] [] 13 [.int x10.1] (by decide +kernel) ap_159 ⟨⟨Nat.le_of_ble_eq_true rfl, by decide⟩, rfl, rfl⟩ (dq_ok8 [1] [] (dc_i dc_n) dc_n (by decide +kernel)) (by decide +kernel) rfl q13 rfl ?_
  rcases di hh with ⟨q14, hh⟩ | ⟨q14, hh⟩
  · refine dq_1 .eq 11 true 24 q14 (by decide +kernel) ?_
    exact c185_24 hD hz _ _ _ _ _ _ g7 g8 g9 hh
  · refine dq_1 .eq 11 false 16 q14 (by decide +kernel) ?_
    refine dq_iln 2 17 (by decide +kernel) rfl g9 ?_
    obtain ⟨x15, q16, hh⟩ := db hh
    obtain ⟨a17, q18, q16⟩ := db q16
    rw [dq_xI q16] at q18
    refine dq_cst hD 209 159 1 1 [.int x3.1] [] 20 [.int x15.1] (by decide +kernel) ap_159 ⟨⟨Nat.le_of_ble_eq_true rfl, by decide⟩, rfl, rfl⟩ (dq_ok8 [1] [] (dc_i dc_n) dc_n (by decide +kernel)) (by decide +kernel) rfl q18 rfl ?_
    refine dq_S (.iconst 1) 1 [] 21 _ [.int 1, .int x15.1] (by decide +kernel) rfl ?_
    rcases di hh with ⟨q19, hh⟩ | ⟨q19, hh⟩
    · refine dq_2 .ne 27 true 48 q19 (by decide +kernel) ?_
      exact c185_48 hD hz _ _ _ _ g7 hh
    · refine dq_2 .ne 27 false 24 q19 (by decide +kernel) ?_
      exact c185_24 hD hz _ _ _ _ _ _ g7 g8 g9 hh
def f185 (L : Nat) (xs : Nat → Int32) (zf : Value) (D : dD) (w : Nat) (As : List Value) (h : rm_H) : Option dR := match As with
  | [v0, v1] => (rm_rf v0).bind fun o0 => (rm_rf v1).bind fun o1 => b185_0 L xs zf D w o0 o1 h
  | _ => none
theorem d185 {L : Nat} {xs : Nat → Int32} {zf : Value} {D : dD} {w k : Nat} (hD : dO L xs zf D k) (hz : zf.category = 1) (As : List Value) (h : rm_H) (r : dR) (hh : f185 L xs zf D w As h = some r) : dq L xs zf ah_M185 0 (lv_args 0 As) [] h (k + 1) r := by
  unfold f185 at hh
  split at hh
  · obtain ⟨o0, e0, hb0⟩ := db hh
    have e0 := rm_rf_v _ _ e0
    obtain ⟨o1, e1, hb1⟩ := db hb0
    have e1 := rm_rf_v _ _ e1
    subst e0 e1
    refine c185_0 hD hz _ _ _ _ _ ?_ ?_ hb1
    all_goals (simp only [la_r, la_i, la_j]; rfl)
  · cases hh
def b186_0 (L : Nat) (xs : Nat → Int32) (zf : Value) (D : dD) (w : Nat) (o0 : Option Nat) (o1 : Option Nat) (o2 : Option Nat) (i3 : Int32) (h : rm_H) : Option dR :=
  ((dcV L xs D 171 [13] o0 [va_rf o2] h).bind dxI).bind fun x1 =>
  (dgI L xs x1.2 0 [12] o1).bind fun x10 =>
  if mx_f2 .ne x10 4 = true then
    (dgI L xs x1.2 0 [12] o1).bind fun x13 =>
    if mx_f2 .ne x13 10 = true then
      (dgI L xs x1.2 1 [12] o1).bind fun x16 =>
      ((dcV L xs D 178 [13] o0 [.int 8, .int x16] x1.2).bind dxV).bind fun h18 =>
      drI (some .int) 2 h18
    else
      ((dcV L xs D 191 [13] o0 [va_rf o1, va_rf o2, .int x1.1, .int i3] x1.2).bind dxI).bind fun x22 =>
      drI (some .int) x22.1 x22.2
  else
    ((dcV L xs D 187 [13] o0 [va_rf o1, va_rf o2, .int x1.1, .int i3] x1.2).bind dxI).bind fun x26 =>
    drI (some .int) x26.1 x26.2
theorem c186_0 {L : Nat} {xs : Nat → Int32} {zf : Value} {D : dD} {w k : Nat} (hD : dO L xs zf D k) (hz : zf.category = 1) : ∀ (o0 : Option Nat) (o1 : Option Nat) (o2 : Option Nat) (i3 : Int32) (lv : rm_L) (h : rm_H) (r : dR), rm_get lv 0 = some (va_rf o0) → rm_get lv 1 = some (va_rf o1) → rm_get lv 2 = some (va_rf o2) → rm_get lv 3 = some (.int i3) → b186_0 L xs zf D w  o0 o1 o2 i3 h = some r → dq L xs zf ah_M186 0 lv [] h (k + 1) r := by
  intro o0 o1 o2 i3 lv h r G0 G1 G2 G3 hh
  unfold b186_0 at hh
  refine dq_aln 0 1 (by decide +kernel) rfl G0 ?_
  refine dq_aln 2 2 (by decide +kernel) rfl G2 ?_
  obtain ⟨x1, q2, hh⟩ := db hh
  obtain ⟨a3, q4, q2⟩ := db q2
  rw [dq_xI q2] at q4
  refine dq_cvi hD 177 171 5 1 [13] o0 [va_rf o2] [] 5 [.int x1.1] (by decide +kernel) ap_171 ⟨⟨Nat.le_of_ble_eq_true rfl, by decide⟩, rfl, rfl⟩ (dq_ok8 [1, 1] [] (dc_r (dc_r dc_n)) dc_n (by decide +kernel)) (by decide +kernel) rfl q4 rfl ?_
  refine dq_is 4 7 (by decide +kernel) (by decide +kernel) ?_
  have g5 := dg_ne (i := 4) (u := .int x1.1) (by decide) (Or.inl (by decide)) G0
  have g6 := dg_ne (i := 4) (u := .int x1.1) (by decide) (Or.inl (by decide)) G1
  have g7 := dg_ne (i := 4) (u := .int x1.1) (by decide) (Or.inl (by decide)) G2
  have g8 := dg_ne (i := 4) (u := .int x1.1) (by decide) (Or.inr rfl) G3
  have g9 := dg_eq (lv) 4 (.int x1.1)
  refine dq_aln 1 8 (by decide +kernel) rfl g6 ?_
  obtain ⟨x10, q11, hh⟩ := db hh
  refine dq_gI 134 0 [12] 11 (by decide +kernel) rfl q11 ?_
  refine dq_S (.iconst 4) 1 [] 12 _ [.int 4, .int x10] (by decide +kernel) rfl ?_
  rcases di hh with ⟨q12, hh⟩ | ⟨q12, hh⟩
  · refine dq_2 .ne 13 true 25 q12 (by decide +kernel) ?_
    refine dq_aln 1 26 (by decide +kernel) rfl g6 ?_
    obtain ⟨x13, q14, hh⟩ := db hh
    refine dq_gI 134 0 [12] 29 (by decide +kernel) rfl q14 ?_
    refine dq_S (.bipush 10) 2 [] 31 _ [.int 10, .int x13] (by decide +kernel) rfl ?_
    rcases di hh with ⟨q15, hh⟩ | ⟨q15, hh⟩
    · refine dq_2 .ne 13 true 44 q15 (by decide +kernel) ?_
      refine dq_aln 0 45 (by decide +kernel) rfl g5 ?_
      refine dq_S (.bipush 8) 2 [] 47 _ [.int 8, va_rf o0] (by decide +kernel) rfl ?_
      refine dq_aln 1 48 (by decide +kernel) rfl g6 ?_
      obtain ⟨x16, q17, hh⟩ := db hh
      refine dq_gI 174 1 [12] 51 (by decide +kernel) rfl q17 ?_
      obtain ⟨h18, q19, hh⟩ := db hh
      obtain ⟨a20, q21, q19⟩ := db q19
      rw [dq_xV q19] at q21
      refine dq_cvi hD 140 178 5 2 [13] o0 [.int 8, .int x16] [] 54 [] (by decide +kernel) ap_178 ⟨⟨Nat.le_of_ble_eq_true rfl, by decide⟩, rfl, rfl⟩ (dq_ok8 [1, 1, 1] [] (dc_r (dc_i (dc_i dc_n))) dc_n (by decide +kernel)) (by decide +kernel) rfl q21 rfl ?_
      refine dq_S (.iconst 2) 1 [] 55 _ [.int 2] (by decide +kernel) rfl ?_
      exact dq_retI (some .int) (by decide +kernel) rfl hh
    · refine dq_2 .ne 13 false 34 q15 (by decide +kernel) ?_
      refine dq_aln 0 35 (by decide +kernel) rfl g5 ?_
      refine dq_aln 1 36 (by decide +kernel) rfl g6 ?_
      refine dq_aln 2 37 (by decide +kernel) rfl g7 ?_
      refine dq_il 4 39 (by decide +kernel) rfl g9 ?_
      refine dq_iln 3 40 (by decide +kernel) rfl g8 ?_
      obtain ⟨x22, q23, hh⟩ := db hh
      obtain ⟨a24, q25, q23⟩ := db q23
      rw [dq_xI q23] at q25
      refine dq_cvi hD 354 191 5 4 [13] o0 [va_rf o1, va_rf o2, .int x1.1, .int i3] [] 43 [.int x22.1] (by decide +kernel) ap_191 ⟨⟨Nat.le_of_ble_eq_true rfl, by decide⟩, rfl, rfl⟩ (dq_ok8 [1, 1, 1, 1, 1] [] (dc_r (dc_r (dc_r (dc_i (dc_i dc_n))))) dc_n (by decide +kernel)) (by decide +kernel) rfl q25 rfl ?_
      exact dq_retI (some .int) (by decide +kernel) rfl hh
  · refine dq_2 .ne 13 false 15 q12 (by decide +kernel) ?_
    refine dq_aln 0 16 (by decide +kernel) rfl g5 ?_
    refine dq_aln 1 17 (by decide +kernel) rfl g6 ?_
    refine dq_aln 2 18 (by decide +kernel) rfl g7 ?_
    refine dq_il 4 20 (by decide +kernel) rfl g9 ?_
    refine dq_iln 3 21 (by decide +kernel) rfl g8 ?_
    obtain ⟨x26, q27, hh⟩ := db hh
    obtain ⟨a28, q29, q27⟩ := db q27
    rw [dq_xI q27] at q29
    refine dq_cvi hD 350 187 5 4 [13] o0 [va_rf o1, va_rf o2, .int x1.1, .int i3] [] 24 [.int x26.1] (by decide +kernel) ap_187 ⟨⟨Nat.le_of_ble_eq_true rfl, by decide⟩, rfl, rfl⟩ (dq_ok8 [1, 1, 1, 1, 1] [] (dc_r (dc_r (dc_r (dc_i (dc_i dc_n))))) dc_n (by decide +kernel)) (by decide +kernel) rfl q29 rfl ?_
    exact dq_retI (some .int) (by decide +kernel) rfl hh
def f186 (L : Nat) (xs : Nat → Int32) (zf : Value) (D : dD) (w : Nat) (As : List Value) (h : rm_H) : Option dR := match As with
  | [v0, v1, v2, .int i3] => (rm_rf v0).bind fun o0 => (rm_rf v1).bind fun o1 => (rm_rf v2).bind fun o2 => b186_0 L xs zf D w o0 o1 o2 i3 h
  | _ => none
theorem d186 {L : Nat} {xs : Nat → Int32} {zf : Value} {D : dD} {w k : Nat} (hD : dO L xs zf D k) (hz : zf.category = 1) (As : List Value) (h : rm_H) (r : dR) (hh : f186 L xs zf D w As h = some r) : dq L xs zf ah_M186 0 (lv_args 0 As) [] h (k + 1) r := by
  unfold f186 at hh
  split at hh
  · obtain ⟨o0, e0, hb0⟩ := db hh
    have e0 := rm_rf_v _ _ e0
    obtain ⟨o1, e1, hb1⟩ := db hb0
    have e1 := rm_rf_v _ _ e1
    obtain ⟨o2, e2, hb2⟩ := db hb1
    have e2 := rm_rf_v _ _ e2
    subst e0 e1 e2
    refine c186_0 hD hz _ _ _ _ _ _ _ ?_ ?_ ?_ ?_ hb2
    all_goals (simp only [la_r, la_i, la_j]; rfl)
  · cases hh
def b187_113 (L : Nat) (xs : Nat → Int32) (zf : Value) (D : dD) (w : Nat) (o6 : Option Nat) (s0 : Int32) (s1 : Option Nat) (h : rm_H) : Option dR :=
  (dgI L xs h 8 [10] o6).bind fun x1 =>
  ((dcV L xs D 175 [4] s1 [.int s0, .int x1] h).bind dxI).bind fun x3 =>
  (dgI L xs x3.2 7 [10] o6).bind fun x7 =>
  drI (some .int) x7 x3.2
theorem c187_113 {L : Nat} {xs : Nat → Int32} {zf : Value} {D : dD} {w k : Nat} (hD : dO L xs zf D k) (hz : zf.category = 1) : ∀ (o6 : Option Nat) (s0 : Int32) (s1 : Option Nat) (lv : rm_L) (h : rm_H) (r : dR), rm_get lv 6 = some (va_rf o6) → b187_113 L xs zf D w  o6 s0 s1 h = some r → dq L xs zf ah_M187 113 lv [.int s0, va_rf s1] h (k + 1) r := by
  intro o6 s0 s1 lv h r G6 hh
  unfold b187_113 at hh
  refine dq_al 6 115 (by decide +kernel) rfl G6 ?_
  obtain ⟨x1, q2, hh⟩ := db hh
  refine dq_gI 121 8 [10] 118 (by decide +kernel) rfl q2 ?_
  obtain ⟨x3, q4, hh⟩ := db hh
  obtain ⟨a5, q6, q4⟩ := db q4
  rw [dq_xI q4] at q6
  refine dq_cvi hD 104 175 5 2 [4] s1 [.int s0, .int x1] [] 121 [.int x3.1] (by decide +kernel) ap_175 ⟨⟨Nat.le_of_ble_eq_true rfl, by decide⟩, rfl, rfl⟩ (dq_ok8 [1, 1, 1] [] (dc_r (dc_i (dc_i dc_n))) dc_n (by decide +kernel)) (by decide +kernel) rfl q6 rfl ?_
  refine dq_S (.pop) 1 [] 122 _ [] (by decide +kernel) rfl ?_
  refine dq_al 6 124 (by decide +kernel) rfl G6 ?_
  obtain ⟨x7, q8, hh⟩ := db hh
  refine dq_gI 180 7 [10] 127 (by decide +kernel) rfl q8 ?_
  exact dq_retI (some .int) (by decide +kernel) rfl hh
def b187_68 (L : Nat) (xs : Nat → Int32) (zf : Value) (D : dD) (w : Nat) (o0 : Option Nat) (o2 : Option Nat) (i3 : Int32) (i4 : Int32) (o6 : Option Nat) (h : rm_H) : Option dR :=
  (dgI L xs h 7 [10] o6).bind fun x1 =>
  ((dcV L xs D 188 [13] o0 [va_rf o2, .int i3, .int x1] h).bind dxV).bind fun h3 =>
  (dgI L xs h3 4 [13] o0).bind fun x7 =>
  (dgI L xs h3 8 [10] o6).bind fun x9 =>
  (dpF h3 4 [13] o0 (.int (x7 &&& (((1 : Int32) <<< (x9 &&& 31)) ^^^ (-1))))).bind fun h11 =>
  (dgR L xs h11 0 [13] o0).bind fun p13 =>
  if mx_f1 .eq i4 = true then
    b187_113 L xs zf D w o6 11 p13 h11
  else
    b187_113 L xs zf D w o6 9 p13 h11
theorem c187_68 {L : Nat} {xs : Nat → Int32} {zf : Value} {D : dD} {w k : Nat} (hD : dO L xs zf D k) (hz : zf.category = 1) : ∀ (o0 : Option Nat) (o2 : Option Nat) (i3 : Int32) (i4 : Int32) (o6 : Option Nat) (lv : rm_L) (h : rm_H) (r : dR), rm_get lv 0 = some (va_rf o0) → rm_get lv 2 = some (va_rf o2) → rm_get lv 3 = some (.int i3) → rm_get lv 4 = some (.int i4) → rm_get lv 6 = some (va_rf o6) → b187_68 L xs zf D w  o0 o2 i3 i4 o6 h = some r → dq L xs zf ah_M187 68 lv [] h (k + 1) r := by
  intro o0 o2 i3 i4 o6 lv h r G0 G2 G3 G4 G6 hh
  unfold b187_68 at hh
  refine dq_aln 0 69 (by decide +kernel) rfl G0 ?_
  refine dq_aln 2 70 (by decide +kernel) rfl G2 ?_
  refine dq_iln 3 71 (by decide +kernel) rfl G3 ?_
  refine dq_al 6 73 (by decide +kernel) rfl G6 ?_
  obtain ⟨x1, q2, hh⟩ := db hh
  refine dq_gI 180 7 [10] 76 (by decide +kernel) rfl q2 ?_
  obtain ⟨h3, q4, hh⟩ := db hh
  obtain ⟨a5, q6, q4⟩ := db q4
  rw [dq_xV q4] at q6
  refine dq_cvi hD 183 188 5 3 [13] o0 [va_rf o2, .int i3, .int x1] [] 79 [] (by decide +kernel) ap_188 ⟨⟨Nat.le_of_ble_eq_true rfl, by decide⟩, rfl, rfl⟩ (dq_ok8 [1, 1, 1, 1] [] (dc_r (dc_r (dc_i (dc_i dc_n)))) dc_n (by decide +kernel)) (by decide +kernel) rfl q6 rfl ?_
  refine dq_aln 0 80 (by decide +kernel) rfl G0 ?_
  refine dq_dup 81 (by decide +kernel) rfl ?_
  obtain ⟨x7, q8, hh⟩ := db hh
  refine dq_gI 29 4 [13] 84 (by decide +kernel) rfl q8 ?_
  refine dq_S (.iconst 1) 1 [] 85 _ [.int 1, .int x7, va_rf o0] (by decide +kernel) rfl ?_
  refine dq_al 6 87 (by decide +kernel) rfl G6 ?_
  obtain ⟨x9, q10, hh⟩ := db hh
  refine dq_gI 121 8 [10] 90 (by decide +kernel) rfl q10 ?_
  refine dq_S (.ishl) 1 [] 91 _ [.int ((1 : Int32) <<< (x9 &&& 31)), .int x7, va_rf o0] (by decide +kernel) rfl ?_
  refine dq_S (.iconst (-1)) 1 [] 92 _ [.int (-1), .int ((1 : Int32) <<< (x9 &&& 31)), .int x7, va_rf o0] (by decide +kernel) rfl ?_
  refine dq_S (.ixor) 1 [] 93 _ [.int (((1 : Int32) <<< (x9 &&& 31)) ^^^ (-1)), .int x7, va_rf o0] (by decide +kernel) rfl ?_
  refine dq_S (.iand) 1 [] 94 _ [.int (x7 &&& (((1 : Int32) <<< (x9 &&& 31)) ^^^ (-1))), va_rf o0] (by decide +kernel) rfl ?_
  obtain ⟨h11, q12, hh⟩ := db hh
  refine dq_put 29 4 [13] 97 (by decide +kernel) rfl q12 ?_
  refine dq_aln 0 98 (by decide +kernel) rfl G0 ?_
  obtain ⟨p13, q14, hh⟩ := db hh
  refine dq_gR 9 0 [13] 101 (by decide +kernel) rfl q14 ?_
  refine dq_il 4 103 (by decide +kernel) rfl G4 ?_
  rcases di hh with ⟨q15, hh⟩ | ⟨q15, hh⟩
  · refine dq_1 .eq 8 true 111 q15 (by decide +kernel) ?_
    refine dq_S (.bipush 11) 2 [] 113 _ [.int 11, va_rf p13] (by decide +kernel) rfl ?_
    exact c187_113 hD hz _ _ _ _ _ _ G6 hh
  · refine dq_1 .eq 8 false 106 q15 (by decide +kernel) ?_
    refine dq_S (.bipush 9) 2 [] 108 _ [.int 9, va_rf p13] (by decide +kernel) rfl ?_
    refine dq_S (.goto 5) 3 [] 113 _ [.int 9, va_rf p13] (by decide +kernel) rfl ?_
    exact c187_113 hD hz _ _ _ _ _ _ G6 hh
def b187_21 (L : Nat) (xs : Nat → Int32) (zf : Value) (D : dD) (w : Nat) (o0 : Option Nat) (o1 : Option Nat) (o2 : Option Nat) (i3 : Int32) (i4 : Int32) (s0 : Int32) (h : rm_H) : Option dR :=
  if mx_f2 .ne s0 (-1) = true then
    (dgR L xs h 1 [13] o0).bind fun p8 =>
    (daR L xs h p8 s0).bind fun p10 =>
    (dgI L xs h 5 [13] o0).bind fun x19 =>
    if mx_f2 .ge s0 x19 = true then
      b187_68 L xs zf D w o0 o2 i3 i4 p10 h
    else
      (dgI L xs h 3 [12] o1).bind fun x22 =>
      ((dcV L xs D 178 [13] o0 [.int 6, .int x22] h).bind dxV).bind fun h24 =>
      b187_68 L xs zf D w o0 o2 i3 i4 p10 h24
  else
    (dgI L xs h 3 [12] o1).bind fun x28 =>
    ((dcV L xs D 178 [13] o0 [.int 3, .int x28] h).bind dxV).bind fun h30 =>
    drI (some .int) 2 h30
theorem c187_21 {L : Nat} {xs : Nat → Int32} {zf : Value} {D : dD} {w k : Nat} (hD : dO L xs zf D k) (hz : zf.category = 1) : ∀ (o0 : Option Nat) (o1 : Option Nat) (o2 : Option Nat) (i3 : Int32) (i4 : Int32) (s0 : Int32) (lv : rm_L) (h : rm_H) (r : dR), rm_get lv 0 = some (va_rf o0) → rm_get lv 1 = some (va_rf o1) → rm_get lv 2 = some (va_rf o2) → rm_get lv 3 = some (.int i3) → rm_get lv 4 = some (.int i4) → b187_21 L xs zf D w  o0 o1 o2 i3 i4 s0 h = some r → dq L xs zf ah_M187 21 lv [.int s0] h (k + 1) r := by
  intro o0 o1 o2 i3 i4 s0 lv h r G0 G1 G2 G3 G4 hh
  unfold b187_21 at hh
  refine dq_is 5 23 (by decide +kernel) (by decide +kernel) ?_
  have g1 := dg_ne (i := 5) (u := .int s0) (by decide) (Or.inl (by decide)) G0
  have g2 := dg_ne (i := 5) (u := .int s0) (by decide) (Or.inl (by decide)) G1
  have g3 := dg_ne (i := 5) (u := .int s0) (by decide) (Or.inl (by decide)) G2
  have g4 := dg_ne (i := 5) (u := .int s0) (by decide) (Or.inl (by decide)) G3
  have g5 := dg_ne (i := 5) (u := .int s0) (by decide) (Or.inr rfl) G4
  have g6 := dg_eq (lv) 5 (.int s0)
  refine dq_il 5 25 (by decide +kernel) rfl g6 ?_
  refine dq_S (.iconst (-1)) 1 [] 26 _ [.int (-1), .int s0] (by decide +kernel) rfl ?_
  rcases di hh with ⟨q7, hh⟩ | ⟨q7, hh⟩
  · refine dq_2 .ne 14 true 40 q7 (by decide +kernel) ?_
    refine dq_aln 0 41 (by decide +kernel) rfl g1 ?_
    obtain ⟨p8, q9, hh⟩ := db hh
    refine dq_gR 17 1 [13] 44 (by decide +kernel) rfl q9 ?_
    refine dq_il 5 46 (by decide +kernel) rfl g6 ?_
    obtain ⟨p10, q11, hh⟩ := db hh
    refine dq_aR 47 (by decide +kernel) rfl q11 ?_
    refine dq_as 6 49 (by decide +kernel) (by decide +kernel) ?_
    have g12 := dg_ne (i := 6) (u := va_rf p10) (by decide) (Or.inl (by decide)) g1
    have g13 := dg_ne (i := 6) (u := va_rf p10) (by decide) (Or.inl (by decide)) g2
    have g14 := dg_ne (i := 6) (u := va_rf p10) (by decide) (Or.inl (by decide)) g3
    have g15 := dg_ne (i := 6) (u := va_rf p10) (by decide) (Or.inl (by decide)) g4
    have g16 := dg_ne (i := 6) (u := va_rf p10) (by decide) (Or.inl (by decide)) g5
    have g17 := dg_ne (i := 6) (u := va_rf p10) (by decide) (Or.inr rfl) g6
    have g18 := dg_eq (rm_set1 (lv) 5 (.int s0)) 6 (va_rf p10)
    refine dq_il 5 51 (by decide +kernel) rfl g17 ?_
    refine dq_aln 0 52 (by decide +kernel) rfl g12 ?_
    obtain ⟨x19, q20, hh⟩ := db hh
    refine dq_gI 32 5 [13] 55 (by decide +kernel) rfl q20 ?_
    rcases di hh with ⟨q21, hh⟩ | ⟨q21, hh⟩
    · refine dq_2 .ge 13 true 68 q21 (by decide +kernel) ?_
      exact c187_68 hD hz _ _ _ _ _ _ _ _ g12 g14 g15 g16 g18 hh
    · refine dq_2 .ge 13 false 58 q21 (by decide +kernel) ?_
      refine dq_aln 0 59 (by decide +kernel) rfl g12 ?_
      refine dq_S (.bipush 6) 2 [] 61 _ [.int 6, va_rf o0] (by decide +kernel) rfl ?_
      refine dq_aln 1 62 (by decide +kernel) rfl g13 ?_
      obtain ⟨x22, q23, hh⟩ := db hh
      refine dq_gI 137 3 [12] 65 (by decide +kernel) rfl q23 ?_
      obtain ⟨h24, q25, hh⟩ := db hh
      obtain ⟨a26, q27, q25⟩ := db q25
      rw [dq_xV q25] at q27
      refine dq_cvi hD 140 178 5 2 [13] o0 [.int 6, .int x22] [] 68 [] (by decide +kernel) ap_178 ⟨⟨Nat.le_of_ble_eq_true rfl, by decide⟩, rfl, rfl⟩ (dq_ok8 [1, 1, 1] [] (dc_r (dc_i (dc_i dc_n))) dc_n (by decide +kernel)) (by decide +kernel) rfl q27 rfl ?_
      exact c187_68 hD hz _ _ _ _ _ _ _ _ g12 g14 g15 g16 g18 hh
  · refine dq_2 .ne 14 false 29 q7 (by decide +kernel) ?_
    refine dq_aln 0 30 (by decide +kernel) rfl g1 ?_
    refine dq_S (.iconst 3) 1 [] 31 _ [.int 3, va_rf o0] (by decide +kernel) rfl ?_
    refine dq_aln 1 32 (by decide +kernel) rfl g2 ?_
    obtain ⟨x28, q29, hh⟩ := db hh
    refine dq_gI 137 3 [12] 35 (by decide +kernel) rfl q29 ?_
    obtain ⟨h30, q31, hh⟩ := db hh
    obtain ⟨a32, q33, q31⟩ := db q31
    rw [dq_xV q31] at q33
    refine dq_cvi hD 140 178 5 2 [13] o0 [.int 3, .int x28] [] 38 [] (by decide +kernel) ap_178 ⟨⟨Nat.le_of_ble_eq_true rfl, by decide⟩, rfl, rfl⟩ (dq_ok8 [1, 1, 1] [] (dc_r (dc_i (dc_i dc_n))) dc_n (by decide +kernel)) (by decide +kernel) rfl q33 rfl ?_
    refine dq_S (.iconst 2) 1 [] 39 _ [.int 2] (by decide +kernel) rfl ?_
    exact dq_retI (some .int) (by decide +kernel) rfl hh
def b187_0 (L : Nat) (xs : Nat → Int32) (zf : Value) (D : dD) (w : Nat) (o0 : Option Nat) (o1 : Option Nat) (o2 : Option Nat) (i3 : Int32) (i4 : Int32) (h : rm_H) : Option dR :=
  if mx_f1 .eq i4 = true then
    (dgR L xs h 2 [12] o1).bind fun p2 =>
    ((dcV L xs D 181 [13] o0 [va_rf p2] h).bind dxI).bind fun x4 =>
    b187_21 L xs zf D w o0 o1 o2 i3 i4 x4.1 x4.2
  else
    ((dcV L xs D 180 [13] o0 [va_rf o1] h).bind dxI).bind fun x8 =>
    b187_21 L xs zf D w o0 o1 o2 i3 i4 x8.1 x8.2
theorem c187_0 {L : Nat} {xs : Nat → Int32} {zf : Value} {D : dD} {w k : Nat} (hD : dO L xs zf D k) (hz : zf.category = 1) : ∀ (o0 : Option Nat) (o1 : Option Nat) (o2 : Option Nat) (i3 : Int32) (i4 : Int32) (lv : rm_L) (h : rm_H) (r : dR), rm_get lv 0 = some (va_rf o0) → rm_get lv 1 = some (va_rf o1) → rm_get lv 2 = some (va_rf o2) → rm_get lv 3 = some (.int i3) → rm_get lv 4 = some (.int i4) → b187_0 L xs zf D w  o0 o1 o2 i3 i4 h = some r → dq L xs zf ah_M187 0 lv [] h (k + 1) r := by
  intro o0 o1 o2 i3 i4 lv h r G0 G1 G2 G3 G4 hh
  unfold b187_0 at hh
  refine dq_il 4 2 (by decide +kernel) rfl G4 ?_
  rcases di hh with ⟨q1, hh⟩ | ⟨q1, hh⟩
  · refine dq_1 .eq 11 true 13 q1 (by decide +kernel) ?_
    refine dq_aln 0 14 (by decide +kernel) rfl G0 ?_
    refine dq_aln 1 15 (by decide +kernel) rfl G1 ?_
    obtain ⟨p2, q3, hh⟩ := db hh
    refine dq_gR 295 2 [12] 18 (by decide +kernel) rfl q3 ?_
    obtain ⟨x4, q5, hh⟩ := db hh
    obtain ⟨a6, q7, q5⟩ := db q5
    rw [dq_xI q5] at q7
    refine dq_cvi hD 190 181 5 1 [13] o0 [va_rf p2] [] 21 [.int x4.1] (by decide +kernel) ap_181 ⟨⟨Nat.le_of_ble_eq_true rfl, by decide⟩, rfl, rfl⟩ (dq_ok8 [1, 1] [] (dc_r (dc_r dc_n)) dc_n (by decide +kernel)) (by decide +kernel) rfl q7 rfl ?_
    exact c187_21 hD hz _ _ _ _ _ _ _ _ _ G0 G1 G2 G3 G4 hh
  · refine dq_1 .eq 11 false 5 q1 (by decide +kernel) ?_
    refine dq_aln 0 6 (by decide +kernel) rfl G0 ?_
    refine dq_aln 1 7 (by decide +kernel) rfl G1 ?_
    obtain ⟨x8, q9, hh⟩ := db hh
    obtain ⟨a10, q11, q9⟩ := db q9
    rw [dq_xI q9] at q11
    refine dq_cvi hD 288 180 5 1 [13] o0 [va_rf o1] [] 10 [.int x8.1] (by decide +kernel) ap_180 ⟨⟨Nat.le_of_ble_eq_true rfl, by decide⟩, rfl, rfl⟩ (dq_ok8 [1, 1] [] (dc_r (dc_r dc_n)) dc_n (by decide +kernel)) (by decide +kernel) rfl q11 rfl ?_
    refine dq_S (.goto 11) 3 [] 21 _ [.int x8.1] (by decide +kernel) rfl ?_
    exact c187_21 hD hz _ _ _ _ _ _ _ _ _ G0 G1 G2 G3 G4 hh
def f187 (L : Nat) (xs : Nat → Int32) (zf : Value) (D : dD) (w : Nat) (As : List Value) (h : rm_H) : Option dR := match As with
  | [v0, v1, v2, .int i3, .int i4] => (rm_rf v0).bind fun o0 => (rm_rf v1).bind fun o1 => (rm_rf v2).bind fun o2 => b187_0 L xs zf D w o0 o1 o2 i3 i4 h
  | _ => none
theorem d187 {L : Nat} {xs : Nat → Int32} {zf : Value} {D : dD} {w k : Nat} (hD : dO L xs zf D k) (hz : zf.category = 1) (As : List Value) (h : rm_H) (r : dR) (hh : f187 L xs zf D w As h = some r) : dq L xs zf ah_M187 0 (lv_args 0 As) [] h (k + 1) r := by
  unfold f187 at hh
  split at hh
  · obtain ⟨o0, e0, hb0⟩ := db hh
    have e0 := rm_rf_v _ _ e0
    obtain ⟨o1, e1, hb1⟩ := db hb0
    have e1 := rm_rf_v _ _ e1
    obtain ⟨o2, e2, hb2⟩ := db hb1
    have e2 := rm_rf_v _ _ e2
    subst e0 e1 e2
    refine c187_0 hD hz _ _ _ _ _ _ _ _ ?_ ?_ ?_ ?_ ?_ hb2
    all_goals (simp only [la_r, la_i, la_j]; rfl)
  · cases hh
def b188_112 (L : Nat) (xs : Nat → Int32) (zf : Value) (D : dD) (w : Nat) (h : rm_H) : Option dR :=
  some (none, h)
theorem c188_112 {L : Nat} {xs : Nat → Int32} {zf : Value} {D : dD} {w k : Nat} (hD : dO L xs zf D k) (hz : zf.category = 1) : ∀ (lv : rm_L) (h : rm_H) (r : dR), b188_112 L xs zf D w  h = some r → dq L xs zf ah_M188 112 lv [] h (k + 1) r := by
  intro lv h r hh
  unfold b188_112 at hh
  cases hh
  exact dq_ret0 (by decide +kernel) rfl
def b188_66 (L : Nat) (xs : Nat → Int32) (zf : Value) (D : dD) (w : Nat) (o0 : Option Nat) (o1 : Option Nat) (h : rm_H) : Option dR :=
  (dgI L xs h 1 [12] o1).bind fun x1 =>
  ((dcV L xs D 178 [13] o0 [.int 5, .int x1] h).bind dxV).bind fun h3 =>
  b188_112 L xs zf D w h3
theorem c188_66 {L : Nat} {xs : Nat → Int32} {zf : Value} {D : dD} {w k : Nat} (hD : dO L xs zf D k) (hz : zf.category = 1) : ∀ (o0 : Option Nat) (o1 : Option Nat) (lv : rm_L) (h : rm_H) (r : dR), rm_get lv 0 = some (va_rf o0) → rm_get lv 1 = some (va_rf o1) → b188_66 L xs zf D w  o0 o1 h = some r → dq L xs zf ah_M188 66 lv [] h (k + 1) r := by
  intro o0 o1 lv h r G0 G1 hh
  unfold b188_66 at hh
  refine dq_aln 0 67 (by decide +kernel) rfl G0 ?_
  refine dq_S (.iconst 5) 1 [] 68 _ [.int 5, va_rf o0] (by decide +kernel) rfl ?_
  refine dq_aln 1 69 (by decide +kernel) rfl G1 ?_
  obtain ⟨x1, q2, hh⟩ := db hh
  refine dq_gI 174 1 [12] 72 (by decide +kernel) rfl q2 ?_
  obtain ⟨h3, q4, hh⟩ := db hh
  obtain ⟨a5, q6, q4⟩ := db q4
  rw [dq_xV q4] at q6
  refine dq_cvi hD 140 178 5 2 [13] o0 [.int 5, .int x1] [] 75 [] (by decide +kernel) ap_178 ⟨⟨Nat.le_of_ble_eq_true rfl, by decide⟩, rfl, rfl⟩ (dq_ok8 [1, 1, 1] [] (dc_r (dc_i (dc_i dc_n))) dc_n (by decide +kernel)) (by decide +kernel) rfl q6 rfl ?_
  refine dq_S (.goto 37) 3 [] 112 _ [] (by decide +kernel) rfl ?_
  exact c188_112 hD hz  _ _ _  hh
def b188_78 (L : Nat) (xs : Nat → Int32) (zf : Value) (D : dD) (w : Nat) (o0 : Option Nat) (o1 : Option Nat) (i2 : Int32) (i3 : Int32) (i4 : Int32) (h : rm_H) : Option dR :=
  if mx_f2 .ne i4 5 = true then
    b188_112 L xs zf D w h
  else
    ((D 160 [.int i2] h).bind dxI).bind fun x2 =>
    ((D 160 [.int i3] x2.2).bind dxI).bind fun x6 =>
    ((D 190 [va_rf (some 1), .int x2.1, .int x6.1] x6.2).bind dxI).bind fun x10 =>
    if mx_f2 .eq x10.1 1 = true then
      b188_112 L xs zf D w x10.2
    else
      (dgI L xs x10.2 1 [12] o1).bind fun x15 =>
      ((dcV L xs D 178 [13] o0 [.int 6, .int x15] x10.2).bind dxV).bind fun h17 =>
      b188_112 L xs zf D w h17
theorem c188_78 {L : Nat} {xs : Nat → Int32} {zf : Value} {D : dD} {w k : Nat} (hD : dO L xs zf D k) (hz : zf.category = 1) : ∀ (o0 : Option Nat) (o1 : Option Nat) (i2 : Int32) (i3 : Int32) (i4 : Int32) (lv : rm_L) (h : rm_H) (r : dR), rm_get lv 0 = some (va_rf o0) → rm_get lv 1 = some (va_rf o1) → rm_get lv 2 = some (.int i2) → rm_get lv 3 = some (.int i3) → rm_get lv 4 = some (.int i4) → b188_78 L xs zf D w  o0 o1 i2 i3 i4 h = some r → dq L xs zf ah_M188 78 lv [] h (k + 1) r := by
  intro o0 o1 i2 i3 i4 lv h r G0 G1 G2 G3 G4 hh
  unfold b188_78 at hh
  refine dq_il 4 80 (by decide +kernel) rfl G4 ?_
  refine dq_S (.iconst 5) 1 [] 81 _ [.int 5, .int i4] (by decide +kernel) rfl ?_
  rcases di hh with ⟨q1, hh⟩ | ⟨q1, hh⟩
  · refine dq_2 .ne 31 true 112 q1 (by decide +kernel) ?_
    exact c188_112 hD hz  _ _ _  hh
  · refine dq_2 .ne 31 false 84 q1 (by decide +kernel) ?_
    refine dq_S (.getstatic 227) 3 [6] 87 _ [va_rf (some 1)] (by decide +kernel) rfl ?_
    refine dq_iln 2 88 (by decide +kernel) rfl G2 ?_
    obtain ⟨x2, q3, hh⟩ := db hh
    obtain ⟨a4, q5, q3⟩ := db q3
    rw [dq_xI q3] at q5
    refine dq_cst hD 224 160 1 1 [.int i2] [va_rf (some 1)] 91 [.int x2.1, va_rf (some 1)] (by decide +kernel) ap_160 ⟨⟨Nat.le_of_ble_eq_true rfl, by decide⟩, rfl, rfl⟩ (dq_ok8 [1] [1] (dc_i dc_n) (dc_r dc_n) (by decide +kernel)) (by decide +kernel) rfl q5 rfl ?_
    refine dq_iln 3 92 (by decide +kernel) rfl G3 ?_
    obtain ⟨x6, q7, hh⟩ := db hh
    obtain ⟨a8, q9, q7⟩ := db q7
    rw [dq_xI q7] at q9
    refine dq_cst hD 224 160 1 1 [.int i3] [.int x2.1, va_rf (some 1)] 95 [.int x6.1, .int x2.1, va_rf (some 1)] (by decide +kernel) ap_160 ⟨⟨Nat.le_of_ble_eq_true rfl, by decide⟩, rfl, rfl⟩ (dq_ok8 [1] [1, 1] (dc_i dc_n) (dc_i (dc_r dc_n)) (by decide +kernel)) (by decide +kernel) rfl q9 rfl ?_
    obtain ⟨x10, q11, hh⟩ := db hh
    obtain ⟨a12, q13, q11⟩ := db q11
    rw [dq_xI q11] at q13
    refine dq_cst hD 231 190 1 3 [va_rf (some 1), .int x2.1, .int x6.1] [] 98 [.int x10.1] (by decide +kernel) ap_190 ⟨⟨Nat.le_of_ble_eq_true rfl, by decide⟩, rfl, rfl⟩ (dq_ok8 [1, 1, 1] [] (dc_r (dc_i (dc_i dc_n))) dc_n (by decide +kernel)) (by decide +kernel) rfl q13 rfl ?_
    refine dq_S (.iconst 1) 1 [] 99 _ [.int 1, .int x10.1] (by decide +kernel) rfl ?_
    rcases di hh with ⟨q14, hh⟩ | ⟨q14, hh⟩
    · refine dq_2 .eq 13 true 112 q14 (by decide +kernel) ?_
      exact c188_112 hD hz  _ _ _  hh
    · refine dq_2 .eq 13 false 102 q14 (by decide +kernel) ?_
      refine dq_aln 0 103 (by decide +kernel) rfl G0 ?_
      refine dq_S (.bipush 6) 2 [] 105 _ [.int 6, va_rf o0] (by decide +kernel) rfl ?_
      refine dq_aln 1 106 (by decide +kernel) rfl G1 ?_
      obtain ⟨x15, q16, hh⟩ := db hh
      refine dq_gI 174 1 [12] 109 (by decide +kernel) rfl q16 ?_
      obtain ⟨h17, q18, hh⟩ := db hh
      obtain ⟨a19, q20, q18⟩ := db q18
      rw [dq_xV q18] at q20
      refine dq_cvi hD 140 178 5 2 [13] o0 [.int 6, .int x15] [] 112 [] (by decide +kernel) ap_178 ⟨⟨Nat.le_of_ble_eq_true rfl, by decide⟩, rfl, rfl⟩ (dq_ok8 [1, 1, 1] [] (dc_r (dc_i (dc_i dc_n))) dc_n (by decide +kernel)) (by decide +kernel) rfl q20 rfl ?_
      exact c188_112 hD hz  _ _ _  hh
def b188_0 (L : Nat) (xs : Nat → Int32) (zf : Value) (D : dD) (w : Nat) (o0 : Option Nat) (o1 : Option Nat) (i2 : Int32) (i3 : Int32) (h : rm_H) : Option dR :=
  ((D 159 [.int i2] h).bind dxI).bind fun x1 =>
  ((D 159 [.int i3] x1.2).bind dxI).bind fun x10 =>
  if mx_f2 .ne x1.1 2 = true then
    if mx_f2 .ne x1.1 x10.1 = true then
      b188_66 L xs zf D w o0 o1 x10.2
    else
      if mx_f2 .eq x1.1 1 = true then
        b188_78 L xs zf D w o0 o1 i2 i3 x1.1 x10.2
      else
        ((D 189 [.int i2] x10.2).bind dxI).bind fun x23 =>
        ((D 189 [.int i3] x23.2).bind dxI).bind fun x27 =>
        if mx_f2 .eq x23.1 x27.1 = true then
          b188_78 L xs zf D w o0 o1 i2 i3 x1.1 x27.2
        else
          b188_66 L xs zf D w o0 o1 x27.2
  else
    if mx_f2 .eq x10.1 5 = true then
      b188_112 L xs zf D w x10.2
    else
      if mx_f2 .eq x10.1 3 = true then
        b188_112 L xs zf D w x10.2
      else
        (dgI L xs x10.2 1 [12] o1).bind fun x34 =>
        ((dcV L xs D 178 [13] o0 [.int 5, .int x34] x10.2).bind dxV).bind fun h36 =>
        b188_112 L xs zf D w h36
theorem c188_0 {L : Nat} {xs : Nat → Int32} {zf : Value} {D : dD} {w k : Nat} (hD : dO L xs zf D k) (hz : zf.category = 1) : ∀ (o0 : Option Nat) (o1 : Option Nat) (i2 : Int32) (i3 : Int32) (lv : rm_L) (h : rm_H) (r : dR), rm_get lv 0 = some (va_rf o0) → rm_get lv 1 = some (va_rf o1) → rm_get lv 2 = some (.int i2) → rm_get lv 3 = some (.int i3) → b188_0 L xs zf D w  o0 o1 i2 i3 h = some r → dq L xs zf ah_M188 0 lv [] h (k + 1) r := by
  intro o0 o1 i2 i3 lv h r G0 G1 G2 G3 hh
  unfold b188_0 at hh
  refine dq_iln 2 1 (by decide +kernel) rfl G2 ?_
  obtain ⟨x1, q2, hh⟩ := db hh
  obtain ⟨a3, q4, q2⟩ := db q2
  rw [dq_xI q2] at q4
  refine dq_cst hD 209 159 1 1 [.int i2] [] 4 [.int x1.1] (by decide +kernel) ap_159 ⟨⟨Nat.le_of_ble_eq_true rfl, by decide⟩, rfl, rfl⟩ (dq_ok8 [1] [] (dc_i dc_n) dc_n (by decide +kernel)) (by decide +kernel) rfl q4 rfl ?_
  refine dq_is 4 6 (by decide +kernel) (by decide +kernel) ?_
  have g5 := dg_ne (i := 4) (u := .int x1.1) (by decide) (Or.inl (by decide)) G0
  have g6 := dg_ne (i := 4) (u := .int x1.1) (by decide) (Or.inl (by decide)) G1
  have g7 := dg_ne (i := 4) (u := .int x1.1) (by decide) (Or.inl (by decide)) G2
  have g8 := dg_ne (i := 4) (u := .int x1.1) (by decide) (Or.inr rfl) G3
  have g9 := dg_eq (lv) 4 (.int x1.1)
  refine dq_iln 3 7 (by decide +kernel) rfl g8 ?_
  obtain ⟨x10, q11, hh⟩ := db hh
  obtain ⟨a12, q13, q11⟩ := db q11
  rw [dq_xI q11] at q13
  refine dq_cst hD 209 159 1 1 [.int i3] [] 10 [.int x10.1] (by decide +kernel) ap_159 ⟨⟨Nat.le_of_ble_eq_true rfl, by decide⟩, rfl, rfl⟩ (dq_ok8 [1] [] (dc_i dc_n) dc_n (by decide +kernel)) (by decide +kernel) rfl q13 rfl ?_
  refine dq_is 5 12 (by decide +kernel) (by decide +kernel) ?_
  have g14 := dg_ne (i := 5) (u := .int x10.1) (by decide) (Or.inl (by decide)) g5
  have g15 := dg_ne (i := 5) (u := .int x10.1) (by decide) (Or.inl (by decide)) g6
  have g16 := dg_ne (i := 5) (u := .int x10.1) (by decide) (Or.inl (by decide)) g7
  have g17 := dg_ne (i := 5) (u := .int x10.1) (by decide) (Or.inl (by decide)) g8
  have g18 := dg_ne (i := 5) (u := .int x10.1) (by decide) (Or.inr rfl) g9
  have g19 := dg_eq (rm_set1 (lv) 4 (.int x1.1)) 5 (.int x10.1)
  refine dq_il 4 14 (by decide +kernel) rfl g18 ?_
  refine dq_S (.iconst 2) 1 [] 15 _ [.int 2, .int x1.1] (by decide +kernel) rfl ?_
  rcases di hh with ⟨q20, hh⟩ | ⟨q20, hh⟩
  · refine dq_2 .ne 27 true 42 q20 (by decide +kernel) ?_
    refine dq_il 4 44 (by decide +kernel) rfl g18 ?_
    refine dq_il 5 46 (by decide +kernel) rfl g19 ?_
    rcases di hh with ⟨q21, hh⟩ | ⟨q21, hh⟩
    · refine dq_2 .ne 20 true 66 q21 (by decide +kernel) ?_
      exact c188_66 hD hz _ _ _ _ _ g14 g15 hh
    · refine dq_2 .ne 20 false 49 q21 (by decide +kernel) ?_
      refine dq_il 4 51 (by decide +kernel) rfl g18 ?_
      refine dq_S (.iconst 1) 1 [] 52 _ [.int 1, .int x1.1] (by decide +kernel) rfl ?_
      rcases di hh with ⟨q22, hh⟩ | ⟨q22, hh⟩
      · refine dq_2 .eq 26 true 78 q22 (by decide +kernel) ?_
        exact c188_78 hD hz _ _ _ _ _ _ _ _ g14 g15 g16 g17 g18 hh
      · refine dq_2 .eq 26 false 55 q22 (by decide +kernel) ?_
        refine dq_iln 2 56 (by decide +kernel) rfl g16 ?_
        obtain ⟨x23, q24, hh⟩ := db hh
        obtain ⟨a25, q26, q24⟩ := db q24
        rw [dq_xI q24] at q26
        refine dq_cst hD 213 189 1 1 [.int i2] [] 59 [.int x23.1] (by decide +kernel) ap_189 ⟨⟨Nat.le_of_ble_eq_true rfl, by decide⟩, rfl, rfl⟩ (dq_ok8 [1] [] (dc_i dc_n) dc_n (by decide +kernel)) (by decide +kernel) rfl q26 rfl ?_
        refine dq_iln 3 60 (by decide +kernel) rfl g17 ?_
        obtain ⟨x27, q28, hh⟩ := db hh
        obtain ⟨a29, q30, q28⟩ := db q28
        rw [dq_xI q28] at q30
        refine dq_cst hD 213 189 1 1 [.int i3] [.int x23.1] 63 [.int x27.1, .int x23.1] (by decide +kernel) ap_189 ⟨⟨Nat.le_of_ble_eq_true rfl, by decide⟩, rfl, rfl⟩ (dq_ok8 [1] [1] (dc_i dc_n) (dc_i dc_n) (by decide +kernel)) (by decide +kernel) rfl q30 rfl ?_
        rcases di hh with ⟨q31, hh⟩ | ⟨q31, hh⟩
        · refine dq_2 .eq 15 true 78 q31 (by decide +kernel) ?_
          exact c188_78 hD hz _ _ _ _ _ _ _ _ g14 g15 g16 g17 g18 hh
        · refine dq_2 .eq 15 false 66 q31 (by decide +kernel) ?_
          exact c188_66 hD hz _ _ _ _ _ g14 g15 hh
  · refine dq_2 .ne 27 false 18 q20 (by decide +kernel) ?_
    refine dq_il 5 20 (by decide +kernel) rfl g19 ?_
    refine dq_S (.iconst 5) 1 [] 21 _ [.int 5, .int x10.1] (by decide +kernel) rfl ?_
    rcases di hh with ⟨q32, hh⟩ | ⟨q32, hh⟩
    · refine dq_2 .eq 91 true 112 q32 (by decide +kernel) ?_
      exact c188_112 hD hz  _ _ _  hh
    · refine dq_2 .eq 91 false 24 q32 (by decide +kernel) ?_
      refine dq_il 5 26 (by decide +kernel) rfl g19 ?_
      refine dq_S (.iconst 3) 1 [] 27 _ [.int 3, .int x10.1] (by decide +kernel) rfl ?_
      rcases di hh with ⟨q33, hh⟩ | ⟨q33, hh⟩
      · refine dq_2 .eq 85 true 112 q33 (by decide +kernel) ?_
        exact c188_112 hD hz  _ _ _  hh
      · refine dq_2 .eq 85 false 30 q33 (by decide +kernel) ?_
        refine dq_aln 0 31 (by decide +kernel) rfl g14 ?_
        refine dq_S (.iconst 5) 1 [] 32 _ [.int 5, va_rf o0] (by decide +kernel) rfl ?_
        refine dq_aln 1 33 (by decide +kernel) rfl g15 ?_
        obtain ⟨x34, q35, hh⟩ := db hh
        refine dq_gI 174 1 [12] 36 (by decide +kernel) rfl q35 ?_
        obtain ⟨h36, q37, hh⟩ := db hh
        obtain ⟨a38, q39, q37⟩ := db q37
        rw [dq_xV q37] at q39
        refine dq_cvi hD 140 178 5 2 [13] o0 [.int 5, .int x34] [] 39 [] (by decide +kernel) ap_178 ⟨⟨Nat.le_of_ble_eq_true rfl, by decide⟩, rfl, rfl⟩ (dq_ok8 [1, 1, 1] [] (dc_r (dc_i (dc_i dc_n))) dc_n (by decide +kernel)) (by decide +kernel) rfl q39 rfl ?_
        refine dq_S (.goto 73) 3 [] 112 _ [] (by decide +kernel) rfl ?_
        exact c188_112 hD hz  _ _ _  hh
def f188 (L : Nat) (xs : Nat → Int32) (zf : Value) (D : dD) (w : Nat) (As : List Value) (h : rm_H) : Option dR := match As with
  | [v0, v1, .int i2, .int i3] => (rm_rf v0).bind fun o0 => (rm_rf v1).bind fun o1 => b188_0 L xs zf D w o0 o1 i2 i3 h
  | _ => none
theorem d188 {L : Nat} {xs : Nat → Int32} {zf : Value} {D : dD} {w k : Nat} (hD : dO L xs zf D k) (hz : zf.category = 1) (As : List Value) (h : rm_H) (r : dR) (hh : f188 L xs zf D w As h = some r) : dq L xs zf ah_M188 0 (lv_args 0 As) [] h (k + 1) r := by
  unfold f188 at hh
  split at hh
  · obtain ⟨o0, e0, hb0⟩ := db hh
    have e0 := rm_rf_v _ _ e0
    obtain ⟨o1, e1, hb1⟩ := db hb0
    have e1 := rm_rf_v _ _ e1
    subst e0 e1
    refine c188_0 hD hz _ _ _ _ _ _ _ ?_ ?_ ?_ ?_ hb1
    all_goals (simp only [la_r, la_i, la_j]; rfl)
  · cases hh
def b189_0 (L : Nat) (xs : Nat → Int32) (zf : Value) (D : dD) (w : Nat) (i0 : Int32) (h : rm_H) : Option dR :=
  drI (some .int) ((i0 >>> ((4 : Int32) &&& 31)) &&& 15) h
theorem c189_0 {L : Nat} {xs : Nat → Int32} {zf : Value} {D : dD} {w k : Nat} (hD : dO L xs zf D k) (hz : zf.category = 1) : ∀ (i0 : Int32) (lv : rm_L) (h : rm_H) (r : dR), rm_get lv 0 = some (.int i0) → b189_0 L xs zf D w  i0 h = some r → dq L xs zf ah_M189 0 lv [] h (k + 1) r := by
  intro i0 lv h r G0 hh
  unfold b189_0 at hh
  refine dq_iln 0 1 (by decide +kernel) rfl G0 ?_
  refine dq_S (.iconst 4) 1 [] 2 _ [.int 4, .int i0] (by decide +kernel) rfl ?_
  refine dq_S (.ishr) 1 [] 3 _ [.int (i0 >>> ((4 : Int32) &&& 31))] (by decide +kernel) rfl ?_
  refine dq_S (.bipush 15) 2 [] 5 _ [.int 15, .int (i0 >>> ((4 : Int32) &&& 31))] (by decide +kernel) rfl ?_
  refine dq_S (.iand) 1 [] 6 _ [.int ((i0 >>> ((4 : Int32) &&& 31)) &&& 15)] (by decide +kernel) rfl ?_
  exact dq_retI (some .int) (by decide +kernel) rfl hh
def f189 (L : Nat) (xs : Nat → Int32) (zf : Value) (D : dD) (w : Nat) (As : List Value) (h : rm_H) : Option dR := match As with
  | [.int i0] => b189_0 L xs zf D w i0 h
  | _ => none
theorem d189 {L : Nat} {xs : Nat → Int32} {zf : Value} {D : dD} {w k : Nat} (hD : dO L xs zf D k) (hz : zf.category = 1) (As : List Value) (h : rm_H) (r : dR) (hh : f189 L xs zf D w As h = some r) : dq L xs zf ah_M189 0 (lv_args 0 As) [] h (k + 1) r := by
  unfold f189 at hh
  split at hh
  · refine c189_0 hD hz _ _ _ _ ?_ hh
    all_goals (simp only [la_r, la_i, la_j]; rfl)
  · cases hh
def b190_18 (L : Nat) (xs : Nat → Int32) (zf : Value) (D : dD) (w : Nat) (h : rm_H) : Option dR :=
  drI (some .int) (-1) h
theorem c190_18 {L : Nat} {xs : Nat → Int32} {zf : Value} {D : dD} {w k : Nat} (hD : dO L xs zf D k) (hz : zf.category = 1) : ∀ (lv : rm_L) (h : rm_H) (r : dR), b190_18 L xs zf D w  h = some r → dq L xs zf ah_M190 18 lv [] h (k + 1) r := by
  intro lv h r hh
  unfold b190_18 at hh
  refine dq_S (.iconst (-1)) 1 [] 19 _ [.int (-1)] (by decide +kernel) rfl ?_
  exact dq_retI (some .int) (by decide +kernel) rfl hh
def b190_0 (L : Nat) (xs : Nat → Int32) (zf : Value) (D : dD) (w : Nat) (o0 : Option Nat) (i1 : Int32) (i2 : Int32) (h : rm_H) : Option dR :=
  if mx_f1 .lt i1 = true then
    b190_18 L xs zf D w h
  else
    if mx_f2 .ge i1 5 = true then
      b190_18 L xs zf D w h
    else
      if mx_f1 .lt i2 = true then
        b190_18 L xs zf D w h
      else
        if mx_f2 .lt i2 5 = true then
          (daI L xs h o0 ((i1 * 5) + i2)).bind fun x5 =>
          drI (some .int) x5 h
        else
          b190_18 L xs zf D w h
theorem c190_0 {L : Nat} {xs : Nat → Int32} {zf : Value} {D : dD} {w k : Nat} (hD : dO L xs zf D k) (hz : zf.category = 1) : ∀ (o0 : Option Nat) (i1 : Int32) (i2 : Int32) (lv : rm_L) (h : rm_H) (r : dR), rm_get lv 0 = some (va_rf o0) → rm_get lv 1 = some (.int i1) → rm_get lv 2 = some (.int i2) → b190_0 L xs zf D w  o0 i1 i2 h = some r → dq L xs zf ah_M190 0 lv [] h (k + 1) r := by
  intro o0 i1 i2 lv h r G0 G1 G2 hh
  unfold b190_0 at hh
  refine dq_iln 1 1 (by decide +kernel) rfl G1 ?_
  rcases di hh with ⟨q1, hh⟩ | ⟨q1, hh⟩
  · refine dq_1 .lt 17 true 18 q1 (by decide +kernel) ?_
    exact c190_18 hD hz  _ _ _  hh
  · refine dq_1 .lt 17 false 4 q1 (by decide +kernel) ?_
    refine dq_iln 1 5 (by decide +kernel) rfl G1 ?_
    refine dq_S (.iconst 5) 1 [] 6 _ [.int 5, .int i1] (by decide +kernel) rfl ?_
    rcases di hh with ⟨q2, hh⟩ | ⟨q2, hh⟩
    · refine dq_2 .ge 12 true 18 q2 (by decide +kernel) ?_
      exact c190_18 hD hz  _ _ _  hh
    · refine dq_2 .ge 12 false 9 q2 (by decide +kernel) ?_
      refine dq_iln 2 10 (by decide +kernel) rfl G2 ?_
      rcases di hh with ⟨q3, hh⟩ | ⟨q3, hh⟩
      · refine dq_1 .lt 8 true 18 q3 (by decide +kernel) ?_
        exact c190_18 hD hz  _ _ _  hh
      · refine dq_1 .lt 8 false 13 q3 (by decide +kernel) ?_
        refine dq_iln 2 14 (by decide +kernel) rfl G2 ?_
        refine dq_S (.iconst 5) 1 [] 15 _ [.int 5, .int i2] (by decide +kernel) rfl ?_
        rcases di hh with ⟨q4, hh⟩ | ⟨q4, hh⟩
        · refine dq_2 .lt 5 true 20 q4 (by decide +kernel) ?_
          refine dq_aln 0 21 (by decide +kernel) rfl G0 ?_
          refine dq_iln 1 22 (by decide +kernel) rfl G1 ?_
          refine dq_S (.iconst 5) 1 [] 23 _ [.int 5, .int i1, va_rf o0] (by decide +kernel) rfl ?_
          refine dq_S (.imul) 1 [] 24 _ [.int (i1 * 5), va_rf o0] (by decide +kernel) rfl ?_
          refine dq_iln 2 25 (by decide +kernel) rfl G2 ?_
          refine dq_S (.iadd) 1 [] 26 _ [.int ((i1 * 5) + i2), va_rf o0] (by decide +kernel) rfl ?_
          obtain ⟨x5, q6, hh⟩ := db hh
          refine dq_aI 27 (by decide +kernel) rfl q6 ?_
          exact dq_retI (some .int) (by decide +kernel) rfl hh
        · refine dq_2 .lt 5 false 18 q4 (by decide +kernel) ?_
          exact c190_18 hD hz  _ _ _  hh
def f190 (L : Nat) (xs : Nat → Int32) (zf : Value) (D : dD) (w : Nat) (As : List Value) (h : rm_H) : Option dR := match As with
  | [v0, .int i1, .int i2] => (rm_rf v0).bind fun o0 => b190_0 L xs zf D w o0 i1 i2 h
  | _ => none
theorem d190 {L : Nat} {xs : Nat → Int32} {zf : Value} {D : dD} {w k : Nat} (hD : dO L xs zf D k) (hz : zf.category = 1) (As : List Value) (h : rm_H) (r : dR) (hh : f190 L xs zf D w As h = some r) : dq L xs zf ah_M190 0 (lv_args 0 As) [] h (k + 1) r := by
  unfold f190 at hh
  split at hh
  · obtain ⟨o0, e0, hb0⟩ := db hh
    have e0 := rm_rf_v _ _ e0
    subst e0
    refine c190_0 hD hz _ _ _ _ _ _ ?_ ?_ ?_ hb0
    all_goals (simp only [la_r, la_i, la_j]; rfl)
  · cases hh
def b191_164 (L : Nat) (xs : Nat → Int32) (zf : Value) (D : dD) (w : Nat) (h : rm_H) : Option dR :=
  drI (some .int) 2 h
theorem c191_164 {L : Nat} {xs : Nat → Int32} {zf : Value} {D : dD} {w k : Nat} (hD : dO L xs zf D k) (hz : zf.category = 1) : ∀ (lv : rm_L) (h : rm_H) (r : dR), b191_164 L xs zf D w  h = some r → dq L xs zf ah_M191 164 lv [] h (k + 1) r := by
  intro lv h r hh
  unfold b191_164 at hh
  refine dq_S (.iconst 2) 1 [] 165 _ [.int 2] (by decide +kernel) rfl ?_
  exact dq_retI (some .int) (by decide +kernel) rfl hh
def b191_116 (L : Nat) (xs : Nat → Int32) (zf : Value) (D : dD) (w : Nat) (o0 : Option Nat) (o1 : Option Nat) (i4 : Int32) (i5 : Int32) (o6 : Option Nat) (i7 : Int32) (s0 : Int32) (s1 : Option Nat) (h : rm_H) : Option dR :=
  ((dcV L xs D 196 [13] o0 [.int i5, va_rf o6] h).bind dxI).bind fun x1 =>
  ((dcV L xs D 175 [4] s1 [.int s0, .int x1.1] x1.2).bind dxI).bind fun x5 =>
  (dgI L xs x5.2 7 [10] o6).bind fun x9 =>
  ((D 197 [va_rf (some 3), .int i7, .int x9] x5.2).bind dxI).bind fun x11 =>
  if mx_f2 .ne x11.1 (-1) = true then
    drI (some .int) x11.1 x11.2
  else
    if mx_f1 .eq i4 = true then
      b191_164 L xs zf D w x11.2
    else
      (dgI L xs x11.2 3 [12] o1).bind fun x24 =>
      ((dcV L xs D 178 [13] o0 [.int 6, .int x24] x11.2).bind dxV).bind fun h26 =>
      b191_164 L xs zf D w h26
theorem c191_116 {L : Nat} {xs : Nat → Int32} {zf : Value} {D : dD} {w k : Nat} (hD : dO L xs zf D k) (hz : zf.category = 1) : ∀ (o0 : Option Nat) (o1 : Option Nat) (i4 : Int32) (i5 : Int32) (o6 : Option Nat) (i7 : Int32) (s0 : Int32) (s1 : Option Nat) (lv : rm_L) (h : rm_H) (r : dR), rm_get lv 0 = some (va_rf o0) → rm_get lv 1 = some (va_rf o1) → rm_get lv 4 = some (.int i4) → rm_get lv 5 = some (.int i5) → rm_get lv 6 = some (va_rf o6) → rm_get lv 7 = some (.int i7) → b191_116 L xs zf D w  o0 o1 i4 i5 o6 i7 s0 s1 h = some r → dq L xs zf ah_M191 116 lv [.int s0, va_rf s1] h (k + 1) r := by
  intro o0 o1 i4 i5 o6 i7 s0 s1 lv h r G0 G1 G4 G5 G6 G7 hh
  unfold b191_116 at hh
  refine dq_aln 0 117 (by decide +kernel) rfl G0 ?_
  refine dq_il 5 119 (by decide +kernel) rfl G5 ?_
  refine dq_al 6 121 (by decide +kernel) rfl G6 ?_
  obtain ⟨x1, q2, hh⟩ := db hh
  obtain ⟨a3, q4, q2⟩ := db q2
  rw [dq_xI q2] at q4
  refine dq_cvi hD 310 196 5 2 [13] o0 [.int i5, va_rf o6] [.int s0, va_rf s1] 124 [.int x1.1, .int s0, va_rf s1] (by decide +kernel) ap_196 ⟨⟨Nat.le_of_ble_eq_true rfl, by decide⟩, rfl, rfl⟩ (dq_ok8 [1, 1, 1] [1, 1] (dc_r (dc_i (dc_r dc_n))) (dc_i (dc_r dc_n)) (by decide +kernel)) (by decide +kernel) rfl q4 rfl ?_
  obtain ⟨x5, q6, hh⟩ := db hh
  obtain ⟨a7, q8, q6⟩ := db q6
  rw [dq_xI q6] at q8
  refine dq_cvi hD 104 175 5 2 [4] s1 [.int s0, .int x1.1] [] 127 [.int x5.1] (by decide +kernel) ap_175 ⟨⟨Nat.le_of_ble_eq_true rfl, by decide⟩, rfl, rfl⟩ (dq_ok8 [1, 1, 1] [] (dc_r (dc_i (dc_i dc_n))) dc_n (by decide +kernel)) (by decide +kernel) rfl q8 rfl ?_
  refine dq_S (.pop) 1 [] 128 _ [] (by decide +kernel) rfl ?_
  refine dq_S (.getstatic 360) 3 [8] 131 _ [va_rf (some 3)] (by decide +kernel) rfl ?_
  refine dq_il 7 133 (by decide +kernel) rfl G7 ?_
  refine dq_al 6 135 (by decide +kernel) rfl G6 ?_
  obtain ⟨x9, q10, hh⟩ := db hh
  refine dq_gI 180 7 [10] 138 (by decide +kernel) rfl q10 ?_
  obtain ⟨x11, q12, hh⟩ := db hh
  obtain ⟨a13, q14, q12⟩ := db q12
  rw [dq_xI q12] at q14
  refine dq_cst hD 307 197 1 3 [va_rf (some 3), .int i7, .int x9] [] 141 [.int x11.1] (by decide +kernel) ap_197 ⟨⟨Nat.le_of_ble_eq_true rfl, by decide⟩, rfl, rfl⟩ (dq_ok8 [1, 1, 1] [] (dc_r (dc_i (dc_i dc_n))) dc_n (by decide +kernel)) (by decide +kernel) rfl q14 rfl ?_
  refine dq_is 8 143 (by decide +kernel) (by decide +kernel) ?_
  have g15 := dg_ne (i := 8) (u := .int x11.1) (by decide) (Or.inl (by decide)) G0
  have g16 := dg_ne (i := 8) (u := .int x11.1) (by decide) (Or.inl (by decide)) G1
  have g17 := dg_ne (i := 8) (u := .int x11.1) (by decide) (Or.inl (by decide)) G4
  have g18 := dg_ne (i := 8) (u := .int x11.1) (by decide) (Or.inl (by decide)) G5
  have g19 := dg_ne (i := 8) (u := .int x11.1) (by decide) (Or.inl (by decide)) G6
  have g20 := dg_ne (i := 8) (u := .int x11.1) (by decide) (Or.inr rfl) G7
  have g21 := dg_eq (lv) 8 (.int x11.1)
  refine dq_il 8 145 (by decide +kernel) rfl g21 ?_
  refine dq_S (.iconst (-1)) 1 [] 146 _ [.int (-1), .int x11.1] (by decide +kernel) rfl ?_
  rcases di hh with ⟨q22, hh⟩ | ⟨q22, hh⟩
  · refine dq_2 .ne 20 true 166 q22 (by decide +kernel) ?_
    refine dq_il 8 168 (by decide +kernel) rfl g21 ?_
    exact dq_retI (some .int) (by decide +kernel) rfl hh
  · refine dq_2 .ne 20 false 149 q22 (by decide +kernel) ?_
    refine dq_il 4 151 (by decide +kernel) rfl g17 ?_
    rcases di hh with ⟨q23, hh⟩ | ⟨q23, hh⟩
    · refine dq_1 .eq 13 true 164 q23 (by decide +kernel) ?_
      exact c191_164 hD hz  _ _ _  hh
    · refine dq_1 .eq 13 false 154 q23 (by decide +kernel) ?_
      refine dq_aln 0 155 (by decide +kernel) rfl g15 ?_
      refine dq_S (.bipush 6) 2 [] 157 _ [.int 6, va_rf o0] (by decide +kernel) rfl ?_
      refine dq_aln 1 158 (by decide +kernel) rfl g16 ?_
      obtain ⟨x24, q25, hh⟩ := db hh
      refine dq_gI 137 3 [12] 161 (by decide +kernel) rfl q25 ?_
      obtain ⟨h26, q27, hh⟩ := db hh
      obtain ⟨a28, q29, q27⟩ := db q27
      rw [dq_xV q27] at q29
      refine dq_cvi hD 140 178 5 2 [13] o0 [.int 6, .int x24] [] 164 [] (by decide +kernel) ap_178 ⟨⟨Nat.le_of_ble_eq_true rfl, by decide⟩, rfl, rfl⟩ (dq_ok8 [1, 1, 1] [] (dc_r (dc_i (dc_i dc_n))) dc_n (by decide +kernel)) (by decide +kernel) rfl q29 rfl ?_
      exact c191_164 hD hz  _ _ _  hh
def b191_100 (L : Nat) (xs : Nat → Int32) (zf : Value) (D : dD) (w : Nat) (o0 : Option Nat) (o1 : Option Nat) (i4 : Int32) (i5 : Int32) (o6 : Option Nat) (i7 : Int32) (h : rm_H) : Option dR :=
  (dgR L xs h 0 [13] o0).bind fun p1 =>
  if mx_f1 .eq i4 = true then
    b191_116 L xs zf D w o0 o1 i4 i5 o6 i7 12 p1 h
  else
    b191_116 L xs zf D w o0 o1 i4 i5 o6 i7 10 p1 h
theorem c191_100 {L : Nat} {xs : Nat → Int32} {zf : Value} {D : dD} {w k : Nat} (hD : dO L xs zf D k) (hz : zf.category = 1) : ∀ (o0 : Option Nat) (o1 : Option Nat) (i4 : Int32) (i5 : Int32) (o6 : Option Nat) (i7 : Int32) (lv : rm_L) (h : rm_H) (r : dR), rm_get lv 0 = some (va_rf o0) → rm_get lv 1 = some (va_rf o1) → rm_get lv 4 = some (.int i4) → rm_get lv 5 = some (.int i5) → rm_get lv 6 = some (va_rf o6) → rm_get lv 7 = some (.int i7) → b191_100 L xs zf D w  o0 o1 i4 i5 o6 i7 h = some r → dq L xs zf ah_M191 100 lv [] h (k + 1) r := by
  intro o0 o1 i4 i5 o6 i7 lv h r G0 G1 G4 G5 G6 G7 hh
  unfold b191_100 at hh
  refine dq_aln 0 101 (by decide +kernel) rfl G0 ?_
  obtain ⟨p1, q2, hh⟩ := db hh
  refine dq_gR 9 0 [13] 104 (by decide +kernel) rfl q2 ?_
  refine dq_il 4 106 (by decide +kernel) rfl G4 ?_
  rcases di hh with ⟨q3, hh⟩ | ⟨q3, hh⟩
  · refine dq_1 .eq 8 true 114 q3 (by decide +kernel) ?_
    refine dq_S (.bipush 12) 2 [] 116 _ [.int 12, va_rf p1] (by decide +kernel) rfl ?_
    exact c191_116 hD hz _ _ _ _ _ _ _ _ _ _ _ G0 G1 G4 G5 G6 G7 hh
  · refine dq_1 .eq 8 false 109 q3 (by decide +kernel) ?_
    refine dq_S (.bipush 10) 2 [] 111 _ [.int 10, va_rf p1] (by decide +kernel) rfl ?_
    refine dq_S (.goto 5) 3 [] 116 _ [.int 10, va_rf p1] (by decide +kernel) rfl ?_
    exact c191_116 hD hz _ _ _ _ _ _ _ _ _ _ _ G0 G1 G4 G5 G6 G7 hh
def b191_55 (L : Nat) (xs : Nat → Int32) (zf : Value) (D : dD) (w : Nat) (o0 : Option Nat) (o1 : Option Nat) (o2 : Option Nat) (i3 : Int32) (i4 : Int32) (i5 : Int32) (o6 : Option Nat) (i7 : Int32) (h : rm_H) : Option dR :=
  (dgI L xs h 7 [10] o6).bind fun x1 =>
  ((dcV L xs D 188 [13] o0 [va_rf o2, .int i3, .int x1] h).bind dxV).bind fun h3 =>
  ((D 159 [.int i3] h3).bind dxI).bind fun x7 =>
  if mx_f2 .ne x7.1 5 = true then
    b191_100 L xs zf D w o0 o1 i4 i5 o6 i7 x7.2
  else
    ((D 160 [.int i3] x7.2).bind dxI).bind fun x12 =>
    ((D 190 [va_rf (some 2), .int i7, .int x12.1] x12.2).bind dxI).bind fun x16 =>
    if mx_f2 .eq x16.1 1 = true then
      b191_100 L xs zf D w o0 o1 i4 i5 o6 i7 x16.2
    else
      (dgI L xs x16.2 1 [12] o2).bind fun x21 =>
      ((dcV L xs D 178 [13] o0 [.int 6, .int x21] x16.2).bind dxV).bind fun h23 =>
      b191_100 L xs zf D w o0 o1 i4 i5 o6 i7 h23
theorem c191_55 {L : Nat} {xs : Nat → Int32} {zf : Value} {D : dD} {w k : Nat} (hD : dO L xs zf D k) (hz : zf.category = 1) : ∀ (o0 : Option Nat) (o1 : Option Nat) (o2 : Option Nat) (i3 : Int32) (i4 : Int32) (i5 : Int32) (o6 : Option Nat) (i7 : Int32) (lv : rm_L) (h : rm_H) (r : dR), rm_get lv 0 = some (va_rf o0) → rm_get lv 1 = some (va_rf o1) → rm_get lv 2 = some (va_rf o2) → rm_get lv 3 = some (.int i3) → rm_get lv 4 = some (.int i4) → rm_get lv 5 = some (.int i5) → rm_get lv 6 = some (va_rf o6) → rm_get lv 7 = some (.int i7) → b191_55 L xs zf D w  o0 o1 o2 i3 i4 i5 o6 i7 h = some r → dq L xs zf ah_M191 55 lv [] h (k + 1) r := by
  intro o0 o1 o2 i3 i4 i5 o6 i7 lv h r G0 G1 G2 G3 G4 G5 G6 G7 hh
  unfold b191_55 at hh
  refine dq_aln 0 56 (by decide +kernel) rfl G0 ?_
  refine dq_aln 2 57 (by decide +kernel) rfl G2 ?_
  refine dq_iln 3 58 (by decide +kernel) rfl G3 ?_
  refine dq_al 6 60 (by decide +kernel) rfl G6 ?_
  obtain ⟨x1, q2, hh⟩ := db hh
  refine dq_gI 180 7 [10] 63 (by decide +kernel) rfl q2 ?_
  obtain ⟨h3, q4, hh⟩ := db hh
  obtain ⟨a5, q6, q4⟩ := db q4
  rw [dq_xV q4] at q6
  refine dq_cvi hD 183 188 5 3 [13] o0 [va_rf o2, .int i3, .int x1] [] 66 [] (by decide +kernel) ap_188 ⟨⟨Nat.le_of_ble_eq_true rfl, by decide⟩, rfl, rfl⟩ (dq_ok8 [1, 1, 1, 1] [] (dc_r (dc_r (dc_i (dc_i dc_n)))) dc_n (by decide +kernel)) (by decide +kernel) rfl q6 rfl ?_
  refine dq_iln 3 67 (by decide +kernel) rfl G3 ?_
  obtain ⟨x7, q8, hh⟩ := db hh
  obtain ⟨a9, q10, q8⟩ := db q8
  rw [dq_xI q8] at q10
  refine dq_cst hD 209 159 1 1 [.int i3] [] 70 [.int x7.1] (by decide +kernel) ap_159 ⟨⟨Nat.le_of_ble_eq_true rfl, by decide⟩, rfl, rfl⟩ (dq_ok8 [1] [] (dc_i dc_n) dc_n (by decide +kernel)) (by decide +kernel) rfl q10 rfl ?_
  refine dq_S (.iconst 5) 1 [] 71 _ [.int 5, .int x7.1] (by decide +kernel) rfl ?_
  rcases di hh with ⟨q11, hh⟩ | ⟨q11, hh⟩
  · refine dq_2 .ne 29 true 100 q11 (by decide +kernel) ?_
    exact c191_100 hD hz _ _ _ _ _ _ _ _ _ G0 G1 G4 G5 G6 G7 hh
  · refine dq_2 .ne 29 false 74 q11 (by decide +kernel) ?_
    refine dq_S (.getstatic 357) 3 [7] 77 _ [va_rf (some 2)] (by decide +kernel) rfl ?_
    refine dq_il 7 79 (by decide +kernel) rfl G7 ?_
    refine dq_iln 3 80 (by decide +kernel) rfl G3 ?_
    obtain ⟨x12, q13, hh⟩ := db hh
    obtain ⟨a14, q15, q13⟩ := db q13
    rw [dq_xI q13] at q15
    refine dq_cst hD 224 160 1 1 [.int i3] [.int i7, va_rf (some 2)] 83 [.int x12.1, .int i7, va_rf (some 2)] (by decide +kernel) ap_160 ⟨⟨Nat.le_of_ble_eq_true rfl, by decide⟩, rfl, rfl⟩ (dq_ok8 [1] [1, 1] (dc_i dc_n) (dc_i (dc_r dc_n)) (by decide +kernel)) (by decide +kernel) rfl q15 rfl ?_
    obtain ⟨x16, q17, hh⟩ := db hh
    obtain ⟨a18, q19, q17⟩ := db q17
    rw [dq_xI q17] at q19
    refine dq_cst hD 231 190 1 3 [va_rf (some 2), .int i7, .int x12.1] [] 86 [.int x16.1] (by decide +kernel) ap_190 ⟨⟨Nat.le_of_ble_eq_true rfl, by decide⟩, rfl, rfl⟩ (dq_ok8 [1, 1, 1] [] (dc_r (dc_i (dc_i dc_n))) dc_n (by decide +kernel)) (by decide +kernel) rfl q19 rfl ?_
    refine dq_S (.iconst 1) 1 [] 87 _ [.int 1, .int x16.1] (by decide +kernel) rfl ?_
    rcases di hh with ⟨q20, hh⟩ | ⟨q20, hh⟩
    · refine dq_2 .eq 13 true 100 q20 (by decide +kernel) ?_
      exact c191_100 hD hz _ _ _ _ _ _ _ _ _ G0 G1 G4 G5 G6 G7 hh
    · refine dq_2 .eq 13 false 90 q20 (by decide +kernel) ?_
      refine dq_aln 0 91 (by decide +kernel) rfl G0 ?_
      refine dq_S (.bipush 6) 2 [] 93 _ [.int 6, va_rf o0] (by decide +kernel) rfl ?_
      refine dq_aln 2 94 (by decide +kernel) rfl G2 ?_
      obtain ⟨x21, q22, hh⟩ := db hh
      refine dq_gI 174 1 [12] 97 (by decide +kernel) rfl q22 ?_
      obtain ⟨h23, q24, hh⟩ := db hh
      obtain ⟨a25, q26, q24⟩ := db q24
      rw [dq_xV q24] at q26
      refine dq_cvi hD 140 178 5 2 [13] o0 [.int 6, .int x21] [] 100 [] (by decide +kernel) ap_178 ⟨⟨Nat.le_of_ble_eq_true rfl, by decide⟩, rfl, rfl⟩ (dq_ok8 [1, 1, 1] [] (dc_r (dc_i (dc_i dc_n))) dc_n (by decide +kernel)) (by decide +kernel) rfl q26 rfl ?_
      exact c191_100 hD hz _ _ _ _ _ _ _ _ _ G0 G1 G4 G5 G6 G7 hh
def b191_45 (L : Nat) (xs : Nat → Int32) (zf : Value) (D : dD) (w : Nat) (o0 : Option Nat) (o1 : Option Nat) (o2 : Option Nat) (i3 : Int32) (i4 : Int32) (i5 : Int32) (o6 : Option Nat) (i7 : Int32) (h : rm_H) : Option dR :=
  (dgI L xs h 3 [12] o1).bind fun x1 =>
  ((dcV L xs D 178 [13] o0 [.int 6, .int x1] h).bind dxV).bind fun h3 =>
  b191_55 L xs zf D w o0 o1 o2 i3 i4 i5 o6 i7 h3
theorem c191_45 {L : Nat} {xs : Nat → Int32} {zf : Value} {D : dD} {w k : Nat} (hD : dO L xs zf D k) (hz : zf.category = 1) : ∀ (o0 : Option Nat) (o1 : Option Nat) (o2 : Option Nat) (i3 : Int32) (i4 : Int32) (i5 : Int32) (o6 : Option Nat) (i7 : Int32) (lv : rm_L) (h : rm_H) (r : dR), rm_get lv 0 = some (va_rf o0) → rm_get lv 1 = some (va_rf o1) → rm_get lv 2 = some (va_rf o2) → rm_get lv 3 = some (.int i3) → rm_get lv 4 = some (.int i4) → rm_get lv 5 = some (.int i5) → rm_get lv 6 = some (va_rf o6) → rm_get lv 7 = some (.int i7) → b191_45 L xs zf D w  o0 o1 o2 i3 i4 i5 o6 i7 h = some r → dq L xs zf ah_M191 45 lv [] h (k + 1) r := by
  intro o0 o1 o2 i3 i4 i5 o6 i7 lv h r G0 G1 G2 G3 G4 G5 G6 G7 hh
  unfold b191_45 at hh
  refine dq_aln 0 46 (by decide +kernel) rfl G0 ?_
  refine dq_S (.bipush 6) 2 [] 48 _ [.int 6, va_rf o0] (by decide +kernel) rfl ?_
  refine dq_aln 1 49 (by decide +kernel) rfl G1 ?_
  obtain ⟨x1, q2, hh⟩ := db hh
  refine dq_gI 137 3 [12] 52 (by decide +kernel) rfl q2 ?_
  obtain ⟨h3, q4, hh⟩ := db hh
  obtain ⟨a5, q6, q4⟩ := db q4
  rw [dq_xV q4] at q6
  refine dq_cvi hD 140 178 5 2 [13] o0 [.int 6, .int x1] [] 55 [] (by decide +kernel) ap_178 ⟨⟨Nat.le_of_ble_eq_true rfl, by decide⟩, rfl, rfl⟩ (dq_ok8 [1, 1, 1] [] (dc_r (dc_i (dc_i dc_n))) dc_n (by decide +kernel)) (by decide +kernel) rfl q6 rfl ?_
  exact c191_55 hD hz _ _ _ _ _ _ _ _ _ _ _ G0 G1 G2 G3 G4 G5 G6 G7 hh
def b191_0 (L : Nat) (xs : Nat → Int32) (zf : Value) (D : dD) (w : Nat) (o0 : Option Nat) (o1 : Option Nat) (o2 : Option Nat) (i3 : Int32) (i4 : Int32) (h : rm_H) : Option dR :=
  (dgR L xs h 6 [12] o1).bind fun p1 =>
  ((dcV L xs D 172 [13] o0 [va_rf p1] h).bind dxI).bind fun x3 =>
  ((dcV L xs D 192 [13] o0 [va_rf o1, .int x3.1] x3.2).bind dxR).bind fun p13 =>
  if dnl p13.1 = true then
    drI (some .int) 2 p13.2
  else
    ((D 160 [.int x3.1] p13.2).bind dxI).bind fun x25 =>
    if mx_f2 .eq x25.1 3 = true then
      b191_45 L xs zf D w o0 o1 o2 i3 i4 x3.1 p13.1 x25.1 x25.2
    else
      if mx_f2 .ne x25.1 4 = true then
        b191_55 L xs zf D w o0 o1 o2 i3 i4 x3.1 p13.1 x25.1 x25.2
      else
        b191_45 L xs zf D w o0 o1 o2 i3 i4 x3.1 p13.1 x25.1 x25.2
theorem c191_0 {L : Nat} {xs : Nat → Int32} {zf : Value} {D : dD} {w k : Nat} (hD : dO L xs zf D k) (hz : zf.category = 1) : ∀ (o0 : Option Nat) (o1 : Option Nat) (o2 : Option Nat) (i3 : Int32) (i4 : Int32) (lv : rm_L) (h : rm_H) (r : dR), rm_get lv 0 = some (va_rf o0) → rm_get lv 1 = some (va_rf o1) → rm_get lv 2 = some (va_rf o2) → rm_get lv 3 = some (.int i3) → rm_get lv 4 = some (.int i4) → b191_0 L xs zf D w  o0 o1 o2 i3 i4 h = some r → dq L xs zf ah_M191 0 lv [] h (k + 1) r := by
  intro o0 o1 o2 i3 i4 lv h r G0 G1 G2 G3 G4 hh
  unfold b191_0 at hh
  refine dq_aln 0 1 (by decide +kernel) rfl G0 ?_
  refine dq_aln 1 2 (by decide +kernel) rfl G1 ?_
  obtain ⟨p1, q2, hh⟩ := db hh
  refine dq_gR 235 6 [12] 5 (by decide +kernel) rfl q2 ?_
  obtain ⟨x3, q4, hh⟩ := db hh
  obtain ⟨a5, q6, q4⟩ := db q4
  rw [dq_xI q4] at q6
  refine dq_cvi hD 167 172 5 1 [13] o0 [va_rf p1] [] 8 [.int x3.1] (by decide +kernel) ap_172 ⟨⟨Nat.le_of_ble_eq_true rfl, by decide⟩, rfl, rfl⟩ (dq_ok8 [1, 1] [] (dc_r (dc_r dc_n)) dc_n (by decide +kernel)) (by decide +kernel) rfl q6 rfl ?_
  refine dq_is 5 10 (by decide +kernel) (by decide +kernel) ?_
  have g7 := dg_ne (i := 5) (u := .int x3.1) (by decide) (Or.inl (by decide)) G0
  have g8 := dg_ne (i := 5) (u := .int x3.1) (by decide) (Or.inl (by decide)) G1
  have g9 := dg_ne (i := 5) (u := .int x3.1) (by decide) (Or.inl (by decide)) G2
  have g10 := dg_ne (i := 5) (u := .int x3.1) (by decide) (Or.inl (by decide)) G3
  have g11 := dg_ne (i := 5) (u := .int x3.1) (by decide) (Or.inr rfl) G4
  have g12 := dg_eq (lv) 5 (.int x3.1)
  refine dq_aln 0 11 (by decide +kernel) rfl g7 ?_
  refine dq_aln 1 12 (by decide +kernel) rfl g8 ?_
  refine dq_il 5 14 (by decide +kernel) rfl g12 ?_
  obtain ⟨p13, q14, hh⟩ := db hh
  obtain ⟨a15, q16, q14⟩ := db q14
  rw [dq_xR q14] at q16
  refine dq_cvi hD 300 192 5 2 [13] o0 [va_rf o1, .int x3.1] [] 17 [va_rf p13.1] (by decide +kernel) ap_192 ⟨⟨Nat.le_of_ble_eq_true rfl, by decide⟩, rfl, rfl⟩ (dq_ok8 [1, 1, 1] [] (dc_r (dc_r (dc_i dc_n))) dc_n (by decide +kernel)) (by decide +kernel) rfl q16 rfl ?_
  refine dq_as 6 19 (by decide +kernel) (by decide +kernel) ?_
  have g17 := dg_ne (i := 6) (u := va_rf p13.1) (by decide) (Or.inl (by decide)) g7
  have g18 := dg_ne (i := 6) (u := va_rf p13.1) (by decide) (Or.inl (by decide)) g8
  have g19 := dg_ne (i := 6) (u := va_rf p13.1) (by decide) (Or.inl (by decide)) g9
  have g20 := dg_ne (i := 6) (u := va_rf p13.1) (by decide) (Or.inl (by decide)) g10
  have g21 := dg_ne (i := 6) (u := va_rf p13.1) (by decide) (Or.inl (by decide)) g11
  have g22 := dg_ne (i := 6) (u := va_rf p13.1) (by decide) (Or.inr rfl) g12
  have g23 := dg_eq (rm_set1 (lv) 5 (.int x3.1)) 6 (va_rf p13.1)
  refine dq_al 6 21 (by decide +kernel) rfl g23 ?_
  rcases di hh with ⟨q24, hh⟩ | ⟨q24, hh⟩
  · refine dq_nnull 5 false 24 q24 (by decide +kernel) (by decide +kernel) ?_
    refine dq_S (.iconst 2) 1 [] 25 _ [.int 2] (by decide +kernel) rfl ?_
    exact dq_retI (some .int) (by decide +kernel) rfl hh
  · refine dq_nnull 5 true 26 q24 (by decide +kernel) (by decide +kernel) ?_
    refine dq_il 5 28 (by decide +kernel) rfl g22 ?_
    obtain ⟨x25, q26, hh⟩ := db hh
    obtain ⟨a27, q28, q26⟩ := db q26
    rw [dq_xI q26] at q28
    refine dq_cst hD 224 160 1 1 [.int x3.1] [] 31 [.int x25.1] (by decide +kernel) ap_160 ⟨⟨Nat.le_of_ble_eq_true rfl, by decide⟩, rfl, rfl⟩ (dq_ok8 [1] [] (dc_i dc_n) dc_n (by decide +kernel)) (by decide +kernel) rfl q28 rfl ?_
    refine dq_is 7 33 (by decide +kernel) (by decide +kernel) ?_
    have g29 := dg_ne (i := 7) (u := .int x25.1) (by decide) (Or.inl (by decide)) g17
    have g30 := dg_ne (i := 7) (u := .int x25.1) (by decide) (Or.inl (by decide)) g18
    have g31 := dg_ne (i := 7) (u := .int x25.1) (by decide) (Or.inl (by decide)) g19
    have g32 := dg_ne (i := 7) (u := .int x25.1) (by decide) (Or.inl (by decide)) g20
    have g33 := dg_ne (i := 7) (u := .int x25.1) (by decide) (Or.inl (by decide)) g21
    have g34 := dg_ne (i := 7) (u := .int x25.1) (by decide) (Or.inl (by decide)) g22
    have g35 := dg_ne (i := 7) (u := .int x25.1) (by decide) (Or.inr (drc _)) g23
    have g36 := dg_eq (rm_set1 (rm_set1 (lv) 5 (.int x3.1)) 6 (va_rf p13.1)) 7 (.int x25.1)
    refine dq_il 7 35 (by decide +kernel) rfl g36 ?_
    refine dq_S (.iconst 3) 1 [] 36 _ [.int 3, .int x25.1] (by decide +kernel) rfl ?_
    rcases di hh with ⟨q37, hh⟩ | ⟨q37, hh⟩
    · refine dq_2 .eq 9 true 45 q37 (by decide +kernel) ?_
      exact c191_45 hD hz _ _ _ _ _ _ _ _ _ _ _ g29 g30 g31 g32 g33 g34 g35 g36 hh
    · refine dq_2 .eq 9 false 39 q37 (by decide +kernel) ?_
      refine dq_il 7 41 (by decide +kernel) rfl g36 ?_
      refine dq_S (.iconst 4) 1 [] 42 _ [.int 4, .int x25.1] (by decide +kernel) rfl ?_
      rcases di hh with ⟨q38, hh⟩ | ⟨q38, hh⟩
      · refine dq_2 .ne 13 true 55 q38 (by decide +kernel) ?_
        exact c191_55 hD hz _ _ _ _ _ _ _ _ _ _ _ g29 g30 g31 g32 g33 g34 g35 g36 hh
      · refine dq_2 .ne 13 false 45 q38 (by decide +kernel) ?_
        exact c191_45 hD hz _ _ _ _ _ _ _ _ _ _ _ g29 g30 g31 g32 g33 g34 g35 g36 hh
def f191 (L : Nat) (xs : Nat → Int32) (zf : Value) (D : dD) (w : Nat) (As : List Value) (h : rm_H) : Option dR := match As with
  | [v0, v1, v2, .int i3, .int i4] => (rm_rf v0).bind fun o0 => (rm_rf v1).bind fun o1 => (rm_rf v2).bind fun o2 => b191_0 L xs zf D w o0 o1 o2 i3 i4 h
  | _ => none
theorem d191 {L : Nat} {xs : Nat → Int32} {zf : Value} {D : dD} {w k : Nat} (hD : dO L xs zf D k) (hz : zf.category = 1) (As : List Value) (h : rm_H) (r : dR) (hh : f191 L xs zf D w As h = some r) : dq L xs zf ah_M191 0 (lv_args 0 As) [] h (k + 1) r := by
  unfold f191 at hh
  split at hh
  · obtain ⟨o0, e0, hb0⟩ := db hh
    have e0 := rm_rf_v _ _ e0
    obtain ⟨o1, e1, hb1⟩ := db hb0
    have e1 := rm_rf_v _ _ e1
    obtain ⟨o2, e2, hb2⟩ := db hb1
    have e2 := rm_rf_v _ _ e2
    subst e0 e1 e2
    refine c191_0 hD hz _ _ _ _ _ _ _ _ ?_ ?_ ?_ ?_ ?_ hb2
    all_goals (simp only [la_r, la_i, la_j]; rfl)
  · cases hh
def b192_40 (L : Nat) (xs : Nat → Int32) (zf : Value) (D : dD) (w : Nat) (o4 : Option Nat) (h : rm_H) : Option dR :=
  some (some (va_rf o4), h)
theorem c192_40 {L : Nat} {xs : Nat → Int32} {zf : Value} {D : dD} {w k : Nat} (hD : dO L xs zf D k) (hz : zf.category = 1) : ∀ (o4 : Option Nat) (lv : rm_L) (h : rm_H) (r : dR), rm_get lv 4 = some (va_rf o4) → b192_40 L xs zf D w  o4 h = some r → dq L xs zf ah_M192 40 lv [] h (k + 1) r := by
  intro o4 lv h r G4 hh
  unfold b192_40 at hh
  refine dq_al 4 42 (by decide +kernel) rfl G4 ?_
  cases hh
  exact dq_retR (by decide +kernel) rfl
def b192_0 (L : Nat) (xs : Nat → Int32) (zf : Value) (D : dD) (w : Nat) (o0 : Option Nat) (o1 : Option Nat) (i2 : Int32) (h : rm_H) : Option dR :=
  (dgR L xs h 6 [12] o1).bind fun p1 =>
  ((dcV L xs D 193 [13] o0 [va_rf p1, .int i2] h).bind dxR).bind fun p3 =>
  if dnl p3.1 = true then
    some (some (va_rf none), p3.2)
  else
    (dgR L xs p3.2 2 [12] o1).bind fun p12 =>
    ((dcV L xs D 195 [9] p3.1 [va_rf p12] p3.2).bind dxR).bind fun p14 =>
    if dnl p14.1 = true then
      (dgI L xs p14.2 3 [12] o1).bind fun x24 =>
      ((dcV L xs D 178 [13] o0 [.int 3, .int x24] p14.2).bind dxV).bind fun h26 =>
      b192_40 L xs zf D w p14.1 h26
    else
      b192_40 L xs zf D w p14.1 p14.2
theorem c192_0 {L : Nat} {xs : Nat → Int32} {zf : Value} {D : dD} {w k : Nat} (hD : dO L xs zf D k) (hz : zf.category = 1) : ∀ (o0 : Option Nat) (o1 : Option Nat) (i2 : Int32) (lv : rm_L) (h : rm_H) (r : dR), rm_get lv 0 = some (va_rf o0) → rm_get lv 1 = some (va_rf o1) → rm_get lv 2 = some (.int i2) → b192_0 L xs zf D w  o0 o1 i2 h = some r → dq L xs zf ah_M192 0 lv [] h (k + 1) r := by
  intro o0 o1 i2 lv h r G0 G1 G2 hh
  unfold b192_0 at hh
  refine dq_aln 0 1 (by decide +kernel) rfl G0 ?_
  refine dq_aln 1 2 (by decide +kernel) rfl G1 ?_
  obtain ⟨p1, q2, hh⟩ := db hh
  refine dq_gR 235 6 [12] 5 (by decide +kernel) rfl q2 ?_
  refine dq_iln 2 6 (by decide +kernel) rfl G2 ?_
  obtain ⟨p3, q4, hh⟩ := db hh
  obtain ⟨a5, q6, q4⟩ := db q4
  rw [dq_xR q4] at q6
  refine dq_cvi hD 314 193 5 2 [13] o0 [va_rf p1, .int i2] [] 9 [va_rf p3.1] (by decide +kernel) ap_193 ⟨⟨Nat.le_of_ble_eq_true rfl, by decide⟩, rfl, rfl⟩ (dq_ok8 [1, 1, 1] [] (dc_r (dc_r (dc_i dc_n))) dc_n (by decide +kernel)) (by decide +kernel) rfl q6 rfl ?_
  refine dq_asn 3 10 (by decide +kernel) (by decide +kernel) ?_
  have g7 := dg_ne (i := 3) (u := va_rf p3.1) (by decide) (Or.inl (by decide)) G0
  have g8 := dg_ne (i := 3) (u := va_rf p3.1) (by decide) (Or.inl (by decide)) G1
  have g9 := dg_ne (i := 3) (u := va_rf p3.1) (by decide) (Or.inr rfl) G2
  have g10 := dg_eq (lv) 3 (va_rf p3.1)
  refine dq_aln 3 11 (by decide +kernel) rfl g10 ?_
  rcases di hh with ⟨q11, hh⟩ | ⟨q11, hh⟩
  · refine dq_nnull 5 false 14 q11 (by decide +kernel) (by decide +kernel) ?_
    refine dq_S (.aconst_null) 1 [] 15 _ [va_rf none] (by decide +kernel) rfl ?_
    cases hh
    exact dq_retR (by decide +kernel) rfl
  · refine dq_nnull 5 true 16 q11 (by decide +kernel) (by decide +kernel) ?_
    refine dq_aln 3 17 (by decide +kernel) rfl g10 ?_
    refine dq_aln 1 18 (by decide +kernel) rfl g8 ?_
    obtain ⟨p12, q13, hh⟩ := db hh
    refine dq_gR 295 2 [12] 21 (by decide +kernel) rfl q13 ?_
    obtain ⟨p14, q15, hh⟩ := db hh
    obtain ⟨a16, q17, q15⟩ := db q15
    rw [dq_xR q15] at q17
    refine dq_cvi hD 318 195 5 1 [9] p3.1 [va_rf p12] [] 24 [va_rf p14.1] (by decide +kernel) ap_195 ⟨⟨Nat.le_of_ble_eq_true rfl, by decide⟩, rfl, rfl⟩ (dq_ok8 [1, 1] [] (dc_r (dc_r dc_n)) dc_n (by decide +kernel)) (by decide +kernel) rfl q17 rfl ?_
    refine dq_as 4 26 (by decide +kernel) (by decide +kernel) ?_
    have g18 := dg_ne (i := 4) (u := va_rf p14.1) (by decide) (Or.inl (by decide)) g7
    have g19 := dg_ne (i := 4) (u := va_rf p14.1) (by decide) (Or.inl (by decide)) g8
    have g20 := dg_ne (i := 4) (u := va_rf p14.1) (by decide) (Or.inl (by decide)) g9
    have g21 := dg_ne (i := 4) (u := va_rf p14.1) (by decide) (Or.inr (drc _)) g10
    have g22 := dg_eq (rm_set1 (lv) 3 (va_rf p3.1)) 4 (va_rf p14.1)
    refine dq_al 4 28 (by decide +kernel) rfl g22 ?_
    rcases di hh with ⟨q23, hh⟩ | ⟨q23, hh⟩
    · refine dq_nnull 12 false 31 q23 (by decide +kernel) (by decide +kernel) ?_
      refine dq_aln 0 32 (by decide +kernel) rfl g18 ?_
      refine dq_S (.iconst 3) 1 [] 33 _ [.int 3, va_rf o0] (by decide +kernel) rfl ?_
      refine dq_aln 1 34 (by decide +kernel) rfl g19 ?_
      obtain ⟨x24, q25, hh⟩ := db hh
      refine dq_gI 137 3 [12] 37 (by decide +kernel) rfl q25 ?_
      obtain ⟨h26, q27, hh⟩ := db hh
      obtain ⟨a28, q29, q27⟩ := db q27
      rw [dq_xV q27] at q29
      refine dq_cvi hD 140 178 5 2 [13] o0 [.int 3, .int x24] [] 40 [] (by decide +kernel) ap_178 ⟨⟨Nat.le_of_ble_eq_true rfl, by decide⟩, rfl, rfl⟩ (dq_ok8 [1, 1, 1] [] (dc_r (dc_i (dc_i dc_n))) dc_n (by decide +kernel)) (by decide +kernel) rfl q29 rfl ?_
      exact c192_40 hD hz _ _ _ _ g22 hh
    · refine dq_nnull 12 true 40 q23 (by decide +kernel) (by decide +kernel) ?_
      exact c192_40 hD hz _ _ _ _ g22 hh
def f192 (L : Nat) (xs : Nat → Int32) (zf : Value) (D : dD) (w : Nat) (As : List Value) (h : rm_H) : Option dR := match As with
  | [v0, v1, .int i2] => (rm_rf v0).bind fun o0 => (rm_rf v1).bind fun o1 => b192_0 L xs zf D w o0 o1 i2 h
  | _ => none
theorem d192 {L : Nat} {xs : Nat → Int32} {zf : Value} {D : dD} {w k : Nat} (hD : dO L xs zf D k) (hz : zf.category = 1) (As : List Value) (h : rm_H) (r : dR) (hh : f192 L xs zf D w As h = some r) : dq L xs zf ah_M192 0 (lv_args 0 As) [] h (k + 1) r := by
  unfold f192 at hh
  split at hh
  · obtain ⟨o0, e0, hb0⟩ := db hh
    have e0 := rm_rf_v _ _ e0
    obtain ⟨o1, e1, hb1⟩ := db hb0
    have e1 := rm_rf_v _ _ e1
    subst e0 e1
    refine c192_0 hD hz _ _ _ _ _ _ ?_ ?_ ?_ hb1
    all_goals (simp only [la_r, la_i, la_j]; rfl)
  · cases hh
def b193_30 (L : Nat) (xs : Nat → Int32) (zf : Value) (D : dD) (w : Nat) (o1 : Option Nat) (s0 : Int32) (s1 : Option Nat) (h : rm_H) : Option dR :=
  (dgI L xs h 1 [12] o1).bind fun x1 =>
  ((dcV L xs D 178 [13] s1 [.int s0, .int x1] h).bind dxV).bind fun h3 =>
  some (some (va_rf none), h3)
theorem c193_30 {L : Nat} {xs : Nat → Int32} {zf : Value} {D : dD} {w k : Nat} (hD : dO L xs zf D k) (hz : zf.category = 1) : ∀ (o1 : Option Nat) (s0 : Int32) (s1 : Option Nat) (lv : rm_L) (h : rm_H) (r : dR), rm_get lv 1 = some (va_rf o1) → b193_30 L xs zf D w  o1 s0 s1 h = some r → dq L xs zf ah_M193 30 lv [.int s0, va_rf s1] h (k + 1) r := by
  intro o1 s0 s1 lv h r G1 hh
  unfold b193_30 at hh
  refine dq_aln 1 31 (by decide +kernel) rfl G1 ?_
  obtain ⟨x1, q2, hh⟩ := db hh
  refine dq_gI 174 1 [12] 34 (by decide +kernel) rfl q2 ?_
  obtain ⟨h3, q4, hh⟩ := db hh
  obtain ⟨a5, q6, q4⟩ := db q4
  rw [dq_xV q4] at q6
  refine dq_cvi hD 140 178 5 2 [13] s1 [.int s0, .int x1] [] 37 [] (by decide +kernel) ap_178 ⟨⟨Nat.le_of_ble_eq_true rfl, by decide⟩, rfl, rfl⟩ (dq_ok8 [1, 1, 1] [] (dc_r (dc_i (dc_i dc_n))) dc_n (by decide +kernel)) (by decide +kernel) rfl q6 rfl ?_
  refine dq_S (.aconst_null) 1 [] 38 _ [va_rf none] (by decide +kernel) rfl ?_
  cases hh
  exact dq_retR (by decide +kernel) rfl
def b193_39 (L : Nat) (xs : Nat → Int32) (zf : Value) (D : dD) (w : Nat) (o0 : Option Nat) (i2 : Int32) (h : rm_H) : Option dR :=
  (dgR L xs h 0 [13] o0).bind fun p1 =>
  ((D 189 [.int i2] h).bind dxI).bind fun x3 =>
  ((dcV L xs D 194 [4] p1 [.int x3.1] x3.2).bind dxR).bind fun p7 =>
  some (some (va_rf p7.1), p7.2)
theorem c193_39 {L : Nat} {xs : Nat → Int32} {zf : Value} {D : dD} {w k : Nat} (hD : dO L xs zf D k) (hz : zf.category = 1) : ∀ (o0 : Option Nat) (i2 : Int32) (lv : rm_L) (h : rm_H) (r : dR), rm_get lv 0 = some (va_rf o0) → rm_get lv 2 = some (.int i2) → b193_39 L xs zf D w  o0 i2 h = some r → dq L xs zf ah_M193 39 lv [] h (k + 1) r := by
  intro o0 i2 lv h r G0 G2 hh
  unfold b193_39 at hh
  refine dq_aln 0 40 (by decide +kernel) rfl G0 ?_
  obtain ⟨p1, q2, hh⟩ := db hh
  refine dq_gR 9 0 [13] 43 (by decide +kernel) rfl q2 ?_
  refine dq_iln 2 44 (by decide +kernel) rfl G2 ?_
  obtain ⟨x3, q4, hh⟩ := db hh
  obtain ⟨a5, q6, q4⟩ := db q4
  rw [dq_xI q4] at q6
  refine dq_cst hD 213 189 1 1 [.int i2] [va_rf p1] 47 [.int x3.1, va_rf p1] (by decide +kernel) ap_189 ⟨⟨Nat.le_of_ble_eq_true rfl, by decide⟩, rfl, rfl⟩ (dq_ok8 [1] [1] (dc_i dc_n) (dc_r dc_n) (by decide +kernel)) (by decide +kernel) rfl q6 rfl ?_
  obtain ⟨p7, q8, hh⟩ := db hh
  obtain ⟨a9, q10, q8⟩ := db q8
  rw [dq_xR q8] at q10
  refine dq_cvi hD 321 194 5 1 [4] p1 [.int x3.1] [] 50 [va_rf p7.1] (by decide +kernel) ap_194 ⟨⟨Nat.le_of_ble_eq_true rfl, by decide⟩, rfl, rfl⟩ (dq_ok8 [1, 1] [] (dc_r (dc_i dc_n)) dc_n (by decide +kernel)) (by decide +kernel) rfl q10 rfl ?_
  cases hh
  exact dq_retR (by decide +kernel) rfl
def b193_0 (L : Nat) (xs : Nat → Int32) (zf : Value) (D : dD) (w : Nat) (o0 : Option Nat) (o1 : Option Nat) (i2 : Int32) (h : rm_H) : Option dR :=
  ((D 159 [.int i2] h).bind dxI).bind fun x1 =>
  if mx_f2 .eq x1.1 5 = true then
    b193_39 L xs zf D w o0 i2 x1.2
  else
    ((D 159 [.int i2] x1.2).bind dxI).bind fun x6 =>
    if mx_f2 .eq x6.1 4 = true then
      b193_39 L xs zf D w o0 i2 x6.2
    else
      ((D 159 [.int i2] x6.2).bind dxI).bind fun x11 =>
      if mx_f1 .ne x11.1 = true then
        b193_30 L xs zf D w o1 5 o0 x11.2
      else
        b193_30 L xs zf D w o1 8 o0 x11.2
theorem c193_0 {L : Nat} {xs : Nat → Int32} {zf : Value} {D : dD} {w k : Nat} (hD : dO L xs zf D k) (hz : zf.category = 1) : ∀ (o0 : Option Nat) (o1 : Option Nat) (i2 : Int32) (lv : rm_L) (h : rm_H) (r : dR), rm_get lv 0 = some (va_rf o0) → rm_get lv 1 = some (va_rf o1) → rm_get lv 2 = some (.int i2) → b193_0 L xs zf D w  o0 o1 i2 h = some r → dq L xs zf ah_M193 0 lv [] h (k + 1) r := by
  intro o0 o1 i2 lv h r G0 G1 G2 hh
  unfold b193_0 at hh
  refine dq_iln 2 1 (by decide +kernel) rfl G2 ?_
  obtain ⟨x1, q2, hh⟩ := db hh
  obtain ⟨a3, q4, q2⟩ := db q2
  rw [dq_xI q2] at q4
  refine dq_cst hD 209 159 1 1 [.int i2] [] 4 [.int x1.1] (by decide +kernel) ap_159 ⟨⟨Nat.le_of_ble_eq_true rfl, by decide⟩, rfl, rfl⟩ (dq_ok8 [1] [] (dc_i dc_n) dc_n (by decide +kernel)) (by decide +kernel) rfl q4 rfl ?_
  refine dq_S (.iconst 5) 1 [] 5 _ [.int 5, .int x1.1] (by decide +kernel) rfl ?_
  rcases di hh with ⟨q5, hh⟩ | ⟨q5, hh⟩
  · refine dq_2 .eq 34 true 39 q5 (by decide +kernel) ?_
    exact c193_39 hD hz _ _ _ _ _ G0 G2 hh
  · refine dq_2 .eq 34 false 8 q5 (by decide +kernel) ?_
    refine dq_iln 2 9 (by decide +kernel) rfl G2 ?_
    obtain ⟨x6, q7, hh⟩ := db hh
    obtain ⟨a8, q9, q7⟩ := db q7
    rw [dq_xI q7] at q9
    refine dq_cst hD 209 159 1 1 [.int i2] [] 12 [.int x6.1] (by decide +kernel) ap_159 ⟨⟨Nat.le_of_ble_eq_true rfl, by decide⟩, rfl, rfl⟩ (dq_ok8 [1] [] (dc_i dc_n) dc_n (by decide +kernel)) (by decide +kernel) rfl q9 rfl ?_
    refine dq_S (.iconst 4) 1 [] 13 _ [.int 4, .int x6.1] (by decide +kernel) rfl ?_
    rcases di hh with ⟨q10, hh⟩ | ⟨q10, hh⟩
    · refine dq_2 .eq 26 true 39 q10 (by decide +kernel) ?_
      exact c193_39 hD hz _ _ _ _ _ G0 G2 hh
    · refine dq_2 .eq 26 false 16 q10 (by decide +kernel) ?_
      refine dq_aln 0 17 (by decide +kernel) rfl G0 ?_
      refine dq_iln 2 18 (by decide +kernel) rfl G2 ?_
      obtain ⟨x11, q12, hh⟩ := db hh
      obtain ⟨a13, q14, q12⟩ := db q12
      rw [dq_xI q12] at q14
      refine dq_cst hD 209 159 1 1 [.int i2] [va_rf o0] 21 [.int x11.1, va_rf o0] (by decide +kernel) ap_159 ⟨⟨Nat.le_of_ble_eq_true rfl, by decide⟩, rfl, rfl⟩ (dq_ok8 [1] [1] (dc_i dc_n) (dc_r dc_n) (by decide +kernel)) (by decide +kernel) rfl q14 rfl ?_
      rcases di hh with ⟨q15, hh⟩ | ⟨q15, hh⟩
      · refine dq_1 .ne 8 true 29 q15 (by decide +kernel) ?_
        refine dq_S (.iconst 5) 1 [] 30 _ [.int 5, va_rf o0] (by decide +kernel) rfl ?_
        exact c193_30 hD hz _ _ _ _ _ _ G1 hh
      · refine dq_1 .ne 8 false 24 q15 (by decide +kernel) ?_
        refine dq_S (.bipush 8) 2 [] 26 _ [.int 8, va_rf o0] (by decide +kernel) rfl ?_
        refine dq_S (.goto 4) 3 [] 30 _ [.int 8, va_rf o0] (by decide +kernel) rfl ?_
        exact c193_30 hD hz _ _ _ _ _ _ G1 hh
def f193 (L : Nat) (xs : Nat → Int32) (zf : Value) (D : dD) (w : Nat) (As : List Value) (h : rm_H) : Option dR := match As with
  | [v0, v1, .int i2] => (rm_rf v0).bind fun o0 => (rm_rf v1).bind fun o1 => b193_0 L xs zf D w o0 o1 i2 h
  | _ => none
theorem d193 {L : Nat} {xs : Nat → Int32} {zf : Value} {D : dD} {w k : Nat} (hD : dO L xs zf D k) (hz : zf.category = 1) (As : List Value) (h : rm_H) (r : dR) (hh : f193 L xs zf D w As h = some r) : dq L xs zf ah_M193 0 (lv_args 0 As) [] h (k + 1) r := by
  unfold f193 at hh
  split at hh
  · obtain ⟨o0, e0, hb0⟩ := db hh
    have e0 := rm_rf_v _ _ e0
    obtain ⟨o1, e1, hb1⟩ := db hb0
    have e1 := rm_rf_v _ _ e1
    subst e0 e1
    refine c193_0 hD hz _ _ _ _ _ _ ?_ ?_ ?_ hb1
    all_goals (simp only [la_r, la_i, la_j]; rfl)
  · cases hh
def b194_34 (L : Nat) (xs : Nat → Int32) (zf : Value) (D : dD) (w : Nat) (s0 : Option Nat) (h : rm_H) : Option dR :=
  some (some (va_rf s0), h)
theorem c194_34 {L : Nat} {xs : Nat → Int32} {zf : Value} {D : dD} {w k : Nat} (hD : dO L xs zf D k) (hz : zf.category = 1) : ∀ (s0 : Option Nat) (lv : rm_L) (h : rm_H) (r : dR), b194_34 L xs zf D w  s0 h = some r → dq L xs zf ah_M194 34 lv [va_rf s0] h (k + 1) r := by
  intro s0 lv h r hh
  unfold b194_34 at hh
  cases hh
  exact dq_retR (by decide +kernel) rfl
def b194_17 (L : Nat) (xs : Nat → Int32) (zf : Value) (D : dD) (w : Nat) (h : rm_H) : Option dR :=
  b194_34 L xs zf D w none h
theorem c194_17 {L : Nat} {xs : Nat → Int32} {zf : Value} {D : dD} {w k : Nat} (hD : dO L xs zf D k) (hz : zf.category = 1) : ∀ (lv : rm_L) (h : rm_H) (r : dR), b194_17 L xs zf D w  h = some r → dq L xs zf ah_M194 17 lv [] h (k + 1) r := by
  intro lv h r hh
  unfold b194_17 at hh
  refine dq_S (.aconst_null) 1 [] 18 _ [va_rf none] (by decide +kernel) rfl ?_
  refine dq_S (.goto 16) 3 [] 34 _ [va_rf none] (by decide +kernel) rfl ?_
  exact c194_34 hD hz _ _ _ _  hh
def b194_0 (L : Nat) (xs : Nat → Int32) (zf : Value) (D : dD) (w : Nat) (o0 : Option Nat) (i1 : Int32) (h : rm_H) : Option dR :=
  if mx_f1 .lt i1 = true then
    b194_17 L xs zf D w h
  else
    (dgR L xs h 1 [4] o0).bind fun p2 =>
    ((dcV L xs D 101 [5] p2 [] h).bind dxI).bind fun x4 =>
    if mx_f2 .lt i1 x4.1 = true then
      (dgR L xs x4.2 1 [4] o0).bind fun p9 =>
      ((dcV L xs D 146 [5] p9 [.int i1] x4.2).bind dxR).bind fun p11 =>
      if dcK L xs p11.2 [9] p11.1 = false then none else
      b194_34 L xs zf D w p11.1 p11.2
    else
      b194_17 L xs zf D w x4.2
theorem c194_0 {L : Nat} {xs : Nat → Int32} {zf : Value} {D : dD} {w k : Nat} (hD : dO L xs zf D k) (hz : zf.category = 1) : ∀ (o0 : Option Nat) (i1 : Int32) (lv : rm_L) (h : rm_H) (r : dR), rm_get lv 0 = some (va_rf o0) → rm_get lv 1 = some (.int i1) → b194_0 L xs zf D w  o0 i1 h = some r → dq L xs zf ah_M194 0 lv [] h (k + 1) r := by
  intro o0 i1 lv h r G0 G1 hh
  unfold b194_0 at hh
  refine dq_iln 1 1 (by decide +kernel) rfl G1 ?_
  rcases di hh with ⟨q1, hh⟩ | ⟨q1, hh⟩
  · refine dq_1 .lt 16 true 17 q1 (by decide +kernel) ?_
    exact c194_17 hD hz  _ _ _  hh
  · refine dq_1 .lt 16 false 4 q1 (by decide +kernel) ?_
    refine dq_iln 1 5 (by decide +kernel) rfl G1 ?_
    refine dq_aln 0 6 (by decide +kernel) rfl G0 ?_
    obtain ⟨p2, q3, hh⟩ := db hh
    refine dq_gR 18 1 [4] 9 (by decide +kernel) rfl q3 ?_
    obtain ⟨x4, q5, hh⟩ := db hh
    obtain ⟨a6, q7, q5⟩ := db q5
    rw [dq_xI q5] at q7
    refine dq_cif hD 54 1 101 7 0 [5] p2 [] [.int i1] 14 [.int x4.1, .int i1] (by decide +kernel) ap_101 ⟨⟨Nat.le_of_ble_eq_true rfl, by decide⟩, rfl, rfl⟩ (dq_ok8 [1] [1] (dc_r dc_n) (dc_i dc_n) (by decide +kernel)) (by decide +kernel) rfl q7 rfl ?_
    rcases di hh with ⟨q8, hh⟩ | ⟨q8, hh⟩
    · refine dq_2 .lt 7 true 21 q8 (by decide +kernel) ?_
      refine dq_aln 0 22 (by decide +kernel) rfl G0 ?_
      obtain ⟨p9, q10, hh⟩ := db hh
      refine dq_gR 18 1 [4] 25 (by decide +kernel) rfl q10 ?_
      refine dq_iln 1 26 (by decide +kernel) rfl G1 ?_
      obtain ⟨p11, q12, hh⟩ := db hh
      obtain ⟨a13, q14, q12⟩ := db q12
      rw [dq_xR q12] at q14
      refine dq_cif hD 59 2 146 7 1 [5] p9 [.int i1] [] 31 [va_rf p11.1] (by decide +kernel) ap_146 ⟨⟨Nat.le_of_ble_eq_true rfl, by decide⟩, rfl, rfl⟩ (dq_ok8 [1, 1] [] (dc_r (dc_i dc_n)) dc_n (by decide +kernel)) (by decide +kernel) rfl q14 rfl ?_
      rcases dp hh with ⟨_, hh⟩ | ⟨q15, hh⟩
      · cases hh
      refine dq_cast 63 [9] 34 (by decide +kernel) ⟨rfl, by decide⟩ (by rw [Bool.not_eq_false] at q15; exact q15) ?_
      exact c194_34 hD hz _ _ _ _  hh
    · refine dq_2 .lt 7 false 17 q8 (by decide +kernel) ?_
      exact c194_17 hD hz  _ _ _  hh
def f194 (L : Nat) (xs : Nat → Int32) (zf : Value) (D : dD) (w : Nat) (As : List Value) (h : rm_H) : Option dR := match As with
  | [v0, .int i1] => (rm_rf v0).bind fun o0 => b194_0 L xs zf D w o0 i1 h
  | _ => none
theorem d194 {L : Nat} {xs : Nat → Int32} {zf : Value} {D : dD} {w k : Nat} (hD : dO L xs zf D k) (hz : zf.category = 1) (As : List Value) (h : rm_H) (r : dR) (hh : f194 L xs zf D w As h = some r) : dq L xs zf ah_M194 0 (lv_args 0 As) [] h (k + 1) r := by
  unfold f194 at hh
  split at hh
  · obtain ⟨o0, e0, hb0⟩ := db hh
    have e0 := rm_rf_v _ _ e0
    subst e0
    refine c194_0 hD hz _ _ _ _ _ ?_ ?_ hb0
    all_goals (simp only [la_r, la_i, la_j]; rfl)
  · cases hh
def b195_2 (L : Nat) (xs : Nat → Int32) (zf : Value) (D : dD) (w : Nat) : Nat → Option Nat → Option Nat → Int32 → rm_H → Option dR
  | 0, _, _, _, _ => none
  | n + 1, o0, o1, i2, h =>
    (dgR L xs h 4 [9] o0).bind fun p1 =>
    ((dcV L xs D 101 [5] p1 [] h).bind dxI).bind fun x3 =>
    if mx_f2 .ge i2 x3.1 = true then
      some (some (va_rf none), x3.2)
    else
      (dgR L xs x3.2 4 [9] o0).bind fun p8 =>
      ((dcV L xs D 146 [5] p8 [.int i2] x3.2).bind dxR).bind fun p10 =>
      if dcK L xs p10.2 [10] p10.1 = false then none else
      (dgR L xs p10.2 0 [10] p10.1).bind fun p15 =>
      ((dcV L xs D 151 [7, 16] p15 [va_rf o1] p10.2).bind dxI).bind fun x17 =>
      if mx_f1 .eq x17.1 = true then
        b195_2 L xs zf D w n o0 o1 (i2 + 1) x17.2
      else
        (dgR L xs x17.2 4 [9] o0).bind fun p25 =>
        ((dcV L xs D 146 [5] p25 [.int i2] x17.2).bind dxR).bind fun p27 =>
        if dcK L xs p27.2 [10] p27.1 = false then none else
        some (some (va_rf p27.1), p27.2)
theorem c195_2 {L : Nat} {xs : Nat → Int32} {zf : Value} {D : dD} {w k : Nat} (hD : dO L xs zf D k) (hz : zf.category = 1) : ∀ (n : Nat) (o0 : Option Nat) (o1 : Option Nat) (i2 : Int32) (lv : rm_L) (h : rm_H) (r : dR), rm_get lv 0 = some (va_rf o0) → rm_get lv 1 = some (va_rf o1) → rm_get lv 2 = some (.int i2) → b195_2 L xs zf D w n  o0 o1 i2 h = some r → dq L xs zf ah_M195 2 lv [] h (k + 1) r := by
  intro n
  induction n with
  | zero =>
    intro o0 o1 i2 lv h r G0 G1 G2 hh
    cases hh
  | succ n ih =>
    intro o0 o1 i2 lv h r G0 G1 G2 hh
    rw [b195_2] at hh
    refine dq_iln 2 3 (by decide +kernel) rfl G2 ?_
    refine dq_aln 0 4 (by decide +kernel) rfl G0 ?_
    obtain ⟨p1, q2, hh⟩ := db hh
    refine dq_gR 27 4 [9] 7 (by decide +kernel) rfl q2 ?_
    obtain ⟨x3, q4, hh⟩ := db hh
    obtain ⟨a5, q6, q4⟩ := db q4
    rw [dq_xI q4] at q6
    refine dq_cif hD 38 1 101 7 0 [5] p1 [] [.int i2] 12 [.int x3.1, .int i2] (by decide +kernel) ap_101 ⟨⟨Nat.le_of_ble_eq_true rfl, by decide⟩, rfl, rfl⟩ (dq_ok8 [1] [1] (dc_r dc_n) (dc_i dc_n) (by decide +kernel)) (by decide +kernel) rfl q6 rfl ?_
    rcases di hh with ⟨q7, hh⟩ | ⟨q7, hh⟩
    · refine dq_2 .ge 46 true 58 q7 (by decide +kernel) ?_
      refine dq_S (.aconst_null) 1 [] 59 _ [va_rf none] (by decide +kernel) rfl ?_
      cases hh
      exact dq_retR (by decide +kernel) rfl
    · refine dq_2 .ge 46 false 15 q7 (by decide +kernel) ?_
      refine dq_aln 0 16 (by decide +kernel) rfl G0 ?_
      obtain ⟨p8, q9, hh⟩ := db hh
      refine dq_gR 27 4 [9] 19 (by decide +kernel) rfl q9 ?_
      refine dq_iln 2 20 (by decide +kernel) rfl G2 ?_
      obtain ⟨p10, q11, hh⟩ := db hh
      obtain ⟨a12, q13, q11⟩ := db q11
      rw [dq_xR q11] at q13
      refine dq_cif hD 44 2 146 7 1 [5] p8 [.int i2] [] 25 [va_rf p10.1] (by decide +kernel) ap_146 ⟨⟨Nat.le_of_ble_eq_true rfl, by decide⟩, rfl, rfl⟩ (dq_ok8 [1, 1] [] (dc_r (dc_i dc_n)) dc_n (by decide +kernel)) (by decide +kernel) rfl q13 rfl ?_
      rcases dp hh with ⟨_, hh⟩ | ⟨q14, hh⟩
      · cases hh
      refine dq_cast 48 [10] 28 (by decide +kernel) ⟨rfl, by decide⟩ (by rw [Bool.not_eq_false] at q14; exact q14) ?_
      obtain ⟨p15, q16, hh⟩ := db hh
      refine dq_gR 50 0 [10] 31 (by decide +kernel) rfl q16 ?_
      refine dq_aln 1 32 (by decide +kernel) rfl G1 ?_
      obtain ⟨x17, q18, hh⟩ := db hh
      obtain ⟨a19, q20, q18⟩ := db q18
      rw [dq_xI q18] at q20
      refine dq_cvi hD 53 151 5 1 [7, 16] p15 [va_rf o1] [] 35 [.int x17.1] (by decide +kernel) ap_151 ⟨⟨Nat.le_of_ble_eq_true rfl, by decide⟩, rfl, rfl⟩ (dq_ok8 [1, 1] [] (dc_r (dc_r dc_n)) dc_n (by decide +kernel)) (by decide +kernel) rfl q20 rfl ?_
      rcases di hh with ⟨q21, hh⟩ | ⟨q21, hh⟩
      · refine dq_1 .eq 17 true 52 q21 (by decide +kernel) ?_
        refine dq_incy 2 1 1 55 (by decide +kernel) ⟨rfl, by decide +kernel, by decide +kernel⟩ G2 ?_
        have g22 := dg_ne (i := 2) (u := .int (i2 + 1)) (by decide) (Or.inl (by decide)) G0
        have g23 := dg_ne (i := 2) (u := .int (i2 + 1)) (by decide) (Or.inr (drc _)) G1
        have g24 := dg_eq (lv) 2 (.int (i2 + 1))
        refine dq_S (.goto (-53)) 3 [] 2 _ [] (by decide +kernel) rfl ?_
        exact ih _ _ _ _ _ _ g22 g23 g24 hh
      · refine dq_1 .eq 17 false 38 q21 (by decide +kernel) ?_
        refine dq_aln 0 39 (by decide +kernel) rfl G0 ?_
        obtain ⟨p25, q26, hh⟩ := db hh
        refine dq_gR 27 4 [9] 42 (by decide +kernel) rfl q26 ?_
        refine dq_iln 2 43 (by decide +kernel) rfl G2 ?_
        obtain ⟨p27, q28, hh⟩ := db hh
        obtain ⟨a29, q30, q28⟩ := db q28
        rw [dq_xR q28] at q30
        refine dq_cif hD 44 2 146 7 1 [5] p25 [.int i2] [] 48 [va_rf p27.1] (by decide +kernel) ap_146 ⟨⟨Nat.le_of_ble_eq_true rfl, by decide⟩, rfl, rfl⟩ (dq_ok8 [1, 1] [] (dc_r (dc_i dc_n)) dc_n (by decide +kernel)) (by decide +kernel) rfl q30 rfl ?_
        rcases dp hh with ⟨_, hh⟩ | ⟨q31, hh⟩
        · cases hh
        refine dq_cast 48 [10] 51 (by decide +kernel) ⟨rfl, by decide⟩ (by rw [Bool.not_eq_false] at q31; exact q31) ?_
        cases hh
        exact dq_retR (by decide +kernel) rfl
def b195_0 (L : Nat) (xs : Nat → Int32) (zf : Value) (D : dD) (w : Nat) (o0 : Option Nat) (o1 : Option Nat) (h : rm_H) : Option dR :=
  b195_2 L xs zf D w w o0 o1 0 h
theorem c195_0 {L : Nat} {xs : Nat → Int32} {zf : Value} {D : dD} {w k : Nat} (hD : dO L xs zf D k) (hz : zf.category = 1) : ∀ (o0 : Option Nat) (o1 : Option Nat) (lv : rm_L) (h : rm_H) (r : dR), rm_get lv 0 = some (va_rf o0) → rm_get lv 1 = some (va_rf o1) → b195_0 L xs zf D w  o0 o1 h = some r → dq L xs zf ah_M195 0 lv [] h (k + 1) r := by
  intro o0 o1 lv h r G0 G1 hh
  unfold b195_0 at hh
  refine dq_S (.iconst 0) 1 [] 1 _ [.int 0] (by decide +kernel) rfl ?_
  refine dq_isn 2 2 (by decide +kernel) (by decide +kernel) ?_
  have g1 := dg_ne (i := 2) (u := .int 0) (by decide) (Or.inl (by decide)) G0
  have g2 := dg_ne (i := 2) (u := .int 0) (by decide) (Or.inr (drc _)) G1
  have g3 := dg_eq (lv) 2 (.int 0)
  exact c195_2 hD hz _ _ _ _ _ _ _ g1 g2 g3 hh
def f195 (L : Nat) (xs : Nat → Int32) (zf : Value) (D : dD) (w : Nat) (As : List Value) (h : rm_H) : Option dR := match As with
  | [v0, v1] => (rm_rf v0).bind fun o0 => (rm_rf v1).bind fun o1 => b195_0 L xs zf D w o0 o1 h
  | _ => none
theorem d195 {L : Nat} {xs : Nat → Int32} {zf : Value} {D : dD} {w k : Nat} (hD : dO L xs zf D k) (hz : zf.category = 1) (As : List Value) (h : rm_H) (r : dR) (hh : f195 L xs zf D w As h = some r) : dq L xs zf ah_M195 0 (lv_args 0 As) [] h (k + 1) r := by
  unfold f195 at hh
  split at hh
  · obtain ⟨o0, e0, hb0⟩ := db hh
    have e0 := rm_rf_v _ _ e0
    obtain ⟨o1, e1, hb1⟩ := db hb0
    have e1 := rm_rf_v _ _ e1
    subst e0 e1
    refine c195_0 hD hz _ _ _ _ _ ?_ ?_ hb1
    all_goals (simp only [la_r, la_i, la_j]; rfl)
  · cases hh
def b196_19 (L : Nat) (xs : Nat → Int32) (zf : Value) (D : dD) (w : Nat) (s0 : Int32) (s1 : Int32) (h : rm_H) : Option dR :=
  drI (some .int) (s1 + s0) h
theorem c196_19 {L : Nat} {xs : Nat → Int32} {zf : Value} {D : dD} {w k : Nat} (hD : dO L xs zf D k) (hz : zf.category = 1) : ∀ (s0 : Int32) (s1 : Int32) (lv : rm_L) (h : rm_H) (r : dR), b196_19 L xs zf D w  s0 s1 h = some r → dq L xs zf ah_M196 19 lv [.int s0, .int s1] h (k + 1) r := by
  intro s0 s1 lv h r hh
  unfold b196_19 at hh
  refine dq_S (.iadd) 1 [] 20 _ [.int (s1 + s0)] (by decide +kernel) rfl ?_
  exact dq_retI (some .int) (by decide +kernel) rfl hh
def b196_0 (L : Nat) (xs : Nat → Int32) (zf : Value) (D : dD) (w : Nat) (i1 : Int32) (o2 : Option Nat) (h : rm_H) : Option dR :=
  (dgI L xs h 8 [10] o2).bind fun x1 =>
  ((D 159 [.int i1] h).bind dxI).bind fun x3 =>
  if mx_f2 .ne x3.1 4 = true then
    b196_19 L xs zf D w 0 (x1 * 2) x3.2
  else
    b196_19 L xs zf D w 1 (x1 * 2) x3.2
theorem c196_0 {L : Nat} {xs : Nat → Int32} {zf : Value} {D : dD} {w k : Nat} (hD : dO L xs zf D k) (hz : zf.category = 1) : ∀ (i1 : Int32) (o2 : Option Nat) (lv : rm_L) (h : rm_H) (r : dR), rm_get lv 1 = some (.int i1) → rm_get lv 2 = some (va_rf o2) → b196_0 L xs zf D w  i1 o2 h = some r → dq L xs zf ah_M196 0 lv [] h (k + 1) r := by
  intro i1 o2 lv h r G1 G2 hh
  unfold b196_0 at hh
  refine dq_aln 2 1 (by decide +kernel) rfl G2 ?_
  obtain ⟨x1, q2, hh⟩ := db hh
  refine dq_gI 121 8 [10] 4 (by decide +kernel) rfl q2 ?_
  refine dq_S (.iconst 2) 1 [] 5 _ [.int 2, .int x1] (by decide +kernel) rfl ?_
  refine dq_S (.imul) 1 [] 6 _ [.int (x1 * 2)] (by decide +kernel) rfl ?_
  refine dq_iln 1 7 (by decide +kernel) rfl G1 ?_
  obtain ⟨x3, q4, hh⟩ := db hh
  obtain ⟨a5, q6, q4⟩ := db q4
  rw [dq_xI q4] at q6
  refine dq_cst hD 209 159 1 1 [.int i1] [.int (x1 * 2)] 10 [.int x3.1, .int (x1 * 2)] (by decide +kernel) ap_159 ⟨⟨Nat.le_of_ble_eq_true rfl, by decide⟩, rfl, rfl⟩ (dq_ok8 [1] [1] (dc_i dc_n) (dc_i dc_n) (by decide +kernel)) (by decide +kernel) rfl q6 rfl ?_
  refine dq_S (.iconst 4) 1 [] 11 _ [.int 4, .int x3.1, .int (x1 * 2)] (by decide +kernel) rfl ?_
  rcases di hh with ⟨q7, hh⟩ | ⟨q7, hh⟩
  · refine dq_2 .ne 7 true 18 q7 (by decide +kernel) ?_
    refine dq_S (.iconst 0) 1 [] 19 _ [.int 0, .int (x1 * 2)] (by decide +kernel) rfl ?_
    exact c196_19 hD hz _ _ _ _ _  hh
  · refine dq_2 .ne 7 false 14 q7 (by decide +kernel) ?_
    refine dq_S (.iconst 1) 1 [] 15 _ [.int 1, .int (x1 * 2)] (by decide +kernel) rfl ?_
    refine dq_S (.goto 4) 3 [] 19 _ [.int 1, .int (x1 * 2)] (by decide +kernel) rfl ?_
    exact c196_19 hD hz _ _ _ _ _  hh
def f196 (L : Nat) (xs : Nat → Int32) (zf : Value) (D : dD) (w : Nat) (As : List Value) (h : rm_H) : Option dR := match As with
  | [v0, .int i1, v2] => (rm_rf v0).bind fun u0 => (rm_rf v2).bind fun o2 => b196_0 L xs zf D w i1 o2 h
  | _ => none
theorem d196 {L : Nat} {xs : Nat → Int32} {zf : Value} {D : dD} {w k : Nat} (hD : dO L xs zf D k) (hz : zf.category = 1) (As : List Value) (h : rm_H) (r : dR) (hh : f196 L xs zf D w As h = some r) : dq L xs zf ah_M196 0 (lv_args 0 As) [] h (k + 1) r := by
  unfold f196 at hh
  split at hh
  · obtain ⟨u0, e0, hb0⟩ := db hh
    have e0 := rm_rf_v _ _ e0
    obtain ⟨o2, e2, hb2⟩ := db hb0
    have e2 := rm_rf_v _ _ e2
    subst e0 e2
    refine c196_0 hD hz _ _ _ _ _ ?_ ?_ hb2
    all_goals (simp only [la_r, la_i, la_j]; rfl)
  · cases hh
def b197_38 (L : Nat) (xs : Nat → Int32) (zf : Value) (D : dD) (w : Nat) (s0 : Int32) (h : rm_H) : Option dR :=
  drI (some .int) s0 h
theorem c197_38 {L : Nat} {xs : Nat → Int32} {zf : Value} {D : dD} {w k : Nat} (hD : dO L xs zf D k) (hz : zf.category = 1) : ∀ (s0 : Int32) (lv : rm_L) (h : rm_H) (r : dR), b197_38 L xs zf D w  s0 h = some r → dq L xs zf ah_M197 38 lv [.int s0] h (k + 1) r := by
  intro s0 lv h r hh
  unfold b197_38 at hh
  exact dq_retI (some .int) (by decide +kernel) rfl hh
def b197_0 (L : Nat) (xs : Nat → Int32) (zf : Value) (D : dD) (w : Nat) (o0 : Option Nat) (i1 : Int32) (i2 : Int32) (h : rm_H) : Option dR :=
  ((D 159 [.int i2] h).bind dxI).bind fun x1 =>
  if mx_f2 .eq x1.1 5 = true then
    ((D 160 [.int i2] x1.2).bind dxI).bind fun x6 =>
    ((D 190 [va_rf o0, .int i1, .int x6.1] x6.2).bind dxI).bind fun x10 =>
    if mx_f2 .ne x10.1 (-1) = true then
      ((D 189 [.int i2] x10.2).bind dxI).bind fun x19 =>
      ((D 153 [.int 5, .int x19.1, .int x10.1] x19.2).bind dxI).bind fun x23 =>
      b197_38 L xs zf D w x23.1 x23.2
    else
      b197_38 L xs zf D w (-1) x10.2
  else
    drI (some .int) i2 x1.2
theorem c197_0 {L : Nat} {xs : Nat → Int32} {zf : Value} {D : dD} {w k : Nat} (hD : dO L xs zf D k) (hz : zf.category = 1) : ∀ (o0 : Option Nat) (i1 : Int32) (i2 : Int32) (lv : rm_L) (h : rm_H) (r : dR), rm_get lv 0 = some (va_rf o0) → rm_get lv 1 = some (.int i1) → rm_get lv 2 = some (.int i2) → b197_0 L xs zf D w  o0 i1 i2 h = some r → dq L xs zf ah_M197 0 lv [] h (k + 1) r := by
  intro o0 i1 i2 lv h r G0 G1 G2 hh
  unfold b197_0 at hh
  refine dq_iln 2 1 (by decide +kernel) rfl G2 ?_
  obtain ⟨x1, q2, hh⟩ := db hh
  obtain ⟨a3, q4, q2⟩ := db q2
  rw [dq_xI q2] at q4
  refine dq_cst hD 222 159 0 1 [.int i2] [] 4 [.int x1.1] (by decide +kernel) ap_159 ⟨⟨Nat.le_of_ble_eq_true rfl, by decide⟩, rfl, rfl⟩ (dq_ok8 [1] [] (dc_i dc_n) dc_n (by decide +kernel)) (by decide +kernel) rfl q4 rfl ?_
  refine dq_S (.iconst 5) 1 [] 5 _ [.int 5, .int x1.1] (by decide +kernel) rfl ?_
  rcases di hh with ⟨q5, hh⟩ | ⟨q5, hh⟩
  · refine dq_2 .eq 5 true 10 q5 (by decide +kernel) ?_
    refine dq_aln 0 11 (by decide +kernel) rfl G0 ?_
    refine dq_iln 1 12 (by decide +kernel) rfl G1 ?_
    refine dq_iln 2 13 (by decide +kernel) rfl G2 ?_
    obtain ⟨x6, q7, hh⟩ := db hh
    obtain ⟨a8, q9, q7⟩ := db q7
    rw [dq_xI q7] at q9
    refine dq_cst hD 225 160 0 1 [.int i2] [.int i1, va_rf o0] 16 [.int x6.1, .int i1, va_rf o0] (by decide +kernel) ap_160 ⟨⟨Nat.le_of_ble_eq_true rfl, by decide⟩, rfl, rfl⟩ (dq_ok8 [1] [1, 1] (dc_i dc_n) (dc_i (dc_r dc_n)) (by decide +kernel)) (by decide +kernel) rfl q9 rfl ?_
    obtain ⟨x10, q11, hh⟩ := db hh
    obtain ⟨a12, q13, q11⟩ := db q11
    rw [dq_xI q11] at q13
    refine dq_cst hD 120 190 0 3 [va_rf o0, .int i1, .int x6.1] [] 19 [.int x10.1] (by decide +kernel) ap_190 ⟨⟨Nat.le_of_ble_eq_true rfl, by decide⟩, rfl, rfl⟩ (dq_ok8 [1, 1, 1] [] (dc_r (dc_i (dc_i dc_n))) dc_n (by decide +kernel)) (by decide +kernel) rfl q13 rfl ?_
    refine dq_isn 3 20 (by decide +kernel) (by decide +kernel) ?_
    have g14 := dg_ne (i := 3) (u := .int x10.1) (by decide) (Or.inl (by decide)) G0
    have g15 := dg_ne (i := 3) (u := .int x10.1) (by decide) (Or.inl (by decide)) G1
    have g16 := dg_ne (i := 3) (u := .int x10.1) (by decide) (Or.inr rfl) G2
    have g17 := dg_eq (lv) 3 (.int x10.1)
    refine dq_iln 3 21 (by decide +kernel) rfl g17 ?_
    refine dq_S (.iconst (-1)) 1 [] 22 _ [.int (-1), .int x10.1] (by decide +kernel) rfl ?_
    rcases di hh with ⟨q18, hh⟩ | ⟨q18, hh⟩
    · refine dq_2 .ne 7 true 29 q18 (by decide +kernel) ?_
      refine dq_S (.iconst 5) 1 [] 30 _ [.int 5] (by decide +kernel) rfl ?_
      refine dq_iln 2 31 (by decide +kernel) rfl g16 ?_
      obtain ⟨x19, q20, hh⟩ := db hh
      obtain ⟨a21, q22, q20⟩ := db q20
      rw [dq_xI q20] at q22
      refine dq_cst hD 228 189 0 1 [.int i2] [.int 5] 34 [.int x19.1, .int 5] (by decide +kernel) ap_189 ⟨⟨Nat.le_of_ble_eq_true rfl, by decide⟩, rfl, rfl⟩ (dq_ok8 [1] [1] (dc_i dc_n) (dc_i dc_n) (by decide +kernel)) (by decide +kernel) rfl q22 rfl ?_
      refine dq_iln 3 35 (by decide +kernel) rfl g17 ?_
      obtain ⟨x23, q24, hh⟩ := db hh
      obtain ⟨a25, q26, q24⟩ := db q24
      rw [dq_xI q24] at q26
      refine dq_cst hD 231 153 0 3 [.int 5, .int x19.1, .int x10.1] [] 38 [.int x23.1] (by decide +kernel) ap_153 ⟨⟨Nat.le_of_ble_eq_true rfl, by decide⟩, rfl, rfl⟩ (dq_ok8 [1, 1, 1] [] (dc_i (dc_i (dc_i dc_n))) dc_n (by decide +kernel)) (by decide +kernel) rfl q26 rfl ?_
      exact c197_38 hD hz _ _ _ _  hh
    · refine dq_2 .ne 7 false 25 q18 (by decide +kernel) ?_
      refine dq_S (.iconst (-1)) 1 [] 26 _ [.int (-1)] (by decide +kernel) rfl ?_
      refine dq_S (.goto 12) 3 [] 38 _ [.int (-1)] (by decide +kernel) rfl ?_
      exact c197_38 hD hz _ _ _ _  hh
  · refine dq_2 .eq 5 false 8 q5 (by decide +kernel) ?_
    refine dq_iln 2 9 (by decide +kernel) rfl G2 ?_
    exact dq_retI (some .int) (by decide +kernel) rfl hh
def f197 (L : Nat) (xs : Nat → Int32) (zf : Value) (D : dD) (w : Nat) (As : List Value) (h : rm_H) : Option dR := match As with
  | [v0, .int i1, .int i2] => (rm_rf v0).bind fun o0 => b197_0 L xs zf D w o0 i1 i2 h
  | _ => none
theorem d197 {L : Nat} {xs : Nat → Int32} {zf : Value} {D : dD} {w k : Nat} (hD : dO L xs zf D k) (hz : zf.category = 1) (As : List Value) (h : rm_H) (r : dR) (hh : f197 L xs zf D w As h = some r) : dq L xs zf ah_M197 0 (lv_args 0 As) [] h (k + 1) r := by
  unfold f197 at hh
  split at hh
  · obtain ⟨o0, e0, hb0⟩ := db hh
    have e0 := rm_rf_v _ _ e0
    subst e0
    refine c197_0 hD hz _ _ _ _ _ _ ?_ ?_ ?_ hb0
    all_goals (simp only [la_r, la_i, la_j]; rfl)
  · cases hh
def b198_36 (L : Nat) (xs : Nat → Int32) (zf : Value) (D : dD) (w : Nat) (i2 : Int32) (h : rm_H) : Option dR :=
  drI (some .int) i2 h
theorem c198_36 {L : Nat} {xs : Nat → Int32} {zf : Value} {D : dD} {w k : Nat} (hD : dO L xs zf D k) (hz : zf.category = 1) : ∀ (i2 : Int32) (lv : rm_L) (h : rm_H) (r : dR), rm_get lv 2 = some (.int i2) → b198_36 L xs zf D w  i2 h = some r → dq L xs zf ah_M198 36 lv [] h (k + 1) r := by
  intro i2 lv h r G2 hh
  unfold b198_36 at hh
  refine dq_iln 2 37 (by decide +kernel) rfl G2 ?_
  exact dq_retI (some .int) (by decide +kernel) rfl hh
def b198_104 (L : Nat) (xs : Nat → Int32) (zf : Value) (D : dD) (w : Nat) (i2 : Int32) (o3 : Option Nat) (s0 : Int32) (s1 : Option Nat) (h : rm_H) : Option dR :=
  (dgR L xs h 6 [9] o3).bind fun p1 =>
  (dgI L xs h 2 [11] p1).bind fun x3 =>
  ((dcV L xs D 175 [4] s1 [.int s0, .int x3] h).bind dxI).bind fun x5 =>
  drI (some .int) i2 x5.2
theorem c198_104 {L : Nat} {xs : Nat → Int32} {zf : Value} {D : dD} {w k : Nat} (hD : dO L xs zf D k) (hz : zf.category = 1) : ∀ (i2 : Int32) (o3 : Option Nat) (s0 : Int32) (s1 : Option Nat) (lv : rm_L) (h : rm_H) (r : dR), rm_get lv 2 = some (.int i2) → rm_get lv 3 = some (va_rf o3) → b198_104 L xs zf D w  i2 o3 s0 s1 h = some r → dq L xs zf ah_M198 104 lv [.int s0, va_rf s1] h (k + 1) r := by
  intro i2 o3 s0 s1 lv h r G2 G3 hh
  unfold b198_104 at hh
  refine dq_aln 3 105 (by decide +kernel) rfl G3 ?_
  obtain ⟨p1, q2, hh⟩ := db hh
  refine dq_gR 341 6 [9] 108 (by decide +kernel) rfl q2 ?_
  obtain ⟨x3, q4, hh⟩ := db hh
  refine dq_gI 337 2 [11] 111 (by decide +kernel) rfl q4 ?_
  obtain ⟨x5, q6, hh⟩ := db hh
  obtain ⟨a7, q8, q6⟩ := db q6
  rw [dq_xI q6] at q8
  refine dq_cvi hD 104 175 5 2 [4] s1 [.int s0, .int x3] [] 114 [.int x5.1] (by decide +kernel) ap_175 ⟨⟨Nat.le_of_ble_eq_true rfl, by decide⟩, rfl, rfl⟩ (dq_ok8 [1, 1, 1] [] (dc_r (dc_i (dc_i dc_n))) dc_n (by decide +kernel)) (by decide +kernel) rfl q8 rfl ?_
  refine dq_S (.pop) 1 [] 115 _ [] (by decide +kernel) rfl ?_
  refine dq_iln 2 116 (by decide +kernel) rfl G2 ?_
  exact dq_retI (some .int) (by decide +kernel) rfl hh
def b198_86 (L : Nat) (xs : Nat → Int32) (zf : Value) (D : dD) (w : Nat) (o0 : Option Nat) (i2 : Int32) (o3 : Option Nat) (h : rm_H) : Option dR :=
  (dgR L xs h 0 [13] o0).bind fun p1 =>
  (dgI L xs h 2 [9] o3).bind fun x3 =>
  if mx_f1 .eq x3 = true then
    b198_104 L xs zf D w i2 o3 6 p1 h
  else
    b198_104 L xs zf D w i2 o3 7 p1 h
theorem c198_86 {L : Nat} {xs : Nat → Int32} {zf : Value} {D : dD} {w k : Nat} (hD : dO L xs zf D k) (hz : zf.category = 1) : ∀ (o0 : Option Nat) (i2 : Int32) (o3 : Option Nat) (lv : rm_L) (h : rm_H) (r : dR), rm_get lv 0 = some (va_rf o0) → rm_get lv 2 = some (.int i2) → rm_get lv 3 = some (va_rf o3) → b198_86 L xs zf D w  o0 i2 o3 h = some r → dq L xs zf ah_M198 86 lv [] h (k + 1) r := by
  intro o0 i2 o3 lv h r G0 G2 G3 hh
  unfold b198_86 at hh
  refine dq_aln 0 87 (by decide +kernel) rfl G0 ?_
  obtain ⟨p1, q2, hh⟩ := db hh
  refine dq_gR 9 0 [13] 90 (by decide +kernel) rfl q2 ?_
  refine dq_aln 3 91 (by decide +kernel) rfl G3 ?_
  obtain ⟨x3, q4, hh⟩ := db hh
  refine dq_gI 97 2 [9] 94 (by decide +kernel) rfl q4 ?_
  rcases di hh with ⟨q5, hh⟩ | ⟨q5, hh⟩
  · refine dq_1 .eq 8 true 102 q5 (by decide +kernel) ?_
    refine dq_S (.bipush 6) 2 [] 104 _ [.int 6, va_rf p1] (by decide +kernel) rfl ?_
    exact c198_104 hD hz _ _ _ _ _ _ _ G2 G3 hh
  · refine dq_1 .eq 8 false 97 q5 (by decide +kernel) ?_
    refine dq_S (.bipush 7) 2 [] 99 _ [.int 7, va_rf p1] (by decide +kernel) rfl ?_
    refine dq_S (.goto 5) 3 [] 104 _ [.int 7, va_rf p1] (by decide +kernel) rfl ?_
    exact c198_104 hD hz _ _ _ _ _ _ _ G2 G3 hh
def b198_0 (L : Nat) (xs : Nat → Int32) (zf : Value) (D : dD) (w : Nat) (o0 : Option Nat) (o1 : Option Nat) (h : rm_H) : Option dR :=
  ((dcV L xs D 173 [13] o0 [va_rf o1] h).bind dxV).bind fun h1 =>
  (dgR L xs h1 5 [12] o1).bind fun p5 =>
  (dgI L xs h1 7 [10] p5).bind fun x7 =>
  (dgR L xs h1 0 [13] o0).bind fun p12 =>
  ((D 189 [.int x7] h1).bind dxI).bind fun x14 =>
  ((dcV L xs D 194 [4] p12 [.int x14.1] x14.2).bind dxR).bind fun p18 =>
  if dnl p18.1 = true then
    b198_36 L xs zf D w x7 p18.2
  else
    (dgR L xs p18.2 6 [9] p18.1).bind fun p27 =>
    if dnl p27 = true then
      b198_36 L xs zf D w x7 p18.2
    else
      (dgR L xs p18.2 6 [9] p18.1).bind fun p30 =>
      ((dcV L xs D 199 [13] o0 [va_rf o1, va_rf p30] p18.2).bind dxV).bind fun h32 =>
      ((D 159 [.int x7] h32).bind dxI).bind fun x36 =>
      if mx_f2 .ne x36.1 5 = true then
        b198_86 L xs zf D w o0 x7 p18.1 x36.2
      else
        ((D 160 [.int x7] x36.2).bind dxI).bind fun x41 =>
        ((dcV L xs D 200 [13] o0 [.int x41.1] x41.2).bind dxI).bind fun x45 =>
        if mx_f1 .eq x45.1 = true then
          b198_86 L xs zf D w o0 x7 p18.1 x45.2
        else
          (dgR L xs x45.2 6 [9] p18.1).bind fun p50 =>
          (dgI L xs x45.2 12 [11] p50).bind fun x52 =>
          if mx_f1 .ne x52 = true then
            b198_86 L xs zf D w o0 x7 p18.1 x45.2
          else
            (dgI L xs x45.2 1 [12] o1).bind fun x55 =>
            ((dcV L xs D 178 [13] o0 [.int 6, .int x55] x45.2).bind dxV).bind fun h57 =>
            b198_86 L xs zf D w o0 x7 p18.1 h57
theorem c198_0 {L : Nat} {xs : Nat → Int32} {zf : Value} {D : dD} {w k : Nat} (hD : dO L xs zf D k) (hz : zf.category = 1) : ∀ (o0 : Option Nat) (o1 : Option Nat) (lv : rm_L) (h : rm_H) (r : dR), rm_get lv 0 = some (va_rf o0) → rm_get lv 1 = some (va_rf o1) → b198_0 L xs zf D w  o0 o1 h = some r → dq L xs zf ah_M198 0 lv [] h (k + 1) r := by
  intro o0 o1 lv h r G0 G1 hh
  unfold b198_0 at hh
  refine dq_aln 0 1 (by decide +kernel) rfl G0 ?_
  refine dq_aln 1 2 (by decide +kernel) rfl G1 ?_
  obtain ⟨h1, q2, hh⟩ := db hh
  obtain ⟨a3, q4, q2⟩ := db q2
  rw [dq_xV q2] at q4
  refine dq_cvi hD 238 173 5 1 [13] o0 [va_rf o1] [] 5 [] (by decide +kernel) ap_173 ⟨⟨Nat.le_of_ble_eq_true rfl, by decide⟩, rfl, rfl⟩ (dq_ok8 [1, 1] [] (dc_r (dc_r dc_n)) dc_n (by decide +kernel)) (by decide +kernel) rfl q4 rfl ?_
  refine dq_aln 1 6 (by decide +kernel) rfl G1 ?_
  obtain ⟨p5, q6, hh⟩ := db hh
  refine dq_gR 187 5 [12] 9 (by decide +kernel) rfl q6 ?_
  obtain ⟨x7, q8, hh⟩ := db hh
  refine dq_gI 180 7 [10] 12 (by decide +kernel) rfl q8 ?_
  refine dq_isn 2 13 (by decide +kernel) (by decide +kernel) ?_
  have g9 := dg_ne (i := 2) (u := .int x7) (by decide) (Or.inl (by decide)) G0
  have g10 := dg_ne (i := 2) (u := .int x7) (by decide) (Or.inr (drc _)) G1
  have g11 := dg_eq (lv) 2 (.int x7)
  refine dq_aln 0 14 (by decide +kernel) rfl g9 ?_
  obtain ⟨p12, q13, hh⟩ := db hh
  refine dq_gR 9 0 [13] 17 (by decide +kernel) rfl q13 ?_
  refine dq_iln 2 18 (by decide +kernel) rfl g11 ?_
  obtain ⟨x14, q15, hh⟩ := db hh
  obtain ⟨a16, q17, q15⟩ := db q15
  rw [dq_xI q15] at q17
  refine dq_cst hD 213 189 1 1 [.int x7] [va_rf p12] 21 [.int x14.1, va_rf p12] (by decide +kernel) ap_189 ⟨⟨Nat.le_of_ble_eq_true rfl, by decide⟩, rfl, rfl⟩ (dq_ok8 [1] [1] (dc_i dc_n) (dc_r dc_n) (by decide +kernel)) (by decide +kernel) rfl q17 rfl ?_
  obtain ⟨p18, q19, hh⟩ := db hh
  obtain ⟨a20, q21, q19⟩ := db q19
  rw [dq_xR q19] at q21
  refine dq_cvi hD 321 194 5 1 [4] p12 [.int x14.1] [] 24 [va_rf p18.1] (by decide +kernel) ap_194 ⟨⟨Nat.le_of_ble_eq_true rfl, by decide⟩, rfl, rfl⟩ (dq_ok8 [1, 1] [] (dc_r (dc_i dc_n)) dc_n (by decide +kernel)) (by decide +kernel) rfl q21 rfl ?_
  refine dq_asn 3 25 (by decide +kernel) (by decide +kernel) ?_
  have g22 := dg_ne (i := 3) (u := va_rf p18.1) (by decide) (Or.inl (by decide)) g9
  have g23 := dg_ne (i := 3) (u := va_rf p18.1) (by decide) (Or.inl (by decide)) g10
  have g24 := dg_ne (i := 3) (u := va_rf p18.1) (by decide) (Or.inr rfl) g11
  have g25 := dg_eq (rm_set1 (lv) 2 (.int x7)) 3 (va_rf p18.1)
  refine dq_aln 3 26 (by decide +kernel) rfl g25 ?_
  rcases di hh with ⟨q26, hh⟩ | ⟨q26, hh⟩
  · refine dq_null 10 true 36 q26 (by decide +kernel) (by decide +kernel) ?_
    exact c198_36 hD hz _ _ _ _ g24 hh
  · refine dq_null 10 false 29 q26 (by decide +kernel) (by decide +kernel) ?_
    refine dq_aln 3 30 (by decide +kernel) rfl g25 ?_
    obtain ⟨p27, q28, hh⟩ := db hh
    refine dq_gR 341 6 [9] 33 (by decide +kernel) rfl q28 ?_
    rcases di hh with ⟨q29, hh⟩ | ⟨q29, hh⟩
    · refine dq_nnull 5 false 36 q29 (by decide +kernel) (by decide +kernel) ?_
      exact c198_36 hD hz _ _ _ _ g24 hh
    · refine dq_nnull 5 true 38 q29 (by decide +kernel) (by decide +kernel) ?_
      refine dq_aln 0 39 (by decide +kernel) rfl g22 ?_
      refine dq_aln 1 40 (by decide +kernel) rfl g23 ?_
      refine dq_aln 3 41 (by decide +kernel) rfl g25 ?_
      obtain ⟨p30, q31, hh⟩ := db hh
      refine dq_gR 341 6 [9] 44 (by decide +kernel) rfl q31 ?_
      obtain ⟨h32, q33, hh⟩ := db hh
      obtain ⟨a34, q35, q33⟩ := db q33
      rw [dq_xV q33] at q35
      refine dq_cvi hD 329 199 5 2 [13] o0 [va_rf o1, va_rf p30] [] 47 [] (by decide +kernel) ap_199 ⟨⟨Nat.le_of_ble_eq_true rfl, by decide⟩, rfl, rfl⟩ (dq_ok8 [1, 1, 1] [] (dc_r (dc_r (dc_r dc_n))) dc_n (by decide +kernel)) (by decide +kernel) rfl q35 rfl ?_
      refine dq_iln 2 48 (by decide +kernel) rfl g24 ?_
      obtain ⟨x36, q37, hh⟩ := db hh
      obtain ⟨a38, q39, q37⟩ := db q37
      rw [dq_xI q37] at q39
      refine dq_cst hD 209 159 1 1 [.int x7] [] 51 [.int x36.1] (by decide +kernel) ap_159 ⟨⟨Nat.le_of_ble_eq_true rfl, by decide⟩, rfl, rfl⟩ (dq_ok8 [1] [] (dc_i dc_n) dc_n (by decide +kernel)) (by decide +kernel) rfl q39 rfl ?_
      refine dq_S (.iconst 5) 1 [] 52 _ [.int 5, .int x36.1] (by decide +kernel) rfl ?_
      rcases di hh with ⟨q40, hh⟩ | ⟨q40, hh⟩
      · refine dq_2 .ne 34 true 86 q40 (by decide +kernel) ?_
        exact c198_86 hD hz _ _ _ _ _ _ g22 g24 g25 hh
      · refine dq_2 .ne 34 false 55 q40 (by decide +kernel) ?_
        refine dq_aln 0 56 (by decide +kernel) rfl g22 ?_
        refine dq_iln 2 57 (by decide +kernel) rfl g24 ?_
        obtain ⟨x41, q42, hh⟩ := db hh
        obtain ⟨a43, q44, q42⟩ := db q42
        rw [dq_xI q42] at q44
        refine dq_cst hD 224 160 1 1 [.int x7] [va_rf o0] 60 [.int x41.1, va_rf o0] (by decide +kernel) ap_160 ⟨⟨Nat.le_of_ble_eq_true rfl, by decide⟩, rfl, rfl⟩ (dq_ok8 [1] [1] (dc_i dc_n) (dc_r dc_n) (by decide +kernel)) (by decide +kernel) rfl q44 rfl ?_
        obtain ⟨x45, q46, hh⟩ := db hh
        obtain ⟨a47, q48, q46⟩ := db q46
        rw [dq_xI q46] at q48
        refine dq_cvi hD 344 200 5 1 [13] o0 [.int x41.1] [] 63 [.int x45.1] (by decide +kernel) ap_200 ⟨⟨Nat.le_of_ble_eq_true rfl, by decide⟩, rfl, rfl⟩ (dq_ok8 [1, 1] [] (dc_r (dc_i dc_n)) dc_n (by decide +kernel)) (by decide +kernel) rfl q48 rfl ?_
        rcases di hh with ⟨q49, hh⟩ | ⟨q49, hh⟩
        · refine dq_1 .eq 23 true 86 q49 (by decide +kernel) ?_
          exact c198_86 hD hz _ _ _ _ _ _ g22 g24 g25 hh
        · refine dq_1 .eq 23 false 66 q49 (by decide +kernel) ?_
          refine dq_aln 3 67 (by decide +kernel) rfl g25 ?_
          obtain ⟨p50, q51, hh⟩ := db hh
          refine dq_gR 341 6 [9] 70 (by decide +kernel) rfl q51 ?_
          obtain ⟨x52, q53, hh⟩ := db hh
          refine dq_gI 347 12 [11] 73 (by decide +kernel) rfl q53 ?_
          rcases di hh with ⟨q54, hh⟩ | ⟨q54, hh⟩
          · refine dq_1 .ne 13 true 86 q54 (by decide +kernel) ?_
            exact c198_86 hD hz _ _ _ _ _ _ g22 g24 g25 hh
          · refine dq_1 .ne 13 false 76 q54 (by decide +kernel) ?_
            refine dq_aln 0 77 (by decide +kernel) rfl g22 ?_
            refine dq_S (.bipush 6) 2 [] 79 _ [.int 6, va_rf o0] (by decide +kernel) rfl ?_
            refine dq_aln 1 80 (by decide +kernel) rfl g23 ?_
            obtain ⟨x55, q56, hh⟩ := db hh
            refine dq_gI 174 1 [12] 83 (by decide +kernel) rfl q56 ?_
            obtain ⟨h57, q58, hh⟩ := db hh
            obtain ⟨a59, q60, q58⟩ := db q58
            rw [dq_xV q58] at q60
            refine dq_cvi hD 140 178 5 2 [13] o0 [.int 6, .int x55] [] 86 [] (by decide +kernel) ap_178 ⟨⟨Nat.le_of_ble_eq_true rfl, by decide⟩, rfl, rfl⟩ (dq_ok8 [1, 1, 1] [] (dc_r (dc_i (dc_i dc_n))) dc_n (by decide +kernel)) (by decide +kernel) rfl q60 rfl ?_
            exact c198_86 hD hz _ _ _ _ _ _ g22 g24 g25 hh
def f198 (L : Nat) (xs : Nat → Int32) (zf : Value) (D : dD) (w : Nat) (As : List Value) (h : rm_H) : Option dR := match As with
  | [v0, v1] => (rm_rf v0).bind fun o0 => (rm_rf v1).bind fun o1 => b198_0 L xs zf D w o0 o1 h
  | _ => none
theorem d198 {L : Nat} {xs : Nat → Int32} {zf : Value} {D : dD} {w k : Nat} (hD : dO L xs zf D k) (hz : zf.category = 1) (As : List Value) (h : rm_H) (r : dR) (hh : f198 L xs zf D w As h = some r) : dq L xs zf ah_M198 0 (lv_args 0 As) [] h (k + 1) r := by
  unfold f198 at hh
  split at hh
  · obtain ⟨o0, e0, hb0⟩ := db hh
    have e0 := rm_rf_v _ _ e0
    obtain ⟨o1, e1, hb1⟩ := db hb0
    have e1 := rm_rf_v _ _ e1
    subst e0 e1
    refine c198_0 hD hz _ _ _ _ _ ?_ ?_ hb1
    all_goals (simp only [la_r, la_i, la_j]; rfl)
  · cases hh
def b199_29 (L : Nat) (xs : Nat → Int32) (zf : Value) (D : dD) (w : Nat) : Nat → Option Nat → Option Nat → Option Nat → Int32 → rm_H → Option dR
  | 0, _, _, _, _, _ => none
  | n + 1, o0, o1, o2, i3, h =>
    ((dcV L xs D 167 [12] o1 [] h).bind dxI).bind fun x1 =>
    if mx_f2 .ge i3 x1.1 = true then
      some (none, x1.2)
    else
      ((dcV L xs D 168 [12] o1 [.int i3] x1.2).bind dxR).bind fun p6 =>
      (dgI L xs p6.2 12 [12] p6.1).bind fun x15 =>
      (dgR L xs p6.2 5 [11] o2).bind fun p17 =>
      ((dcV L xs D 146 [5] p17 [.int i3] p6.2).bind dxR).bind fun p19 =>
      if dcK L xs p19.2 [10] p19.1 = false then none else
      (dgI L xs p19.2 7 [10] p19.1).bind fun x24 =>
      ((dcV L xs D 188 [13] o0 [va_rf p6.1, .int x15, .int x24] p19.2).bind dxV).bind fun h26 =>
      b199_29 L xs zf D w n o0 o1 o2 (i3 + 1) h26
theorem c199_29 {L : Nat} {xs : Nat → Int32} {zf : Value} {D : dD} {w k : Nat} (hD : dO L xs zf D k) (hz : zf.category = 1) : ∀ (n : Nat) (o0 : Option Nat) (o1 : Option Nat) (o2 : Option Nat) (i3 : Int32) (lv : rm_L) (h : rm_H) (r : dR), rm_get lv 0 = some (va_rf o0) → rm_get lv 1 = some (va_rf o1) → rm_get lv 2 = some (va_rf o2) → rm_get lv 3 = some (.int i3) → b199_29 L xs zf D w n  o0 o1 o2 i3 h = some r → dq L xs zf ah_M199 29 lv [] h (k + 1) r := by
  intro n
  induction n with
  | zero =>
    intro o0 o1 o2 i3 lv h r G0 G1 G2 G3 hh
    cases hh
  | succ n ih =>
    intro o0 o1 o2 i3 lv h r G0 G1 G2 G3 hh
    rw [b199_29] at hh
    refine dq_iln 3 30 (by decide +kernel) rfl G3 ?_
    refine dq_aln 1 31 (by decide +kernel) rfl G1 ?_
    obtain ⟨x1, q2, hh⟩ := db hh
    obtain ⟨a3, q4, q2⟩ := db q2
    rw [dq_xI q2] at q4
    refine dq_cvi hD 124 167 5 0 [12] o1 [] [.int i3] 34 [.int x1.1, .int i3] (by decide +kernel) ap_167 ⟨⟨Nat.le_of_ble_eq_true rfl, by decide⟩, rfl, rfl⟩ (dq_ok8 [1] [1] (dc_r dc_n) (dc_i dc_n) (by decide +kernel)) (by decide +kernel) rfl q4 rfl ?_
    rcases di hh with ⟨q5, hh⟩ | ⟨q5, hh⟩
    · refine dq_2 .ge 43 true 77 q5 (by decide +kernel) ?_
      cases hh
      exact dq_ret0 (by decide +kernel) rfl
    · refine dq_2 .ge 43 false 37 q5 (by decide +kernel) ?_
      refine dq_aln 1 38 (by decide +kernel) rfl G1 ?_
      refine dq_iln 3 39 (by decide +kernel) rfl G3 ?_
      obtain ⟨p6, q7, hh⟩ := db hh
      obtain ⟨a8, q9, q7⟩ := db q7
      rw [dq_xR q7] at q9
      refine dq_cvi hD 127 168 5 1 [12] o1 [.int i3] [] 42 [va_rf p6.1] (by decide +kernel) ap_168 ⟨⟨Nat.le_of_ble_eq_true rfl, by decide⟩, rfl, rfl⟩ (dq_ok8 [1, 1] [] (dc_r (dc_i dc_n)) dc_n (by decide +kernel)) (by decide +kernel) rfl q9 rfl ?_
      refine dq_as 4 44 (by decide +kernel) (by decide +kernel) ?_
      have g10 := dg_ne (i := 4) (u := va_rf p6.1) (by decide) (Or.inl (by decide)) G0
      have g11 := dg_ne (i := 4) (u := va_rf p6.1) (by decide) (Or.inl (by decide)) G1
      have g12 := dg_ne (i := 4) (u := va_rf p6.1) (by decide) (Or.inl (by decide)) G2
      have g13 := dg_ne (i := 4) (u := va_rf p6.1) (by decide) (Or.inr rfl) G3
      have g14 := dg_eq (lv) 4 (va_rf p6.1)
      refine dq_aln 0 45 (by decide +kernel) rfl g10 ?_
      refine dq_al 4 47 (by decide +kernel) rfl g14 ?_
      refine dq_al 4 49 (by decide +kernel) rfl g14 ?_
      obtain ⟨x15, q16, hh⟩ := db hh
      refine dq_gI 250 12 [12] 52 (by decide +kernel) rfl q16 ?_
      refine dq_aln 2 53 (by decide +kernel) rfl g12 ?_
      obtain ⟨p17, q18, hh⟩ := db hh
      refine dq_gR 64 5 [11] 56 (by decide +kernel) rfl q18 ?_
      refine dq_iln 3 57 (by decide +kernel) rfl g13 ?_
      obtain ⟨p19, q20, hh⟩ := db hh
      obtain ⟨a21, q22, q20⟩ := db q20
      rw [dq_xR q20] at q22
      refine dq_cif hD 54 2 146 7 1 [5] p17 [.int i3] [.int x15, va_rf p6.1, va_rf o0] 62 [va_rf p19.1, .int x15, va_rf p6.1, va_rf o0] (by decide +kernel) ap_146 ⟨⟨Nat.le_of_ble_eq_true rfl, by decide⟩, rfl, rfl⟩ (dq_ok8 [1, 1] [1, 1, 1] (dc_r (dc_i dc_n)) (dc_i (dc_r (dc_r dc_n))) (by decide +kernel)) (by decide +kernel) rfl q22 rfl ?_
      rcases dp hh with ⟨_, hh⟩ | ⟨q23, hh⟩
      · cases hh
      refine dq_cast 15 [10] 65 (by decide +kernel) ⟨rfl, by decide⟩ (by rw [Bool.not_eq_false] at q23; exact q23) ?_
      obtain ⟨x24, q25, hh⟩ := db hh
      refine dq_gI 180 7 [10] 68 (by decide +kernel) rfl q25 ?_
      obtain ⟨h26, q27, hh⟩ := db hh
      obtain ⟨a28, q29, q27⟩ := db q27
      rw [dq_xV q27] at q29
      refine dq_cvi hD 183 188 5 3 [13] o0 [va_rf p6.1, .int x15, .int x24] [] 71 [] (by decide +kernel) ap_188 ⟨⟨Nat.le_of_ble_eq_true rfl, by decide⟩, rfl, rfl⟩ (dq_ok8 [1, 1, 1, 1] [] (dc_r (dc_r (dc_i (dc_i dc_n)))) dc_n (by decide +kernel)) (by decide +kernel) rfl q29 rfl ?_
      refine dq_incy 3 1 1 74 (by decide +kernel) ⟨rfl, by decide +kernel, by decide +kernel⟩ g13 ?_
      have g30 := dg_ne (i := 3) (u := .int (i3 + 1)) (by decide) (Or.inl (by decide)) g10
      have g31 := dg_ne (i := 3) (u := .int (i3 + 1)) (by decide) (Or.inl (by decide)) g11
      have g32 := dg_ne (i := 3) (u := .int (i3 + 1)) (by decide) (Or.inr (drc _)) g12
      have g33 := dg_ne (i := 3) (u := .int (i3 + 1)) (by decide) (Or.inl (by decide)) g14
      have g34 := dg_eq (rm_set1 (lv) 4 (va_rf p6.1)) 3 (.int (i3 + 1))
      refine dq_S (.goto (-45)) 3 [] 29 _ [] (by decide +kernel) rfl ?_
      exact ih _ _ _ _ _ _ _ g30 g31 g32 g34 hh
def b199_0 (L : Nat) (xs : Nat → Int32) (zf : Value) (D : dD) (w : Nat) (o0 : Option Nat) (o1 : Option Nat) (o2 : Option Nat) (h : rm_H) : Option dR :=
  ((dcV L xs D 167 [12] o1 [] h).bind dxI).bind fun x1 =>
  (dgR L xs x1.2 5 [11] o2).bind fun p5 =>
  ((dcV L xs D 101 [5] p5 [] x1.2).bind dxI).bind fun x7 =>
  if mx_f2 .eq x1.1 x7.1 = true then
    b199_29 L xs zf D w w o0 o1 o2 0 x7.2
  else
    (dgI L xs x7.2 3 [12] o1).bind fun x16 =>
    ((dcV L xs D 178 [13] o0 [.int 8, .int x16] x7.2).bind dxV).bind fun h18 =>
    some (none, h18)
theorem c199_0 {L : Nat} {xs : Nat → Int32} {zf : Value} {D : dD} {w k : Nat} (hD : dO L xs zf D k) (hz : zf.category = 1) : ∀ (o0 : Option Nat) (o1 : Option Nat) (o2 : Option Nat) (lv : rm_L) (h : rm_H) (r : dR), rm_get lv 0 = some (va_rf o0) → rm_get lv 1 = some (va_rf o1) → rm_get lv 2 = some (va_rf o2) → b199_0 L xs zf D w  o0 o1 o2 h = some r → dq L xs zf ah_M199 0 lv [] h (k + 1) r := by
  intro o0 o1 o2 lv h r G0 G1 G2 hh
  unfold b199_0 at hh
  refine dq_aln 1 1 (by decide +kernel) rfl G1 ?_
  obtain ⟨x1, q2, hh⟩ := db hh
  obtain ⟨a3, q4, q2⟩ := db q2
  rw [dq_xI q2] at q4
  refine dq_cvi hD 124 167 5 0 [12] o1 [] [] 4 [.int x1.1] (by decide +kernel) ap_167 ⟨⟨Nat.le_of_ble_eq_true rfl, by decide⟩, rfl, rfl⟩ (dq_ok8 [1] [] (dc_r dc_n) dc_n (by decide +kernel)) (by decide +kernel) rfl q4 rfl ?_
  refine dq_aln 2 5 (by decide +kernel) rfl G2 ?_
  obtain ⟨p5, q6, hh⟩ := db hh
  refine dq_gR 64 5 [11] 8 (by decide +kernel) rfl q6 ?_
  obtain ⟨x7, q8, hh⟩ := db hh
  obtain ⟨a9, q10, q8⟩ := db q8
  rw [dq_xI q8] at q10
  refine dq_cif hD 45 1 101 7 0 [5] p5 [] [.int x1.1] 13 [.int x7.1, .int x1.1] (by decide +kernel) ap_101 ⟨⟨Nat.le_of_ble_eq_true rfl, by decide⟩, rfl, rfl⟩ (dq_ok8 [1] [1] (dc_r dc_n) (dc_i dc_n) (by decide +kernel)) (by decide +kernel) rfl q10 rfl ?_
  rcases di hh with ⟨q11, hh⟩ | ⟨q11, hh⟩
  · refine dq_2 .eq 14 true 27 q11 (by decide +kernel) ?_
    refine dq_S (.iconst 0) 1 [] 28 _ [.int 0] (by decide +kernel) rfl ?_
    refine dq_isn 3 29 (by decide +kernel) (by decide +kernel) ?_
    have g12 := dg_ne (i := 3) (u := .int 0) (by decide) (Or.inl (by decide)) G0
    have g13 := dg_ne (i := 3) (u := .int 0) (by decide) (Or.inl (by decide)) G1
    have g14 := dg_ne (i := 3) (u := .int 0) (by decide) (Or.inr (drc _)) G2
    have g15 := dg_eq (lv) 3 (.int 0)
    exact c199_29 hD hz _ _ _ _ _ _ _ _ g12 g13 g14 g15 hh
  · refine dq_2 .eq 14 false 16 q11 (by decide +kernel) ?_
    refine dq_aln 0 17 (by decide +kernel) rfl G0 ?_
    refine dq_S (.bipush 8) 2 [] 19 _ [.int 8, va_rf o0] (by decide +kernel) rfl ?_
    refine dq_aln 1 20 (by decide +kernel) rfl G1 ?_
    obtain ⟨x16, q17, hh⟩ := db hh
    refine dq_gI 137 3 [12] 23 (by decide +kernel) rfl q17 ?_
    obtain ⟨h18, q19, hh⟩ := db hh
    obtain ⟨a20, q21, q19⟩ := db q19
    rw [dq_xV q19] at q21
    refine dq_cvi hD 140 178 5 2 [13] o0 [.int 8, .int x16] [] 26 [] (by decide +kernel) ap_178 ⟨⟨Nat.le_of_ble_eq_true rfl, by decide⟩, rfl, rfl⟩ (dq_ok8 [1, 1, 1] [] (dc_r (dc_i (dc_i dc_n))) dc_n (by decide +kernel)) (by decide +kernel) rfl q21 rfl ?_
    cases hh
    exact dq_ret0 (by decide +kernel) rfl
def f199 (L : Nat) (xs : Nat → Int32) (zf : Value) (D : dD) (w : Nat) (As : List Value) (h : rm_H) : Option dR := match As with
  | [v0, v1, v2] => (rm_rf v0).bind fun o0 => (rm_rf v1).bind fun o1 => (rm_rf v2).bind fun o2 => b199_0 L xs zf D w o0 o1 o2 h
  | _ => none
theorem d199 {L : Nat} {xs : Nat → Int32} {zf : Value} {D : dD} {w k : Nat} (hD : dO L xs zf D k) (hz : zf.category = 1) (As : List Value) (h : rm_H) (r : dR) (hh : f199 L xs zf D w As h = some r) : dq L xs zf ah_M199 0 (lv_args 0 As) [] h (k + 1) r := by
  unfold f199 at hh
  split at hh
  · obtain ⟨o0, e0, hb0⟩ := db hh
    have e0 := rm_rf_v _ _ e0
    obtain ⟨o1, e1, hb1⟩ := db hb0
    have e1 := rm_rf_v _ _ e1
    obtain ⟨o2, e2, hb2⟩ := db hb1
    have e2 := rm_rf_v _ _ e2
    subst e0 e1 e2
    refine c199_0 hD hz _ _ _ _ _ _ ?_ ?_ ?_ hb2
    all_goals (simp only [la_r, la_i, la_j]; rfl)
  · cases hh
def b200_19 (L : Nat) (xs : Nat → Int32) (zf : Value) (D : dD) (w : Nat) (s0 : Int32) (h : rm_H) : Option dR :=
  drI (some .boolean) s0 h
theorem c200_19 {L : Nat} {xs : Nat → Int32} {zf : Value} {D : dD} {w k : Nat} (hD : dO L xs zf D k) (hz : zf.category = 1) : ∀ (s0 : Int32) (lv : rm_L) (h : rm_H) (r : dR), b200_19 L xs zf D w  s0 h = some r → dq L xs zf ah_M200 19 lv [.int s0] h (k + 1) r := by
  intro s0 lv h r hh
  unfold b200_19 at hh
  exact dq_retI (some .boolean) (by decide +kernel) rfl hh
def b200_14 (L : Nat) (xs : Nat → Int32) (zf : Value) (D : dD) (w : Nat) (h : rm_H) : Option dR :=
  b200_19 L xs zf D w 1 h
theorem c200_14 {L : Nat} {xs : Nat → Int32} {zf : Value} {D : dD} {w k : Nat} (hD : dO L xs zf D k) (hz : zf.category = 1) : ∀ (lv : rm_L) (h : rm_H) (r : dR), b200_14 L xs zf D w  h = some r → dq L xs zf ah_M200 14 lv [] h (k + 1) r := by
  intro lv h r hh
  unfold b200_14 at hh
  refine dq_S (.iconst 1) 1 [] 15 _ [.int 1] (by decide +kernel) rfl ?_
  refine dq_S (.goto 4) 3 [] 19 _ [.int 1] (by decide +kernel) rfl ?_
  exact c200_19 hD hz _ _ _ _  hh
def b200_0 (L : Nat) (xs : Nat → Int32) (zf : Value) (D : dD) (w : Nat) (i1 : Int32) (h : rm_H) : Option dR :=
  if mx_f1 .eq i1 = true then
    b200_14 L xs zf D w h
  else
    if mx_f2 .eq i1 1 = true then
      b200_14 L xs zf D w h
    else
      if mx_f2 .ne i1 3 = true then
        b200_19 L xs zf D w 0 h
      else
        b200_14 L xs zf D w h
theorem c200_0 {L : Nat} {xs : Nat → Int32} {zf : Value} {D : dD} {w k : Nat} (hD : dO L xs zf D k) (hz : zf.category = 1) : ∀ (i1 : Int32) (lv : rm_L) (h : rm_H) (r : dR), rm_get lv 1 = some (.int i1) → b200_0 L xs zf D w  i1 h = some r → dq L xs zf ah_M200 0 lv [] h (k + 1) r := by
  intro i1 lv h r G1 hh
  unfold b200_0 at hh
  refine dq_iln 1 1 (by decide +kernel) rfl G1 ?_
  rcases di hh with ⟨q1, hh⟩ | ⟨q1, hh⟩
  · refine dq_1 .eq 13 true 14 q1 (by decide +kernel) ?_
    exact c200_14 hD hz  _ _ _  hh
  · refine dq_1 .eq 13 false 4 q1 (by decide +kernel) ?_
    refine dq_iln 1 5 (by decide +kernel) rfl G1 ?_
    refine dq_S (.iconst 1) 1 [] 6 _ [.int 1, .int i1] (by decide +kernel) rfl ?_
    rcases di hh with ⟨q2, hh⟩ | ⟨q2, hh⟩
    · refine dq_2 .eq 8 true 14 q2 (by decide +kernel) ?_
      exact c200_14 hD hz  _ _ _  hh
    · refine dq_2 .eq 8 false 9 q2 (by decide +kernel) ?_
      refine dq_iln 1 10 (by decide +kernel) rfl G1 ?_
      refine dq_S (.iconst 3) 1 [] 11 _ [.int 3, .int i1] (by decide +kernel) rfl ?_
      rcases di hh with ⟨q3, hh⟩ | ⟨q3, hh⟩
      · refine dq_2 .ne 7 true 18 q3 (by decide +kernel) ?_
        refine dq_S (.iconst 0) 1 [] 19 _ [.int 0] (by decide +kernel) rfl ?_
        exact c200_19 hD hz _ _ _ _  hh
      · refine dq_2 .ne 7 false 14 q3 (by decide +kernel) ?_
        exact c200_14 hD hz  _ _ _  hh
def f200 (L : Nat) (xs : Nat → Int32) (zf : Value) (D : dD) (w : Nat) (As : List Value) (h : rm_H) : Option dR := match As with
  | [v0, .int i1] => (rm_rf v0).bind fun u0 => b200_0 L xs zf D w i1 h
  | _ => none
theorem d200 {L : Nat} {xs : Nat → Int32} {zf : Value} {D : dD} {w k : Nat} (hD : dO L xs zf D k) (hz : zf.category = 1) (As : List Value) (h : rm_H) (r : dR) (hh : f200 L xs zf D w As h = some r) : dq L xs zf ah_M200 0 (lv_args 0 As) [] h (k + 1) r := by
  unfold f200 at hh
  split at hh
  · obtain ⟨u0, e0, hb0⟩ := db hh
    have e0 := rm_rf_v _ _ e0
    subst e0
    refine c200_0 hD hz _ _ _ _ ?_ hb0
    all_goals (simp only [la_r, la_i, la_j]; rfl)
  · cases hh
def b201_98 (L : Nat) (xs : Nat → Int32) (zf : Value) (D : dD) (w : Nat) (s0 : Int32) (s1 : Int32) (s2 : Int32) (h : rm_H) : Option dR :=
  ((D 153 [.int s2, .int s1, .int s0] h).bind dxI).bind fun x1 =>
  drI (some .int) x1.1 x1.2
theorem c201_98 {L : Nat} {xs : Nat → Int32} {zf : Value} {D : dD} {w k : Nat} (hD : dO L xs zf D k) (hz : zf.category = 1) : ∀ (s0 : Int32) (s1 : Int32) (s2 : Int32) (lv : rm_L) (h : rm_H) (r : dR), b201_98 L xs zf D w  s0 s1 s2 h = some r → dq L xs zf ah_M201 98 lv [.int s0, .int s1, .int s2] h (k + 1) r := by
  intro s0 s1 s2 lv h r hh
  unfold b201_98 at hh
  obtain ⟨x1, q2, hh⟩ := db hh
  obtain ⟨a3, q4, q2⟩ := db q2
  rw [dq_xI q2] at q4
  refine dq_cst hD 216 153 1 3 [.int s2, .int s1, .int s0] [] 101 [.int x1.1] (by decide +kernel) ap_153 ⟨⟨Nat.le_of_ble_eq_true rfl, by decide⟩, rfl, rfl⟩ (dq_ok8 [1, 1, 1] [] (dc_i (dc_i (dc_i dc_n))) dc_n (by decide +kernel)) (by decide +kernel) rfl q4 rfl ?_
  exact dq_retI (some .int) (by decide +kernel) rfl hh
def b201_80 (L : Nat) (xs : Nat → Int32) (zf : Value) (D : dD) (w : Nat) (i4 : Int32) (s0 : Int32) (h : rm_H) : Option dR :=
  ((D 189 [.int i4] h).bind dxI).bind fun x3 =>
  if mx_f1 .eq s0 = true then
    b201_98 L xs zf D w 3 x3.1 5 x3.2
  else
    b201_98 L xs zf D w 0 x3.1 5 x3.2
theorem c201_80 {L : Nat} {xs : Nat → Int32} {zf : Value} {D : dD} {w k : Nat} (hD : dO L xs zf D k) (hz : zf.category = 1) : ∀ (i4 : Int32) (s0 : Int32) (lv : rm_L) (h : rm_H) (r : dR), rm_get lv 4 = some (.int i4) → b201_80 L xs zf D w  i4 s0 h = some r → dq L xs zf ah_M201 80 lv [.int s0] h (k + 1) r := by
  intro i4 s0 lv h r G4 hh
  unfold b201_80 at hh
  refine dq_is 5 82 (by decide +kernel) (by decide +kernel) ?_
  have g1 := dg_ne (i := 5) (u := .int s0) (by decide) (Or.inr rfl) G4
  have g2 := dg_eq (lv) 5 (.int s0)
  refine dq_S (.iconst 5) 1 [] 83 _ [.int 5] (by decide +kernel) rfl ?_
  refine dq_il 4 85 (by decide +kernel) rfl g1 ?_
  obtain ⟨x3, q4, hh⟩ := db hh
  obtain ⟨a5, q6, q4⟩ := db q4
  rw [dq_xI q4] at q6
  refine dq_cst hD 213 189 1 1 [.int i4] [.int 5] 88 [.int x3.1, .int 5] (by decide +kernel) ap_189 ⟨⟨Nat.le_of_ble_eq_true rfl, by decide⟩, rfl, rfl⟩ (dq_ok8 [1] [1] (dc_i dc_n) (dc_i dc_n) (by decide +kernel)) (by decide +kernel) rfl q6 rfl ?_
  refine dq_il 5 90 (by decide +kernel) rfl g2 ?_
  rcases di hh with ⟨q7, hh⟩ | ⟨q7, hh⟩
  · refine dq_1 .eq 7 true 97 q7 (by decide +kernel) ?_
    refine dq_S (.iconst 3) 1 [] 98 _ [.int 3, .int x3.1, .int 5] (by decide +kernel) rfl ?_
    exact c201_98 hD hz _ _ _ _ _ _  hh
  · refine dq_1 .eq 7 false 93 q7 (by decide +kernel) ?_
    refine dq_S (.iconst 0) 1 [] 94 _ [.int 0, .int x3.1, .int 5] (by decide +kernel) rfl ?_
    refine dq_S (.goto 4) 3 [] 98 _ [.int 0, .int x3.1, .int 5] (by decide +kernel) rfl ?_
    exact c201_98 hD hz _ _ _ _ _ _  hh
def b201_79 (L : Nat) (xs : Nat → Int32) (zf : Value) (D : dD) (w : Nat) (i4 : Int32) (h : rm_H) : Option dR :=
  b201_80 L xs zf D w i4 0 h
theorem c201_79 {L : Nat} {xs : Nat → Int32} {zf : Value} {D : dD} {w k : Nat} (hD : dO L xs zf D k) (hz : zf.category = 1) : ∀ (i4 : Int32) (lv : rm_L) (h : rm_H) (r : dR), rm_get lv 4 = some (.int i4) → b201_79 L xs zf D w  i4 h = some r → dq L xs zf ah_M201 79 lv [] h (k + 1) r := by
  intro i4 lv h r G4 hh
  unfold b201_79 at hh
  refine dq_S (.iconst 0) 1 [] 80 _ [.int 0] (by decide +kernel) rfl ?_
  exact c201_80 hD hz _ _ _ _ _ G4 hh
def b201_0 (L : Nat) (xs : Nat → Int32) (zf : Value) (D : dD) (w : Nat) (o0 : Option Nat) (o1 : Option Nat) (h : rm_H) : Option dR :=
  (dgI L xs h 5 [13] o0).bind fun x1 =>
  (dgI L xs h 6 [13] o0).bind fun x6 =>
  (dgI L xs h 3 [13] o0).bind fun x12 =>
  (dpF h 5 [13] o0 (.int x12)).bind fun h14 =>
  (dpF h14 6 [13] o0 (.int 1)).bind fun h16 =>
  (dgR L xs h16 8 [12] o1).bind fun p18 =>
  ((dcV L xs D 166 [13] o0 [va_rf p18, .int 20] h16).bind dxI).bind fun x20 =>
  (dpF x20.2 5 [13] o0 (.int x1)).bind fun h29 =>
  (dpF h29 6 [13] o0 (.int x6)).bind fun h31 =>
  ((D 159 [.int x20.1] h31).bind dxI).bind fun x33 =>
  if mx_f2 .eq x33.1 5 = true then
    ((D 160 [.int x20.1] x33.2).bind dxI).bind fun x38 =>
    if mx_f2 .eq x38.1 3 = true then
      b201_79 L xs zf D w x20.1 x38.2
    else
      ((D 160 [.int x20.1] x38.2).bind dxI).bind fun x43 =>
      if mx_f2 .eq x43.1 4 = true then
        b201_79 L xs zf D w x20.1 x43.2
      else
        b201_80 L xs zf D w x20.1 1 x43.2
  else
    drI (some .int) x20.1 x33.2
theorem c201_0 {L : Nat} {xs : Nat → Int32} {zf : Value} {D : dD} {w k : Nat} (hD : dO L xs zf D k) (hz : zf.category = 1) : ∀ (o0 : Option Nat) (o1 : Option Nat) (lv : rm_L) (h : rm_H) (r : dR), rm_get lv 0 = some (va_rf o0) → rm_get lv 1 = some (va_rf o1) → b201_0 L xs zf D w  o0 o1 h = some r → dq L xs zf ah_M201 0 lv [] h (k + 1) r := by
  intro o0 o1 lv h r G0 G1 hh
  unfold b201_0 at hh
  refine dq_aln 0 1 (by decide +kernel) rfl G0 ?_
  obtain ⟨x1, q2, hh⟩ := db hh
  refine dq_gI 32 5 [13] 4 (by decide +kernel) rfl q2 ?_
  refine dq_isn 2 5 (by decide +kernel) (by decide +kernel) ?_
  have g3 := dg_ne (i := 2) (u := .int x1) (by decide) (Or.inl (by decide)) G0
  have g4 := dg_ne (i := 2) (u := .int x1) (by decide) (Or.inr (drc _)) G1
  have g5 := dg_eq (lv) 2 (.int x1)
  refine dq_aln 0 6 (by decide +kernel) rfl g3 ?_
  obtain ⟨x6, q7, hh⟩ := db hh
  refine dq_gI 35 6 [13] 9 (by decide +kernel) rfl q7 ?_
  refine dq_isn 3 10 (by decide +kernel) (by decide +kernel) ?_
  have g8 := dg_ne (i := 3) (u := .int x6) (by decide) (Or.inl (by decide)) g3
  have g9 := dg_ne (i := 3) (u := .int x6) (by decide) (Or.inl (by decide)) g4
  have g10 := dg_ne (i := 3) (u := .int x6) (by decide) (Or.inr rfl) g5
  have g11 := dg_eq (rm_set1 (lv) 2 (.int x1)) 3 (.int x6)
  refine dq_aln 0 11 (by decide +kernel) rfl g8 ?_
  refine dq_aln 0 12 (by decide +kernel) rfl g8 ?_
  obtain ⟨x12, q13, hh⟩ := db hh
  refine dq_gI 25 3 [13] 15 (by decide +kernel) rfl q13 ?_
  obtain ⟨h14, q15, hh⟩ := db hh
  refine dq_put 32 5 [13] 18 (by decide +kernel) rfl q15 ?_
  refine dq_aln 0 19 (by decide +kernel) rfl g8 ?_
  refine dq_S (.iconst 1) 1 [] 20 _ [.int 1, va_rf o0] (by decide +kernel) rfl ?_
  obtain ⟨h16, q17, hh⟩ := db hh
  refine dq_put 35 6 [13] 23 (by decide +kernel) rfl q17 ?_
  refine dq_aln 0 24 (by decide +kernel) rfl g8 ?_
  refine dq_aln 1 25 (by decide +kernel) rfl g9 ?_
  obtain ⟨p18, q19, hh⟩ := db hh
  refine dq_gR 154 8 [12] 28 (by decide +kernel) rfl q19 ?_
  refine dq_S (.bipush 20) 2 [] 30 _ [.int 20, va_rf p18, va_rf o0] (by decide +kernel) rfl ?_
  obtain ⟨x20, q21, hh⟩ := db hh
  obtain ⟨a22, q23, q21⟩ := db q21
  rw [dq_xI q21] at q23
  refine dq_cvi hD 86 166 5 2 [13] o0 [va_rf p18, .int 20] [] 33 [.int x20.1] (by decide +kernel) ap_166 ⟨⟨Nat.le_of_ble_eq_true rfl, by decide⟩, rfl, rfl⟩ (dq_ok8 [1, 1, 1] [] (dc_r (dc_r (dc_i dc_n))) dc_n (by decide +kernel)) (by decide +kernel) rfl q23 rfl ?_
  refine dq_is 4 35 (by decide +kernel) (by decide +kernel) ?_
  have g24 := dg_ne (i := 4) (u := .int x20.1) (by decide) (Or.inl (by decide)) g8
  have g25 := dg_ne (i := 4) (u := .int x20.1) (by decide) (Or.inl (by decide)) g9
  have g26 := dg_ne (i := 4) (u := .int x20.1) (by decide) (Or.inl (by decide)) g10
  have g27 := dg_ne (i := 4) (u := .int x20.1) (by decide) (Or.inr rfl) g11
  have g28 := dg_eq (rm_set1 (rm_set1 (lv) 2 (.int x1)) 3 (.int x6)) 4 (.int x20.1)
  refine dq_aln 0 36 (by decide +kernel) rfl g24 ?_
  refine dq_iln 2 37 (by decide +kernel) rfl g26 ?_
  obtain ⟨h29, q30, hh⟩ := db hh
  refine dq_put 32 5 [13] 40 (by decide +kernel) rfl q30 ?_
  refine dq_aln 0 41 (by decide +kernel) rfl g24 ?_
  refine dq_iln 3 42 (by decide +kernel) rfl g27 ?_
  obtain ⟨h31, q32, hh⟩ := db hh
  refine dq_put 35 6 [13] 45 (by decide +kernel) rfl q32 ?_
  refine dq_il 4 47 (by decide +kernel) rfl g28 ?_
  obtain ⟨x33, q34, hh⟩ := db hh
  obtain ⟨a35, q36, q34⟩ := db q34
  rw [dq_xI q34] at q36
  refine dq_cst hD 209 159 1 1 [.int x20.1] [] 50 [.int x33.1] (by decide +kernel) ap_159 ⟨⟨Nat.le_of_ble_eq_true rfl, by decide⟩, rfl, rfl⟩ (dq_ok8 [1] [] (dc_i dc_n) dc_n (by decide +kernel)) (by decide +kernel) rfl q36 rfl ?_
  refine dq_S (.iconst 5) 1 [] 51 _ [.int 5, .int x33.1] (by decide +kernel) rfl ?_
  rcases di hh with ⟨q37, hh⟩ | ⟨q37, hh⟩
  · refine dq_2 .eq 6 true 57 q37 (by decide +kernel) ?_
    refine dq_il 4 59 (by decide +kernel) rfl g28 ?_
    obtain ⟨x38, q39, hh⟩ := db hh
    obtain ⟨a40, q41, q39⟩ := db q39
    rw [dq_xI q39] at q41
    refine dq_cst hD 224 160 1 1 [.int x20.1] [] 62 [.int x38.1] (by decide +kernel) ap_160 ⟨⟨Nat.le_of_ble_eq_true rfl, by decide⟩, rfl, rfl⟩ (dq_ok8 [1] [] (dc_i dc_n) dc_n (by decide +kernel)) (by decide +kernel) rfl q41 rfl ?_
    refine dq_S (.iconst 3) 1 [] 63 _ [.int 3, .int x38.1] (by decide +kernel) rfl ?_
    rcases di hh with ⟨q42, hh⟩ | ⟨q42, hh⟩
    · refine dq_2 .eq 16 true 79 q42 (by decide +kernel) ?_
      exact c201_79 hD hz _ _ _ _ g28 hh
    · refine dq_2 .eq 16 false 66 q42 (by decide +kernel) ?_
      refine dq_il 4 68 (by decide +kernel) rfl g28 ?_
      obtain ⟨x43, q44, hh⟩ := db hh
      obtain ⟨a45, q46, q44⟩ := db q44
      rw [dq_xI q44] at q46
      refine dq_cst hD 224 160 1 1 [.int x20.1] [] 71 [.int x43.1] (by decide +kernel) ap_160 ⟨⟨Nat.le_of_ble_eq_true rfl, by decide⟩, rfl, rfl⟩ (dq_ok8 [1] [] (dc_i dc_n) dc_n (by decide +kernel)) (by decide +kernel) rfl q46 rfl ?_
      refine dq_S (.iconst 4) 1 [] 72 _ [.int 4, .int x43.1] (by decide +kernel) rfl ?_
      rcases di hh with ⟨q47, hh⟩ | ⟨q47, hh⟩
      · refine dq_2 .eq 7 true 79 q47 (by decide +kernel) ?_
        exact c201_79 hD hz _ _ _ _ g28 hh
      · refine dq_2 .eq 7 false 75 q47 (by decide +kernel) ?_
        refine dq_S (.iconst 1) 1 [] 76 _ [.int 1] (by decide +kernel) rfl ?_
        refine dq_S (.goto 4) 3 [] 80 _ [.int 1] (by decide +kernel) rfl ?_
        exact c201_80 hD hz _ _ _ _ _ g28 hh
  · refine dq_2 .eq 6 false 54 q37 (by decide +kernel) ?_
    refine dq_il 4 56 (by decide +kernel) rfl g28 ?_
    exact dq_retI (some .int) (by decide +kernel) rfl hh
def f201 (L : Nat) (xs : Nat → Int32) (zf : Value) (D : dD) (w : Nat) (As : List Value) (h : rm_H) : Option dR := match As with
  | [v0, v1] => (rm_rf v0).bind fun o0 => (rm_rf v1).bind fun o1 => b201_0 L xs zf D w o0 o1 h
  | _ => none
theorem d201 {L : Nat} {xs : Nat → Int32} {zf : Value} {D : dD} {w k : Nat} (hD : dO L xs zf D k) (hz : zf.category = 1) (As : List Value) (h : rm_H) (r : dR) (hh : f201 L xs zf D w As h = some r) : dq L xs zf ah_M201 0 (lv_args 0 As) [] h (k + 1) r := by
  unfold f201 at hh
  split at hh
  · obtain ⟨o0, e0, hb0⟩ := db hh
    have e0 := rm_rf_v _ _ e0
    obtain ⟨o1, e1, hb1⟩ := db hb0
    have e1 := rm_rf_v _ _ e1
    subst e0 e1
    refine c201_0 hD hz _ _ _ _ _ ?_ ?_ hb1
    all_goals (simp only [la_r, la_i, la_j]; rfl)
  · cases hh
