/-! METHODS AS FUNCTIONS, printed by wip/whole/gen_fun.py -/
def b202_0 (L : Nat) (xs : Nat → Int32) (zf : Value) (D : dD) (w : Nat) (o0 : Option Nat) (o1 : Option Nat) (i2 : Int32) (h : rm_H) : Option dR :=
  (dgI L xs h 0 [12] o1).bind fun x1 =>
  if dsw 10 12 x1 = true then
    ((dcV L xs D 208 [13] o0 [va_rf o1, .int i2] h).bind dxI).bind fun x4 =>
    drI (some .int) x4.1 x4.2
  else if x1 = 10 then
    ((dcV L xs D 203 [13] o0 [va_rf o1, .int i2] h).bind dxI).bind fun x9 =>
    drI (some .int) x9.1 x9.2
  else if x1 = 11 then
    ((dcV L xs D 204 [13] o0 [va_rf o1, .int i2] h).bind dxI).bind fun x14 =>
    drI (some .int) x14.1 x14.2
  else if x1 = 12 then
    ((dcV L xs D 207 [13] o0 [va_rf o1, .int i2] h).bind dxI).bind fun x19 =>
    drI (some .int) x19.1 x19.2
  else none
theorem c202_0 {L : Nat} {xs : Nat → Int32} {zf : Value} {D : dD} {w k : Nat} (hD : dO L xs zf D k) (hz : zf.category = 1) : ∀ (o0 : Option Nat) (o1 : Option Nat) (i2 : Int32) (lv : rm_L) (h : rm_H) (r : dR), rm_get lv 0 = some (va_rf o0) → rm_get lv 1 = some (va_rf o1) → rm_get lv 2 = some (.int i2) → b202_0 L xs zf D w  o0 o1 i2 h = some r → dq L xs zf ah_M202 0 lv [] h (k + 1) r := by
  intro o0 o1 i2 lv h r G0 G1 G2 hh
  unfold b202_0 at hh
  refine dq_aln 1 1 (by decide +kernel) rfl G1 ?_
  obtain ⟨x1, q2, hh⟩ := db hh
  refine dq_gI 134 0 [12] 4 (by decide +kernel) rfl q2 ?_
  rcases di hh with ⟨q3, hh⟩ | ⟨_, hh⟩
  · refine dq_sd 49 10 12 #[28, 35, 42] 28 53 (by decide +kernel) (by decide +kernel) q3 ?_
    refine dq_aln 0 54 (by decide +kernel) rfl G0 ?_
    refine dq_aln 1 55 (by decide +kernel) rfl G1 ?_
    refine dq_iln 2 56 (by decide +kernel) rfl G2 ?_
    obtain ⟨x4, q5, hh⟩ := db hh
    obtain ⟨a6, q7, q5⟩ := db q5
    rw [dq_xI q5] at q7
    refine dq_cvi hD 260 208 5 2 [13] o0 [va_rf o1, .int i2] [] 59 [.int x4.1] (by decide +kernel) ap_208 ⟨⟨Nat.le_of_ble_eq_true rfl, by decide⟩, rfl, rfl⟩ (dq_ok8 [1, 1, 1] [] (dc_r (dc_r (dc_i dc_n))) dc_n (by decide +kernel)) (by decide +kernel) rfl q7 rfl ?_
    exact dq_retI (some .int) (by decide +kernel) rfl hh
  rcases dp hh with ⟨q8, hh⟩ | ⟨_, hh⟩
  · refine dq_eq 10 q8 ?_
    refine dq_S (.tableswitch 49 10 12 #[28, 35, 42]) 28 [] 32 _ [] (by decide +kernel) rfl ?_
    refine dq_aln 0 33 (by decide +kernel) rfl G0 ?_
    refine dq_aln 1 34 (by decide +kernel) rfl G1 ?_
    refine dq_iln 2 35 (by decide +kernel) rfl G2 ?_
    obtain ⟨x9, q10, hh⟩ := db hh
    obtain ⟨a11, q12, q10⟩ := db q10
    rw [dq_xI q10] at q12
    refine dq_cvi hD 251 203 5 2 [13] o0 [va_rf o1, .int i2] [] 38 [.int x9.1] (by decide +kernel) ap_203 ⟨⟨Nat.le_of_ble_eq_true rfl, by decide⟩, rfl, rfl⟩ (dq_ok8 [1, 1, 1] [] (dc_r (dc_r (dc_i dc_n))) dc_n (by decide +kernel)) (by decide +kernel) rfl q12 rfl ?_
    exact dq_retI (some .int) (by decide +kernel) rfl hh
  rcases dp hh with ⟨q13, hh⟩ | ⟨_, hh⟩
  · refine dq_eq 11 q13 ?_
    refine dq_S (.tableswitch 49 10 12 #[28, 35, 42]) 28 [] 39 _ [] (by decide +kernel) rfl ?_
    refine dq_aln 0 40 (by decide +kernel) rfl G0 ?_
    refine dq_aln 1 41 (by decide +kernel) rfl G1 ?_
    refine dq_iln 2 42 (by decide +kernel) rfl G2 ?_
    obtain ⟨x14, q15, hh⟩ := db hh
    obtain ⟨a16, q17, q15⟩ := db q15
    rw [dq_xI q15] at q17
    refine dq_cvi hD 254 204 5 2 [13] o0 [va_rf o1, .int i2] [] 45 [.int x14.1] (by decide +kernel) ap_204 ⟨⟨Nat.le_of_ble_eq_true rfl, by decide⟩, rfl, rfl⟩ (dq_ok8 [1, 1, 1] [] (dc_r (dc_r (dc_i dc_n))) dc_n (by decide +kernel)) (by decide +kernel) rfl q17 rfl ?_
    exact dq_retI (some .int) (by decide +kernel) rfl hh
  rcases dp hh with ⟨q18, hh⟩ | ⟨_, hh⟩
  · refine dq_eq 12 q18 ?_
    refine dq_S (.tableswitch 49 10 12 #[28, 35, 42]) 28 [] 46 _ [] (by decide +kernel) rfl ?_
    refine dq_aln 0 47 (by decide +kernel) rfl G0 ?_
    refine dq_aln 1 48 (by decide +kernel) rfl G1 ?_
    refine dq_iln 2 49 (by decide +kernel) rfl G2 ?_
    obtain ⟨x19, q20, hh⟩ := db hh
    obtain ⟨a21, q22, q20⟩ := db q20
    rw [dq_xI q20] at q22
    refine dq_cvi hD 257 207 5 2 [13] o0 [va_rf o1, .int i2] [] 52 [.int x19.1] (by decide +kernel) ap_207 ⟨⟨Nat.le_of_ble_eq_true rfl, by decide⟩, rfl, rfl⟩ (dq_ok8 [1, 1, 1] [] (dc_r (dc_r (dc_i dc_n))) dc_n (by decide +kernel)) (by decide +kernel) rfl q22 rfl ?_
    exact dq_retI (some .int) (by decide +kernel) rfl hh
  cases hh
def f202 (L : Nat) (xs : Nat → Int32) (zf : Value) (D : dD) (w : Nat) (As : List Value) (h : rm_H) : Option dR := match As with
  | [v0, v1, .int i2] => (rm_rf v0).bind fun o0 => (rm_rf v1).bind fun o1 => b202_0 L xs zf D w o0 o1 i2 h
  | _ => none
theorem d202 {L : Nat} {xs : Nat → Int32} {zf : Value} {D : dD} {w k : Nat} (hD : dO L xs zf D k) (hz : zf.category = 1) (As : List Value) (h : rm_H) (r : dR) (hh : f202 L xs zf D w As h = some r) : dq L xs zf ah_M202 0 (lv_args 0 As) [] h (k + 1) r := by
  unfold f202 at hh
  split at hh
  · obtain ⟨o0, e0, hb0⟩ := db hh
    have e0 := rm_rf_v _ _ e0
    obtain ⟨o1, e1, hb1⟩ := db hb0
    have e1 := rm_rf_v _ _ e1
    subst e0 e1
    refine c202_0 hD hz _ _ _ _ _ _ ?_ ?_ ?_ hb1
    all_goals (simp only [la_r, la_i, la_j]; rfl)
  · cases hh
def b203_0 (L : Nat) (xs : Nat → Int32) (zf : Value) (D : dD) (w : Nat) (o0 : Option Nat) (o1 : Option Nat) (i2 : Int32) (h : rm_H) : Option dR :=
  ((dcV L xs D 192 [13] o0 [va_rf o1, .int i2] h).bind dxR).bind fun p1 =>
  if dnl p1.1 = true then
    drI (some .int) 2 p1.2
  else
    ((D 160 [.int i2] p1.2).bind dxI).bind fun x10 =>
    (dgI L xs x10.2 7 [10] p1.1).bind fun x14 =>
    ((D 197 [va_rf (some 4), .int x10.1, .int x14] x10.2).bind dxI).bind fun x16 =>
    if mx_f2 .ne x16.1 (-1) = true then
      (dgR L xs x16.2 0 [13] o0).bind fun p26 =>
      ((dcV L xs D 196 [13] o0 [.int i2, va_rf p1.1] x16.2).bind dxI).bind fun x28 =>
      ((dcV L xs D 175 [4] p26 [.int 3, .int x28.1] x28.2).bind dxI).bind fun x32 =>
      drI (some .int) x16.1 x32.2
    else
      (dgI L xs x16.2 3 [12] o1).bind fun x36 =>
      ((dcV L xs D 178 [13] o0 [.int 6, .int x36] x16.2).bind dxV).bind fun h38 =>
      drI (some .int) 2 h38
theorem c203_0 {L : Nat} {xs : Nat → Int32} {zf : Value} {D : dD} {w k : Nat} (hD : dO L xs zf D k) (hz : zf.category = 1) : ∀ (o0 : Option Nat) (o1 : Option Nat) (i2 : Int32) (lv : rm_L) (h : rm_H) (r : dR), rm_get lv 0 = some (va_rf o0) → rm_get lv 1 = some (va_rf o1) → rm_get lv 2 = some (.int i2) → b203_0 L xs zf D w  o0 o1 i2 h = some r → dq L xs zf ah_M203 0 lv [] h (k + 1) r := by
  intro o0 o1 i2 lv h r G0 G1 G2 hh
  unfold b203_0 at hh
  refine dq_aln 0 1 (by decide +kernel) rfl G0 ?_
  refine dq_aln 1 2 (by decide +kernel) rfl G1 ?_
  refine dq_iln 2 3 (by decide +kernel) rfl G2 ?_
  obtain ⟨p1, q2, hh⟩ := db hh
  obtain ⟨a3, q4, q2⟩ := db q2
  rw [dq_xR q2] at q4
  refine dq_cvi hD 300 192 5 2 [13] o0 [va_rf o1, .int i2] [] 6 [va_rf p1.1] (by decide +kernel) ap_192 ⟨⟨Nat.le_of_ble_eq_true rfl, by decide⟩, rfl, rfl⟩ (dq_ok8 [1, 1, 1] [] (dc_r (dc_r (dc_i dc_n))) dc_n (by decide +kernel)) (by decide +kernel) rfl q4 rfl ?_
  refine dq_asn 3 7 (by decide +kernel) (by decide +kernel) ?_
  have g5 := dg_ne (i := 3) (u := va_rf p1.1) (by decide) (Or.inl (by decide)) G0
  have g6 := dg_ne (i := 3) (u := va_rf p1.1) (by decide) (Or.inl (by decide)) G1
  have g7 := dg_ne (i := 3) (u := va_rf p1.1) (by decide) (Or.inr rfl) G2
  have g8 := dg_eq (lv) 3 (va_rf p1.1)
  refine dq_aln 3 8 (by decide +kernel) rfl g8 ?_
  rcases di hh with ⟨q9, hh⟩ | ⟨q9, hh⟩
  · refine dq_nnull 5 false 11 q9 (by decide +kernel) (by decide +kernel) ?_
    refine dq_S (.iconst 2) 1 [] 12 _ [.int 2] (by decide +kernel) rfl ?_
    exact dq_retI (some .int) (by decide +kernel) rfl hh
  · refine dq_nnull 5 true 13 q9 (by decide +kernel) (by decide +kernel) ?_
    refine dq_S (.getstatic 304) 3 [9] 16 _ [va_rf (some 4)] (by decide +kernel) rfl ?_
    refine dq_iln 2 17 (by decide +kernel) rfl g7 ?_
    obtain ⟨x10, q11, hh⟩ := db hh
    obtain ⟨a12, q13, q11⟩ := db q11
    rw [dq_xI q11] at q13
    refine dq_cst hD 224 160 1 1 [.int i2] [va_rf (some 4)] 20 [.int x10.1, va_rf (some 4)] (by decide +kernel) ap_160 ⟨⟨Nat.le_of_ble_eq_true rfl, by decide⟩, rfl, rfl⟩ (dq_ok8 [1] [1] (dc_i dc_n) (dc_r dc_n) (by decide +kernel)) (by decide +kernel) rfl q13 rfl ?_
    refine dq_aln 3 21 (by decide +kernel) rfl g8 ?_
    obtain ⟨x14, q15, hh⟩ := db hh
    refine dq_gI 180 7 [10] 24 (by decide +kernel) rfl q15 ?_
    obtain ⟨x16, q17, hh⟩ := db hh
    obtain ⟨a18, q19, q17⟩ := db q17
    rw [dq_xI q17] at q19
    refine dq_cst hD 307 197 1 3 [va_rf (some 4), .int x10.1, .int x14] [] 27 [.int x16.1] (by decide +kernel) ap_197 ⟨⟨Nat.le_of_ble_eq_true rfl, by decide⟩, rfl, rfl⟩ (dq_ok8 [1, 1, 1] [] (dc_r (dc_i (dc_i dc_n))) dc_n (by decide +kernel)) (by decide +kernel) rfl q19 rfl ?_
    refine dq_is 4 29 (by decide +kernel) (by decide +kernel) ?_
    have g20 := dg_ne (i := 4) (u := .int x16.1) (by decide) (Or.inl (by decide)) g5
    have g21 := dg_ne (i := 4) (u := .int x16.1) (by decide) (Or.inl (by decide)) g6
    have g22 := dg_ne (i := 4) (u := .int x16.1) (by decide) (Or.inl (by decide)) g7
    have g23 := dg_ne (i := 4) (u := .int x16.1) (by decide) (Or.inr (drc _)) g8
    have g24 := dg_eq (rm_set1 (lv) 3 (va_rf p1.1)) 4 (.int x16.1)
    refine dq_il 4 31 (by decide +kernel) rfl g24 ?_
    refine dq_S (.iconst (-1)) 1 [] 32 _ [.int (-1), .int x16.1] (by decide +kernel) rfl ?_
    rcases di hh with ⟨q25, hh⟩ | ⟨q25, hh⟩
    · refine dq_2 .ne 15 true 47 q25 (by decide +kernel) ?_
      refine dq_aln 0 48 (by decide +kernel) rfl g20 ?_
      obtain ⟨p26, q27, hh⟩ := db hh
      refine dq_gR 9 0 [13] 51 (by decide +kernel) rfl q27 ?_
      refine dq_S (.iconst 3) 1 [] 52 _ [.int 3, va_rf p26] (by decide +kernel) rfl ?_
      refine dq_aln 0 53 (by decide +kernel) rfl g20 ?_
      refine dq_iln 2 54 (by decide +kernel) rfl g22 ?_
      refine dq_aln 3 55 (by decide +kernel) rfl g23 ?_
      obtain ⟨x28, q29, hh⟩ := db hh
      obtain ⟨a30, q31, q29⟩ := db q29
      rw [dq_xI q29] at q31
      refine dq_cvi hD 310 196 5 2 [13] o0 [.int i2, va_rf p1.1] [.int 3, va_rf p26] 58 [.int x28.1, .int 3, va_rf p26] (by decide +kernel) ap_196 ⟨⟨Nat.le_of_ble_eq_true rfl, by decide⟩, rfl, rfl⟩ (dq_ok8 [1, 1, 1] [1, 1] (dc_r (dc_i (dc_r dc_n))) (dc_i (dc_r dc_n)) (by decide +kernel)) (by decide +kernel) rfl q31 rfl ?_
      obtain ⟨x32, q33, hh⟩ := db hh
      obtain ⟨a34, q35, q33⟩ := db q33
      rw [dq_xI q33] at q35
      refine dq_cvi hD 104 175 5 2 [4] p26 [.int 3, .int x28.1] [] 61 [.int x32.1] (by decide +kernel) ap_175 ⟨⟨Nat.le_of_ble_eq_true rfl, by decide⟩, rfl, rfl⟩ (dq_ok8 [1, 1, 1] [] (dc_r (dc_i (dc_i dc_n))) dc_n (by decide +kernel)) (by decide +kernel) rfl q35 rfl ?_
      refine dq_S (.pop) 1 [] 62 _ [] (by decide +kernel) rfl ?_
      refine dq_il 4 64 (by decide +kernel) rfl g24 ?_
      exact dq_retI (some .int) (by decide +kernel) rfl hh
    · refine dq_2 .ne 15 false 35 q25 (by decide +kernel) ?_
      refine dq_aln 0 36 (by decide +kernel) rfl g20 ?_
      refine dq_S (.bipush 6) 2 [] 38 _ [.int 6, va_rf o0] (by decide +kernel) rfl ?_
      refine dq_aln 1 39 (by decide +kernel) rfl g21 ?_
      obtain ⟨x36, q37, hh⟩ := db hh
      refine dq_gI 137 3 [12] 42 (by decide +kernel) rfl q37 ?_
      obtain ⟨h38, q39, hh⟩ := db hh
      obtain ⟨a40, q41, q39⟩ := db q39
      rw [dq_xV q39] at q41
      refine dq_cvi hD 140 178 5 2 [13] o0 [.int 6, .int x36] [] 45 [] (by decide +kernel) ap_178 ⟨⟨Nat.le_of_ble_eq_true rfl, by decide⟩, rfl, rfl⟩ (dq_ok8 [1, 1, 1] [] (dc_r (dc_i (dc_i dc_n))) dc_n (by decide +kernel)) (by decide +kernel) rfl q41 rfl ?_
      refine dq_S (.iconst 2) 1 [] 46 _ [.int 2] (by decide +kernel) rfl ?_
      exact dq_retI (some .int) (by decide +kernel) rfl hh
def f203 (L : Nat) (xs : Nat → Int32) (zf : Value) (D : dD) (w : Nat) (As : List Value) (h : rm_H) : Option dR := match As with
  | [v0, v1, .int i2] => (rm_rf v0).bind fun o0 => (rm_rf v1).bind fun o1 => b203_0 L xs zf D w o0 o1 i2 h
  | _ => none
theorem d203 {L : Nat} {xs : Nat → Int32} {zf : Value} {D : dD} {w k : Nat} (hD : dO L xs zf D k) (hz : zf.category = 1) (As : List Value) (h : rm_H) (r : dR) (hh : f203 L xs zf D w As h = some r) : dq L xs zf ah_M203 0 (lv_args 0 As) [] h (k + 1) r := by
  unfold f203 at hh
  split at hh
  · obtain ⟨o0, e0, hb0⟩ := db hh
    have e0 := rm_rf_v _ _ e0
    obtain ⟨o1, e1, hb1⟩ := db hb0
    have e1 := rm_rf_v _ _ e1
    subst e0 e1
    refine c203_0 hD hz _ _ _ _ _ _ ?_ ?_ ?_ hb1
    all_goals (simp only [la_r, la_i, la_j]; rfl)
  · cases hh
def b204_122 (L : Nat) (xs : Nat → Int32) (zf : Value) (D : dD) (w : Nat) (s0 : Int32) (h : rm_H) : Option dR :=
  drI (some .int) s0 h
theorem c204_122 {L : Nat} {xs : Nat → Int32} {zf : Value} {D : dD} {w k : Nat} (hD : dO L xs zf D k) (hz : zf.category = 1) : ∀ (s0 : Int32) (lv : rm_L) (h : rm_H) (r : dR), b204_122 L xs zf D w  s0 h = some r → dq L xs zf ah_M204 122 lv [.int s0] h (k + 1) r := by
  intro s0 lv h r hh
  unfold b204_122 at hh
  exact dq_retI (some .int) (by decide +kernel) rfl hh
def b204_88 (L : Nat) (xs : Nat → Int32) (zf : Value) (D : dD) (w : Nat) (o0 : Option Nat) (o4 : Option Nat) (h : rm_H) : Option dR :=
  (dgR L xs h 0 [13] o0).bind fun p1 =>
  (dgI L xs h 2 [11] o4).bind fun x3 =>
  ((dcV L xs D 175 [4] p1 [.int 4, .int x3] h).bind dxI).bind fun x5 =>
  (dgR L xs x5.2 8 [11] o4).bind fun p9 =>
  if dnl p9 = true then
    b204_122 L xs zf D w 0 x5.2
  else
    (dgR L xs x5.2 8 [11] o4).bind fun p12 =>
    (dgI L xs x5.2 7 [10] p12).bind fun x14 =>
    b204_122 L xs zf D w x14 x5.2
theorem c204_88 {L : Nat} {xs : Nat → Int32} {zf : Value} {D : dD} {w k : Nat} (hD : dO L xs zf D k) (hz : zf.category = 1) : ∀ (o0 : Option Nat) (o4 : Option Nat) (lv : rm_L) (h : rm_H) (r : dR), rm_get lv 0 = some (va_rf o0) → rm_get lv 4 = some (va_rf o4) → b204_88 L xs zf D w  o0 o4 h = some r → dq L xs zf ah_M204 88 lv [] h (k + 1) r := by
  intro o0 o4 lv h r G0 G4 hh
  unfold b204_88 at hh
  refine dq_aln 0 89 (by decide +kernel) rfl G0 ?_
  obtain ⟨p1, q2, hh⟩ := db hh
  refine dq_gR 9 0 [13] 92 (by decide +kernel) rfl q2 ?_
  refine dq_S (.iconst 4) 1 [] 93 _ [.int 4, va_rf p1] (by decide +kernel) rfl ?_
  refine dq_al 4 95 (by decide +kernel) rfl G4 ?_
  obtain ⟨x3, q4, hh⟩ := db hh
  refine dq_gI 337 2 [11] 98 (by decide +kernel) rfl q4 ?_
  obtain ⟨x5, q6, hh⟩ := db hh
  obtain ⟨a7, q8, q6⟩ := db q6
  rw [dq_xI q6] at q8
  refine dq_cvi hD 104 175 5 2 [4] p1 [.int 4, .int x3] [] 101 [.int x5.1] (by decide +kernel) ap_175 ⟨⟨Nat.le_of_ble_eq_true rfl, by decide⟩, rfl, rfl⟩ (dq_ok8 [1, 1, 1] [] (dc_r (dc_i (dc_i dc_n))) dc_n (by decide +kernel)) (by decide +kernel) rfl q8 rfl ?_
  refine dq_S (.pop) 1 [] 102 _ [] (by decide +kernel) rfl ?_
  refine dq_al 4 104 (by decide +kernel) rfl G4 ?_
  obtain ⟨p9, q10, hh⟩ := db hh
  refine dq_gR 80 8 [11] 107 (by decide +kernel) rfl q10 ?_
  rcases di hh with ⟨q11, hh⟩ | ⟨q11, hh⟩
  · refine dq_nnull 7 false 110 q11 (by decide +kernel) (by decide +kernel) ?_
    refine dq_S (.iconst 0) 1 [] 111 _ [.int 0] (by decide +kernel) rfl ?_
    refine dq_S (.goto 11) 3 [] 122 _ [.int 0] (by decide +kernel) rfl ?_
    exact c204_122 hD hz _ _ _ _  hh
  · refine dq_nnull 7 true 114 q11 (by decide +kernel) (by decide +kernel) ?_
    refine dq_al 4 116 (by decide +kernel) rfl G4 ?_
    obtain ⟨p12, q13, hh⟩ := db hh
    refine dq_gR 80 8 [11] 119 (by decide +kernel) rfl q13 ?_
    obtain ⟨x14, q15, hh⟩ := db hh
    refine dq_gI 180 7 [10] 122 (by decide +kernel) rfl q15 ?_
    exact c204_122 hD hz _ _ _ _  hh
def b204_0 (L : Nat) (xs : Nat → Int32) (zf : Value) (D : dD) (w : Nat) (o0 : Option Nat) (o1 : Option Nat) (i2 : Int32) (h : rm_H) : Option dR :=
  (dgR L xs h 6 [12] o1).bind fun p1 =>
  ((dcV L xs D 193 [13] o0 [va_rf p1, .int i2] h).bind dxR).bind fun p3 =>
  if dnl p3.1 = true then
    drI (some .int) 2 p3.2
  else
    (dgR L xs p3.2 2 [12] o1).bind fun p12 =>
    ((dcV L xs D 156 [9] p3.1 [va_rf p12, .int 1] p3.2).bind dxR).bind fun p14 =>
    if dnl p14.1 = true then
      (dgI L xs p14.2 3 [12] o1).bind fun x24 =>
      ((dcV L xs D 178 [13] o0 [.int 3, .int x24] p14.2).bind dxV).bind fun h26 =>
      drI (some .int) 2 h26
    else
      ((dcV L xs D 199 [13] o0 [va_rf o1, va_rf p14.1] p14.2).bind dxV).bind fun h30 =>
      ((D 159 [.int i2] h30).bind dxI).bind fun x34 =>
      if mx_f2 .ne x34.1 5 = true then
        b204_88 L xs zf D w o0 p14.1 x34.2
      else
        (dgR L xs x34.2 6 [12] o1).bind fun p39 =>
        ((D 160 [.int i2] x34.2).bind dxI).bind fun x41 =>
        ((dcV L xs D 205 [13] o0 [va_rf p14.1, va_rf p39, .int x41.1] x41.2).bind dxI).bind fun x45 =>
        if mx_f1 .ne x45.1 = true then
          b204_88 L xs zf D w o0 p14.1 x45.2
        else
          (dgR L xs x45.2 6 [12] o1).bind fun p50 =>
          (dgI L xs x45.2 1 [12] p50).bind fun x52 =>
          ((dcV L xs D 178 [13] o0 [.int 6, .int x52] x45.2).bind dxV).bind fun h54 =>
          b204_88 L xs zf D w o0 p14.1 h54
theorem c204_0 {L : Nat} {xs : Nat → Int32} {zf : Value} {D : dD} {w k : Nat} (hD : dO L xs zf D k) (hz : zf.category = 1) : ∀ (o0 : Option Nat) (o1 : Option Nat) (i2 : Int32) (lv : rm_L) (h : rm_H) (r : dR), rm_get lv 0 = some (va_rf o0) → rm_get lv 1 = some (va_rf o1) → rm_get lv 2 = some (.int i2) → b204_0 L xs zf D w  o0 o1 i2 h = some r → dq L xs zf ah_M204 0 lv [] h (k + 1) r := by
  intro o0 o1 i2 lv h r G0 G1 G2 hh
  unfold b204_0 at hh
  refine dq_aln 0 1 (by decide +kernel) rfl G0 ?_
  refine dq_aln 1 2 (by decide +kernel) rfl G1 ?_
  obtain ⟨p1, q2, hh⟩ := db hh
  refine dq_gR 235 6 [12] 5 (by decide +kernel) rfl q2 ?_
  refine dq_iln 2 6 (by decide +kernel) rfl G2 ?_
  obtain ⟨p3, q4, hh⟩ := db hh
  obtain ⟨a5, q6, q4⟩ := db q4
  rw [dq_xR q4] at q6
  refine dq_cvi hD 314 193 5 2 [13] o0 [va_rf p1, .int i2] [] 9 [va_rf p3.1] (by decide +kernel) ap_193 ⟨⟨Nat.le_of_ble_eq_true rfl, by decide⟩, rfl, rfl⟩ (dq_ok8 [1, 1, 1] [] (dc_r (dc_r (dc_i dc_n))) dc_n (by decide +kernel)) (by decide +kernel) rfl q6 rfl ?_
  refine dq_asn 3 10 (by decide +kernel) (by decide +kernel) ?_
  have g7 := dg_ne (i := 3) (u := va_rf p3.1) (by decide) (Or.inl (by decide)) G0
  have g8 := dg_ne (i := 3) (u := va_rf p3.1) (by decide) (Or.inl (by decide)) G1
  have g9 := dg_ne (i := 3) (u := va_rf p3.1) (by decide) (Or.inr rfl) G2
  have g10 := dg_eq (lv) 3 (va_rf p3.1)
  refine dq_aln 3 11 (by decide +kernel) rfl g10 ?_
  rcases di hh with ⟨q11, hh⟩ | ⟨q11, hh⟩
  · refine dq_nnull 5 false 14 q11 (by decide +kernel) (by decide +kernel) ?_
    refine dq_S (.iconst 2) 1 [] 15 _ [.int 2] (by decide +kernel) rfl ?_
    exact dq_retI (some .int) (by decide +kernel) rfl hh
  · refine dq_nnull 5 true 16 q11 (by decide +kernel) (by decide +kernel) ?_
    refine dq_aln 3 17 (by decide +kernel) rfl g10 ?_
    refine dq_aln 1 18 (by decide +kernel) rfl g8 ?_
    obtain ⟨p12, q13, hh⟩ := db hh
    refine dq_gR 295 2 [12] 21 (by decide +kernel) rfl q13 ?_
    refine dq_S (.iconst 1) 1 [] 22 _ [.int 1, va_rf p12, va_rf p3.1] (by decide +kernel) rfl ?_
    obtain ⟨p14, q15, hh⟩ := db hh
    obtain ⟨a16, q17, q15⟩ := db q15
    rw [dq_xR q15] at q17
    refine dq_cvi hD 325 156 5 2 [9] p3.1 [va_rf p12, .int 1] [] 25 [va_rf p14.1] (by decide +kernel) ap_156 ⟨⟨Nat.le_of_ble_eq_true rfl, by decide⟩, rfl, rfl⟩ (dq_ok8 [1, 1, 1] [] (dc_r (dc_r (dc_i dc_n))) dc_n (by decide +kernel)) (by decide +kernel) rfl q17 rfl ?_
    refine dq_as 4 27 (by decide +kernel) (by decide +kernel) ?_
    have g18 := dg_ne (i := 4) (u := va_rf p14.1) (by decide) (Or.inl (by decide)) g7
    have g19 := dg_ne (i := 4) (u := va_rf p14.1) (by decide) (Or.inl (by decide)) g8
    have g20 := dg_ne (i := 4) (u := va_rf p14.1) (by decide) (Or.inl (by decide)) g9
    have g21 := dg_ne (i := 4) (u := va_rf p14.1) (by decide) (Or.inr (drc _)) g10
    have g22 := dg_eq (rm_set1 (lv) 3 (va_rf p3.1)) 4 (va_rf p14.1)
    refine dq_al 4 29 (by decide +kernel) rfl g22 ?_
    rcases di hh with ⟨q23, hh⟩ | ⟨q23, hh⟩
    · refine dq_nnull 14 false 32 q23 (by decide +kernel) (by decide +kernel) ?_
      refine dq_aln 0 33 (by decide +kernel) rfl g18 ?_
      refine dq_S (.iconst 3) 1 [] 34 _ [.int 3, va_rf o0] (by decide +kernel) rfl ?_
      refine dq_aln 1 35 (by decide +kernel) rfl g19 ?_
      obtain ⟨x24, q25, hh⟩ := db hh
      refine dq_gI 137 3 [12] 38 (by decide +kernel) rfl q25 ?_
      obtain ⟨h26, q27, hh⟩ := db hh
      obtain ⟨a28, q29, q27⟩ := db q27
      rw [dq_xV q27] at q29
      refine dq_cvi hD 140 178 5 2 [13] o0 [.int 3, .int x24] [] 41 [] (by decide +kernel) ap_178 ⟨⟨Nat.le_of_ble_eq_true rfl, by decide⟩, rfl, rfl⟩ (dq_ok8 [1, 1, 1] [] (dc_r (dc_i (dc_i dc_n))) dc_n (by decide +kernel)) (by decide +kernel) rfl q29 rfl ?_
      refine dq_S (.iconst 2) 1 [] 42 _ [.int 2] (by decide +kernel) rfl ?_
      exact dq_retI (some .int) (by decide +kernel) rfl hh
    · refine dq_nnull 14 true 43 q23 (by decide +kernel) (by decide +kernel) ?_
      refine dq_aln 0 44 (by decide +kernel) rfl g18 ?_
      refine dq_aln 1 45 (by decide +kernel) rfl g19 ?_
      refine dq_al 4 47 (by decide +kernel) rfl g22 ?_
      obtain ⟨h30, q31, hh⟩ := db hh
      obtain ⟨a32, q33, q31⟩ := db q31
      rw [dq_xV q31] at q33
      refine dq_cvi hD 329 199 5 2 [13] o0 [va_rf o1, va_rf p14.1] [] 50 [] (by decide +kernel) ap_199 ⟨⟨Nat.le_of_ble_eq_true rfl, by decide⟩, rfl, rfl⟩ (dq_ok8 [1, 1, 1] [] (dc_r (dc_r (dc_r dc_n))) dc_n (by decide +kernel)) (by decide +kernel) rfl q33 rfl ?_
      refine dq_iln 2 51 (by decide +kernel) rfl g20 ?_
      obtain ⟨x34, q35, hh⟩ := db hh
      obtain ⟨a36, q37, q35⟩ := db q35
      rw [dq_xI q35] at q37
      refine dq_cst hD 209 159 1 1 [.int i2] [] 54 [.int x34.1] (by decide +kernel) ap_159 ⟨⟨Nat.le_of_ble_eq_true rfl, by decide⟩, rfl, rfl⟩ (dq_ok8 [1] [] (dc_i dc_n) dc_n (by decide +kernel)) (by decide +kernel) rfl q37 rfl ?_
      refine dq_S (.iconst 5) 1 [] 55 _ [.int 5, .int x34.1] (by decide +kernel) rfl ?_
      rcases di hh with ⟨q38, hh⟩ | ⟨q38, hh⟩
      · refine dq_2 .ne 33 true 88 q38 (by decide +kernel) ?_
        exact c204_88 hD hz _ _ _ _ _ g18 g22 hh
      · refine dq_2 .ne 33 false 58 q38 (by decide +kernel) ?_
        refine dq_aln 0 59 (by decide +kernel) rfl g18 ?_
        refine dq_al 4 61 (by decide +kernel) rfl g22 ?_
        refine dq_aln 1 62 (by decide +kernel) rfl g19 ?_
        obtain ⟨p39, q40, hh⟩ := db hh
        refine dq_gR 235 6 [12] 65 (by decide +kernel) rfl q40 ?_
        refine dq_iln 2 66 (by decide +kernel) rfl g20 ?_
        obtain ⟨x41, q42, hh⟩ := db hh
        obtain ⟨a43, q44, q42⟩ := db q42
        rw [dq_xI q42] at q44
        refine dq_cst hD 224 160 1 1 [.int i2] [va_rf p39, va_rf p14.1, va_rf o0] 69 [.int x41.1, va_rf p39, va_rf p14.1, va_rf o0] (by decide +kernel) ap_160 ⟨⟨Nat.le_of_ble_eq_true rfl, by decide⟩, rfl, rfl⟩ (dq_ok8 [1] [1, 1, 1] (dc_i dc_n) (dc_r (dc_r (dc_r dc_n))) (by decide +kernel)) (by decide +kernel) rfl q44 rfl ?_
        obtain ⟨x45, q46, hh⟩ := db hh
        obtain ⟨a47, q48, q46⟩ := db q46
        rw [dq_xI q46] at q48
        refine dq_cvi hD 333 205 5 3 [13] o0 [va_rf p14.1, va_rf p39, .int x41.1] [] 72 [.int x45.1] (by decide +kernel) ap_205 ⟨⟨Nat.le_of_ble_eq_true rfl, by decide⟩, rfl, rfl⟩ (dq_ok8 [1, 1, 1, 1] [] (dc_r (dc_r (dc_r (dc_i dc_n)))) dc_n (by decide +kernel)) (by decide +kernel) rfl q48 rfl ?_
        rcases di hh with ⟨q49, hh⟩ | ⟨q49, hh⟩
        · refine dq_1 .ne 16 true 88 q49 (by decide +kernel) ?_
          exact c204_88 hD hz _ _ _ _ _ g18 g22 hh
        · refine dq_1 .ne 16 false 75 q49 (by decide +kernel) ?_
          refine dq_aln 0 76 (by decide +kernel) rfl g18 ?_
          refine dq_S (.bipush 6) 2 [] 78 _ [.int 6, va_rf o0] (by decide +kernel) rfl ?_
          refine dq_aln 1 79 (by decide +kernel) rfl g19 ?_
          obtain ⟨p50, q51, hh⟩ := db hh
          refine dq_gR 235 6 [12] 82 (by decide +kernel) rfl q51 ?_
          obtain ⟨x52, q53, hh⟩ := db hh
          refine dq_gI 174 1 [12] 85 (by decide +kernel) rfl q53 ?_
          obtain ⟨h54, q55, hh⟩ := db hh
          obtain ⟨a56, q57, q55⟩ := db q55
          rw [dq_xV q55] at q57
          refine dq_cvi hD 140 178 5 2 [13] o0 [.int 6, .int x52] [] 88 [] (by decide +kernel) ap_178 ⟨⟨Nat.le_of_ble_eq_true rfl, by decide⟩, rfl, rfl⟩ (dq_ok8 [1, 1, 1] [] (dc_r (dc_i (dc_i dc_n))) dc_n (by decide +kernel)) (by decide +kernel) rfl q57 rfl ?_
          exact c204_88 hD hz _ _ _ _ _ g18 g22 hh
def f204 (L : Nat) (xs : Nat → Int32) (zf : Value) (D : dD) (w : Nat) (As : List Value) (h : rm_H) : Option dR := match As with
  | [v0, v1, .int i2] => (rm_rf v0).bind fun o0 => (rm_rf v1).bind fun o1 => b204_0 L xs zf D w o0 o1 i2 h
  | _ => none
theorem d204 {L : Nat} {xs : Nat → Int32} {zf : Value} {D : dD} {w k : Nat} (hD : dO L xs zf D k) (hz : zf.category = 1) (As : List Value) (h : rm_H) (r : dR) (hh : f204 L xs zf D w As h = some r) : dq L xs zf ah_M204 0 (lv_args 0 As) [] h (k + 1) r := by
  unfold f204 at hh
  split at hh
  · obtain ⟨o0, e0, hb0⟩ := db hh
    have e0 := rm_rf_v _ _ e0
    obtain ⟨o1, e1, hb1⟩ := db hb0
    have e1 := rm_rf_v _ _ e1
    subst e0 e1
    refine c204_0 hD hz _ _ _ _ _ _ ?_ ?_ ?_ hb1
    all_goals (simp only [la_r, la_i, la_j]; rfl)
  · cases hh
def b205_40 (L : Nat) (xs : Nat → Int32) (zf : Value) (D : dD) (w : Nat) (s0 : Int32) (h : rm_H) : Option dR :=
  drI (some .boolean) s0 h
theorem c205_40 {L : Nat} {xs : Nat → Int32} {zf : Value} {D : dD} {w k : Nat} (hD : dO L xs zf D k) (hz : zf.category = 1) : ∀ (s0 : Int32) (lv : rm_L) (h : rm_H) (r : dR), b205_40 L xs zf D w  s0 h = some r → dq L xs zf ah_M205 40 lv [.int s0] h (k + 1) r := by
  intro s0 lv h r hh
  unfold b205_40 at hh
  exact dq_retI (some .boolean) (by decide +kernel) rfl hh
def b205_35 (L : Nat) (xs : Nat → Int32) (zf : Value) (D : dD) (w : Nat) (h : rm_H) : Option dR :=
  b205_40 L xs zf D w 1 h
theorem c205_35 {L : Nat} {xs : Nat → Int32} {zf : Value} {D : dD} {w k : Nat} (hD : dO L xs zf D k) (hz : zf.category = 1) : ∀ (lv : rm_L) (h : rm_H) (r : dR), b205_35 L xs zf D w  h = some r → dq L xs zf ah_M205 35 lv [] h (k + 1) r := by
  intro lv h r hh
  unfold b205_35 at hh
  refine dq_S (.iconst 1) 1 [] 36 _ [.int 1] (by decide +kernel) rfl ?_
  refine dq_S (.goto 4) 3 [] 40 _ [.int 1] (by decide +kernel) rfl ?_
  exact c205_40 hD hz _ _ _ _  hh
def b205_39 (L : Nat) (xs : Nat → Int32) (zf : Value) (D : dD) (w : Nat) (h : rm_H) : Option dR :=
  b205_40 L xs zf D w 0 h
theorem c205_39 {L : Nat} {xs : Nat → Int32} {zf : Value} {D : dD} {w k : Nat} (hD : dO L xs zf D k) (hz : zf.category = 1) : ∀ (lv : rm_L) (h : rm_H) (r : dR), b205_39 L xs zf D w  h = some r → dq L xs zf ah_M205 39 lv [] h (k + 1) r := by
  intro lv h r hh
  unfold b205_39 at hh
  refine dq_S (.iconst 0) 1 [] 40 _ [.int 0] (by decide +kernel) rfl ?_
  exact c205_40 hD hz _ _ _ _  hh
def b205_80 (L : Nat) (xs : Nat → Int32) (zf : Value) (D : dD) (w : Nat) (s0 : Int32) (h : rm_H) : Option dR :=
  drI (some .boolean) s0 h
theorem c205_80 {L : Nat} {xs : Nat → Int32} {zf : Value} {D : dD} {w k : Nat} (hD : dO L xs zf D k) (hz : zf.category = 1) : ∀ (s0 : Int32) (lv : rm_L) (h : rm_H) (r : dR), b205_80 L xs zf D w  s0 h = some r → dq L xs zf ah_M205 80 lv [.int s0] h (k + 1) r := by
  intro s0 lv h r hh
  unfold b205_80 at hh
  exact dq_retI (some .boolean) (by decide +kernel) rfl hh
def b205_79 (L : Nat) (xs : Nat → Int32) (zf : Value) (D : dD) (w : Nat) (h : rm_H) : Option dR :=
  b205_80 L xs zf D w 0 h
theorem c205_79 {L : Nat} {xs : Nat → Int32} {zf : Value} {D : dD} {w k : Nat} (hD : dO L xs zf D k) (hz : zf.category = 1) : ∀ (lv : rm_L) (h : rm_H) (r : dR), b205_79 L xs zf D w  h = some r → dq L xs zf ah_M205 79 lv [] h (k + 1) r := by
  intro lv h r hh
  unfold b205_79 at hh
  refine dq_S (.iconst 0) 1 [] 80 _ [.int 0] (by decide +kernel) rfl ?_
  exact c205_80 hD hz _ _ _ _  hh
def b205_68 (L : Nat) (xs : Nat → Int32) (zf : Value) (D : dD) (w : Nat) (o1 : Option Nat) (h : rm_H) : Option dR :=
  (dgI L xs h 13 [11] o1).bind fun x1 =>
  if mx_f1 .eq x1 = true then
    b205_79 L xs zf D w h
  else
    b205_80 L xs zf D w 1 h
theorem c205_68 {L : Nat} {xs : Nat → Int32} {zf : Value} {D : dD} {w k : Nat} (hD : dO L xs zf D k) (hz : zf.category = 1) : ∀ (o1 : Option Nat) (lv : rm_L) (h : rm_H) (r : dR), rm_get lv 1 = some (va_rf o1) → b205_68 L xs zf D w  o1 h = some r → dq L xs zf ah_M205 68 lv [] h (k + 1) r := by
  intro o1 lv h r G1 hh
  unfold b205_68 at hh
  refine dq_aln 1 69 (by decide +kernel) rfl G1 ?_
  obtain ⟨x1, q2, hh⟩ := db hh
  refine dq_gI 338 13 [11] 72 (by decide +kernel) rfl q2 ?_
  rcases di hh with ⟨q3, hh⟩ | ⟨q3, hh⟩
  · refine dq_1 .eq 7 true 79 q3 (by decide +kernel) ?_
    exact c205_79 hD hz  _ _ _  hh
  · refine dq_1 .eq 7 false 75 q3 (by decide +kernel) ?_
    refine dq_S (.iconst 1) 1 [] 76 _ [.int 1] (by decide +kernel) rfl ?_
    refine dq_S (.goto 4) 3 [] 80 _ [.int 1] (by decide +kernel) rfl ?_
    exact c205_80 hD hz _ _ _ _  hh
def b205_101 (L : Nat) (xs : Nat → Int32) (zf : Value) (D : dD) (w : Nat) (s0 : Int32) (h : rm_H) : Option dR :=
  drI (some .boolean) s0 h
theorem c205_101 {L : Nat} {xs : Nat → Int32} {zf : Value} {D : dD} {w k : Nat} (hD : dO L xs zf D k) (hz : zf.category = 1) : ∀ (s0 : Int32) (lv : rm_L) (h : rm_H) (r : dR), b205_101 L xs zf D w  s0 h = some r → dq L xs zf ah_M205 101 lv [.int s0] h (k + 1) r := by
  intro s0 lv h r hh
  unfold b205_101 at hh
  exact dq_retI (some .boolean) (by decide +kernel) rfl hh
def b205_81 (L : Nat) (xs : Nat → Int32) (zf : Value) (D : dD) (w : Nat) (o1 : Option Nat) (i3 : Int32) (h : rm_H) : Option dR :=
  (dgI L xs h 6 [11] o1).bind fun x1 =>
  ((D 190 [va_rf (some 1), .int i3, .int x1] h).bind dxI).bind fun x3 =>
  if mx_f2 .ne x3.1 1 = true then
    b205_101 L xs zf D w 0 x3.2
  else
    b205_101 L xs zf D w 1 x3.2
theorem c205_81 {L : Nat} {xs : Nat → Int32} {zf : Value} {D : dD} {w k : Nat} (hD : dO L xs zf D k) (hz : zf.category = 1) : ∀ (o1 : Option Nat) (i3 : Int32) (lv : rm_L) (h : rm_H) (r : dR), rm_get lv 1 = some (va_rf o1) → rm_get lv 3 = some (.int i3) → b205_81 L xs zf D w  o1 i3 h = some r → dq L xs zf ah_M205 81 lv [] h (k + 1) r := by
  intro o1 i3 lv h r G1 G3 hh
  unfold b205_81 at hh
  refine dq_S (.getstatic 227) 3 [6] 84 _ [va_rf (some 1)] (by decide +kernel) rfl ?_
  refine dq_iln 3 85 (by decide +kernel) rfl G3 ?_
  refine dq_aln 1 86 (by decide +kernel) rfl G1 ?_
  obtain ⟨x1, q2, hh⟩ := db hh
  refine dq_gI 285 6 [11] 89 (by decide +kernel) rfl q2 ?_
  obtain ⟨x3, q4, hh⟩ := db hh
  obtain ⟨a5, q6, q4⟩ := db q4
  rw [dq_xI q4] at q6
  refine dq_cst hD 231 190 1 3 [va_rf (some 1), .int i3, .int x1] [] 92 [.int x3.1] (by decide +kernel) ap_190 ⟨⟨Nat.le_of_ble_eq_true rfl, by decide⟩, rfl, rfl⟩ (dq_ok8 [1, 1, 1] [] (dc_r (dc_i (dc_i dc_n))) dc_n (by decide +kernel)) (by decide +kernel) rfl q6 rfl ?_
  refine dq_S (.iconst 1) 1 [] 93 _ [.int 1, .int x3.1] (by decide +kernel) rfl ?_
  rcases di hh with ⟨q7, hh⟩ | ⟨q7, hh⟩
  · refine dq_2 .ne 7 true 100 q7 (by decide +kernel) ?_
    refine dq_S (.iconst 0) 1 [] 101 _ [.int 0] (by decide +kernel) rfl ?_
    exact c205_101 hD hz _ _ _ _  hh
  · refine dq_2 .ne 7 false 96 q7 (by decide +kernel) ?_
    refine dq_S (.iconst 1) 1 [] 97 _ [.int 1] (by decide +kernel) rfl ?_
    refine dq_S (.goto 4) 3 [] 101 _ [.int 1] (by decide +kernel) rfl ?_
    exact c205_101 hD hz _ _ _ _  hh
def b205_41 (L : Nat) (xs : Nat → Int32) (zf : Value) (D : dD) (w : Nat) (o1 : Option Nat) (o2 : Option Nat) (i3 : Int32) (h : rm_H) : Option dR :=
  ((dcV L xs D 206 [12] o2 [] h).bind dxI).bind fun x1 =>
  if mx_f1 .eq x1.1 = true then
    b205_81 L xs zf D w o1 i3 x1.2
  else
    if mx_f1 .ne i3 = true then
      b205_81 L xs zf D w o1 i3 x1.2
    else
      (dgI L xs x1.2 6 [11] o1).bind fun x7 =>
      if mx_f2 .eq x7 2 = true then
        b205_68 L xs zf D w o1 x1.2
      else
        (dgI L xs x1.2 6 [11] o1).bind fun x10 =>
        if mx_f2 .ne x10 4 = true then
          b205_79 L xs zf D w x1.2
        else
          b205_68 L xs zf D w o1 x1.2
theorem c205_41 {L : Nat} {xs : Nat → Int32} {zf : Value} {D : dD} {w k : Nat} (hD : dO L xs zf D k) (hz : zf.category = 1) : ∀ (o1 : Option Nat) (o2 : Option Nat) (i3 : Int32) (lv : rm_L) (h : rm_H) (r : dR), rm_get lv 1 = some (va_rf o1) → rm_get lv 2 = some (va_rf o2) → rm_get lv 3 = some (.int i3) → b205_41 L xs zf D w  o1 o2 i3 h = some r → dq L xs zf ah_M205 41 lv [] h (k + 1) r := by
  intro o1 o2 i3 lv h r G1 G2 G3 hh
  unfold b205_41 at hh
  refine dq_aln 2 42 (by decide +kernel) rfl G2 ?_
  obtain ⟨x1, q2, hh⟩ := db hh
  obtain ⟨a3, q4, q2⟩ := db q2
  rw [dq_xI q2] at q4
  refine dq_cvi hD 220 206 5 0 [12] o2 [] [] 45 [.int x1.1] (by decide +kernel) ap_206 ⟨⟨Nat.le_of_ble_eq_true rfl, by decide⟩, rfl, rfl⟩ (dq_ok8 [1] [] (dc_r dc_n) dc_n (by decide +kernel)) (by decide +kernel) rfl q4 rfl ?_
  rcases di hh with ⟨q5, hh⟩ | ⟨q5, hh⟩
  · refine dq_1 .eq 36 true 81 q5 (by decide +kernel) ?_
    exact c205_81 hD hz _ _ _ _ _ G1 G3 hh
  · refine dq_1 .eq 36 false 48 q5 (by decide +kernel) ?_
    refine dq_iln 3 49 (by decide +kernel) rfl G3 ?_
    rcases di hh with ⟨q6, hh⟩ | ⟨q6, hh⟩
    · refine dq_1 .ne 32 true 81 q6 (by decide +kernel) ?_
      exact c205_81 hD hz _ _ _ _ _ G1 G3 hh
    · refine dq_1 .ne 32 false 52 q6 (by decide +kernel) ?_
      refine dq_aln 1 53 (by decide +kernel) rfl G1 ?_
      obtain ⟨x7, q8, hh⟩ := db hh
      refine dq_gI 285 6 [11] 56 (by decide +kernel) rfl q8 ?_
      refine dq_S (.iconst 2) 1 [] 57 _ [.int 2, .int x7] (by decide +kernel) rfl ?_
      rcases di hh with ⟨q9, hh⟩ | ⟨q9, hh⟩
      · refine dq_2 .eq 11 true 68 q9 (by decide +kernel) ?_
        exact c205_68 hD hz _ _ _ _ G1 hh
      · refine dq_2 .eq 11 false 60 q9 (by decide +kernel) ?_
        refine dq_aln 1 61 (by decide +kernel) rfl G1 ?_
        obtain ⟨x10, q11, hh⟩ := db hh
        refine dq_gI 285 6 [11] 64 (by decide +kernel) rfl q11 ?_
        refine dq_S (.iconst 4) 1 [] 65 _ [.int 4, .int x10] (by decide +kernel) rfl ?_
        rcases di hh with ⟨q12, hh⟩ | ⟨q12, hh⟩
        · refine dq_2 .ne 14 true 79 q12 (by decide +kernel) ?_
          exact c205_79 hD hz  _ _ _  hh
        · refine dq_2 .ne 14 false 68 q12 (by decide +kernel) ?_
          exact c205_68 hD hz _ _ _ _ G1 hh
def b205_0 (L : Nat) (xs : Nat → Int32) (zf : Value) (D : dD) (w : Nat) (o1 : Option Nat) (o2 : Option Nat) (i3 : Int32) (h : rm_H) : Option dR :=
  ((dcV L xs D 206 [12] o2 [] h).bind dxI).bind fun x1 =>
  if mx_f1 .eq x1.1 = true then
    b205_41 L xs zf D w o1 o2 i3 x1.2
  else
    if mx_f2 .ne i3 1 = true then
      b205_41 L xs zf D w o1 o2 i3 x1.2
    else
      (dgI L xs x1.2 6 [11] o1).bind fun x7 =>
      if mx_f2 .eq x7 4 = true then
        b205_35 L xs zf D w x1.2
      else
        (dgI L xs x1.2 6 [11] o1).bind fun x10 =>
        if mx_f2 .ne x10 2 = true then
          b205_39 L xs zf D w x1.2
        else
          (dgI L xs x1.2 13 [11] o1).bind fun x13 =>
          if mx_f1 .eq x13 = true then
            b205_39 L xs zf D w x1.2
          else
            b205_35 L xs zf D w x1.2
theorem c205_0 {L : Nat} {xs : Nat → Int32} {zf : Value} {D : dD} {w k : Nat} (hD : dO L xs zf D k) (hz : zf.category = 1) : ∀ (o1 : Option Nat) (o2 : Option Nat) (i3 : Int32) (lv : rm_L) (h : rm_H) (r : dR), rm_get lv 1 = some (va_rf o1) → rm_get lv 2 = some (va_rf o2) → rm_get lv 3 = some (.int i3) → b205_0 L xs zf D w  o1 o2 i3 h = some r → dq L xs zf ah_M205 0 lv [] h (k + 1) r := by
  intro o1 o2 i3 lv h r G1 G2 G3 hh
  unfold b205_0 at hh
  refine dq_aln 2 1 (by decide +kernel) rfl G2 ?_
  obtain ⟨x1, q2, hh⟩ := db hh
  obtain ⟨a3, q4, q2⟩ := db q2
  rw [dq_xI q2] at q4
  refine dq_cvi hD 220 206 5 0 [12] o2 [] [] 4 [.int x1.1] (by decide +kernel) ap_206 ⟨⟨Nat.le_of_ble_eq_true rfl, by decide⟩, rfl, rfl⟩ (dq_ok8 [1] [] (dc_r dc_n) dc_n (by decide +kernel)) (by decide +kernel) rfl q4 rfl ?_
  rcases di hh with ⟨q5, hh⟩ | ⟨q5, hh⟩
  · refine dq_1 .eq 37 true 41 q5 (by decide +kernel) ?_
    exact c205_41 hD hz _ _ _ _ _ _ G1 G2 G3 hh
  · refine dq_1 .eq 37 false 7 q5 (by decide +kernel) ?_
    refine dq_iln 3 8 (by decide +kernel) rfl G3 ?_
    refine dq_S (.iconst 1) 1 [] 9 _ [.int 1, .int i3] (by decide +kernel) rfl ?_
    rcases di hh with ⟨q6, hh⟩ | ⟨q6, hh⟩
    · refine dq_2 .ne 32 true 41 q6 (by decide +kernel) ?_
      exact c205_41 hD hz _ _ _ _ _ _ G1 G2 G3 hh
    · refine dq_2 .ne 32 false 12 q6 (by decide +kernel) ?_
      refine dq_aln 1 13 (by decide +kernel) rfl G1 ?_
      obtain ⟨x7, q8, hh⟩ := db hh
      refine dq_gI 285 6 [11] 16 (by decide +kernel) rfl q8 ?_
      refine dq_S (.iconst 4) 1 [] 17 _ [.int 4, .int x7] (by decide +kernel) rfl ?_
      rcases di hh with ⟨q9, hh⟩ | ⟨q9, hh⟩
      · refine dq_2 .eq 18 true 35 q9 (by decide +kernel) ?_
        exact c205_35 hD hz  _ _ _  hh
      · refine dq_2 .eq 18 false 20 q9 (by decide +kernel) ?_
        refine dq_aln 1 21 (by decide +kernel) rfl G1 ?_
        obtain ⟨x10, q11, hh⟩ := db hh
        refine dq_gI 285 6 [11] 24 (by decide +kernel) rfl q11 ?_
        refine dq_S (.iconst 2) 1 [] 25 _ [.int 2, .int x10] (by decide +kernel) rfl ?_
        rcases di hh with ⟨q12, hh⟩ | ⟨q12, hh⟩
        · refine dq_2 .ne 14 true 39 q12 (by decide +kernel) ?_
          exact c205_39 hD hz  _ _ _  hh
        · refine dq_2 .ne 14 false 28 q12 (by decide +kernel) ?_
          refine dq_aln 1 29 (by decide +kernel) rfl G1 ?_
          obtain ⟨x13, q14, hh⟩ := db hh
          refine dq_gI 338 13 [11] 32 (by decide +kernel) rfl q14 ?_
          rcases di hh with ⟨q15, hh⟩ | ⟨q15, hh⟩
          · refine dq_1 .eq 7 true 39 q15 (by decide +kernel) ?_
            exact c205_39 hD hz  _ _ _  hh
          · refine dq_1 .eq 7 false 35 q15 (by decide +kernel) ?_
            exact c205_35 hD hz  _ _ _  hh
def f205 (L : Nat) (xs : Nat → Int32) (zf : Value) (D : dD) (w : Nat) (As : List Value) (h : rm_H) : Option dR := match As with
  | [v0, v1, v2, .int i3] => (rm_rf v0).bind fun u0 => (rm_rf v1).bind fun o1 => (rm_rf v2).bind fun o2 => b205_0 L xs zf D w o1 o2 i3 h
  | _ => none
theorem d205 {L : Nat} {xs : Nat → Int32} {zf : Value} {D : dD} {w k : Nat} (hD : dO L xs zf D k) (hz : zf.category = 1) (As : List Value) (h : rm_H) (r : dR) (hh : f205 L xs zf D w As h = some r) : dq L xs zf ah_M205 0 (lv_args 0 As) [] h (k + 1) r := by
  unfold f205 at hh
  split at hh
  · obtain ⟨u0, e0, hb0⟩ := db hh
    have e0 := rm_rf_v _ _ e0
    obtain ⟨o1, e1, hb1⟩ := db hb0
    have e1 := rm_rf_v _ _ e1
    obtain ⟨o2, e2, hb2⟩ := db hb1
    have e2 := rm_rf_v _ _ e2
    subst e0 e1 e2
    refine c205_0 hD hz _ _ _ _ _ _ ?_ ?_ ?_ hb2
    all_goals (simp only [la_r, la_i, la_j]; rfl)
  · cases hh
def b206_30 (L : Nat) (xs : Nat → Int32) (zf : Value) (D : dD) (w : Nat) (s0 : Int32) (h : rm_H) : Option dR :=
  drI (some .boolean) s0 h
theorem c206_30 {L : Nat} {xs : Nat → Int32} {zf : Value} {D : dD} {w k : Nat} (hD : dO L xs zf D k) (hz : zf.category = 1) : ∀ (s0 : Int32) (lv : rm_L) (h : rm_H) (r : dR), b206_30 L xs zf D w  s0 h = some r → dq L xs zf ah_M206 30 lv [.int s0] h (k + 1) r := by
  intro s0 lv h r hh
  unfold b206_30 at hh
  exact dq_retI (some .boolean) (by decide +kernel) rfl hh
def b206_25 (L : Nat) (xs : Nat → Int32) (zf : Value) (D : dD) (w : Nat) (h : rm_H) : Option dR :=
  b206_30 L xs zf D w 1 h
theorem c206_25 {L : Nat} {xs : Nat → Int32} {zf : Value} {D : dD} {w k : Nat} (hD : dO L xs zf D k) (hz : zf.category = 1) : ∀ (lv : rm_L) (h : rm_H) (r : dR), b206_25 L xs zf D w  h = some r → dq L xs zf ah_M206 25 lv [] h (k + 1) r := by
  intro lv h r hh
  unfold b206_25 at hh
  refine dq_S (.iconst 1) 1 [] 26 _ [.int 1] (by decide +kernel) rfl ?_
  refine dq_S (.goto 4) 3 [] 30 _ [.int 1] (by decide +kernel) rfl ?_
  exact c206_30 hD hz _ _ _ _  hh
def b206_0 (L : Nat) (xs : Nat → Int32) (zf : Value) (D : dD) (w : Nat) (o0 : Option Nat) (h : rm_H) : Option dR :=
  (dgI L xs h 0 [12] o0).bind fun x1 =>
  if mx_f2 .eq x1 3 = true then
    b206_25 L xs zf D w h
  else
    (dgI L xs h 0 [12] o0).bind fun x4 =>
    if mx_f2 .eq x4 4 = true then
      b206_25 L xs zf D w h
    else
      (dgI L xs h 0 [12] o0).bind fun x7 =>
      if mx_f2 .ne x7 10 = true then
        b206_30 L xs zf D w 0 h
      else
        b206_25 L xs zf D w h
theorem c206_0 {L : Nat} {xs : Nat → Int32} {zf : Value} {D : dD} {w k : Nat} (hD : dO L xs zf D k) (hz : zf.category = 1) : ∀ (o0 : Option Nat) (lv : rm_L) (h : rm_H) (r : dR), rm_get lv 0 = some (va_rf o0) → b206_0 L xs zf D w  o0 h = some r → dq L xs zf ah_M206 0 lv [] h (k + 1) r := by
  intro o0 lv h r G0 hh
  unfold b206_0 at hh
  refine dq_aln 0 1 (by decide +kernel) rfl G0 ?_
  obtain ⟨x1, q2, hh⟩ := db hh
  refine dq_gI 9 0 [12] 4 (by decide +kernel) rfl q2 ?_
  refine dq_S (.iconst 3) 1 [] 5 _ [.int 3, .int x1] (by decide +kernel) rfl ?_
  rcases di hh with ⟨q3, hh⟩ | ⟨q3, hh⟩
  · refine dq_2 .eq 20 true 25 q3 (by decide +kernel) ?_
    exact c206_25 hD hz  _ _ _  hh
  · refine dq_2 .eq 20 false 8 q3 (by decide +kernel) ?_
    refine dq_aln 0 9 (by decide +kernel) rfl G0 ?_
    obtain ⟨x4, q5, hh⟩ := db hh
    refine dq_gI 9 0 [12] 12 (by decide +kernel) rfl q5 ?_
    refine dq_S (.iconst 4) 1 [] 13 _ [.int 4, .int x4] (by decide +kernel) rfl ?_
    rcases di hh with ⟨q6, hh⟩ | ⟨q6, hh⟩
    · refine dq_2 .eq 12 true 25 q6 (by decide +kernel) ?_
      exact c206_25 hD hz  _ _ _  hh
    · refine dq_2 .eq 12 false 16 q6 (by decide +kernel) ?_
      refine dq_aln 0 17 (by decide +kernel) rfl G0 ?_
      obtain ⟨x7, q8, hh⟩ := db hh
      refine dq_gI 9 0 [12] 20 (by decide +kernel) rfl q8 ?_
      refine dq_S (.bipush 10) 2 [] 22 _ [.int 10, .int x7] (by decide +kernel) rfl ?_
      rcases di hh with ⟨q9, hh⟩ | ⟨q9, hh⟩
      · refine dq_2 .ne 7 true 29 q9 (by decide +kernel) ?_
        refine dq_S (.iconst 0) 1 [] 30 _ [.int 0] (by decide +kernel) rfl ?_
        exact c206_30 hD hz _ _ _ _  hh
      · refine dq_2 .ne 7 false 25 q9 (by decide +kernel) ?_
        exact c206_25 hD hz  _ _ _  hh
def f206 (L : Nat) (xs : Nat → Int32) (zf : Value) (D : dD) (w : Nat) (As : List Value) (h : rm_H) : Option dR := match As with
  | [v0] => (rm_rf v0).bind fun o0 => b206_0 L xs zf D w o0 h
  | _ => none
theorem d206 {L : Nat} {xs : Nat → Int32} {zf : Value} {D : dD} {w k : Nat} (hD : dO L xs zf D k) (hz : zf.category = 1) (As : List Value) (h : rm_H) (r : dR) (hh : f206 L xs zf D w As h = some r) : dq L xs zf ah_M206 0 (lv_args 0 As) [] h (k + 1) r := by
  unfold f206 at hh
  split at hh
  · obtain ⟨o0, e0, hb0⟩ := db hh
    have e0 := rm_rf_v _ _ e0
    subst e0
    refine c206_0 hD hz _ _ _ _ ?_ hb0
    all_goals (simp only [la_r, la_i, la_j]; rfl)
  · cases hh
def b207_30 (L : Nat) (xs : Nat → Int32) (zf : Value) (D : dD) (w : Nat) (o1 : Option Nat) (s0 : Int32) (s1 : Option Nat) (h : rm_H) : Option dR :=
  (dgR L xs h 6 [12] o1).bind fun p1 =>
  (dgI L xs h 1 [12] p1).bind fun x3 =>
  ((dcV L xs D 178 [13] s1 [.int s0, .int x3] h).bind dxV).bind fun h5 =>
  drI (some .int) 0 h5
theorem c207_30 {L : Nat} {xs : Nat → Int32} {zf : Value} {D : dD} {w k : Nat} (hD : dO L xs zf D k) (hz : zf.category = 1) : ∀ (o1 : Option Nat) (s0 : Int32) (s1 : Option Nat) (lv : rm_L) (h : rm_H) (r : dR), rm_get lv 1 = some (va_rf o1) → b207_30 L xs zf D w  o1 s0 s1 h = some r → dq L xs zf ah_M207 30 lv [.int s0, va_rf s1] h (k + 1) r := by
  intro o1 s0 s1 lv h r G1 hh
  unfold b207_30 at hh
  refine dq_aln 1 31 (by decide +kernel) rfl G1 ?_
  obtain ⟨p1, q2, hh⟩ := db hh
  refine dq_gR 235 6 [12] 34 (by decide +kernel) rfl q2 ?_
  obtain ⟨x3, q4, hh⟩ := db hh
  refine dq_gI 174 1 [12] 37 (by decide +kernel) rfl q4 ?_
  obtain ⟨h5, q6, hh⟩ := db hh
  obtain ⟨a7, q8, q6⟩ := db q6
  rw [dq_xV q6] at q8
  refine dq_cvi hD 140 178 5 2 [13] s1 [.int s0, .int x3] [] 40 [] (by decide +kernel) ap_178 ⟨⟨Nat.le_of_ble_eq_true rfl, by decide⟩, rfl, rfl⟩ (dq_ok8 [1, 1, 1] [] (dc_r (dc_i (dc_i dc_n))) dc_n (by decide +kernel)) (by decide +kernel) rfl q8 rfl ?_
  refine dq_S (.iconst 0) 1 [] 41 _ [.int 0] (by decide +kernel) rfl ?_
  exact dq_retI (some .int) (by decide +kernel) rfl hh
def b207_71 (L : Nat) (xs : Nat → Int32) (zf : Value) (D : dD) (w : Nat) (o0 : Option Nat) (o1 : Option Nat) (s0 : Option Nat) (h : rm_H) : Option dR :=
  if dnl s0 = true then
    (dgI L xs h 3 [12] o1).bind fun x5 =>
    ((dcV L xs D 178 [13] o0 [.int 3, .int x5] h).bind dxV).bind fun h7 =>
    drI (some .int) 0 h7
  else
    ((dcV L xs D 199 [13] o0 [va_rf o1, va_rf s0] h).bind dxV).bind fun h11 =>
    (dgR L xs h11 0 [13] o0).bind fun p15 =>
    (dgI L xs h11 2 [11] s0).bind fun x17 =>
    ((dcV L xs D 175 [4] p15 [.int 5, .int x17] h11).bind dxI).bind fun x19 =>
    drI (some .int) 0 x19.2
theorem c207_71 {L : Nat} {xs : Nat → Int32} {zf : Value} {D : dD} {w k : Nat} (hD : dO L xs zf D k) (hz : zf.category = 1) : ∀ (o0 : Option Nat) (o1 : Option Nat) (s0 : Option Nat) (lv : rm_L) (h : rm_H) (r : dR), rm_get lv 0 = some (va_rf o0) → rm_get lv 1 = some (va_rf o1) → b207_71 L xs zf D w  o0 o1 s0 h = some r → dq L xs zf ah_M207 71 lv [va_rf s0] h (k + 1) r := by
  intro o0 o1 s0 lv h r G0 G1 hh
  unfold b207_71 at hh
  refine dq_as 4 73 (by decide +kernel) (by decide +kernel) ?_
  have g1 := dg_ne (i := 4) (u := va_rf s0) (by decide) (Or.inl (by decide)) G0
  have g2 := dg_ne (i := 4) (u := va_rf s0) (by decide) (Or.inl (by decide)) G1
  have g3 := dg_eq (lv) 4 (va_rf s0)
  refine dq_al 4 75 (by decide +kernel) rfl g3 ?_
  rcases di hh with ⟨q4, hh⟩ | ⟨q4, hh⟩
  · refine dq_nnull 14 false 78 q4 (by decide +kernel) (by decide +kernel) ?_
    refine dq_aln 0 79 (by decide +kernel) rfl g1 ?_
    refine dq_S (.iconst 3) 1 [] 80 _ [.int 3, va_rf o0] (by decide +kernel) rfl ?_
    refine dq_aln 1 81 (by decide +kernel) rfl g2 ?_
    obtain ⟨x5, q6, hh⟩ := db hh
    refine dq_gI 137 3 [12] 84 (by decide +kernel) rfl q6 ?_
    obtain ⟨h7, q8, hh⟩ := db hh
    obtain ⟨a9, q10, q8⟩ := db q8
    rw [dq_xV q8] at q10
    refine dq_cvi hD 140 178 5 2 [13] o0 [.int 3, .int x5] [] 87 [] (by decide +kernel) ap_178 ⟨⟨Nat.le_of_ble_eq_true rfl, by decide⟩, rfl, rfl⟩ (dq_ok8 [1, 1, 1] [] (dc_r (dc_i (dc_i dc_n))) dc_n (by decide +kernel)) (by decide +kernel) rfl q10 rfl ?_
    refine dq_S (.iconst 0) 1 [] 88 _ [.int 0] (by decide +kernel) rfl ?_
    exact dq_retI (some .int) (by decide +kernel) rfl hh
  · refine dq_nnull 14 true 89 q4 (by decide +kernel) (by decide +kernel) ?_
    refine dq_aln 0 90 (by decide +kernel) rfl g1 ?_
    refine dq_aln 1 91 (by decide +kernel) rfl g2 ?_
    refine dq_al 4 93 (by decide +kernel) rfl g3 ?_
    obtain ⟨h11, q12, hh⟩ := db hh
    obtain ⟨a13, q14, q12⟩ := db q12
    rw [dq_xV q12] at q14
    refine dq_cvi hD 329 199 5 2 [13] o0 [va_rf o1, va_rf s0] [] 96 [] (by decide +kernel) ap_199 ⟨⟨Nat.le_of_ble_eq_true rfl, by decide⟩, rfl, rfl⟩ (dq_ok8 [1, 1, 1] [] (dc_r (dc_r (dc_r dc_n))) dc_n (by decide +kernel)) (by decide +kernel) rfl q14 rfl ?_
    refine dq_aln 0 97 (by decide +kernel) rfl g1 ?_
    obtain ⟨p15, q16, hh⟩ := db hh
    refine dq_gR 9 0 [13] 100 (by decide +kernel) rfl q16 ?_
    refine dq_S (.iconst 5) 1 [] 101 _ [.int 5, va_rf p15] (by decide +kernel) rfl ?_
    refine dq_al 4 103 (by decide +kernel) rfl g3 ?_
    obtain ⟨x17, q18, hh⟩ := db hh
    refine dq_gI 337 2 [11] 106 (by decide +kernel) rfl q18 ?_
    obtain ⟨x19, q20, hh⟩ := db hh
    obtain ⟨a21, q22, q20⟩ := db q20
    rw [dq_xI q20] at q22
    refine dq_cvi hD 104 175 5 2 [4] p15 [.int 5, .int x17] [] 109 [.int x19.1] (by decide +kernel) ap_175 ⟨⟨Nat.le_of_ble_eq_true rfl, by decide⟩, rfl, rfl⟩ (dq_ok8 [1, 1, 1] [] (dc_r (dc_i (dc_i dc_n))) dc_n (by decide +kernel)) (by decide +kernel) rfl q22 rfl ?_
    refine dq_S (.pop) 1 [] 110 _ [] (by decide +kernel) rfl ?_
    refine dq_S (.iconst 0) 1 [] 111 _ [.int 0] (by decide +kernel) rfl ?_
    exact dq_retI (some .int) (by decide +kernel) rfl hh
def b207_42 (L : Nat) (xs : Nat → Int32) (zf : Value) (D : dD) (w : Nat) (o0 : Option Nat) (o1 : Option Nat) (i2 : Int32) (h : rm_H) : Option dR :=
  (dgR L xs h 0 [13] o0).bind fun p1 =>
  ((D 189 [.int i2] h).bind dxI).bind fun x3 =>
  ((dcV L xs D 194 [4] p1 [.int x3.1] x3.2).bind dxR).bind fun p7 =>
  if dnl p7.1 = true then
    b207_71 L xs zf D w o0 o1 none p7.2
  else
    (dgR L xs p7.2 2 [12] o1).bind fun p16 =>
    ((dcV L xs D 156 [9] p7.1 [va_rf p16, .int 2] p7.2).bind dxR).bind fun p18 =>
    b207_71 L xs zf D w o0 o1 p18.1 p18.2
theorem c207_42 {L : Nat} {xs : Nat → Int32} {zf : Value} {D : dD} {w k : Nat} (hD : dO L xs zf D k) (hz : zf.category = 1) : ∀ (o0 : Option Nat) (o1 : Option Nat) (i2 : Int32) (lv : rm_L) (h : rm_H) (r : dR), rm_get lv 0 = some (va_rf o0) → rm_get lv 1 = some (va_rf o1) → rm_get lv 2 = some (.int i2) → b207_42 L xs zf D w  o0 o1 i2 h = some r → dq L xs zf ah_M207 42 lv [] h (k + 1) r := by
  intro o0 o1 i2 lv h r G0 G1 G2 hh
  unfold b207_42 at hh
  refine dq_aln 0 43 (by decide +kernel) rfl G0 ?_
  obtain ⟨p1, q2, hh⟩ := db hh
  refine dq_gR 9 0 [13] 46 (by decide +kernel) rfl q2 ?_
  refine dq_iln 2 47 (by decide +kernel) rfl G2 ?_
  obtain ⟨x3, q4, hh⟩ := db hh
  obtain ⟨a5, q6, q4⟩ := db q4
  rw [dq_xI q4] at q6
  refine dq_cst hD 213 189 1 1 [.int i2] [va_rf p1] 50 [.int x3.1, va_rf p1] (by decide +kernel) ap_189 ⟨⟨Nat.le_of_ble_eq_true rfl, by decide⟩, rfl, rfl⟩ (dq_ok8 [1] [1] (dc_i dc_n) (dc_r dc_n) (by decide +kernel)) (by decide +kernel) rfl q6 rfl ?_
  obtain ⟨p7, q8, hh⟩ := db hh
  obtain ⟨a9, q10, q8⟩ := db q8
  rw [dq_xR q8] at q10
  refine dq_cvi hD 321 194 5 1 [4] p1 [.int x3.1] [] 53 [va_rf p7.1] (by decide +kernel) ap_194 ⟨⟨Nat.le_of_ble_eq_true rfl, by decide⟩, rfl, rfl⟩ (dq_ok8 [1, 1] [] (dc_r (dc_i dc_n)) dc_n (by decide +kernel)) (by decide +kernel) rfl q10 rfl ?_
  refine dq_asn 3 54 (by decide +kernel) (by decide +kernel) ?_
  have g11 := dg_ne (i := 3) (u := va_rf p7.1) (by decide) (Or.inl (by decide)) G0
  have g12 := dg_ne (i := 3) (u := va_rf p7.1) (by decide) (Or.inl (by decide)) G1
  have g13 := dg_ne (i := 3) (u := va_rf p7.1) (by decide) (Or.inr rfl) G2
  have g14 := dg_eq (lv) 3 (va_rf p7.1)
  refine dq_aln 3 55 (by decide +kernel) rfl g14 ?_
  rcases di hh with ⟨q15, hh⟩ | ⟨q15, hh⟩
  · refine dq_nnull 7 false 58 q15 (by decide +kernel) (by decide +kernel) ?_
    refine dq_S (.aconst_null) 1 [] 59 _ [va_rf none] (by decide +kernel) rfl ?_
    refine dq_S (.goto 12) 3 [] 71 _ [va_rf none] (by decide +kernel) rfl ?_
    exact c207_71 hD hz _ _ _ _ _ _ g11 g12 hh
  · refine dq_nnull 7 true 62 q15 (by decide +kernel) (by decide +kernel) ?_
    refine dq_aln 3 63 (by decide +kernel) rfl g14 ?_
    refine dq_aln 1 64 (by decide +kernel) rfl g12 ?_
    obtain ⟨p16, q17, hh⟩ := db hh
    refine dq_gR 295 2 [12] 67 (by decide +kernel) rfl q17 ?_
    refine dq_S (.iconst 2) 1 [] 68 _ [.int 2, va_rf p16, va_rf p7.1] (by decide +kernel) rfl ?_
    obtain ⟨p18, q19, hh⟩ := db hh
    obtain ⟨a20, q21, q19⟩ := db q19
    rw [dq_xR q19] at q21
    refine dq_cvi hD 325 156 5 2 [9] p7.1 [va_rf p16, .int 2] [] 71 [va_rf p18.1] (by decide +kernel) ap_156 ⟨⟨Nat.le_of_ble_eq_true rfl, by decide⟩, rfl, rfl⟩ (dq_ok8 [1, 1, 1] [] (dc_r (dc_r (dc_i dc_n))) dc_n (by decide +kernel)) (by decide +kernel) rfl q21 rfl ?_
    exact c207_71 hD hz _ _ _ _ _ _ g11 g12 hh
def b207_0 (L : Nat) (xs : Nat → Int32) (zf : Value) (D : dD) (w : Nat) (o0 : Option Nat) (o1 : Option Nat) (i2 : Int32) (h : rm_H) : Option dR :=
  ((D 159 [.int i2] h).bind dxI).bind fun x1 =>
  if mx_f2 .eq x1.1 3 = true then
    b207_42 L xs zf D w o0 o1 i2 x1.2
  else
    ((D 159 [.int i2] x1.2).bind dxI).bind fun x6 =>
    if mx_f2 .eq x6.1 4 = true then
      b207_42 L xs zf D w o0 o1 i2 x6.2
    else
      ((D 159 [.int i2] x6.2).bind dxI).bind fun x11 =>
      if mx_f1 .ne x11.1 = true then
        b207_30 L xs zf D w o1 5 o0 x11.2
      else
        b207_30 L xs zf D w o1 8 o0 x11.2
theorem c207_0 {L : Nat} {xs : Nat → Int32} {zf : Value} {D : dD} {w k : Nat} (hD : dO L xs zf D k) (hz : zf.category = 1) : ∀ (o0 : Option Nat) (o1 : Option Nat) (i2 : Int32) (lv : rm_L) (h : rm_H) (r : dR), rm_get lv 0 = some (va_rf o0) → rm_get lv 1 = some (va_rf o1) → rm_get lv 2 = some (.int i2) → b207_0 L xs zf D w  o0 o1 i2 h = some r → dq L xs zf ah_M207 0 lv [] h (k + 1) r := by
  intro o0 o1 i2 lv h r G0 G1 G2 hh
  unfold b207_0 at hh
  refine dq_iln 2 1 (by decide +kernel) rfl G2 ?_
  obtain ⟨x1, q2, hh⟩ := db hh
  obtain ⟨a3, q4, q2⟩ := db q2
  rw [dq_xI q2] at q4
  refine dq_cst hD 209 159 1 1 [.int i2] [] 4 [.int x1.1] (by decide +kernel) ap_159 ⟨⟨Nat.le_of_ble_eq_true rfl, by decide⟩, rfl, rfl⟩ (dq_ok8 [1] [] (dc_i dc_n) dc_n (by decide +kernel)) (by decide +kernel) rfl q4 rfl ?_
  refine dq_S (.iconst 3) 1 [] 5 _ [.int 3, .int x1.1] (by decide +kernel) rfl ?_
  rcases di hh with ⟨q5, hh⟩ | ⟨q5, hh⟩
  · refine dq_2 .eq 37 true 42 q5 (by decide +kernel) ?_
    exact c207_42 hD hz _ _ _ _ _ _ G0 G1 G2 hh
  · refine dq_2 .eq 37 false 8 q5 (by decide +kernel) ?_
    refine dq_iln 2 9 (by decide +kernel) rfl G2 ?_
    obtain ⟨x6, q7, hh⟩ := db hh
    obtain ⟨a8, q9, q7⟩ := db q7
    rw [dq_xI q7] at q9
    refine dq_cst hD 209 159 1 1 [.int i2] [] 12 [.int x6.1] (by decide +kernel) ap_159 ⟨⟨Nat.le_of_ble_eq_true rfl, by decide⟩, rfl, rfl⟩ (dq_ok8 [1] [] (dc_i dc_n) dc_n (by decide +kernel)) (by decide +kernel) rfl q9 rfl ?_
    refine dq_S (.iconst 4) 1 [] 13 _ [.int 4, .int x6.1] (by decide +kernel) rfl ?_
    rcases di hh with ⟨q10, hh⟩ | ⟨q10, hh⟩
    · refine dq_2 .eq 29 true 42 q10 (by decide +kernel) ?_
      exact c207_42 hD hz _ _ _ _ _ _ G0 G1 G2 hh
    · refine dq_2 .eq 29 false 16 q10 (by decide +kernel) ?_
      refine dq_aln 0 17 (by decide +kernel) rfl G0 ?_
      refine dq_iln 2 18 (by decide +kernel) rfl G2 ?_
      obtain ⟨x11, q12, hh⟩ := db hh
      obtain ⟨a13, q14, q12⟩ := db q12
      rw [dq_xI q12] at q14
      refine dq_cst hD 209 159 1 1 [.int i2] [va_rf o0] 21 [.int x11.1, va_rf o0] (by decide +kernel) ap_159 ⟨⟨Nat.le_of_ble_eq_true rfl, by decide⟩, rfl, rfl⟩ (dq_ok8 [1] [1] (dc_i dc_n) (dc_r dc_n) (by decide +kernel)) (by decide +kernel) rfl q14 rfl ?_
      rcases di hh with ⟨q15, hh⟩ | ⟨q15, hh⟩
      · refine dq_1 .ne 8 true 29 q15 (by decide +kernel) ?_
        refine dq_S (.iconst 5) 1 [] 30 _ [.int 5, va_rf o0] (by decide +kernel) rfl ?_
        exact c207_30 hD hz _ _ _ _ _ _ G1 hh
      · refine dq_1 .ne 8 false 24 q15 (by decide +kernel) ?_
        refine dq_S (.bipush 8) 2 [] 26 _ [.int 8, va_rf o0] (by decide +kernel) rfl ?_
        refine dq_S (.goto 4) 3 [] 30 _ [.int 8, va_rf o0] (by decide +kernel) rfl ?_
        exact c207_30 hD hz _ _ _ _ _ _ G1 hh
def f207 (L : Nat) (xs : Nat → Int32) (zf : Value) (D : dD) (w : Nat) (As : List Value) (h : rm_H) : Option dR := match As with
  | [v0, v1, .int i2] => (rm_rf v0).bind fun o0 => (rm_rf v1).bind fun o1 => b207_0 L xs zf D w o0 o1 i2 h
  | _ => none
theorem d207 {L : Nat} {xs : Nat → Int32} {zf : Value} {D : dD} {w k : Nat} (hD : dO L xs zf D k) (hz : zf.category = 1) (As : List Value) (h : rm_H) (r : dR) (hh : f207 L xs zf D w As h = some r) : dq L xs zf ah_M207 0 (lv_args 0 As) [] h (k + 1) r := by
  unfold f207 at hh
  split at hh
  · obtain ⟨o0, e0, hb0⟩ := db hh
    have e0 := rm_rf_v _ _ e0
    obtain ⟨o1, e1, hb1⟩ := db hb0
    have e1 := rm_rf_v _ _ e1
    subst e0 e1
    refine c207_0 hD hz _ _ _ _ _ _ ?_ ?_ ?_ hb1
    all_goals (simp only [la_r, la_i, la_j]; rfl)
  · cases hh
def b208_0 (L : Nat) (xs : Nat → Int32) (zf : Value) (D : dD) (w : Nat) (o0 : Option Nat) (o1 : Option Nat) (i2 : Int32) (h : rm_H) : Option dR :=
  (dgR L xs h 8 [12] o1).bind fun p1 =>
  ((dcV L xs D 172 [13] o0 [va_rf p1] h).bind dxI).bind fun x3 =>
  (dgR L xs x3.2 6 [12] o1).bind fun p11 =>
  ((dcV L xs D 209 [13] o0 [va_rf p11, .int i2] x3.2).bind dxV).bind fun h13 =>
  (dgR L xs h13 8 [12] o1).bind fun p17 =>
  ((dcV L xs D 209 [13] o0 [va_rf p17, .int x3.1] h13).bind dxV).bind fun h19 =>
  (dgR L xs h19 0 [13] o0).bind fun p23 =>
  (dgI L xs h19 4 [12] o1).bind fun x25 =>
  ((dcV L xs D 175 [4] p23 [.int 13, .int x25] h19).bind dxI).bind fun x27 =>
  drI (some .int) 1 x27.2
theorem c208_0 {L : Nat} {xs : Nat → Int32} {zf : Value} {D : dD} {w k : Nat} (hD : dO L xs zf D k) (hz : zf.category = 1) : ∀ (o0 : Option Nat) (o1 : Option Nat) (i2 : Int32) (lv : rm_L) (h : rm_H) (r : dR), rm_get lv 0 = some (va_rf o0) → rm_get lv 1 = some (va_rf o1) → rm_get lv 2 = some (.int i2) → b208_0 L xs zf D w  o0 o1 i2 h = some r → dq L xs zf ah_M208 0 lv [] h (k + 1) r := by
  intro o0 o1 i2 lv h r G0 G1 G2 hh
  unfold b208_0 at hh
  refine dq_aln 0 1 (by decide +kernel) rfl G0 ?_
  refine dq_aln 1 2 (by decide +kernel) rfl G1 ?_
  obtain ⟨p1, q2, hh⟩ := db hh
  refine dq_gR 154 8 [12] 5 (by decide +kernel) rfl q2 ?_
  obtain ⟨x3, q4, hh⟩ := db hh
  obtain ⟨a5, q6, q4⟩ := db q4
  rw [dq_xI q4] at q6
  refine dq_cvi hD 167 172 5 1 [13] o0 [va_rf p1] [] 8 [.int x3.1] (by decide +kernel) ap_172 ⟨⟨Nat.le_of_ble_eq_true rfl, by decide⟩, rfl, rfl⟩ (dq_ok8 [1, 1] [] (dc_r (dc_r dc_n)) dc_n (by decide +kernel)) (by decide +kernel) rfl q6 rfl ?_
  refine dq_isn 3 9 (by decide +kernel) (by decide +kernel) ?_
  have g7 := dg_ne (i := 3) (u := .int x3.1) (by decide) (Or.inl (by decide)) G0
  have g8 := dg_ne (i := 3) (u := .int x3.1) (by decide) (Or.inl (by decide)) G1
  have g9 := dg_ne (i := 3) (u := .int x3.1) (by decide) (Or.inr rfl) G2
  have g10 := dg_eq (lv) 3 (.int x3.1)
  refine dq_aln 0 10 (by decide +kernel) rfl g7 ?_
  refine dq_aln 1 11 (by decide +kernel) rfl g8 ?_
  obtain ⟨p11, q12, hh⟩ := db hh
  refine dq_gR 235 6 [12] 14 (by decide +kernel) rfl q12 ?_
  refine dq_iln 2 15 (by decide +kernel) rfl g9 ?_
  obtain ⟨h13, q14, hh⟩ := db hh
  obtain ⟨a15, q16, q14⟩ := db q14
  rw [dq_xV q14] at q16
  refine dq_cvi hD 205 209 5 2 [13] o0 [va_rf p11, .int i2] [] 18 [] (by decide +kernel) ap_209 ⟨⟨Nat.le_of_ble_eq_true rfl, by decide⟩, rfl, rfl⟩ (dq_ok8 [1, 1, 1] [] (dc_r (dc_r (dc_i dc_n))) dc_n (by decide +kernel)) (by decide +kernel) rfl q16 rfl ?_
  refine dq_aln 0 19 (by decide +kernel) rfl g7 ?_
  refine dq_aln 1 20 (by decide +kernel) rfl g8 ?_
  obtain ⟨p17, q18, hh⟩ := db hh
  refine dq_gR 154 8 [12] 23 (by decide +kernel) rfl q18 ?_
  refine dq_iln 3 24 (by decide +kernel) rfl g10 ?_
  obtain ⟨h19, q20, hh⟩ := db hh
  obtain ⟨a21, q22, q20⟩ := db q20
  rw [dq_xV q20] at q22
  refine dq_cvi hD 205 209 5 2 [13] o0 [va_rf p17, .int x3.1] [] 27 [] (by decide +kernel) ap_209 ⟨⟨Nat.le_of_ble_eq_true rfl, by decide⟩, rfl, rfl⟩ (dq_ok8 [1, 1, 1] [] (dc_r (dc_r (dc_i dc_n))) dc_n (by decide +kernel)) (by decide +kernel) rfl q22 rfl ?_
  refine dq_aln 0 28 (by decide +kernel) rfl g7 ?_
  obtain ⟨p23, q24, hh⟩ := db hh
  refine dq_gR 9 0 [13] 31 (by decide +kernel) rfl q24 ?_
  refine dq_S (.bipush 13) 2 [] 33 _ [.int 13, va_rf p23] (by decide +kernel) rfl ?_
  refine dq_aln 1 34 (by decide +kernel) rfl g8 ?_
  obtain ⟨x25, q26, hh⟩ := db hh
  refine dq_gI 263 4 [12] 37 (by decide +kernel) rfl q26 ?_
  obtain ⟨x27, q28, hh⟩ := db hh
  obtain ⟨a29, q30, q28⟩ := db q28
  rw [dq_xI q28] at q30
  refine dq_cvi hD 104 175 5 2 [4] p23 [.int 13, .int x25] [] 40 [.int x27.1] (by decide +kernel) ap_175 ⟨⟨Nat.le_of_ble_eq_true rfl, by decide⟩, rfl, rfl⟩ (dq_ok8 [1, 1, 1] [] (dc_r (dc_i (dc_i dc_n))) dc_n (by decide +kernel)) (by decide +kernel) rfl q30 rfl ?_
  refine dq_S (.pop) 1 [] 41 _ [] (by decide +kernel) rfl ?_
  refine dq_S (.iconst 1) 1 [] 42 _ [.int 1] (by decide +kernel) rfl ?_
  exact dq_retI (some .int) (by decide +kernel) rfl hh
def f208 (L : Nat) (xs : Nat → Int32) (zf : Value) (D : dD) (w : Nat) (As : List Value) (h : rm_H) : Option dR := match As with
  | [v0, v1, .int i2] => (rm_rf v0).bind fun o0 => (rm_rf v1).bind fun o1 => b208_0 L xs zf D w o0 o1 i2 h
  | _ => none
theorem d208 {L : Nat} {xs : Nat → Int32} {zf : Value} {D : dD} {w k : Nat} (hD : dO L xs zf D k) (hz : zf.category = 1) (As : List Value) (h : rm_H) (r : dR) (hh : f208 L xs zf D w As h = some r) : dq L xs zf ah_M208 0 (lv_args 0 As) [] h (k + 1) r := by
  unfold f208 at hh
  split at hh
  · obtain ⟨o0, e0, hb0⟩ := db hh
    have e0 := rm_rf_v _ _ e0
    obtain ⟨o1, e1, hb1⟩ := db hb0
    have e1 := rm_rf_v _ _ e1
    subst e0 e1
    refine c208_0 hD hz _ _ _ _ _ _ ?_ ?_ ?_ hb1
    all_goals (simp only [la_r, la_i, la_j]; rfl)
  · cases hh
def b209_29 (L : Nat) (xs : Nat → Int32) (zf : Value) (D : dD) (w : Nat) (h : rm_H) : Option dR :=
  some (none, h)
theorem c209_29 {L : Nat} {xs : Nat → Int32} {zf : Value} {D : dD} {w k : Nat} (hD : dO L xs zf D k) (hz : zf.category = 1) : ∀ (lv : rm_L) (h : rm_H) (r : dR), b209_29 L xs zf D w  h = some r → dq L xs zf ah_M209 29 lv [] h (k + 1) r := by
  intro lv h r hh
  unfold b209_29 at hh
  cases hh
  exact dq_ret0 (by decide +kernel) rfl
def b209_22 (L : Nat) (xs : Nat → Int32) (zf : Value) (D : dD) (w : Nat) (o1 : Option Nat) (s0 : Int32) (s1 : Option Nat) (h : rm_H) : Option dR :=
  (dgI L xs h 1 [12] o1).bind fun x1 =>
  ((dcV L xs D 178 [13] s1 [.int s0, .int x1] h).bind dxV).bind fun h3 =>
  b209_29 L xs zf D w h3
theorem c209_22 {L : Nat} {xs : Nat → Int32} {zf : Value} {D : dD} {w k : Nat} (hD : dO L xs zf D k) (hz : zf.category = 1) : ∀ (o1 : Option Nat) (s0 : Int32) (s1 : Option Nat) (lv : rm_L) (h : rm_H) (r : dR), rm_get lv 1 = some (va_rf o1) → b209_22 L xs zf D w  o1 s0 s1 h = some r → dq L xs zf ah_M209 22 lv [.int s0, va_rf s1] h (k + 1) r := by
  intro o1 s0 s1 lv h r G1 hh
  unfold b209_22 at hh
  refine dq_aln 1 23 (by decide +kernel) rfl G1 ?_
  obtain ⟨x1, q2, hh⟩ := db hh
  refine dq_gI 174 1 [12] 26 (by decide +kernel) rfl q2 ?_
  obtain ⟨h3, q4, hh⟩ := db hh
  obtain ⟨a5, q6, q4⟩ := db q4
  rw [dq_xV q4] at q6
  refine dq_cvi hD 140 178 5 2 [13] s1 [.int s0, .int x1] [] 29 [] (by decide +kernel) ap_178 ⟨⟨Nat.le_of_ble_eq_true rfl, by decide⟩, rfl, rfl⟩ (dq_ok8 [1, 1, 1] [] (dc_r (dc_i (dc_i dc_n))) dc_n (by decide +kernel)) (by decide +kernel) rfl q6 rfl ?_
  exact c209_29 hD hz  _ _ _  hh
def b209_0 (L : Nat) (xs : Nat → Int32) (zf : Value) (D : dD) (w : Nat) (o0 : Option Nat) (o1 : Option Nat) (i2 : Int32) (h : rm_H) : Option dR :=
  ((D 159 [.int i2] h).bind dxI).bind fun x1 =>
  if mx_f2 .eq x1.1 1 = true then
    b209_29 L xs zf D w x1.2
  else
    ((D 159 [.int i2] x1.2).bind dxI).bind fun x6 =>
    if mx_f1 .ne x6.1 = true then
      b209_22 L xs zf D w o1 5 o0 x6.2
    else
      b209_22 L xs zf D w o1 8 o0 x6.2
theorem c209_0 {L : Nat} {xs : Nat → Int32} {zf : Value} {D : dD} {w k : Nat} (hD : dO L xs zf D k) (hz : zf.category = 1) : ∀ (o0 : Option Nat) (o1 : Option Nat) (i2 : Int32) (lv : rm_L) (h : rm_H) (r : dR), rm_get lv 0 = some (va_rf o0) → rm_get lv 1 = some (va_rf o1) → rm_get lv 2 = some (.int i2) → b209_0 L xs zf D w  o0 o1 i2 h = some r → dq L xs zf ah_M209 0 lv [] h (k + 1) r := by
  intro o0 o1 i2 lv h r G0 G1 G2 hh
  unfold b209_0 at hh
  refine dq_iln 2 1 (by decide +kernel) rfl G2 ?_
  obtain ⟨x1, q2, hh⟩ := db hh
  obtain ⟨a3, q4, q2⟩ := db q2
  rw [dq_xI q2] at q4
  refine dq_cst hD 209 159 1 1 [.int i2] [] 4 [.int x1.1] (by decide +kernel) ap_159 ⟨⟨Nat.le_of_ble_eq_true rfl, by decide⟩, rfl, rfl⟩ (dq_ok8 [1] [] (dc_i dc_n) dc_n (by decide +kernel)) (by decide +kernel) rfl q4 rfl ?_
  refine dq_S (.iconst 1) 1 [] 5 _ [.int 1, .int x1.1] (by decide +kernel) rfl ?_
  rcases di hh with ⟨q5, hh⟩ | ⟨q5, hh⟩
  · refine dq_2 .eq 24 true 29 q5 (by decide +kernel) ?_
    exact c209_29 hD hz  _ _ _  hh
  · refine dq_2 .eq 24 false 8 q5 (by decide +kernel) ?_
    refine dq_aln 0 9 (by decide +kernel) rfl G0 ?_
    refine dq_iln 2 10 (by decide +kernel) rfl G2 ?_
    obtain ⟨x6, q7, hh⟩ := db hh
    obtain ⟨a8, q9, q7⟩ := db q7
    rw [dq_xI q7] at q9
    refine dq_cst hD 209 159 1 1 [.int i2] [va_rf o0] 13 [.int x6.1, va_rf o0] (by decide +kernel) ap_159 ⟨⟨Nat.le_of_ble_eq_true rfl, by decide⟩, rfl, rfl⟩ (dq_ok8 [1] [1] (dc_i dc_n) (dc_r dc_n) (by decide +kernel)) (by decide +kernel) rfl q9 rfl ?_
    rcases di hh with ⟨q10, hh⟩ | ⟨q10, hh⟩
    · refine dq_1 .ne 8 true 21 q10 (by decide +kernel) ?_
      refine dq_S (.iconst 5) 1 [] 22 _ [.int 5, va_rf o0] (by decide +kernel) rfl ?_
      exact c209_22 hD hz _ _ _ _ _ _ G1 hh
    · refine dq_1 .ne 8 false 16 q10 (by decide +kernel) ?_
      refine dq_S (.bipush 8) 2 [] 18 _ [.int 8, va_rf o0] (by decide +kernel) rfl ?_
      refine dq_S (.goto 4) 3 [] 22 _ [.int 8, va_rf o0] (by decide +kernel) rfl ?_
      exact c209_22 hD hz _ _ _ _ _ _ G1 hh
def f209 (L : Nat) (xs : Nat → Int32) (zf : Value) (D : dD) (w : Nat) (As : List Value) (h : rm_H) : Option dR := match As with
  | [v0, v1, .int i2] => (rm_rf v0).bind fun o0 => (rm_rf v1).bind fun o1 => b209_0 L xs zf D w o0 o1 i2 h
  | _ => none
theorem d209 {L : Nat} {xs : Nat → Int32} {zf : Value} {D : dD} {w k : Nat} (hD : dO L xs zf D k) (hz : zf.category = 1) (As : List Value) (h : rm_H) (r : dR) (hh : f209 L xs zf D w As h = some r) : dq L xs zf ah_M209 0 (lv_args 0 As) [] h (k + 1) r := by
  unfold f209 at hh
  split at hh
  · obtain ⟨o0, e0, hb0⟩ := db hh
    have e0 := rm_rf_v _ _ e0
    obtain ⟨o1, e1, hb1⟩ := db hb0
    have e1 := rm_rf_v _ _ e1
    subst e0 e1
    refine c209_0 hD hz _ _ _ _ _ _ ?_ ?_ ?_ hb1
    all_goals (simp only [la_r, la_i, la_j]; rfl)
  · cases hh
def b210_0 (L : Nat) (xs : Nat → Int32) (zf : Value) (D : dD) (w : Nat) (o0 : Option Nat) (o1 : Option Nat) (h : rm_H) : Option dR :=
  (dgR L xs h 8 [12] o1).bind fun p1 =>
  ((dcV L xs D 211 [13] o0 [va_rf p1] h).bind dxV).bind fun h3 =>
  (dgR L xs h3 0 [13] o0).bind fun p7 =>
  ((dcV L xs D 175 [4] p7 [.int 18, .int 0] h3).bind dxI).bind fun x9 =>
  (dgI L xs x9.2 4 [13] o0).bind fun x16 =>
  (dgR L xs x9.2 9 [12] o1).bind fun p22 =>
  ((dcV L xs D 166 [13] o0 [va_rf p22, .int 0] x9.2).bind dxI).bind fun x24 =>
  (dgR L xs x24.2 10 [12] o1).bind fun p28 =>
  if dnl p28 = true then
    (dgI L xs x24.2 4 [13] o0).bind fun x31 =>
    (dpF x24.2 4 [13] o0 (.int (x31 ||| x16))).bind fun h33 =>
    (dgR L xs h33 0 [13] o0).bind fun p35 =>
    ((dcV L xs D 212 [4] p35 [.int x9.1] h33).bind dxV).bind fun h37 =>
    some (none, h37)
  else
    (dgI L xs x24.2 4 [13] o0).bind fun x41 =>
    (dgR L xs x24.2 0 [13] o0).bind fun p48 =>
    ((dcV L xs D 175 [4] p48 [.int 20, .int 0] x24.2).bind dxI).bind fun x50 =>
    (dgR L xs x50.2 0 [13] o0).bind fun p60 =>
    ((dcV L xs D 212 [4] p60 [.int x9.1] x50.2).bind dxV).bind fun h62 =>
    (dpF h62 4 [13] o0 (.int x16)).bind fun h66 =>
    (dgR L xs h66 10 [12] o1).bind fun p68 =>
    ((dcV L xs D 166 [13] o0 [va_rf p68, .int 0] h66).bind dxI).bind fun x70 =>
    (dgI L xs x70.2 4 [13] o0).bind fun x74 =>
    (dpF x70.2 4 [13] o0 (.int (x74 ||| x41))).bind fun h76 =>
    (dgR L xs h76 0 [13] o0).bind fun p78 =>
    ((dcV L xs D 212 [4] p78 [.int x50.1] h76).bind dxV).bind fun h80 =>
    some (none, h80)
theorem c210_0 {L : Nat} {xs : Nat → Int32} {zf : Value} {D : dD} {w k : Nat} (hD : dO L xs zf D k) (hz : zf.category = 1) : ∀ (o0 : Option Nat) (o1 : Option Nat) (lv : rm_L) (h : rm_H) (r : dR), rm_get lv 0 = some (va_rf o0) → rm_get lv 1 = some (va_rf o1) → b210_0 L xs zf D w  o0 o1 h = some r → dq L xs zf ah_M210 0 lv [] h (k + 1) r := by
  intro o0 o1 lv h r G0 G1 hh
  unfold b210_0 at hh
  refine dq_aln 0 1 (by decide +kernel) rfl G0 ?_
  refine dq_aln 1 2 (by decide +kernel) rfl G1 ?_
  obtain ⟨p1, q2, hh⟩ := db hh
  refine dq_gR 154 8 [12] 5 (by decide +kernel) rfl q2 ?_
  obtain ⟨h3, q4, hh⟩ := db hh
  obtain ⟨a5, q6, q4⟩ := db q4
  rw [dq_xV q4] at q6
  refine dq_cvi hD 157 211 5 1 [13] o0 [va_rf p1] [] 8 [] (by decide +kernel) ap_211 ⟨⟨Nat.le_of_ble_eq_true rfl, by decide⟩, rfl, rfl⟩ (dq_ok8 [1, 1] [] (dc_r (dc_r dc_n)) dc_n (by decide +kernel)) (by decide +kernel) rfl q6 rfl ?_
  refine dq_aln 0 9 (by decide +kernel) rfl G0 ?_
  obtain ⟨p7, q8, hh⟩ := db hh
  refine dq_gR 9 0 [13] 12 (by decide +kernel) rfl q8 ?_
  refine dq_S (.bipush 18) 2 [] 14 _ [.int 18, va_rf p7] (by decide +kernel) rfl ?_
  refine dq_S (.iconst 0) 1 [] 15 _ [.int 0, .int 18, va_rf p7] (by decide +kernel) rfl ?_
  obtain ⟨x9, q10, hh⟩ := db hh
  obtain ⟨a11, q12, q10⟩ := db q10
  rw [dq_xI q10] at q12
  refine dq_cvi hD 104 175 5 2 [4] p7 [.int 18, .int 0] [] 18 [.int x9.1] (by decide +kernel) ap_175 ⟨⟨Nat.le_of_ble_eq_true rfl, by decide⟩, rfl, rfl⟩ (dq_ok8 [1, 1, 1] [] (dc_r (dc_i (dc_i dc_n))) dc_n (by decide +kernel)) (by decide +kernel) rfl q12 rfl ?_
  refine dq_isn 2 19 (by decide +kernel) (by decide +kernel) ?_
  have g13 := dg_ne (i := 2) (u := .int x9.1) (by decide) (Or.inl (by decide)) G0
  have g14 := dg_ne (i := 2) (u := .int x9.1) (by decide) (Or.inr (drc _)) G1
  have g15 := dg_eq (lv) 2 (.int x9.1)
  refine dq_aln 0 20 (by decide +kernel) rfl g13 ?_
  obtain ⟨x16, q17, hh⟩ := db hh
  refine dq_gI 29 4 [13] 23 (by decide +kernel) rfl q17 ?_
  refine dq_isn 3 24 (by decide +kernel) (by decide +kernel) ?_
  have g18 := dg_ne (i := 3) (u := .int x16) (by decide) (Or.inl (by decide)) g13
  have g19 := dg_ne (i := 3) (u := .int x16) (by decide) (Or.inl (by decide)) g14
  have g20 := dg_ne (i := 3) (u := .int x16) (by decide) (Or.inr rfl) g15
  have g21 := dg_eq (rm_set1 (lv) 2 (.int x9.1)) 3 (.int x16)
  refine dq_aln 0 25 (by decide +kernel) rfl g18 ?_
  refine dq_aln 1 26 (by decide +kernel) rfl g19 ?_
  obtain ⟨p22, q23, hh⟩ := db hh
  refine dq_gR 160 9 [12] 29 (by decide +kernel) rfl q23 ?_
  refine dq_S (.iconst 0) 1 [] 30 _ [.int 0, va_rf p22, va_rf o0] (by decide +kernel) rfl ?_
  obtain ⟨x24, q25, hh⟩ := db hh
  obtain ⟨a26, q27, q25⟩ := db q25
  rw [dq_xI q25] at q27
  refine dq_cvi hD 86 166 5 2 [13] o0 [va_rf p22, .int 0] [] 33 [.int x24.1] (by decide +kernel) ap_166 ⟨⟨Nat.le_of_ble_eq_true rfl, by decide⟩, rfl, rfl⟩ (dq_ok8 [1, 1, 1] [] (dc_r (dc_r (dc_i dc_n))) dc_n (by decide +kernel)) (by decide +kernel) rfl q27 rfl ?_
  refine dq_S (.pop) 1 [] 34 _ [] (by decide +kernel) rfl ?_
  refine dq_aln 1 35 (by decide +kernel) rfl g19 ?_
  obtain ⟨p28, q29, hh⟩ := db hh
  refine dq_gR 195 10 [12] 38 (by decide +kernel) rfl q29 ?_
  rcases di hh with ⟨q30, hh⟩ | ⟨q30, hh⟩
  · refine dq_nnull 22 false 41 q30 (by decide +kernel) (by decide +kernel) ?_
    refine dq_aln 0 42 (by decide +kernel) rfl g18 ?_
    refine dq_dup 43 (by decide +kernel) rfl ?_
    obtain ⟨x31, q32, hh⟩ := db hh
    refine dq_gI 29 4 [13] 46 (by decide +kernel) rfl q32 ?_
    refine dq_iln 3 47 (by decide +kernel) rfl g21 ?_
    refine dq_S (.ior) 1 [] 48 _ [.int (x31 ||| x16), va_rf o0] (by decide +kernel) rfl ?_
    obtain ⟨h33, q34, hh⟩ := db hh
    refine dq_put 29 4 [13] 51 (by decide +kernel) rfl q34 ?_
    refine dq_aln 0 52 (by decide +kernel) rfl g18 ?_
    obtain ⟨p35, q36, hh⟩ := db hh
    refine dq_gR 9 0 [13] 55 (by decide +kernel) rfl q36 ?_
    refine dq_iln 2 56 (by decide +kernel) rfl g20 ?_
    obtain ⟨h37, q38, hh⟩ := db hh
    obtain ⟨a39, q40, q38⟩ := db q38
    rw [dq_xV q38] at q40
    refine dq_cvi hD 198 212 5 1 [4] p35 [.int x9.1] [] 59 [] (by decide +kernel) ap_212 ⟨⟨Nat.le_of_ble_eq_true rfl, by decide⟩, rfl, rfl⟩ (dq_ok8 [1, 1] [] (dc_r (dc_i dc_n)) dc_n (by decide +kernel)) (by decide +kernel) rfl q40 rfl ?_
    cases hh
    exact dq_ret0 (by decide +kernel) rfl
  · refine dq_nnull 22 true 60 q30 (by decide +kernel) (by decide +kernel) ?_
    refine dq_aln 0 61 (by decide +kernel) rfl g18 ?_
    obtain ⟨x41, q42, hh⟩ := db hh
    refine dq_gI 29 4 [13] 64 (by decide +kernel) rfl q42 ?_
    refine dq_is 4 66 (by decide +kernel) (by decide +kernel) ?_
    have g43 := dg_ne (i := 4) (u := .int x41) (by decide) (Or.inl (by decide)) g18
    have g44 := dg_ne (i := 4) (u := .int x41) (by decide) (Or.inl (by decide)) g19
    have g45 := dg_ne (i := 4) (u := .int x41) (by decide) (Or.inl (by decide)) g20
    have g46 := dg_ne (i := 4) (u := .int x41) (by decide) (Or.inr rfl) g21
    have g47 := dg_eq (rm_set1 (rm_set1 (lv) 2 (.int x9.1)) 3 (.int x16)) 4 (.int x41)
    refine dq_aln 0 67 (by decide +kernel) rfl g43 ?_
    obtain ⟨p48, q49, hh⟩ := db hh
    refine dq_gR 9 0 [13] 70 (by decide +kernel) rfl q49 ?_
    refine dq_S (.bipush 20) 2 [] 72 _ [.int 20, va_rf p48] (by decide +kernel) rfl ?_
    refine dq_S (.iconst 0) 1 [] 73 _ [.int 0, .int 20, va_rf p48] (by decide +kernel) rfl ?_
    obtain ⟨x50, q51, hh⟩ := db hh
    obtain ⟨a52, q53, q51⟩ := db q51
    rw [dq_xI q51] at q53
    refine dq_cvi hD 104 175 5 2 [4] p48 [.int 20, .int 0] [] 76 [.int x50.1] (by decide +kernel) ap_175 ⟨⟨Nat.le_of_ble_eq_true rfl, by decide⟩, rfl, rfl⟩ (dq_ok8 [1, 1, 1] [] (dc_r (dc_i (dc_i dc_n))) dc_n (by decide +kernel)) (by decide +kernel) rfl q53 rfl ?_
    refine dq_is 5 78 (by decide +kernel) (by decide +kernel) ?_
    have g54 := dg_ne (i := 5) (u := .int x50.1) (by decide) (Or.inl (by decide)) g43
    have g55 := dg_ne (i := 5) (u := .int x50.1) (by decide) (Or.inl (by decide)) g44
    have g56 := dg_ne (i := 5) (u := .int x50.1) (by decide) (Or.inl (by decide)) g45
    have g57 := dg_ne (i := 5) (u := .int x50.1) (by decide) (Or.inl (by decide)) g46
    have g58 := dg_ne (i := 5) (u := .int x50.1) (by decide) (Or.inr rfl) g47
    have g59 := dg_eq (rm_set1 (rm_set1 (rm_set1 (lv) 2 (.int x9.1)) 3 (.int x16)) 4 (.int x41)) 5 (.int x50.1)
    refine dq_aln 0 79 (by decide +kernel) rfl g54 ?_
    obtain ⟨p60, q61, hh⟩ := db hh
    refine dq_gR 9 0 [13] 82 (by decide +kernel) rfl q61 ?_
    refine dq_iln 2 83 (by decide +kernel) rfl g56 ?_
    obtain ⟨h62, q63, hh⟩ := db hh
    obtain ⟨a64, q65, q63⟩ := db q63
    rw [dq_xV q63] at q65
    refine dq_cvi hD 198 212 5 1 [4] p60 [.int x9.1] [] 86 [] (by decide +kernel) ap_212 ⟨⟨Nat.le_of_ble_eq_true rfl, by decide⟩, rfl, rfl⟩ (dq_ok8 [1, 1] [] (dc_r (dc_i dc_n)) dc_n (by decide +kernel)) (by decide +kernel) rfl q65 rfl ?_
    refine dq_aln 0 87 (by decide +kernel) rfl g54 ?_
    refine dq_iln 3 88 (by decide +kernel) rfl g57 ?_
    obtain ⟨h66, q67, hh⟩ := db hh
    refine dq_put 29 4 [13] 91 (by decide +kernel) rfl q67 ?_
    refine dq_aln 0 92 (by decide +kernel) rfl g54 ?_
    refine dq_aln 1 93 (by decide +kernel) rfl g55 ?_
    obtain ⟨p68, q69, hh⟩ := db hh
    refine dq_gR 195 10 [12] 96 (by decide +kernel) rfl q69 ?_
    refine dq_S (.iconst 0) 1 [] 97 _ [.int 0, va_rf p68, va_rf o0] (by decide +kernel) rfl ?_
    obtain ⟨x70, q71, hh⟩ := db hh
    obtain ⟨a72, q73, q71⟩ := db q71
    rw [dq_xI q71] at q73
    refine dq_cvi hD 86 166 5 2 [13] o0 [va_rf p68, .int 0] [] 100 [.int x70.1] (by decide +kernel) ap_166 ⟨⟨Nat.le_of_ble_eq_true rfl, by decide⟩, rfl, rfl⟩ (dq_ok8 [1, 1, 1] [] (dc_r (dc_r (dc_i dc_n))) dc_n (by decide +kernel)) (by decide +kernel) rfl q73 rfl ?_
    refine dq_S (.pop) 1 [] 101 _ [] (by decide +kernel) rfl ?_
    refine dq_aln 0 102 (by decide +kernel) rfl g54 ?_
    refine dq_dup 103 (by decide +kernel) rfl ?_
    obtain ⟨x74, q75, hh⟩ := db hh
    refine dq_gI 29 4 [13] 106 (by decide +kernel) rfl q75 ?_
    refine dq_il 4 108 (by decide +kernel) rfl g58 ?_
    refine dq_S (.ior) 1 [] 109 _ [.int (x74 ||| x41), va_rf o0] (by decide +kernel) rfl ?_
    obtain ⟨h76, q77, hh⟩ := db hh
    refine dq_put 29 4 [13] 112 (by decide +kernel) rfl q77 ?_
    refine dq_aln 0 113 (by decide +kernel) rfl g54 ?_
    obtain ⟨p78, q79, hh⟩ := db hh
    refine dq_gR 9 0 [13] 116 (by decide +kernel) rfl q79 ?_
    refine dq_il 5 118 (by decide +kernel) rfl g59 ?_
    obtain ⟨h80, q81, hh⟩ := db hh
    obtain ⟨a82, q83, q81⟩ := db q81
    rw [dq_xV q81] at q83
    refine dq_cvi hD 198 212 5 1 [4] p78 [.int x50.1] [] 121 [] (by decide +kernel) ap_212 ⟨⟨Nat.le_of_ble_eq_true rfl, by decide⟩, rfl, rfl⟩ (dq_ok8 [1, 1] [] (dc_r (dc_i dc_n)) dc_n (by decide +kernel)) (by decide +kernel) rfl q83 rfl ?_
    cases hh
    exact dq_ret0 (by decide +kernel) rfl
def f210 (L : Nat) (xs : Nat → Int32) (zf : Value) (D : dD) (w : Nat) (As : List Value) (h : rm_H) : Option dR := match As with
  | [v0, v1] => (rm_rf v0).bind fun o0 => (rm_rf v1).bind fun o1 => b210_0 L xs zf D w o0 o1 h
  | _ => none
theorem d210 {L : Nat} {xs : Nat → Int32} {zf : Value} {D : dD} {w k : Nat} (hD : dO L xs zf D k) (hz : zf.category = 1) (As : List Value) (h : rm_H) (r : dR) (hh : f210 L xs zf D w As h = some r) : dq L xs zf ah_M210 0 (lv_args 0 As) [] h (k + 1) r := by
  unfold f210 at hh
  split at hh
  · obtain ⟨o0, e0, hb0⟩ := db hh
    have e0 := rm_rf_v _ _ e0
    obtain ⟨o1, e1, hb1⟩ := db hb0
    have e1 := rm_rf_v _ _ e1
    subst e0 e1
    refine c210_0 hD hz _ _ _ _ _ ?_ ?_ hb1
    all_goals (simp only [la_r, la_i, la_j]; rfl)
  · cases hh
def b211_0 (L : Nat) (xs : Nat → Int32) (zf : Value) (D : dD) (w : Nat) (o0 : Option Nat) (o1 : Option Nat) (h : rm_H) : Option dR :=
  ((dcV L xs D 172 [13] o0 [va_rf o1] h).bind dxI).bind fun x1 =>
  ((dcV L xs D 209 [13] o0 [va_rf o1, .int x1.1] x1.2).bind dxV).bind fun h5 =>
  some (none, h5)
theorem c211_0 {L : Nat} {xs : Nat → Int32} {zf : Value} {D : dD} {w k : Nat} (hD : dO L xs zf D k) (hz : zf.category = 1) : ∀ (o0 : Option Nat) (o1 : Option Nat) (lv : rm_L) (h : rm_H) (r : dR), rm_get lv 0 = some (va_rf o0) → rm_get lv 1 = some (va_rf o1) → b211_0 L xs zf D w  o0 o1 h = some r → dq L xs zf ah_M211 0 lv [] h (k + 1) r := by
  intro o0 o1 lv h r G0 G1 hh
  unfold b211_0 at hh
  refine dq_aln 0 1 (by decide +kernel) rfl G0 ?_
  refine dq_aln 1 2 (by decide +kernel) rfl G1 ?_
  refine dq_aln 0 3 (by decide +kernel) rfl G0 ?_
  refine dq_aln 1 4 (by decide +kernel) rfl G1 ?_
  obtain ⟨x1, q2, hh⟩ := db hh
  obtain ⟨a3, q4, q2⟩ := db q2
  rw [dq_xI q2] at q4
  refine dq_cvi hD 167 172 5 1 [13] o0 [va_rf o1] [va_rf o1, va_rf o0] 7 [.int x1.1, va_rf o1, va_rf o0] (by decide +kernel) ap_172 ⟨⟨Nat.le_of_ble_eq_true rfl, by decide⟩, rfl, rfl⟩ (dq_ok8 [1, 1] [1, 1] (dc_r (dc_r dc_n)) (dc_r (dc_r dc_n)) (by decide +kernel)) (by decide +kernel) rfl q4 rfl ?_
  obtain ⟨h5, q6, hh⟩ := db hh
  obtain ⟨a7, q8, q6⟩ := db q6
  rw [dq_xV q6] at q8
  refine dq_cvi hD 205 209 5 2 [13] o0 [va_rf o1, .int x1.1] [] 10 [] (by decide +kernel) ap_209 ⟨⟨Nat.le_of_ble_eq_true rfl, by decide⟩, rfl, rfl⟩ (dq_ok8 [1, 1, 1] [] (dc_r (dc_r (dc_i dc_n))) dc_n (by decide +kernel)) (by decide +kernel) rfl q8 rfl ?_
  cases hh
  exact dq_ret0 (by decide +kernel) rfl
def f211 (L : Nat) (xs : Nat → Int32) (zf : Value) (D : dD) (w : Nat) (As : List Value) (h : rm_H) : Option dR := match As with
  | [v0, v1] => (rm_rf v0).bind fun o0 => (rm_rf v1).bind fun o1 => b211_0 L xs zf D w o0 o1 h
  | _ => none
theorem d211 {L : Nat} {xs : Nat → Int32} {zf : Value} {D : dD} {w k : Nat} (hD : dO L xs zf D k) (hz : zf.category = 1) (As : List Value) (h : rm_H) (r : dR) (hh : f211 L xs zf D w As h = some r) : dq L xs zf ah_M211 0 (lv_args 0 As) [] h (k + 1) r := by
  unfold f211 at hh
  split at hh
  · obtain ⟨o0, e0, hb0⟩ := db hh
    have e0 := rm_rf_v _ _ e0
    obtain ⟨o1, e1, hb1⟩ := db hb0
    have e1 := rm_rf_v _ _ e1
    subst e0 e1
    refine c211_0 hD hz _ _ _ _ _ ?_ ?_ hb1
    all_goals (simp only [la_r, la_i, la_j]; rfl)
  · cases hh
def b212_22 (L : Nat) (xs : Nat → Int32) (zf : Value) (D : dD) (w : Nat) (h : rm_H) : Option dR :=
  some (none, h)
theorem c212_22 {L : Nat} {xs : Nat → Int32} {zf : Value} {D : dD} {w k : Nat} (hD : dO L xs zf D k) (hz : zf.category = 1) : ∀ (lv : rm_L) (h : rm_H) (r : dR), b212_22 L xs zf D w  h = some r → dq L xs zf ah_M212 22 lv [] h (k + 1) r := by
  intro lv h r hh
  unfold b212_22 at hh
  cases hh
  exact dq_ret0 (by decide +kernel) rfl
def b212_0 (L : Nat) (xs : Nat → Int32) (zf : Value) (D : dD) (w : Nat) (o0 : Option Nat) (i1 : Int32) (h : rm_H) : Option dR :=
  if mx_f1 .lt i1 = true then
    b212_22 L xs zf D w h
  else
    (dgI L xs h 11 [4] o0).bind fun x2 =>
    if mx_f2 .ge i1 x2 = true then
      b212_22 L xs zf D w h
    else
      (dgR L xs h 10 [4] o0).bind fun p5 =>
      (dgI L xs h 11 [4] o0).bind fun x7 =>
      (dsI h p5 i1 x7).bind fun h9 =>
      b212_22 L xs zf D w h9
theorem c212_0 {L : Nat} {xs : Nat → Int32} {zf : Value} {D : dD} {w k : Nat} (hD : dO L xs zf D k) (hz : zf.category = 1) : ∀ (o0 : Option Nat) (i1 : Int32) (lv : rm_L) (h : rm_H) (r : dR), rm_get lv 0 = some (va_rf o0) → rm_get lv 1 = some (.int i1) → b212_0 L xs zf D w  o0 i1 h = some r → dq L xs zf ah_M212 0 lv [] h (k + 1) r := by
  intro o0 i1 lv h r G0 G1 hh
  unfold b212_0 at hh
  refine dq_iln 1 1 (by decide +kernel) rfl G1 ?_
  rcases di hh with ⟨q1, hh⟩ | ⟨q1, hh⟩
  · refine dq_1 .lt 21 true 22 q1 (by decide +kernel) ?_
    exact c212_22 hD hz  _ _ _  hh
  · refine dq_1 .lt 21 false 4 q1 (by decide +kernel) ?_
    refine dq_iln 1 5 (by decide +kernel) rfl G1 ?_
    refine dq_aln 0 6 (by decide +kernel) rfl G0 ?_
    obtain ⟨x2, q3, hh⟩ := db hh
    refine dq_gI 51 11 [4] 9 (by decide +kernel) rfl q3 ?_
    rcases di hh with ⟨q4, hh⟩ | ⟨q4, hh⟩
    · refine dq_2 .ge 13 true 22 q4 (by decide +kernel) ?_
      exact c212_22 hD hz  _ _ _  hh
    · refine dq_2 .ge 13 false 12 q4 (by decide +kernel) ?_
      refine dq_aln 0 13 (by decide +kernel) rfl G0 ?_
      obtain ⟨p5, q6, hh⟩ := db hh
      refine dq_gR 48 10 [4] 16 (by decide +kernel) rfl q6 ?_
      refine dq_iln 1 17 (by decide +kernel) rfl G1 ?_
      refine dq_aln 0 18 (by decide +kernel) rfl G0 ?_
      obtain ⟨x7, q8, hh⟩ := db hh
      refine dq_gI 51 11 [4] 21 (by decide +kernel) rfl q8 ?_
      obtain ⟨h9, q10, hh⟩ := db hh
      refine dq_sI 22 (by decide +kernel) rfl q10 ?_
      exact c212_22 hD hz  _ _ _  hh
def f212 (L : Nat) (xs : Nat → Int32) (zf : Value) (D : dD) (w : Nat) (As : List Value) (h : rm_H) : Option dR := match As with
  | [v0, .int i1] => (rm_rf v0).bind fun o0 => b212_0 L xs zf D w o0 i1 h
  | _ => none
theorem d212 {L : Nat} {xs : Nat → Int32} {zf : Value} {D : dD} {w k : Nat} (hD : dO L xs zf D k) (hz : zf.category = 1) (As : List Value) (h : rm_H) (r : dR) (hh : f212 L xs zf D w As h = some r) : dq L xs zf ah_M212 0 (lv_args 0 As) [] h (k + 1) r := by
  unfold f212 at hh
  split at hh
  · obtain ⟨o0, e0, hb0⟩ := db hh
    have e0 := rm_rf_v _ _ e0
    subst e0
    refine c212_0 hD hz _ _ _ _ _ ?_ ?_ hb0
    all_goals (simp only [la_r, la_i, la_j]; rfl)
  · cases hh
def b213_75 (L : Nat) (xs : Nat → Int32) (zf : Value) (D : dD) (w : Nat) (o0 : Option Nat) (i3 : Int32) (i4 : Int32) (i5 : Int32) (h : rm_H) : Option dR :=
  (dgR L xs h 0 [13] o0).bind fun p1 =>
  ((dcV L xs D 175 [4] p1 [.int 20, .int i3] h).bind dxI).bind fun x3 =>
  (dgR L xs x3.2 0 [13] o0).bind fun p7 =>
  ((dcV L xs D 212 [4] p7 [.int i4] x3.2).bind dxV).bind fun h9 =>
  (dpF h9 4 [13] o0 (.int i5)).bind fun h13 =>
  some (none, h13)
theorem c213_75 {L : Nat} {xs : Nat → Int32} {zf : Value} {D : dD} {w k : Nat} (hD : dO L xs zf D k) (hz : zf.category = 1) : ∀ (o0 : Option Nat) (i3 : Int32) (i4 : Int32) (i5 : Int32) (lv : rm_L) (h : rm_H) (r : dR), rm_get lv 0 = some (va_rf o0) → rm_get lv 3 = some (.int i3) → rm_get lv 4 = some (.int i4) → rm_get lv 5 = some (.int i5) → b213_75 L xs zf D w  o0 i3 i4 i5 h = some r → dq L xs zf ah_M213 75 lv [] h (k + 1) r := by
  intro o0 i3 i4 i5 lv h r G0 G3 G4 G5 hh
  unfold b213_75 at hh
  refine dq_aln 0 76 (by decide +kernel) rfl G0 ?_
  obtain ⟨p1, q2, hh⟩ := db hh
  refine dq_gR 9 0 [13] 79 (by decide +kernel) rfl q2 ?_
  refine dq_S (.bipush 20) 2 [] 81 _ [.int 20, va_rf p1] (by decide +kernel) rfl ?_
  refine dq_iln 3 82 (by decide +kernel) rfl G3 ?_
  obtain ⟨x3, q4, hh⟩ := db hh
  obtain ⟨a5, q6, q4⟩ := db q4
  rw [dq_xI q4] at q6
  refine dq_cvi hD 104 175 5 2 [4] p1 [.int 20, .int i3] [] 85 [.int x3.1] (by decide +kernel) ap_175 ⟨⟨Nat.le_of_ble_eq_true rfl, by decide⟩, rfl, rfl⟩ (dq_ok8 [1, 1, 1] [] (dc_r (dc_i (dc_i dc_n))) dc_n (by decide +kernel)) (by decide +kernel) rfl q6 rfl ?_
  refine dq_S (.pop) 1 [] 86 _ [] (by decide +kernel) rfl ?_
  refine dq_aln 0 87 (by decide +kernel) rfl G0 ?_
  obtain ⟨p7, q8, hh⟩ := db hh
  refine dq_gR 9 0 [13] 90 (by decide +kernel) rfl q8 ?_
  refine dq_il 4 92 (by decide +kernel) rfl G4 ?_
  obtain ⟨h9, q10, hh⟩ := db hh
  obtain ⟨a11, q12, q10⟩ := db q10
  rw [dq_xV q10] at q12
  refine dq_cvi hD 198 212 5 1 [4] p7 [.int i4] [] 95 [] (by decide +kernel) ap_212 ⟨⟨Nat.le_of_ble_eq_true rfl, by decide⟩, rfl, rfl⟩ (dq_ok8 [1, 1] [] (dc_r (dc_i dc_n)) dc_n (by decide +kernel)) (by decide +kernel) rfl q12 rfl ?_
  refine dq_aln 0 96 (by decide +kernel) rfl G0 ?_
  refine dq_il 5 98 (by decide +kernel) rfl G5 ?_
  obtain ⟨h13, q14, hh⟩ := db hh
  refine dq_put 29 4 [13] 101 (by decide +kernel) rfl q14 ?_
  cases hh
  exact dq_ret0 (by decide +kernel) rfl
def b213_0 (L : Nat) (xs : Nat → Int32) (zf : Value) (D : dD) (w : Nat) (o0 : Option Nat) (o1 : Option Nat) (h : rm_H) : Option dR :=
  (dgI L xs h 4 [13] o0).bind fun x1 =>
  (dgR L xs h 0 [13] o0).bind fun p6 =>
  (dgI L xs h 11 [4] p6).bind fun x8 =>
  (dgR L xs h 8 [12] o1).bind fun p14 =>
  ((dcV L xs D 211 [13] o0 [va_rf p14] h).bind dxV).bind fun h16 =>
  (dgR L xs h16 0 [13] o0).bind fun p20 =>
  ((dcV L xs D 175 [4] p20 [.int 18, .int 0] h16).bind dxI).bind fun x22 =>
  (dgI L xs x22.2 4 [13] o0).bind fun x31 =>
  (dgR L xs x22.2 9 [12] o1).bind fun p39 =>
  ((dcV L xs D 166 [13] o0 [va_rf p39, .int 0] x22.2).bind dxI).bind fun x41 =>
  ((dcV L xs D 214 [13] o0 [] x41.2).bind dxI).bind fun x45 =>
  (dgI L xs x45.2 4 [13] o0).bind fun x49 =>
  if mx_f1 .eq ((x45.1 &&& x49) &&& (x1 ^^^ (-1))) = true then
    b213_75 L xs zf D w o0 x8 x22.1 x31 x45.2
  else
    (dgI L xs x45.2 1 [12] o1).bind fun x52 =>
    ((dcV L xs D 178 [13] o0 [.int 7, .int x52] x45.2).bind dxV).bind fun h54 =>
    b213_75 L xs zf D w o0 x8 x22.1 x31 h54
theorem c213_0 {L : Nat} {xs : Nat → Int32} {zf : Value} {D : dD} {w k : Nat} (hD : dO L xs zf D k) (hz : zf.category = 1) : ∀ (o0 : Option Nat) (o1 : Option Nat) (lv : rm_L) (h : rm_H) (r : dR), rm_get lv 0 = some (va_rf o0) → rm_get lv 1 = some (va_rf o1) → b213_0 L xs zf D w  o0 o1 h = some r → dq L xs zf ah_M213 0 lv [] h (k + 1) r := by
  intro o0 o1 lv h r G0 G1 hh
  unfold b213_0 at hh
  refine dq_aln 0 1 (by decide +kernel) rfl G0 ?_
  obtain ⟨x1, q2, hh⟩ := db hh
  refine dq_gI 29 4 [13] 4 (by decide +kernel) rfl q2 ?_
  refine dq_isn 2 5 (by decide +kernel) (by decide +kernel) ?_
  have g3 := dg_ne (i := 2) (u := .int x1) (by decide) (Or.inl (by decide)) G0
  have g4 := dg_ne (i := 2) (u := .int x1) (by decide) (Or.inr (drc _)) G1
  have g5 := dg_eq (lv) 2 (.int x1)
  refine dq_aln 0 6 (by decide +kernel) rfl g3 ?_
  obtain ⟨p6, q7, hh⟩ := db hh
  refine dq_gR 9 0 [13] 9 (by decide +kernel) rfl q7 ?_
  obtain ⟨x8, q9, hh⟩ := db hh
  refine dq_gI 71 11 [4] 12 (by decide +kernel) rfl q9 ?_
  refine dq_isn 3 13 (by decide +kernel) (by decide +kernel) ?_
  have g10 := dg_ne (i := 3) (u := .int x8) (by decide) (Or.inl (by decide)) g3
  have g11 := dg_ne (i := 3) (u := .int x8) (by decide) (Or.inl (by decide)) g4
  have g12 := dg_ne (i := 3) (u := .int x8) (by decide) (Or.inr rfl) g5
  have g13 := dg_eq (rm_set1 (lv) 2 (.int x1)) 3 (.int x8)
  refine dq_aln 0 14 (by decide +kernel) rfl g10 ?_
  refine dq_aln 1 15 (by decide +kernel) rfl g11 ?_
  obtain ⟨p14, q15, hh⟩ := db hh
  refine dq_gR 154 8 [12] 18 (by decide +kernel) rfl q15 ?_
  obtain ⟨h16, q17, hh⟩ := db hh
  obtain ⟨a18, q19, q17⟩ := db q17
  rw [dq_xV q17] at q19
  refine dq_cvi hD 157 211 5 1 [13] o0 [va_rf p14] [] 21 [] (by decide +kernel) ap_211 ⟨⟨Nat.le_of_ble_eq_true rfl, by decide⟩, rfl, rfl⟩ (dq_ok8 [1, 1] [] (dc_r (dc_r dc_n)) dc_n (by decide +kernel)) (by decide +kernel) rfl q19 rfl ?_
  refine dq_aln 0 22 (by decide +kernel) rfl g10 ?_
  obtain ⟨p20, q21, hh⟩ := db hh
  refine dq_gR 9 0 [13] 25 (by decide +kernel) rfl q21 ?_
  refine dq_S (.bipush 18) 2 [] 27 _ [.int 18, va_rf p20] (by decide +kernel) rfl ?_
  refine dq_S (.iconst 0) 1 [] 28 _ [.int 0, .int 18, va_rf p20] (by decide +kernel) rfl ?_
  obtain ⟨x22, q23, hh⟩ := db hh
  obtain ⟨a24, q25, q23⟩ := db q23
  rw [dq_xI q23] at q25
  refine dq_cvi hD 104 175 5 2 [4] p20 [.int 18, .int 0] [] 31 [.int x22.1] (by decide +kernel) ap_175 ⟨⟨Nat.le_of_ble_eq_true rfl, by decide⟩, rfl, rfl⟩ (dq_ok8 [1, 1, 1] [] (dc_r (dc_i (dc_i dc_n))) dc_n (by decide +kernel)) (by decide +kernel) rfl q25 rfl ?_
  refine dq_is 4 33 (by decide +kernel) (by decide +kernel) ?_
  have g26 := dg_ne (i := 4) (u := .int x22.1) (by decide) (Or.inl (by decide)) g10
  have g27 := dg_ne (i := 4) (u := .int x22.1) (by decide) (Or.inl (by decide)) g11
  have g28 := dg_ne (i := 4) (u := .int x22.1) (by decide) (Or.inl (by decide)) g12
  have g29 := dg_ne (i := 4) (u := .int x22.1) (by decide) (Or.inr rfl) g13
  have g30 := dg_eq (rm_set1 (rm_set1 (lv) 2 (.int x1)) 3 (.int x8)) 4 (.int x22.1)
  refine dq_aln 0 34 (by decide +kernel) rfl g26 ?_
  obtain ⟨x31, q32, hh⟩ := db hh
  refine dq_gI 29 4 [13] 37 (by decide +kernel) rfl q32 ?_
  refine dq_is 5 39 (by decide +kernel) (by decide +kernel) ?_
  have g33 := dg_ne (i := 5) (u := .int x31) (by decide) (Or.inl (by decide)) g26
  have g34 := dg_ne (i := 5) (u := .int x31) (by decide) (Or.inl (by decide)) g27
  have g35 := dg_ne (i := 5) (u := .int x31) (by decide) (Or.inl (by decide)) g28
  have g36 := dg_ne (i := 5) (u := .int x31) (by decide) (Or.inl (by decide)) g29
  have g37 := dg_ne (i := 5) (u := .int x31) (by decide) (Or.inr rfl) g30
  have g38 := dg_eq (rm_set1 (rm_set1 (rm_set1 (lv) 2 (.int x1)) 3 (.int x8)) 4 (.int x22.1)) 5 (.int x31)
  refine dq_aln 0 40 (by decide +kernel) rfl g33 ?_
  refine dq_aln 1 41 (by decide +kernel) rfl g34 ?_
  obtain ⟨p39, q40, hh⟩ := db hh
  refine dq_gR 160 9 [12] 44 (by decide +kernel) rfl q40 ?_
  refine dq_S (.iconst 0) 1 [] 45 _ [.int 0, va_rf p39, va_rf o0] (by decide +kernel) rfl ?_
  obtain ⟨x41, q42, hh⟩ := db hh
  obtain ⟨a43, q44, q42⟩ := db q42
  rw [dq_xI q42] at q44
  refine dq_cvi hD 86 166 5 2 [13] o0 [va_rf p39, .int 0] [] 48 [.int x41.1] (by decide +kernel) ap_166 ⟨⟨Nat.le_of_ble_eq_true rfl, by decide⟩, rfl, rfl⟩ (dq_ok8 [1, 1, 1] [] (dc_r (dc_r (dc_i dc_n))) dc_n (by decide +kernel)) (by decide +kernel) rfl q44 rfl ?_
  refine dq_S (.pop) 1 [] 49 _ [] (by decide +kernel) rfl ?_
  refine dq_aln 0 50 (by decide +kernel) rfl g33 ?_
  obtain ⟨x45, q46, hh⟩ := db hh
  obtain ⟨a47, q48, q46⟩ := db q46
  rw [dq_xI q46] at q48
  refine dq_cvi hD 202 214 5 0 [13] o0 [] [] 53 [.int x45.1] (by decide +kernel) ap_214 ⟨⟨Nat.le_of_ble_eq_true rfl, by decide⟩, rfl, rfl⟩ (dq_ok8 [1] [] (dc_r dc_n) dc_n (by decide +kernel)) (by decide +kernel) rfl q48 rfl ?_
  refine dq_aln 0 54 (by decide +kernel) rfl g33 ?_
  obtain ⟨x49, q50, hh⟩ := db hh
  refine dq_gI 29 4 [13] 57 (by decide +kernel) rfl q50 ?_
  refine dq_S (.iand) 1 [] 58 _ [.int (x45.1 &&& x49)] (by decide +kernel) rfl ?_
  refine dq_iln 2 59 (by decide +kernel) rfl g35 ?_
  refine dq_S (.iconst (-1)) 1 [] 60 _ [.int (-1), .int x1, .int (x45.1 &&& x49)] (by decide +kernel) rfl ?_
  refine dq_S (.ixor) 1 [] 61 _ [.int (x1 ^^^ (-1)), .int (x45.1 &&& x49)] (by decide +kernel) rfl ?_
  refine dq_S (.iand) 1 [] 62 _ [.int ((x45.1 &&& x49) &&& (x1 ^^^ (-1)))] (by decide +kernel) rfl ?_
  rcases di hh with ⟨q51, hh⟩ | ⟨q51, hh⟩
  · refine dq_1 .eq 13 true 75 q51 (by decide +kernel) ?_
    exact c213_75 hD hz _ _ _ _ _ _ _ g33 g36 g37 g38 hh
  · refine dq_1 .eq 13 false 65 q51 (by decide +kernel) ?_
    refine dq_aln 0 66 (by decide +kernel) rfl g33 ?_
    refine dq_S (.bipush 7) 2 [] 68 _ [.int 7, va_rf o0] (by decide +kernel) rfl ?_
    refine dq_aln 1 69 (by decide +kernel) rfl g34 ?_
    obtain ⟨x52, q53, hh⟩ := db hh
    refine dq_gI 174 1 [12] 72 (by decide +kernel) rfl q53 ?_
    obtain ⟨h54, q55, hh⟩ := db hh
    obtain ⟨a56, q57, q55⟩ := db q55
    rw [dq_xV q55] at q57
    refine dq_cvi hD 140 178 5 2 [13] o0 [.int 7, .int x52] [] 75 [] (by decide +kernel) ap_178 ⟨⟨Nat.le_of_ble_eq_true rfl, by decide⟩, rfl, rfl⟩ (dq_ok8 [1, 1, 1] [] (dc_r (dc_i (dc_i dc_n))) dc_n (by decide +kernel)) (by decide +kernel) rfl q57 rfl ?_
    exact c213_75 hD hz _ _ _ _ _ _ _ g33 g36 g37 g38 hh
def f213 (L : Nat) (xs : Nat → Int32) (zf : Value) (D : dD) (w : Nat) (As : List Value) (h : rm_H) : Option dR := match As with
  | [v0, v1] => (rm_rf v0).bind fun o0 => (rm_rf v1).bind fun o1 => b213_0 L xs zf D w o0 o1 h
  | _ => none
theorem d213 {L : Nat} {xs : Nat → Int32} {zf : Value} {D : dD} {w k : Nat} (hD : dO L xs zf D k) (hz : zf.category = 1) (As : List Value) (h : rm_H) (r : dR) (hh : f213 L xs zf D w As h = some r) : dq L xs zf ah_M213 0 (lv_args 0 As) [] h (k + 1) r := by
  unfold f213 at hh
  split at hh
  · obtain ⟨o0, e0, hb0⟩ := db hh
    have e0 := rm_rf_v _ _ e0
    obtain ⟨o1, e1, hb1⟩ := db hb0
    have e1 := rm_rf_v _ _ e1
    subst e0 e1
    refine c213_0 hD hz _ _ _ _ _ ?_ ?_ hb1
    all_goals (simp only [la_r, la_i, la_j]; rfl)
  · cases hh
def b214_4 (L : Nat) (xs : Nat → Int32) (zf : Value) (D : dD) (w : Nat) : Nat → Option Nat → Int32 → Int32 → rm_H → Option dR
  | 0, _, _, _, _ => none
  | n + 1, o0, i1, i2, h =>
    (dgI L xs h 3 [13] o0).bind fun x1 =>
    if mx_f2 .ge i2 x1 = true then
      drI (some .int) i1 h
    else
      (dgR L xs h 1 [13] o0).bind fun p4 =>
      (daR L xs h p4 i2).bind fun p6 =>
      (dgI L xs h 8 [10] p6).bind fun x8 =>
      b214_4 L xs zf D w n o0 (i1 ||| ((1 : Int32) <<< (x8 &&& 31))) (i2 + 1) h
theorem c214_4 {L : Nat} {xs : Nat → Int32} {zf : Value} {D : dD} {w k : Nat} (hD : dO L xs zf D k) (hz : zf.category = 1) : ∀ (n : Nat) (o0 : Option Nat) (i1 : Int32) (i2 : Int32) (lv : rm_L) (h : rm_H) (r : dR), rm_get lv 0 = some (va_rf o0) → rm_get lv 1 = some (.int i1) → rm_get lv 2 = some (.int i2) → b214_4 L xs zf D w n  o0 i1 i2 h = some r → dq L xs zf ah_M214 4 lv [] h (k + 1) r := by
  intro n
  induction n with
  | zero =>
    intro o0 i1 i2 lv h r G0 G1 G2 hh
    cases hh
  | succ n ih =>
    intro o0 i1 i2 lv h r G0 G1 G2 hh
    rw [b214_4] at hh
    refine dq_iln 2 5 (by decide +kernel) rfl G2 ?_
    refine dq_aln 0 6 (by decide +kernel) rfl G0 ?_
    obtain ⟨x1, q2, hh⟩ := db hh
    refine dq_gI 25 3 [13] 9 (by decide +kernel) rfl q2 ?_
    rcases di hh with ⟨q3, hh⟩ | ⟨q3, hh⟩
    · refine dq_2 .ge 23 true 32 q3 (by decide +kernel) ?_
      refine dq_iln 1 33 (by decide +kernel) rfl G1 ?_
      exact dq_retI (some .int) (by decide +kernel) rfl hh
    · refine dq_2 .ge 23 false 12 q3 (by decide +kernel) ?_
      refine dq_iln 1 13 (by decide +kernel) rfl G1 ?_
      refine dq_S (.iconst 1) 1 [] 14 _ [.int 1, .int i1] (by decide +kernel) rfl ?_
      refine dq_aln 0 15 (by decide +kernel) rfl G0 ?_
      obtain ⟨p4, q5, hh⟩ := db hh
      refine dq_gR 17 1 [13] 18 (by decide +kernel) rfl q5 ?_
      refine dq_iln 2 19 (by decide +kernel) rfl G2 ?_
      obtain ⟨p6, q7, hh⟩ := db hh
      refine dq_aR 20 (by decide +kernel) rfl q7 ?_
      obtain ⟨x8, q9, hh⟩ := db hh
      refine dq_gI 121 8 [10] 23 (by decide +kernel) rfl q9 ?_
      refine dq_S (.ishl) 1 [] 24 _ [.int ((1 : Int32) <<< (x8 &&& 31)), .int i1] (by decide +kernel) rfl ?_
      refine dq_S (.ior) 1 [] 25 _ [.int (i1 ||| ((1 : Int32) <<< (x8 &&& 31)))] (by decide +kernel) rfl ?_
      refine dq_isn 1 26 (by decide +kernel) (by decide +kernel) ?_
      have g10 := dg_ne (i := 1) (u := .int (i1 ||| ((1 : Int32) <<< (x8 &&& 31)))) (by decide) (Or.inr (drc _)) G0
      have g11 := dg_ne (i := 1) (u := .int (i1 ||| ((1 : Int32) <<< (x8 &&& 31)))) (by decide) (Or.inl (by decide)) G2
      have g12 := dg_eq (lv) 1 (.int (i1 ||| ((1 : Int32) <<< (x8 &&& 31))))
      refine dq_incy 2 1 1 29 (by decide +kernel) ⟨rfl, by decide +kernel, by decide +kernel⟩ g11 ?_
      have g13 := dg_ne (i := 2) (u := .int (i2 + 1)) (by decide) (Or.inl (by decide)) g10
      have g14 := dg_ne (i := 2) (u := .int (i2 + 1)) (by decide) (Or.inr rfl) g12
      have g15 := dg_eq (rm_set1 (lv) 1 (.int (i1 ||| ((1 : Int32) <<< (x8 &&& 31))))) 2 (.int (i2 + 1))
      refine dq_S (.goto (-25)) 3 [] 4 _ [] (by decide +kernel) rfl ?_
      exact ih _ _ _ _ _ _ g13 g14 g15 hh
def b214_0 (L : Nat) (xs : Nat → Int32) (zf : Value) (D : dD) (w : Nat) (o0 : Option Nat) (h : rm_H) : Option dR :=
  b214_4 L xs zf D w w o0 0 0 h
theorem c214_0 {L : Nat} {xs : Nat → Int32} {zf : Value} {D : dD} {w k : Nat} (hD : dO L xs zf D k) (hz : zf.category = 1) : ∀ (o0 : Option Nat) (lv : rm_L) (h : rm_H) (r : dR), rm_get lv 0 = some (va_rf o0) → b214_0 L xs zf D w  o0 h = some r → dq L xs zf ah_M214 0 lv [] h (k + 1) r := by
  intro o0 lv h r G0 hh
  unfold b214_0 at hh
  refine dq_S (.iconst 0) 1 [] 1 _ [.int 0] (by decide +kernel) rfl ?_
  refine dq_isn 1 2 (by decide +kernel) (by decide +kernel) ?_
  have g1 := dg_ne (i := 1) (u := .int 0) (by decide) (Or.inr (drc _)) G0
  have g2 := dg_eq (lv) 1 (.int 0)
  refine dq_S (.iconst 0) 1 [] 3 _ [.int 0] (by decide +kernel) rfl ?_
  refine dq_isn 2 4 (by decide +kernel) (by decide +kernel) ?_
  have g3 := dg_ne (i := 2) (u := .int 0) (by decide) (Or.inl (by decide)) g1
  have g4 := dg_ne (i := 2) (u := .int 0) (by decide) (Or.inr rfl) g2
  have g5 := dg_eq (rm_set1 (lv) 1 (.int 0)) 2 (.int 0)
  exact c214_4 hD hz _ _ _ _ _ _ _ g3 g4 g5 hh
def f214 (L : Nat) (xs : Nat → Int32) (zf : Value) (D : dD) (w : Nat) (As : List Value) (h : rm_H) : Option dR := match As with
  | [v0] => (rm_rf v0).bind fun o0 => b214_0 L xs zf D w o0 h
  | _ => none
theorem d214 {L : Nat} {xs : Nat → Int32} {zf : Value} {D : dD} {w k : Nat} (hD : dO L xs zf D k) (hz : zf.category = 1) (As : List Value) (h : rm_H) (r : dR) (hh : f214 L xs zf D w As h = some r) : dq L xs zf ah_M214 0 (lv_args 0 As) [] h (k + 1) r := by
  unfold f214 at hh
  split at hh
  · obtain ⟨o0, e0, hb0⟩ := db hh
    have e0 := rm_rf_v _ _ e0
    subst e0
    refine c214_0 hD hz _ _ _ _ ?_ hb0
    all_goals (simp only [la_r, la_i, la_j]; rfl)
  · cases hh
def b215_92 (L : Nat) (xs : Nat → Int32) (zf : Value) (D : dD) (w : Nat) (i3 : Int32) (h : rm_H) : Option dR :=
  drI (some .int) i3 h
theorem c215_92 {L : Nat} {xs : Nat → Int32} {zf : Value} {D : dD} {w k : Nat} (hD : dO L xs zf D k) (hz : zf.category = 1) : ∀ (i3 : Int32) (lv : rm_L) (h : rm_H) (r : dR), rm_get lv 3 = some (.int i3) → b215_92 L xs zf D w  i3 h = some r → dq L xs zf ah_M215 92 lv [] h (k + 1) r := by
  intro i3 lv h r G3 hh
  unfold b215_92 at hh
  refine dq_iln 3 93 (by decide +kernel) rfl G3 ?_
  exact dq_retI (some .int) (by decide +kernel) rfl hh
def b215_81 (L : Nat) (xs : Nat → Int32) (zf : Value) (D : dD) (w : Nat) (o0 : Option Nat) (i3 : Int32) (h : rm_H) : Option dR :=
  (dgR L xs h 0 [13] o0).bind fun p1 =>
  ((dcV L xs D 175 [4] p1 [.int 16, .int 0] h).bind dxI).bind fun x3 =>
  b215_92 L xs zf D w i3 x3.2
theorem c215_81 {L : Nat} {xs : Nat → Int32} {zf : Value} {D : dD} {w k : Nat} (hD : dO L xs zf D k) (hz : zf.category = 1) : ∀ (o0 : Option Nat) (i3 : Int32) (lv : rm_L) (h : rm_H) (r : dR), rm_get lv 0 = some (va_rf o0) → rm_get lv 3 = some (.int i3) → b215_81 L xs zf D w  o0 i3 h = some r → dq L xs zf ah_M215 81 lv [] h (k + 1) r := by
  intro o0 i3 lv h r G0 G3 hh
  unfold b215_81 at hh
  refine dq_aln 0 82 (by decide +kernel) rfl G0 ?_
  obtain ⟨p1, q2, hh⟩ := db hh
  refine dq_gR 9 0 [13] 85 (by decide +kernel) rfl q2 ?_
  refine dq_S (.bipush 16) 2 [] 87 _ [.int 16, va_rf p1] (by decide +kernel) rfl ?_
  refine dq_S (.iconst 0) 1 [] 88 _ [.int 0, .int 16, va_rf p1] (by decide +kernel) rfl ?_
  obtain ⟨x3, q4, hh⟩ := db hh
  obtain ⟨a5, q6, q4⟩ := db q4
  rw [dq_xI q4] at q6
  refine dq_cvi hD 104 175 5 2 [4] p1 [.int 16, .int 0] [] 91 [.int x3.1] (by decide +kernel) ap_175 ⟨⟨Nat.le_of_ble_eq_true rfl, by decide⟩, rfl, rfl⟩ (dq_ok8 [1, 1, 1] [] (dc_r (dc_i (dc_i dc_n))) dc_n (by decide +kernel)) (by decide +kernel) rfl q6 rfl ?_
  refine dq_S (.pop) 1 [] 92 _ [] (by decide +kernel) rfl ?_
  exact c215_92 hD hz _ _ _ _ G3 hh
def b215_0 (L : Nat) (xs : Nat → Int32) (zf : Value) (D : dD) (w : Nat) (o0 : Option Nat) (o1 : Option Nat) (i2 : Int32) (h : rm_H) : Option dR :=
  (dgI L xs h 0 [12] o1).bind fun x1 =>
  if mx_f2 .eq x1 i2 = true then
    (dgR L xs h 8 [12] o1).bind fun p4 =>
    ((dcV L xs D 171 [13] o0 [va_rf p4] h).bind dxI).bind fun x6 =>
    (dgI L xs x6.2 0 [12] o1).bind fun x14 =>
    if mx_f2 .ne x14 19 = true then
      b215_81 L xs zf D w o0 x6.1 x6.2
    else
      (dgR L xs x6.2 2 [13] o0).bind fun p17 =>
      (dgR L xs x6.2 8 [11] p17).bind fun p19 =>
      if dnl p19 = true then
        b215_81 L xs zf D w o0 x6.1 x6.2
      else
        (dgR L xs x6.2 8 [12] o1).bind fun p22 =>
        (dgR L xs x6.2 2 [13] o0).bind fun p24 =>
        (dgR L xs x6.2 8 [11] p24).bind fun p26 =>
        (dgI L xs x6.2 7 [10] p26).bind fun x28 =>
        ((dcV L xs D 188 [13] o0 [va_rf p22, .int x6.1, .int x28] x6.2).bind dxV).bind fun h30 =>
        (dgR L xs h30 0 [13] o0).bind fun p34 =>
        ((dcV L xs D 175 [4] p34 [.int 15, .int 0] h30).bind dxI).bind fun x36 =>
        b215_92 L xs zf D w x6.1 x36.2
  else
    (dgI L xs h 1 [12] o1).bind fun x40 =>
    ((dcV L xs D 178 [13] o0 [.int 8, .int x40] h).bind dxV).bind fun h42 =>
    drI (some .int) 0 h42
theorem c215_0 {L : Nat} {xs : Nat → Int32} {zf : Value} {D : dD} {w k : Nat} (hD : dO L xs zf D k) (hz : zf.category = 1) : ∀ (o0 : Option Nat) (o1 : Option Nat) (i2 : Int32) (lv : rm_L) (h : rm_H) (r : dR), rm_get lv 0 = some (va_rf o0) → rm_get lv 1 = some (va_rf o1) → rm_get lv 2 = some (.int i2) → b215_0 L xs zf D w  o0 o1 i2 h = some r → dq L xs zf ah_M215 0 lv [] h (k + 1) r := by
  intro o0 o1 i2 lv h r G0 G1 G2 hh
  unfold b215_0 at hh
  refine dq_aln 1 1 (by decide +kernel) rfl G1 ?_
  obtain ⟨x1, q2, hh⟩ := db hh
  refine dq_gI 134 0 [12] 4 (by decide +kernel) rfl q2 ?_
  refine dq_iln 2 5 (by decide +kernel) rfl G2 ?_
  rcases di hh with ⟨q3, hh⟩ | ⟨q3, hh⟩
  · refine dq_2 .eq 15 true 20 q3 (by decide +kernel) ?_
    refine dq_aln 0 21 (by decide +kernel) rfl G0 ?_
    refine dq_aln 1 22 (by decide +kernel) rfl G1 ?_
    obtain ⟨p4, q5, hh⟩ := db hh
    refine dq_gR 154 8 [12] 25 (by decide +kernel) rfl q5 ?_
    obtain ⟨x6, q7, hh⟩ := db hh
    obtain ⟨a8, q9, q7⟩ := db q7
    rw [dq_xI q7] at q9
    refine dq_cvi hD 177 171 5 1 [13] o0 [va_rf p4] [] 28 [.int x6.1] (by decide +kernel) ap_171 ⟨⟨Nat.le_of_ble_eq_true rfl, by decide⟩, rfl, rfl⟩ (dq_ok8 [1, 1] [] (dc_r (dc_r dc_n)) dc_n (by decide +kernel)) (by decide +kernel) rfl q9 rfl ?_
    refine dq_isn 3 29 (by decide +kernel) (by decide +kernel) ?_
    have g10 := dg_ne (i := 3) (u := .int x6.1) (by decide) (Or.inl (by decide)) G0
    have g11 := dg_ne (i := 3) (u := .int x6.1) (by decide) (Or.inl (by decide)) G1
    have g12 := dg_ne (i := 3) (u := .int x6.1) (by decide) (Or.inr rfl) G2
    have g13 := dg_eq (lv) 3 (.int x6.1)
    refine dq_aln 1 30 (by decide +kernel) rfl g11 ?_
    obtain ⟨x14, q15, hh⟩ := db hh
    refine dq_gI 134 0 [12] 33 (by decide +kernel) rfl q15 ?_
    refine dq_S (.bipush 19) 2 [] 35 _ [.int 19, .int x14] (by decide +kernel) rfl ?_
    rcases di hh with ⟨q16, hh⟩ | ⟨q16, hh⟩
    · refine dq_2 .ne 46 true 81 q16 (by decide +kernel) ?_
      exact c215_81 hD hz _ _ _ _ _ g10 g13 hh
    · refine dq_2 .ne 46 false 38 q16 (by decide +kernel) ?_
      refine dq_aln 0 39 (by decide +kernel) rfl g10 ?_
      obtain ⟨p17, q18, hh⟩ := db hh
      refine dq_gR 21 2 [13] 42 (by decide +kernel) rfl q18 ?_
      obtain ⟨p19, q20, hh⟩ := db hh
      refine dq_gR 80 8 [11] 45 (by decide +kernel) rfl q20 ?_
      rcases di hh with ⟨q21, hh⟩ | ⟨q21, hh⟩
      · refine dq_null 36 true 81 q21 (by decide +kernel) (by decide +kernel) ?_
        exact c215_81 hD hz _ _ _ _ _ g10 g13 hh
      · refine dq_null 36 false 48 q21 (by decide +kernel) (by decide +kernel) ?_
        refine dq_aln 0 49 (by decide +kernel) rfl g10 ?_
        refine dq_aln 1 50 (by decide +kernel) rfl g11 ?_
        obtain ⟨p22, q23, hh⟩ := db hh
        refine dq_gR 154 8 [12] 53 (by decide +kernel) rfl q23 ?_
        refine dq_iln 3 54 (by decide +kernel) rfl g13 ?_
        refine dq_aln 0 55 (by decide +kernel) rfl g10 ?_
        obtain ⟨p24, q25, hh⟩ := db hh
        refine dq_gR 21 2 [13] 58 (by decide +kernel) rfl q25 ?_
        obtain ⟨p26, q27, hh⟩ := db hh
        refine dq_gR 80 8 [11] 61 (by decide +kernel) rfl q27 ?_
        obtain ⟨x28, q29, hh⟩ := db hh
        refine dq_gI 180 7 [10] 64 (by decide +kernel) rfl q29 ?_
        obtain ⟨h30, q31, hh⟩ := db hh
        obtain ⟨a32, q33, q31⟩ := db q31
        rw [dq_xV q31] at q33
        refine dq_cvi hD 183 188 5 3 [13] o0 [va_rf p22, .int x6.1, .int x28] [] 67 [] (by decide +kernel) ap_188 ⟨⟨Nat.le_of_ble_eq_true rfl, by decide⟩, rfl, rfl⟩ (dq_ok8 [1, 1, 1, 1] [] (dc_r (dc_r (dc_i (dc_i dc_n)))) dc_n (by decide +kernel)) (by decide +kernel) rfl q33 rfl ?_
        refine dq_aln 0 68 (by decide +kernel) rfl g10 ?_
        obtain ⟨p34, q35, hh⟩ := db hh
        refine dq_gR 9 0 [13] 71 (by decide +kernel) rfl q35 ?_
        refine dq_S (.bipush 15) 2 [] 73 _ [.int 15, va_rf p34] (by decide +kernel) rfl ?_
        refine dq_S (.iconst 0) 1 [] 74 _ [.int 0, .int 15, va_rf p34] (by decide +kernel) rfl ?_
        obtain ⟨x36, q37, hh⟩ := db hh
        obtain ⟨a38, q39, q37⟩ := db q37
        rw [dq_xI q37] at q39
        refine dq_cvi hD 104 175 5 2 [4] p34 [.int 15, .int 0] [] 77 [.int x36.1] (by decide +kernel) ap_175 ⟨⟨Nat.le_of_ble_eq_true rfl, by decide⟩, rfl, rfl⟩ (dq_ok8 [1, 1, 1] [] (dc_r (dc_i (dc_i dc_n))) dc_n (by decide +kernel)) (by decide +kernel) rfl q39 rfl ?_
        refine dq_S (.pop) 1 [] 78 _ [] (by decide +kernel) rfl ?_
        refine dq_S (.goto 14) 3 [] 92 _ [] (by decide +kernel) rfl ?_
        exact c215_92 hD hz _ _ _ _ g13 hh
  · refine dq_2 .eq 15 false 8 q3 (by decide +kernel) ?_
    refine dq_aln 0 9 (by decide +kernel) rfl G0 ?_
    refine dq_S (.bipush 8) 2 [] 11 _ [.int 8, va_rf o0] (by decide +kernel) rfl ?_
    refine dq_aln 1 12 (by decide +kernel) rfl G1 ?_
    obtain ⟨x40, q41, hh⟩ := db hh
    refine dq_gI 174 1 [12] 15 (by decide +kernel) rfl q41 ?_
    obtain ⟨h42, q43, hh⟩ := db hh
    obtain ⟨a44, q45, q43⟩ := db q43
    rw [dq_xV q43] at q45
    refine dq_cvi hD 140 178 5 2 [13] o0 [.int 8, .int x40] [] 18 [] (by decide +kernel) ap_178 ⟨⟨Nat.le_of_ble_eq_true rfl, by decide⟩, rfl, rfl⟩ (dq_ok8 [1, 1, 1] [] (dc_r (dc_i (dc_i dc_n))) dc_n (by decide +kernel)) (by decide +kernel) rfl q45 rfl ?_
    refine dq_S (.iconst 0) 1 [] 19 _ [.int 0] (by decide +kernel) rfl ?_
    exact dq_retI (some .int) (by decide +kernel) rfl hh
def f215 (L : Nat) (xs : Nat → Int32) (zf : Value) (D : dD) (w : Nat) (As : List Value) (h : rm_H) : Option dR := match As with
  | [v0, v1, .int i2] => (rm_rf v0).bind fun o0 => (rm_rf v1).bind fun o1 => b215_0 L xs zf D w o0 o1 i2 h
  | _ => none
theorem d215 {L : Nat} {xs : Nat → Int32} {zf : Value} {D : dD} {w k : Nat} (hD : dO L xs zf D k) (hz : zf.category = 1) (As : List Value) (h : rm_H) (r : dR) (hh : f215 L xs zf D w As h = some r) : dq L xs zf ah_M215 0 (lv_args 0 As) [] h (k + 1) r := by
  unfold f215 at hh
  split at hh
  · obtain ⟨o0, e0, hb0⟩ := db hh
    have e0 := rm_rf_v _ _ e0
    obtain ⟨o1, e1, hb1⟩ := db hb0
    have e1 := rm_rf_v _ _ e1
    subst e0 e1
    refine c215_0 hD hz _ _ _ _ _ _ ?_ ?_ ?_ hb1
    all_goals (simp only [la_r, la_i, la_j]; rfl)
  · cases hh
def b216_0 (L : Nat) (xs : Nat → Int32) (zf : Value) (D : dD) (w : Nat) (o0 : Option Nat) (h : rm_H) : Option dR :=
  (dpF h 7 [2] o0 (va_rf none)).bind fun h1 =>
  (dpF h1 8 [2] o0 (.int 0)).bind fun h3 =>
  (dpF h3 9 [2] o0 (.int 0)).bind fun h5 =>
  (dpF h5 10 [2] o0 (.int 0)).bind fun h7 =>
  (dpF h7 11 [2] o0 (.int 0)).bind fun h9 =>
  (dpF h9 12 [2] o0 (.int 0)).bind fun h11 =>
  (dpF h11 13 [2] o0 (.int 0)).bind fun h13 =>
  (dpF h13 14 [2] o0 (.int 0)).bind fun h15 =>
  (dpF h15 15 [2] o0 (.int 0)).bind fun h17 =>
  some (none, h17)
theorem c216_0 {L : Nat} {xs : Nat → Int32} {zf : Value} {D : dD} {w k : Nat} (hD : dO L xs zf D k) (hz : zf.category = 1) : ∀ (o0 : Option Nat) (lv : rm_L) (h : rm_H) (r : dR), rm_get lv 0 = some (va_rf o0) → b216_0 L xs zf D w  o0 h = some r → dq L xs zf ah_M216 0 lv [] h (k + 1) r := by
  intro o0 lv h r G0 hh
  unfold b216_0 at hh
  refine dq_aln 0 1 (by decide +kernel) rfl G0 ?_
  refine dq_S (.aconst_null) 1 [] 2 _ [va_rf none, va_rf o0] (by decide +kernel) rfl ?_
  obtain ⟨h1, q2, hh⟩ := db hh
  refine dq_put 30 7 [2] 5 (by decide +kernel) rfl q2 ?_
  refine dq_aln 0 6 (by decide +kernel) rfl G0 ?_
  refine dq_S (.iconst 0) 1 [] 7 _ [.int 0, va_rf o0] (by decide +kernel) rfl ?_
  obtain ⟨h3, q4, hh⟩ := db hh
  refine dq_put 34 8 [2] 10 (by decide +kernel) rfl q4 ?_
  refine dq_aln 0 11 (by decide +kernel) rfl G0 ?_
  refine dq_S (.iconst 0) 1 [] 12 _ [.int 0, va_rf o0] (by decide +kernel) rfl ?_
  obtain ⟨h5, q6, hh⟩ := db hh
  refine dq_put 38 9 [2] 15 (by decide +kernel) rfl q6 ?_
  refine dq_aln 0 16 (by decide +kernel) rfl G0 ?_
  refine dq_S (.iconst 0) 1 [] 17 _ [.int 0, va_rf o0] (by decide +kernel) rfl ?_
  obtain ⟨h7, q8, hh⟩ := db hh
  refine dq_put 41 10 [2] 20 (by decide +kernel) rfl q8 ?_
  refine dq_aln 0 21 (by decide +kernel) rfl G0 ?_
  refine dq_S (.iconst 0) 1 [] 22 _ [.int 0, va_rf o0] (by decide +kernel) rfl ?_
  obtain ⟨h9, q10, hh⟩ := db hh
  refine dq_put 44 11 [2] 25 (by decide +kernel) rfl q10 ?_
  refine dq_aln 0 26 (by decide +kernel) rfl G0 ?_
  refine dq_S (.iconst 0) 1 [] 27 _ [.int 0, va_rf o0] (by decide +kernel) rfl ?_
  obtain ⟨h11, q12, hh⟩ := db hh
  refine dq_put 47 12 [2] 30 (by decide +kernel) rfl q12 ?_
  refine dq_aln 0 31 (by decide +kernel) rfl G0 ?_
  refine dq_S (.iconst 0) 1 [] 32 _ [.int 0, va_rf o0] (by decide +kernel) rfl ?_
  obtain ⟨h13, q14, hh⟩ := db hh
  refine dq_put 50 13 [2] 35 (by decide +kernel) rfl q14 ?_
  refine dq_aln 0 36 (by decide +kernel) rfl G0 ?_
  refine dq_S (.iconst 0) 1 [] 37 _ [.int 0, va_rf o0] (by decide +kernel) rfl ?_
  obtain ⟨h15, q16, hh⟩ := db hh
  refine dq_put 53 14 [2] 40 (by decide +kernel) rfl q16 ?_
  refine dq_aln 0 41 (by decide +kernel) rfl G0 ?_
  refine dq_S (.iconst 0) 1 [] 42 _ [.int 0, va_rf o0] (by decide +kernel) rfl ?_
  obtain ⟨h17, q18, hh⟩ := db hh
  refine dq_put 56 15 [2] 45 (by decide +kernel) rfl q18 ?_
  cases hh
  exact dq_ret0 (by decide +kernel) rfl
def f216 (L : Nat) (xs : Nat → Int32) (zf : Value) (D : dD) (w : Nat) (As : List Value) (h : rm_H) : Option dR := match As with
  | [v0] => (rm_rf v0).bind fun o0 => b216_0 L xs zf D w o0 h
  | _ => none
theorem d216 {L : Nat} {xs : Nat → Int32} {zf : Value} {D : dD} {w k : Nat} (hD : dO L xs zf D k) (hz : zf.category = 1) (As : List Value) (h : rm_H) (r : dR) (hh : f216 L xs zf D w As h = some r) : dq L xs zf ah_M216 0 (lv_args 0 As) [] h (k + 1) r := by
  unfold f216 at hh
  split at hh
  · obtain ⟨o0, e0, hb0⟩ := db hh
    have e0 := rm_rf_v _ _ e0
    subst e0
    refine c216_0 hD hz _ _ _ _ ?_ hb0
    all_goals (simp only [la_r, la_i, la_j]; rfl)
  · cases hh
def b217_0 (L : Nat) (xs : Nat → Int32) (zf : Value) (D : dD) (w : Nat) (o0 : Option Nat) (h : rm_H) : Option dR :=
  (dgR L xs h 0 [3] o0).bind fun p1 =>
  ((dcV L xs D 37 [1] p1 [.int 0] h).bind dxV).bind fun h3 =>
  (dpF h3 4 [3] o0 (.int 0)).bind fun h7 =>
  (dgI L xs h7 5 [3] o0).bind fun x9 =>
  (dpF h7 5 [3] o0 (.int (x9 + 1))).bind fun h11 =>
  some (none, h11)
theorem c217_0 {L : Nat} {xs : Nat → Int32} {zf : Value} {D : dD} {w k : Nat} (hD : dO L xs zf D k) (hz : zf.category = 1) : ∀ (o0 : Option Nat) (lv : rm_L) (h : rm_H) (r : dR), rm_get lv 0 = some (va_rf o0) → b217_0 L xs zf D w  o0 h = some r → dq L xs zf ah_M217 0 lv [] h (k + 1) r := by
  intro o0 lv h r G0 hh
  unfold b217_0 at hh
  refine dq_aln 0 1 (by decide +kernel) rfl G0 ?_
  obtain ⟨p1, q2, hh⟩ := db hh
  refine dq_gR 12 0 [3] 4 (by decide +kernel) rfl q2 ?_
  refine dq_S (.iconst 0) 1 [] 5 _ [.int 0, va_rf p1] (by decide +kernel) rfl ?_
  obtain ⟨h3, q4, hh⟩ := db hh
  obtain ⟨a5, q6, q4⟩ := db q4
  rw [dq_xV q4] at q6
  refine dq_cvi hD 38 37 5 1 [1] p1 [.int 0] [] 8 [] (by decide +kernel) ap_37 ⟨⟨Nat.le_of_ble_eq_true rfl, by decide⟩, rfl, rfl⟩ (dq_ok8 [1, 1] [] (dc_r (dc_i dc_n)) dc_n (by decide +kernel)) (by decide +kernel) rfl q6 rfl ?_
  refine dq_aln 0 9 (by decide +kernel) rfl G0 ?_
  refine dq_S (.iconst 0) 1 [] 10 _ [.int 0, va_rf o0] (by decide +kernel) rfl ?_
  obtain ⟨h7, q8, hh⟩ := db hh
  refine dq_put 28 4 [3] 13 (by decide +kernel) rfl q8 ?_
  refine dq_aln 0 14 (by decide +kernel) rfl G0 ?_
  refine dq_dup 15 (by decide +kernel) rfl ?_
  obtain ⟨x9, q10, hh⟩ := db hh
  refine dq_gI 32 5 [3] 18 (by decide +kernel) rfl q10 ?_
  refine dq_S (.iconst 1) 1 [] 19 _ [.int 1, .int x9, va_rf o0] (by decide +kernel) rfl ?_
  refine dq_S (.iadd) 1 [] 20 _ [.int (x9 + 1), va_rf o0] (by decide +kernel) rfl ?_
  obtain ⟨h11, q12, hh⟩ := db hh
  refine dq_put 32 5 [3] 23 (by decide +kernel) rfl q12 ?_
  cases hh
  exact dq_ret0 (by decide +kernel) rfl
def f217 (L : Nat) (xs : Nat → Int32) (zf : Value) (D : dD) (w : Nat) (As : List Value) (h : rm_H) : Option dR := match As with
  | [v0] => (rm_rf v0).bind fun o0 => b217_0 L xs zf D w o0 h
  | _ => none
theorem d217 {L : Nat} {xs : Nat → Int32} {zf : Value} {D : dD} {w k : Nat} (hD : dO L xs zf D k) (hz : zf.category = 1) (As : List Value) (h : rm_H) (r : dR) (hh : f217 L xs zf D w As h = some r) : dq L xs zf ah_M217 0 (lv_args 0 As) [] h (k + 1) r := by
  unfold f217 at hh
  split at hh
  · obtain ⟨o0, e0, hb0⟩ := db hh
    have e0 := rm_rf_v _ _ e0
    subst e0
    refine c217_0 hD hz _ _ _ _ ?_ hb0
    all_goals (simp only [la_r, la_i, la_j]; rfl)
  · cases hh
def b218_22 (L : Nat) (xs : Nat → Int32) (zf : Value) (D : dD) (w : Nat) (s0 : Int32) (h : rm_H) : Option dR :=
  drI (some .int) s0 h
theorem c218_22 {L : Nat} {xs : Nat → Int32} {zf : Value} {D : dD} {w k : Nat} (hD : dO L xs zf D k) (hz : zf.category = 1) : ∀ (s0 : Int32) (lv : rm_L) (h : rm_H) (r : dR), b218_22 L xs zf D w  s0 h = some r → dq L xs zf ah_M218 22 lv [.int s0] h (k + 1) r := by
  intro s0 lv h r hh
  unfold b218_22 at hh
  exact dq_retI (some .int) (by decide +kernel) rfl hh
def b218_0 (L : Nat) (xs : Nat → Int32) (zf : Value) (D : dD) (w : Nat) (o0 : Option Nat) (i1 : Int32) (h : rm_H) : Option dR :=
  if mx_f1 .ne i1 = true then
    if mx_f2 .ne i1 1 = true then
      b218_22 L xs zf D w (-1) h
    else
      (dgI L xs h 5 [0] o0).bind fun x3 =>
      b218_22 L xs zf D w x3 h
  else
    (dgI L xs h 4 [0] o0).bind fun x5 =>
    drI (some .int) x5 h
theorem c218_0 {L : Nat} {xs : Nat → Int32} {zf : Value} {D : dD} {w k : Nat} (hD : dO L xs zf D k) (hz : zf.category = 1) : ∀ (o0 : Option Nat) (i1 : Int32) (lv : rm_L) (h : rm_H) (r : dR), rm_get lv 0 = some (va_rf o0) → rm_get lv 1 = some (.int i1) → b218_0 L xs zf D w  o0 i1 h = some r → dq L xs zf ah_M218 0 lv [] h (k + 1) r := by
  intro o0 i1 lv h r G0 G1 hh
  unfold b218_0 at hh
  refine dq_iln 1 1 (by decide +kernel) rfl G1 ?_
  rcases di hh with ⟨q1, hh⟩ | ⟨q1, hh⟩
  · refine dq_1 .ne 8 true 9 q1 (by decide +kernel) ?_
    refine dq_iln 1 10 (by decide +kernel) rfl G1 ?_
    refine dq_S (.iconst 1) 1 [] 11 _ [.int 1, .int i1] (by decide +kernel) rfl ?_
    rcases di hh with ⟨q2, hh⟩ | ⟨q2, hh⟩
    · refine dq_2 .ne 10 true 21 q2 (by decide +kernel) ?_
      refine dq_S (.iconst (-1)) 1 [] 22 _ [.int (-1)] (by decide +kernel) rfl ?_
      exact c218_22 hD hz _ _ _ _  hh
    · refine dq_2 .ne 10 false 14 q2 (by decide +kernel) ?_
      refine dq_aln 0 15 (by decide +kernel) rfl G0 ?_
      obtain ⟨x3, q4, hh⟩ := db hh
      refine dq_gI 38 5 [0] 18 (by decide +kernel) rfl q4 ?_
      refine dq_S (.goto 4) 3 [] 22 _ [.int x3] (by decide +kernel) rfl ?_
      exact c218_22 hD hz _ _ _ _  hh
  · refine dq_1 .ne 8 false 4 q1 (by decide +kernel) ?_
    refine dq_aln 0 5 (by decide +kernel) rfl G0 ?_
    obtain ⟨x5, q6, hh⟩ := db hh
    refine dq_gI 34 4 [0] 8 (by decide +kernel) rfl q6 ?_
    exact dq_retI (some .int) (by decide +kernel) rfl hh
def f218 (L : Nat) (xs : Nat → Int32) (zf : Value) (D : dD) (w : Nat) (As : List Value) (h : rm_H) : Option dR := match As with
  | [v0, .int i1] => (rm_rf v0).bind fun o0 => b218_0 L xs zf D w o0 i1 h
  | _ => none
theorem d218 {L : Nat} {xs : Nat → Int32} {zf : Value} {D : dD} {w k : Nat} (hD : dO L xs zf D k) (hz : zf.category = 1) (As : List Value) (h : rm_H) (r : dR) (hh : f218 L xs zf D w As h = some r) : dq L xs zf ah_M218 0 (lv_args 0 As) [] h (k + 1) r := by
  unfold f218 at hh
  split at hh
  · obtain ⟨o0, e0, hb0⟩ := db hh
    have e0 := rm_rf_v _ _ e0
    subst e0
    refine c218_0 hD hz _ _ _ _ _ ?_ ?_ hb0
    all_goals (simp only [la_r, la_i, la_j]; rfl)
  · cases hh
def b219_0 (L : Nat) (xs : Nat → Int32) (zf : Value) (D : dD) (w : Nat) (o0 : Option Nat) (i1 : Int32) (h : rm_H) : Option dR :=
  (dgR L xs h 3 [0] o0).bind fun p1 =>
  if dnl p1 = true then
    drI (some .int) (-1) h
  else
    if dsw 0 4 i1 = true then
      drI (some .int) (-1) h
    else if i1 = 0 then
      (dgR L xs h 3 [0] o0).bind fun p6 =>
      (dgR L xs h 1 [4] p6).bind fun p8 =>
      ((dcV L xs D 101 [5] p8 [] h).bind dxI).bind fun x10 =>
      drI (some .int) x10.1 x10.2
    else if i1 = 1 then
      (dgR L xs h 3 [0] o0).bind fun p15 =>
      ((dcV L xs D 220 [4] p15 [] h).bind dxI).bind fun x17 =>
      drI (some .int) x17.1 x17.2
    else if i1 = 2 then
      (dgR L xs h 3 [0] o0).bind fun p22 =>
      (dgR L xs h 2 [4] p22).bind fun p24 =>
      ((dcV L xs D 101 [5] p24 [] h).bind dxI).bind fun x26 =>
      (dgR L xs x26.2 3 [0] o0).bind fun p30 =>
      (dgR L xs x26.2 1 [4] p30).bind fun p32 =>
      ((dcV L xs D 101 [5] p32 [] x26.2).bind dxI).bind fun x34 =>
      drI (some .int) (x26.1 - x34.1) x34.2
    else if i1 = 3 then
      (dgR L xs h 3 [0] o0).bind fun p39 =>
      (dgI L xs h 4 [4] p39).bind fun x41 =>
      drI (some .int) x41 h
    else if i1 = 4 then
      (dgR L xs h 3 [0] o0).bind fun p44 =>
      (dgI L xs h 5 [4] p44).bind fun x46 =>
      drI (some .int) x46 h
    else none
theorem c219_0 {L : Nat} {xs : Nat → Int32} {zf : Value} {D : dD} {w k : Nat} (hD : dO L xs zf D k) (hz : zf.category = 1) : ∀ (o0 : Option Nat) (i1 : Int32) (lv : rm_L) (h : rm_H) (r : dR), rm_get lv 0 = some (va_rf o0) → rm_get lv 1 = some (.int i1) → b219_0 L xs zf D w  o0 i1 h = some r → dq L xs zf ah_M219 0 lv [] h (k + 1) r := by
  intro o0 i1 lv h r G0 G1 hh
  unfold b219_0 at hh
  refine dq_aln 0 1 (by decide +kernel) rfl G0 ?_
  obtain ⟨p1, q2, hh⟩ := db hh
  refine dq_gR 30 3 [0] 4 (by decide +kernel) rfl q2 ?_
  rcases di hh with ⟨q3, hh⟩ | ⟨q3, hh⟩
  · refine dq_nnull 5 false 7 q3 (by decide +kernel) (by decide +kernel) ?_
    refine dq_S (.iconst (-1)) 1 [] 8 _ [.int (-1)] (by decide +kernel) rfl ?_
    exact dq_retI (some .int) (by decide +kernel) rfl hh
  · refine dq_nnull 5 true 9 q3 (by decide +kernel) (by decide +kernel) ?_
    refine dq_iln 1 10 (by decide +kernel) rfl G1 ?_
    rcases di hh with ⟨q4, hh⟩ | ⟨_, hh⟩
    · refine dq_sd 97 0 4 #[34, 47, 55, 81, 89] 34 107 (by decide +kernel) (by decide +kernel) q4 ?_
      refine dq_S (.iconst (-1)) 1 [] 108 _ [.int (-1)] (by decide +kernel) rfl ?_
      exact dq_retI (some .int) (by decide +kernel) rfl hh
    rcases dp hh with ⟨q5, hh⟩ | ⟨_, hh⟩
    · refine dq_eq 0 q5 ?_
      refine dq_S (.tableswitch 97 0 4 #[34, 47, 55, 81, 89]) 34 [] 44 _ [] (by decide +kernel) rfl ?_
      refine dq_aln 0 45 (by decide +kernel) rfl G0 ?_
      obtain ⟨p6, q7, hh⟩ := db hh
      refine dq_gR 30 3 [0] 48 (by decide +kernel) rfl q7 ?_
      obtain ⟨p8, q9, hh⟩ := db hh
      refine dq_gR 95 1 [4] 51 (by decide +kernel) rfl q9 ?_
      obtain ⟨x10, q11, hh⟩ := db hh
      obtain ⟨a12, q13, q11⟩ := db q11
      rw [dq_xI q11] at q13
      refine dq_cif hD 99 1 101 7 0 [5] p8 [] [] 56 [.int x10.1] (by decide +kernel) ap_101 ⟨⟨Nat.le_of_ble_eq_true rfl, by decide⟩, rfl, rfl⟩ (dq_ok8 [1] [] (dc_r dc_n) dc_n (by decide +kernel)) (by decide +kernel) rfl q13 rfl ?_
      exact dq_retI (some .int) (by decide +kernel) rfl hh
    rcases dp hh with ⟨q14, hh⟩ | ⟨_, hh⟩
    · refine dq_eq 1 q14 ?_
      refine dq_S (.tableswitch 97 0 4 #[34, 47, 55, 81, 89]) 34 [] 57 _ [] (by decide +kernel) rfl ?_
      refine dq_aln 0 58 (by decide +kernel) rfl G0 ?_
      obtain ⟨p15, q16, hh⟩ := db hh
      refine dq_gR 30 3 [0] 61 (by decide +kernel) rfl q16 ?_
      obtain ⟨x17, q18, hh⟩ := db hh
      obtain ⟨a19, q20, q18⟩ := db q18
      rw [dq_xI q18] at q20
      refine dq_cvi hD 104 220 5 0 [4] p15 [] [] 64 [.int x17.1] (by decide +kernel) ap_220 ⟨⟨Nat.le_of_ble_eq_true rfl, by decide⟩, rfl, rfl⟩ (dq_ok8 [1] [] (dc_r dc_n) dc_n (by decide +kernel)) (by decide +kernel) rfl q20 rfl ?_
      exact dq_retI (some .int) (by decide +kernel) rfl hh
    rcases dp hh with ⟨q21, hh⟩ | ⟨_, hh⟩
    · refine dq_eq 2 q21 ?_
      refine dq_S (.tableswitch 97 0 4 #[34, 47, 55, 81, 89]) 34 [] 65 _ [] (by decide +kernel) rfl ?_
      refine dq_aln 0 66 (by decide +kernel) rfl G0 ?_
      obtain ⟨p22, q23, hh⟩ := db hh
      refine dq_gR 30 3 [0] 69 (by decide +kernel) rfl q23 ?_
      obtain ⟨p24, q25, hh⟩ := db hh
      refine dq_gR 107 2 [4] 72 (by decide +kernel) rfl q25 ?_
      obtain ⟨x26, q27, hh⟩ := db hh
      obtain ⟨a28, q29, q27⟩ := db q27
      rw [dq_xI q27] at q29
      refine dq_cif hD 99 1 101 7 0 [5] p24 [] [] 77 [.int x26.1] (by decide +kernel) ap_101 ⟨⟨Nat.le_of_ble_eq_true rfl, by decide⟩, rfl, rfl⟩ (dq_ok8 [1] [] (dc_r dc_n) dc_n (by decide +kernel)) (by decide +kernel) rfl q29 rfl ?_
      refine dq_aln 0 78 (by decide +kernel) rfl G0 ?_
      obtain ⟨p30, q31, hh⟩ := db hh
      refine dq_gR 30 3 [0] 81 (by decide +kernel) rfl q31 ?_
      obtain ⟨p32, q33, hh⟩ := db hh
      refine dq_gR 95 1 [4] 84 (by decide +kernel) rfl q33 ?_
      obtain ⟨x34, q35, hh⟩ := db hh
      obtain ⟨a36, q37, q35⟩ := db q35
      rw [dq_xI q35] at q37
      refine dq_cif hD 99 1 101 7 0 [5] p32 [] [.int x26.1] 89 [.int x34.1, .int x26.1] (by decide +kernel) ap_101 ⟨⟨Nat.le_of_ble_eq_true rfl, by decide⟩, rfl, rfl⟩ (dq_ok8 [1] [1] (dc_r dc_n) (dc_i dc_n) (by decide +kernel)) (by decide +kernel) rfl q37 rfl ?_
      refine dq_S (.isub) 1 [] 90 _ [.int (x26.1 - x34.1)] (by decide +kernel) rfl ?_
      exact dq_retI (some .int) (by decide +kernel) rfl hh
    rcases dp hh with ⟨q38, hh⟩ | ⟨_, hh⟩
    · refine dq_eq 3 q38 ?_
      refine dq_S (.tableswitch 97 0 4 #[34, 47, 55, 81, 89]) 34 [] 91 _ [] (by decide +kernel) rfl ?_
      refine dq_aln 0 92 (by decide +kernel) rfl G0 ?_
      obtain ⟨p39, q40, hh⟩ := db hh
      refine dq_gR 30 3 [0] 95 (by decide +kernel) rfl q40 ?_
      obtain ⟨x41, q42, hh⟩ := db hh
      refine dq_gI 110 4 [4] 98 (by decide +kernel) rfl q42 ?_
      exact dq_retI (some .int) (by decide +kernel) rfl hh
    rcases dp hh with ⟨q43, hh⟩ | ⟨_, hh⟩
    · refine dq_eq 4 q43 ?_
      refine dq_S (.tableswitch 97 0 4 #[34, 47, 55, 81, 89]) 34 [] 99 _ [] (by decide +kernel) rfl ?_
      refine dq_aln 0 100 (by decide +kernel) rfl G0 ?_
      obtain ⟨p44, q45, hh⟩ := db hh
      refine dq_gR 30 3 [0] 103 (by decide +kernel) rfl q45 ?_
      obtain ⟨x46, q47, hh⟩ := db hh
      refine dq_gI 113 5 [4] 106 (by decide +kernel) rfl q47 ?_
      exact dq_retI (some .int) (by decide +kernel) rfl hh
    cases hh
def f219 (L : Nat) (xs : Nat → Int32) (zf : Value) (D : dD) (w : Nat) (As : List Value) (h : rm_H) : Option dR := match As with
  | [v0, .int i1] => (rm_rf v0).bind fun o0 => b219_0 L xs zf D w o0 i1 h
  | _ => none
theorem d219 {L : Nat} {xs : Nat → Int32} {zf : Value} {D : dD} {w k : Nat} (hD : dO L xs zf D k) (hz : zf.category = 1) (As : List Value) (h : rm_H) (r : dR) (hh : f219 L xs zf D w As h = some r) : dq L xs zf ah_M219 0 (lv_args 0 As) [] h (k + 1) r := by
  unfold f219 at hh
  split at hh
  · obtain ⟨o0, e0, hb0⟩ := db hh
    have e0 := rm_rf_v _ _ e0
    subst e0
    refine c219_0 hD hz _ _ _ _ _ ?_ ?_ hb0
    all_goals (simp only [la_r, la_i, la_j]; rfl)
  · cases hh
def b220_4 (L : Nat) (xs : Nat → Int32) (zf : Value) (D : dD) (w : Nat) : Nat → Option Nat → Int32 → Int32 → rm_H → Option dR
  | 0, _, _, _, _ => none
  | n + 1, o0, i1, i2, h =>
    (dgR L xs h 1 [4] o0).bind fun p1 =>
    ((dcV L xs D 101 [5] p1 [] h).bind dxI).bind fun x3 =>
    if mx_f2 .ge i2 x3.1 = true then
      drI (some .int) i1 x3.2
    else
      (dgR L xs x3.2 1 [4] o0).bind fun p8 =>
      ((dcV L xs D 146 [5] p8 [.int i2] x3.2).bind dxR).bind fun p10 =>
      if dcK L xs p10.2 [9] p10.1 = false then none else
      (dgR L xs p10.2 4 [9] p10.1).bind fun p15 =>
      ((dcV L xs D 101 [5] p15 [] p10.2).bind dxI).bind fun x17 =>
      b220_4 L xs zf D w n o0 (i1 + x17.1) (i2 + 1) x17.2
theorem c220_4 {L : Nat} {xs : Nat → Int32} {zf : Value} {D : dD} {w k : Nat} (hD : dO L xs zf D k) (hz : zf.category = 1) : ∀ (n : Nat) (o0 : Option Nat) (i1 : Int32) (i2 : Int32) (lv : rm_L) (h : rm_H) (r : dR), rm_get lv 0 = some (va_rf o0) → rm_get lv 1 = some (.int i1) → rm_get lv 2 = some (.int i2) → b220_4 L xs zf D w n  o0 i1 i2 h = some r → dq L xs zf ah_M220 4 lv [] h (k + 1) r := by
  intro n
  induction n with
  | zero =>
    intro o0 i1 i2 lv h r G0 G1 G2 hh
    cases hh
  | succ n ih =>
    intro o0 i1 i2 lv h r G0 G1 G2 hh
    rw [b220_4] at hh
    refine dq_iln 2 5 (by decide +kernel) rfl G2 ?_
    refine dq_aln 0 6 (by decide +kernel) rfl G0 ?_
    obtain ⟨p1, q2, hh⟩ := db hh
    refine dq_gR 18 1 [4] 9 (by decide +kernel) rfl q2 ?_
    obtain ⟨x3, q4, hh⟩ := db hh
    obtain ⟨a5, q6, q4⟩ := db q4
    rw [dq_xI q4] at q6
    refine dq_cif hD 54 1 101 7 0 [5] p1 [] [.int i2] 14 [.int x3.1, .int i2] (by decide +kernel) ap_101 ⟨⟨Nat.le_of_ble_eq_true rfl, by decide⟩, rfl, rfl⟩ (dq_ok8 [1] [1] (dc_r dc_n) (dc_i dc_n) (by decide +kernel)) (by decide +kernel) rfl q6 rfl ?_
    rcases di hh with ⟨q7, hh⟩ | ⟨q7, hh⟩
    · refine dq_2 .ge 33 true 47 q7 (by decide +kernel) ?_
      refine dq_iln 1 48 (by decide +kernel) rfl G1 ?_
      exact dq_retI (some .int) (by decide +kernel) rfl hh
    · refine dq_2 .ge 33 false 17 q7 (by decide +kernel) ?_
      refine dq_iln 1 18 (by decide +kernel) rfl G1 ?_
      refine dq_aln 0 19 (by decide +kernel) rfl G0 ?_
      obtain ⟨p8, q9, hh⟩ := db hh
      refine dq_gR 18 1 [4] 22 (by decide +kernel) rfl q9 ?_
      refine dq_iln 2 23 (by decide +kernel) rfl G2 ?_
      obtain ⟨p10, q11, hh⟩ := db hh
      obtain ⟨a12, q13, q11⟩ := db q11
      rw [dq_xR q11] at q13
      refine dq_cif hD 59 2 146 7 1 [5] p8 [.int i2] [.int i1] 28 [va_rf p10.1, .int i1] (by decide +kernel) ap_146 ⟨⟨Nat.le_of_ble_eq_true rfl, by decide⟩, rfl, rfl⟩ (dq_ok8 [1, 1] [1] (dc_r (dc_i dc_n)) (dc_i dc_n) (by decide +kernel)) (by decide +kernel) rfl q13 rfl ?_
      rcases dp hh with ⟨_, hh⟩ | ⟨q14, hh⟩
      · cases hh
      refine dq_cast 63 [9] 31 (by decide +kernel) ⟨rfl, by decide⟩ (by rw [Bool.not_eq_false] at q14; exact q14) ?_
      obtain ⟨p15, q16, hh⟩ := db hh
      refine dq_gR 65 4 [9] 34 (by decide +kernel) rfl q16 ?_
      obtain ⟨x17, q18, hh⟩ := db hh
      obtain ⟨a19, q20, q18⟩ := db q18
      rw [dq_xI q18] at q20
      refine dq_cif hD 54 1 101 7 0 [5] p15 [] [.int i1] 39 [.int x17.1, .int i1] (by decide +kernel) ap_101 ⟨⟨Nat.le_of_ble_eq_true rfl, by decide⟩, rfl, rfl⟩ (dq_ok8 [1] [1] (dc_r dc_n) (dc_i dc_n) (by decide +kernel)) (by decide +kernel) rfl q20 rfl ?_
      refine dq_S (.iadd) 1 [] 40 _ [.int (i1 + x17.1)] (by decide +kernel) rfl ?_
      refine dq_isn 1 41 (by decide +kernel) (by decide +kernel) ?_
      have g21 := dg_ne (i := 1) (u := .int (i1 + x17.1)) (by decide) (Or.inr (drc _)) G0
      have g22 := dg_ne (i := 1) (u := .int (i1 + x17.1)) (by decide) (Or.inl (by decide)) G2
      have g23 := dg_eq (lv) 1 (.int (i1 + x17.1))
      refine dq_incy 2 1 1 44 (by decide +kernel) ⟨rfl, by decide +kernel, by decide +kernel⟩ g22 ?_
      have g24 := dg_ne (i := 2) (u := .int (i2 + 1)) (by decide) (Or.inl (by decide)) g21
      have g25 := dg_ne (i := 2) (u := .int (i2 + 1)) (by decide) (Or.inr rfl) g23
      have g26 := dg_eq (rm_set1 (lv) 1 (.int (i1 + x17.1))) 2 (.int (i2 + 1))
      refine dq_S (.goto (-40)) 3 [] 4 _ [] (by decide +kernel) rfl ?_
      exact ih _ _ _ _ _ _ g24 g25 g26 hh
def b220_0 (L : Nat) (xs : Nat → Int32) (zf : Value) (D : dD) (w : Nat) (o0 : Option Nat) (h : rm_H) : Option dR :=
  b220_4 L xs zf D w w o0 0 0 h
theorem c220_0 {L : Nat} {xs : Nat → Int32} {zf : Value} {D : dD} {w k : Nat} (hD : dO L xs zf D k) (hz : zf.category = 1) : ∀ (o0 : Option Nat) (lv : rm_L) (h : rm_H) (r : dR), rm_get lv 0 = some (va_rf o0) → b220_0 L xs zf D w  o0 h = some r → dq L xs zf ah_M220 0 lv [] h (k + 1) r := by
  intro o0 lv h r G0 hh
  unfold b220_0 at hh
  refine dq_S (.iconst 0) 1 [] 1 _ [.int 0] (by decide +kernel) rfl ?_
  refine dq_isn 1 2 (by decide +kernel) (by decide +kernel) ?_
  have g1 := dg_ne (i := 1) (u := .int 0) (by decide) (Or.inr (drc _)) G0
  have g2 := dg_eq (lv) 1 (.int 0)
  refine dq_S (.iconst 0) 1 [] 3 _ [.int 0] (by decide +kernel) rfl ?_
  refine dq_isn 2 4 (by decide +kernel) (by decide +kernel) ?_
  have g3 := dg_ne (i := 2) (u := .int 0) (by decide) (Or.inl (by decide)) g1
  have g4 := dg_ne (i := 2) (u := .int 0) (by decide) (Or.inr rfl) g2
  have g5 := dg_eq (rm_set1 (lv) 1 (.int 0)) 2 (.int 0)
  exact c220_4 hD hz _ _ _ _ _ _ _ g3 g4 g5 hh
def f220 (L : Nat) (xs : Nat → Int32) (zf : Value) (D : dD) (w : Nat) (As : List Value) (h : rm_H) : Option dR := match As with
  | [v0] => (rm_rf v0).bind fun o0 => b220_0 L xs zf D w o0 h
  | _ => none
theorem d220 {L : Nat} {xs : Nat → Int32} {zf : Value} {D : dD} {w k : Nat} (hD : dO L xs zf D k) (hz : zf.category = 1) (As : List Value) (h : rm_H) (r : dR) (hh : f220 L xs zf D w As h = some r) : dq L xs zf ah_M220 0 (lv_args 0 As) [] h (k + 1) r := by
  unfold f220 at hh
  split at hh
  · obtain ⟨o0, e0, hb0⟩ := db hh
    have e0 := rm_rf_v _ _ e0
    subst e0
    refine c220_0 hD hz _ _ _ _ ?_ hb0
    all_goals (simp only [la_r, la_i, la_j]; rfl)
  · cases hh
def b221_18 (L : Nat) (xs : Nat → Int32) (zf : Value) (D : dD) (w : Nat) (h : rm_H) : Option dR :=
  drI (some .int) (-1) h
theorem c221_18 {L : Nat} {xs : Nat → Int32} {zf : Value} {D : dD} {w k : Nat} (hD : dO L xs zf D k) (hz : zf.category = 1) : ∀ (lv : rm_L) (h : rm_H) (r : dR), b221_18 L xs zf D w  h = some r → dq L xs zf ah_M221 18 lv [] h (k + 1) r := by
  intro lv h r hh
  unfold b221_18 at hh
  refine dq_S (.iconst (-1)) 1 [] 19 _ [.int (-1)] (by decide +kernel) rfl ?_
  exact dq_retI (some .int) (by decide +kernel) rfl hh
def b221_0 (L : Nat) (xs : Nat → Int32) (zf : Value) (D : dD) (w : Nat) (i1 : Int32) (i2 : Int32) (i3 : Int32) (h : rm_H) : Option dR :=
  if mx_f1 .lt i2 = true then
    b221_18 L xs zf D w h
  else
    if mx_f2 .ge i2 5 = true then
      b221_18 L xs zf D w h
    else
      if mx_f1 .lt i3 = true then
        b221_18 L xs zf D w h
      else
        if mx_f2 .lt i3 5 = true then
          if dsw 0 3 i1 = true then
            drI (some .int) (-1) h
          else if i1 = 0 then
            ((D 190 [va_rf (some 1), .int i2, .int i3] h).bind dxI).bind fun x7 =>
            drI (some .int) x7.1 x7.2
          else if i1 = 1 then
            ((D 190 [va_rf (some 4), .int i2, .int i3] h).bind dxI).bind fun x12 =>
            drI (some .int) x12.1 x12.2
          else if i1 = 2 then
            ((D 190 [va_rf (some 3), .int i2, .int i3] h).bind dxI).bind fun x17 =>
            drI (some .int) x17.1 x17.2
          else if i1 = 3 then
            ((D 190 [va_rf (some 2), .int i2, .int i3] h).bind dxI).bind fun x22 =>
            drI (some .int) x22.1 x22.2
          else none
        else
          b221_18 L xs zf D w h
theorem c221_0 {L : Nat} {xs : Nat → Int32} {zf : Value} {D : dD} {w k : Nat} (hD : dO L xs zf D k) (hz : zf.category = 1) : ∀ (i1 : Int32) (i2 : Int32) (i3 : Int32) (lv : rm_L) (h : rm_H) (r : dR), rm_get lv 1 = some (.int i1) → rm_get lv 2 = some (.int i2) → rm_get lv 3 = some (.int i3) → b221_0 L xs zf D w  i1 i2 i3 h = some r → dq L xs zf ah_M221 0 lv [] h (k + 1) r := by
  intro i1 i2 i3 lv h r G1 G2 G3 hh
  unfold b221_0 at hh
  refine dq_iln 2 1 (by decide +kernel) rfl G2 ?_
  rcases di hh with ⟨q1, hh⟩ | ⟨q1, hh⟩
  · refine dq_1 .lt 17 true 18 q1 (by decide +kernel) ?_
    exact c221_18 hD hz  _ _ _  hh
  · refine dq_1 .lt 17 false 4 q1 (by decide +kernel) ?_
    refine dq_iln 2 5 (by decide +kernel) rfl G2 ?_
    refine dq_S (.iconst 5) 1 [] 6 _ [.int 5, .int i2] (by decide +kernel) rfl ?_
    rcases di hh with ⟨q2, hh⟩ | ⟨q2, hh⟩
    · refine dq_2 .ge 12 true 18 q2 (by decide +kernel) ?_
      exact c221_18 hD hz  _ _ _  hh
    · refine dq_2 .ge 12 false 9 q2 (by decide +kernel) ?_
      refine dq_iln 3 10 (by decide +kernel) rfl G3 ?_
      rcases di hh with ⟨q3, hh⟩ | ⟨q3, hh⟩
      · refine dq_1 .lt 8 true 18 q3 (by decide +kernel) ?_
        exact c221_18 hD hz  _ _ _  hh
      · refine dq_1 .lt 8 false 13 q3 (by decide +kernel) ?_
        refine dq_iln 3 14 (by decide +kernel) rfl G3 ?_
        refine dq_S (.iconst 5) 1 [] 15 _ [.int 5, .int i3] (by decide +kernel) rfl ?_
        rcases di hh with ⟨q4, hh⟩ | ⟨q4, hh⟩
        · refine dq_2 .lt 5 true 20 q4 (by decide +kernel) ?_
          refine dq_iln 1 21 (by decide +kernel) rfl G1 ?_
          rcases di hh with ⟨q5, hh⟩ | ⟨_, hh⟩
          · refine dq_sd 67 0 3 #[31, 40, 49, 58] 31 88 (by decide +kernel) (by decide +kernel) q5 ?_
            refine dq_S (.iconst (-1)) 1 [] 89 _ [.int (-1)] (by decide +kernel) rfl ?_
            exact dq_retI (some .int) (by decide +kernel) rfl hh
          rcases dp hh with ⟨q6, hh⟩ | ⟨_, hh⟩
          · refine dq_eq 0 q6 ?_
            refine dq_S (.tableswitch 67 0 3 #[31, 40, 49, 58]) 31 [] 52 _ [] (by decide +kernel) rfl ?_
            refine dq_S (.getstatic 116) 3 [6] 55 _ [va_rf (some 1)] (by decide +kernel) rfl ?_
            refine dq_iln 2 56 (by decide +kernel) rfl G2 ?_
            refine dq_iln 3 57 (by decide +kernel) rfl G3 ?_
            obtain ⟨x7, q8, hh⟩ := db hh
            obtain ⟨a9, q10, q8⟩ := db q8
            rw [dq_xI q8] at q10
            refine dq_cst hD 120 190 0 3 [va_rf (some 1), .int i2, .int i3] [] 60 [.int x7.1] (by decide +kernel) ap_190 ⟨⟨Nat.le_of_ble_eq_true rfl, by decide⟩, rfl, rfl⟩ (dq_ok8 [1, 1, 1] [] (dc_r (dc_i (dc_i dc_n))) dc_n (by decide +kernel)) (by decide +kernel) rfl q10 rfl ?_
            exact dq_retI (some .int) (by decide +kernel) rfl hh
          rcases dp hh with ⟨q11, hh⟩ | ⟨_, hh⟩
          · refine dq_eq 1 q11 ?_
            refine dq_S (.tableswitch 67 0 3 #[31, 40, 49, 58]) 31 [] 61 _ [] (by decide +kernel) rfl ?_
            refine dq_S (.getstatic 124) 3 [9] 64 _ [va_rf (some 4)] (by decide +kernel) rfl ?_
            refine dq_iln 2 65 (by decide +kernel) rfl G2 ?_
            refine dq_iln 3 66 (by decide +kernel) rfl G3 ?_
            obtain ⟨x12, q13, hh⟩ := db hh
            obtain ⟨a14, q15, q13⟩ := db q13
            rw [dq_xI q13] at q15
            refine dq_cst hD 120 190 0 3 [va_rf (some 4), .int i2, .int i3] [] 69 [.int x12.1] (by decide +kernel) ap_190 ⟨⟨Nat.le_of_ble_eq_true rfl, by decide⟩, rfl, rfl⟩ (dq_ok8 [1, 1, 1] [] (dc_r (dc_i (dc_i dc_n))) dc_n (by decide +kernel)) (by decide +kernel) rfl q15 rfl ?_
            exact dq_retI (some .int) (by decide +kernel) rfl hh
          rcases dp hh with ⟨q16, hh⟩ | ⟨_, hh⟩
          · refine dq_eq 2 q16 ?_
            refine dq_S (.tableswitch 67 0 3 #[31, 40, 49, 58]) 31 [] 70 _ [] (by decide +kernel) rfl ?_
            refine dq_S (.getstatic 127) 3 [8] 73 _ [va_rf (some 3)] (by decide +kernel) rfl ?_
            refine dq_iln 2 74 (by decide +kernel) rfl G2 ?_
            refine dq_iln 3 75 (by decide +kernel) rfl G3 ?_
            obtain ⟨x17, q18, hh⟩ := db hh
            obtain ⟨a19, q20, q18⟩ := db q18
            rw [dq_xI q18] at q20
            refine dq_cst hD 120 190 0 3 [va_rf (some 3), .int i2, .int i3] [] 78 [.int x17.1] (by decide +kernel) ap_190 ⟨⟨Nat.le_of_ble_eq_true rfl, by decide⟩, rfl, rfl⟩ (dq_ok8 [1, 1, 1] [] (dc_r (dc_i (dc_i dc_n))) dc_n (by decide +kernel)) (by decide +kernel) rfl q20 rfl ?_
            exact dq_retI (some .int) (by decide +kernel) rfl hh
          rcases dp hh with ⟨q21, hh⟩ | ⟨_, hh⟩
          · refine dq_eq 3 q21 ?_
            refine dq_S (.tableswitch 67 0 3 #[31, 40, 49, 58]) 31 [] 79 _ [] (by decide +kernel) rfl ?_
            refine dq_S (.getstatic 130) 3 [7] 82 _ [va_rf (some 2)] (by decide +kernel) rfl ?_
            refine dq_iln 2 83 (by decide +kernel) rfl G2 ?_
            refine dq_iln 3 84 (by decide +kernel) rfl G3 ?_
            obtain ⟨x22, q23, hh⟩ := db hh
            obtain ⟨a24, q25, q23⟩ := db q23
            rw [dq_xI q23] at q25
            refine dq_cst hD 120 190 0 3 [va_rf (some 2), .int i2, .int i3] [] 87 [.int x22.1] (by decide +kernel) ap_190 ⟨⟨Nat.le_of_ble_eq_true rfl, by decide⟩, rfl, rfl⟩ (dq_ok8 [1, 1, 1] [] (dc_r (dc_i (dc_i dc_n))) dc_n (by decide +kernel)) (by decide +kernel) rfl q25 rfl ?_
            exact dq_retI (some .int) (by decide +kernel) rfl hh
          cases hh
        · refine dq_2 .lt 5 false 18 q4 (by decide +kernel) ?_
          exact c221_18 hD hz  _ _ _  hh
def f221 (L : Nat) (xs : Nat → Int32) (zf : Value) (D : dD) (w : Nat) (As : List Value) (h : rm_H) : Option dR := match As with
  | [v0, .int i1, .int i2, .int i3] => (rm_rf v0).bind fun u0 => b221_0 L xs zf D w i1 i2 i3 h
  | _ => none
theorem d221 {L : Nat} {xs : Nat → Int32} {zf : Value} {D : dD} {w k : Nat} (hD : dO L xs zf D k) (hz : zf.category = 1) (As : List Value) (h : rm_H) (r : dR) (hh : f221 L xs zf D w As h = some r) : dq L xs zf ah_M221 0 (lv_args 0 As) [] h (k + 1) r := by
  unfold f221 at hh
  split at hh
  · obtain ⟨u0, e0, hb0⟩ := db hh
    have e0 := rm_rf_v _ _ e0
    subst e0
    refine c221_0 hD hz _ _ _ _ _ _ ?_ ?_ ?_ hb0
    all_goals (simp only [la_r, la_i, la_j]; rfl)
  · cases hh
def b222_30 (L : Nat) (xs : Nat → Int32) (zf : Value) (D : dD) (w : Nat) (h : rm_H) : Option dR :=
  drI (some .boolean) 0 h
theorem c222_30 {L : Nat} {xs : Nat → Int32} {zf : Value} {D : dD} {w k : Nat} (hD : dO L xs zf D k) (hz : zf.category = 1) : ∀ (lv : rm_L) (h : rm_H) (r : dR), b222_30 L xs zf D w  h = some r → dq L xs zf ah_M222 30 lv [] h (k + 1) r := by
  intro lv h r hh
  unfold b222_30 at hh
  refine dq_S (.iconst 0) 1 [] 31 _ [.int 0] (by decide +kernel) rfl ?_
  exact dq_retI (some .boolean) (by decide +kernel) rfl hh
def b222_0 (L : Nat) (xs : Nat → Int32) (zf : Value) (D : dD) (w : Nat) (o0 : Option Nat) (i1 : Int32) (i2 : Int32) (h : rm_H) : Option dR :=
  (dgR L xs h 3 [0] o0).bind fun p1 =>
  if dnl p1 = true then
    b222_30 L xs zf D w h
  else
    if mx_f2 .lt i1 1 = true then
      b222_30 L xs zf D w h
    else
      if mx_f2 .gt i1 400 = true then
        b222_30 L xs zf D w h
      else
        if mx_f2 .lt i2 1 = true then
          b222_30 L xs zf D w h
        else
          if mx_f2 .le i2 6 = true then
            (dgR L xs h 3 [0] o0).bind fun p8 =>
            (dgR L xs h 3 [0] o0).bind fun p10 =>
            (dgR L xs h 6 [4] p10).bind fun p12 =>
            ((dcV L xs D 223 [4] p8 [va_rf p12] h).bind dxI).bind fun x14 =>
            if mx_f2 .le x14.1 i1 = true then
              (dgR L xs x14.2 2 [0] o0).bind fun p19 =>
              ((dcV L xs D 217 [3] p19 [] x14.2).bind dxV).bind fun h21 =>
              (dgR L xs h21 1 [0] o0).bind fun p25 =>
              (dgR L xs h21 3 [0] o0).bind fun p27 =>
              ((dcV L xs D 224 [2] p25 [va_rf p27, .int i1, .int i2] h21).bind dxV).bind fun h29 =>
              drI (some .boolean) 1 h29
            else
              drI (some .boolean) 0 x14.2
          else
            b222_30 L xs zf D w h
theorem c222_0 {L : Nat} {xs : Nat → Int32} {zf : Value} {D : dD} {w k : Nat} (hD : dO L xs zf D k) (hz : zf.category = 1) : ∀ (o0 : Option Nat) (i1 : Int32) (i2 : Int32) (lv : rm_L) (h : rm_H) (r : dR), rm_get lv 0 = some (va_rf o0) → rm_get lv 1 = some (.int i1) → rm_get lv 2 = some (.int i2) → b222_0 L xs zf D w  o0 i1 i2 h = some r → dq L xs zf ah_M222 0 lv [] h (k + 1) r := by
  intro o0 i1 i2 lv h r G0 G1 G2 hh
  unfold b222_0 at hh
  refine dq_aln 0 1 (by decide +kernel) rfl G0 ?_
  obtain ⟨p1, q2, hh⟩ := db hh
  refine dq_gR 30 3 [0] 4 (by decide +kernel) rfl q2 ?_
  rcases di hh with ⟨q3, hh⟩ | ⟨q3, hh⟩
  · refine dq_null 26 true 30 q3 (by decide +kernel) (by decide +kernel) ?_
    exact c222_30 hD hz  _ _ _  hh
  · refine dq_null 26 false 7 q3 (by decide +kernel) (by decide +kernel) ?_
    refine dq_iln 1 8 (by decide +kernel) rfl G1 ?_
    refine dq_S (.iconst 1) 1 [] 9 _ [.int 1, .int i1] (by decide +kernel) rfl ?_
    rcases di hh with ⟨q4, hh⟩ | ⟨q4, hh⟩
    · refine dq_2 .lt 21 true 30 q4 (by decide +kernel) ?_
      exact c222_30 hD hz  _ _ _  hh
    · refine dq_2 .lt 21 false 12 q4 (by decide +kernel) ?_
      refine dq_iln 1 13 (by decide +kernel) rfl G1 ?_
      refine dq_S (.sipush 400) 3 [] 16 _ [.int 400, .int i1] (by decide +kernel) rfl ?_
      rcases di hh with ⟨q5, hh⟩ | ⟨q5, hh⟩
      · refine dq_2 .gt 14 true 30 q5 (by decide +kernel) ?_
        exact c222_30 hD hz  _ _ _  hh
      · refine dq_2 .gt 14 false 19 q5 (by decide +kernel) ?_
        refine dq_iln 2 20 (by decide +kernel) rfl G2 ?_
        refine dq_S (.iconst 1) 1 [] 21 _ [.int 1, .int i2] (by decide +kernel) rfl ?_
        rcases di hh with ⟨q6, hh⟩ | ⟨q6, hh⟩
        · refine dq_2 .lt 9 true 30 q6 (by decide +kernel) ?_
          exact c222_30 hD hz  _ _ _  hh
        · refine dq_2 .lt 9 false 24 q6 (by decide +kernel) ?_
          refine dq_iln 2 25 (by decide +kernel) rfl G2 ?_
          refine dq_S (.bipush 6) 2 [] 27 _ [.int 6, .int i2] (by decide +kernel) rfl ?_
          rcases di hh with ⟨q7, hh⟩ | ⟨q7, hh⟩
          · refine dq_2 .le 5 true 32 q7 (by decide +kernel) ?_
            refine dq_aln 0 33 (by decide +kernel) rfl G0 ?_
            obtain ⟨p8, q9, hh⟩ := db hh
            refine dq_gR 30 3 [0] 36 (by decide +kernel) rfl q9 ?_
            refine dq_aln 0 37 (by decide +kernel) rfl G0 ?_
            obtain ⟨p10, q11, hh⟩ := db hh
            refine dq_gR 30 3 [0] 40 (by decide +kernel) rfl q11 ?_
            obtain ⟨p12, q13, hh⟩ := db hh
            refine dq_gR 133 6 [4] 43 (by decide +kernel) rfl q13 ?_
            obtain ⟨x14, q15, hh⟩ := db hh
            obtain ⟨a16, q17, q15⟩ := db q15
            rw [dq_xI q15] at q17
            refine dq_cvi hD 137 223 5 1 [4] p8 [va_rf p12] [] 46 [.int x14.1] (by decide +kernel) ap_223 ⟨⟨Nat.le_of_ble_eq_true rfl, by decide⟩, rfl, rfl⟩ (dq_ok8 [1, 1] [] (dc_r (dc_r dc_n)) dc_n (by decide +kernel)) (by decide +kernel) rfl q17 rfl ?_
            refine dq_iln 1 47 (by decide +kernel) rfl G1 ?_
            rcases di hh with ⟨q18, hh⟩ | ⟨q18, hh⟩
            · refine dq_2 .le 5 true 52 q18 (by decide +kernel) ?_
              refine dq_aln 0 53 (by decide +kernel) rfl G0 ?_
              obtain ⟨p19, q20, hh⟩ := db hh
              refine dq_gR 26 2 [0] 56 (by decide +kernel) rfl q20 ?_
              obtain ⟨h21, q22, hh⟩ := db hh
              obtain ⟨a23, q24, q22⟩ := db q22
              rw [dq_xV q22] at q24
              refine dq_cvi hD 91 217 5 0 [3] p19 [] [] 59 [] (by decide +kernel) ap_217 ⟨⟨Nat.le_of_ble_eq_true rfl, by decide⟩, rfl, rfl⟩ (dq_ok8 [1] [] (dc_r dc_n) dc_n (by decide +kernel)) (by decide +kernel) rfl q24 rfl ?_
              refine dq_aln 0 60 (by decide +kernel) rfl G0 ?_
              obtain ⟨p25, q26, hh⟩ := db hh
              refine dq_gR 19 1 [0] 63 (by decide +kernel) rfl q26 ?_
              refine dq_aln 0 64 (by decide +kernel) rfl G0 ?_
              obtain ⟨p27, q28, hh⟩ := db hh
              refine dq_gR 30 3 [0] 67 (by decide +kernel) rfl q28 ?_
              refine dq_iln 1 68 (by decide +kernel) rfl G1 ?_
              refine dq_iln 2 69 (by decide +kernel) rfl G2 ?_
              obtain ⟨h29, q30, hh⟩ := db hh
              obtain ⟨a31, q32, q30⟩ := db q30
              rw [dq_xV q30] at q32
              refine dq_cvi hD 141 224 5 3 [2] p25 [va_rf p27, .int i1, .int i2] [] 72 [] (by decide +kernel) ap_224 ⟨⟨Nat.le_of_ble_eq_true rfl, by decide⟩, rfl, rfl⟩ (dq_ok8 [1, 1, 1, 1] [] (dc_r (dc_r (dc_i (dc_i dc_n)))) dc_n (by decide +kernel)) (by decide +kernel) rfl q32 rfl ?_
              refine dq_S (.iconst 1) 1 [] 73 _ [.int 1] (by decide +kernel) rfl ?_
              exact dq_retI (some .boolean) (by decide +kernel) rfl hh
            · refine dq_2 .le 5 false 50 q18 (by decide +kernel) ?_
              refine dq_S (.iconst 0) 1 [] 51 _ [.int 0] (by decide +kernel) rfl ?_
              exact dq_retI (some .boolean) (by decide +kernel) rfl hh
          · refine dq_2 .le 5 false 30 q7 (by decide +kernel) ?_
            exact c222_30 hD hz  _ _ _  hh
def f222 (L : Nat) (xs : Nat → Int32) (zf : Value) (D : dD) (w : Nat) (As : List Value) (h : rm_H) : Option dR := match As with
  | [v0, .int i1, .int i2] => (rm_rf v0).bind fun o0 => b222_0 L xs zf D w o0 i1 i2 h
  | _ => none
theorem d222 {L : Nat} {xs : Nat → Int32} {zf : Value} {D : dD} {w k : Nat} (hD : dO L xs zf D k) (hz : zf.category = 1) (As : List Value) (h : rm_H) (r : dR) (hh : f222 L xs zf D w As h = some r) : dq L xs zf ah_M222 0 (lv_args 0 As) [] h (k + 1) r := by
  unfold f222 at hh
  split at hh
  · obtain ⟨o0, e0, hb0⟩ := db hh
    have e0 := rm_rf_v _ _ e0
    subst e0
    refine c222_0 hD hz _ _ _ _ _ _ ?_ ?_ ?_ hb0
    all_goals (simp only [la_r, la_i, la_j]; rfl)
  · cases hh
def b223_19 (L : Nat) (xs : Nat → Int32) (zf : Value) (D : dD) (w : Nat) (s0 : Int32) (h : rm_H) : Option dR :=
  drI (some .int) s0 h
theorem c223_19 {L : Nat} {xs : Nat → Int32} {zf : Value} {D : dD} {w k : Nat} (hD : dO L xs zf D k) (hz : zf.category = 1) : ∀ (s0 : Int32) (lv : rm_L) (h : rm_H) (r : dR), b223_19 L xs zf D w  s0 h = some r → dq L xs zf ah_M223 19 lv [.int s0] h (k + 1) r := by
  intro s0 lv h r hh
  unfold b223_19 at hh
  exact dq_retI (some .int) (by decide +kernel) rfl hh
def b223_0 (L : Nat) (xs : Nat → Int32) (zf : Value) (D : dD) (w : Nat) (o1 : Option Nat) (h : rm_H) : Option dR :=
  if dnl o1 = true then
    b223_19 L xs zf D w 0 h
  else
    (dgR L xs h 4 [9] o1).bind fun p2 =>
    ((dcV L xs D 101 [5] p2 [] h).bind dxI).bind fun x4 =>
    b223_19 L xs zf D w (x4.1 + 1) x4.2
theorem c223_0 {L : Nat} {xs : Nat → Int32} {zf : Value} {D : dD} {w k : Nat} (hD : dO L xs zf D k) (hz : zf.category = 1) : ∀ (o1 : Option Nat) (lv : rm_L) (h : rm_H) (r : dR), rm_get lv 1 = some (va_rf o1) → b223_0 L xs zf D w  o1 h = some r → dq L xs zf ah_M223 0 lv [] h (k + 1) r := by
  intro o1 lv h r G1 hh
  unfold b223_0 at hh
  refine dq_aln 1 1 (by decide +kernel) rfl G1 ?_
  rcases di hh with ⟨q1, hh⟩ | ⟨q1, hh⟩
  · refine dq_nnull 7 false 4 q1 (by decide +kernel) (by decide +kernel) ?_
    refine dq_S (.iconst 0) 1 [] 5 _ [.int 0] (by decide +kernel) rfl ?_
    refine dq_S (.goto 14) 3 [] 19 _ [.int 0] (by decide +kernel) rfl ?_
    exact c223_19 hD hz _ _ _ _  hh
  · refine dq_nnull 7 true 8 q1 (by decide +kernel) (by decide +kernel) ?_
    refine dq_aln 1 9 (by decide +kernel) rfl G1 ?_
    obtain ⟨p2, q3, hh⟩ := db hh
    refine dq_gR 65 4 [9] 12 (by decide +kernel) rfl q3 ?_
    obtain ⟨x4, q5, hh⟩ := db hh
    obtain ⟨a6, q7, q5⟩ := db q5
    rw [dq_xI q5] at q7
    refine dq_cif hD 54 1 101 7 0 [5] p2 [] [] 17 [.int x4.1] (by decide +kernel) ap_101 ⟨⟨Nat.le_of_ble_eq_true rfl, by decide⟩, rfl, rfl⟩ (dq_ok8 [1] [] (dc_r dc_n) dc_n (by decide +kernel)) (by decide +kernel) rfl q7 rfl ?_
    refine dq_S (.iconst 1) 1 [] 18 _ [.int 1, .int x4.1] (by decide +kernel) rfl ?_
    refine dq_S (.iadd) 1 [] 19 _ [.int (x4.1 + 1)] (by decide +kernel) rfl ?_
    exact c223_19 hD hz _ _ _ _  hh
def f223 (L : Nat) (xs : Nat → Int32) (zf : Value) (D : dD) (w : Nat) (As : List Value) (h : rm_H) : Option dR := match As with
  | [v0, v1] => (rm_rf v0).bind fun u0 => (rm_rf v1).bind fun o1 => b223_0 L xs zf D w o1 h
  | _ => none
theorem d223 {L : Nat} {xs : Nat → Int32} {zf : Value} {D : dD} {w k : Nat} (hD : dO L xs zf D k) (hz : zf.category = 1) (As : List Value) (h : rm_H) (r : dR) (hh : f223 L xs zf D w As h = some r) : dq L xs zf ah_M223 0 (lv_args 0 As) [] h (k + 1) r := by
  unfold f223 at hh
  split at hh
  · obtain ⟨u0, e0, hb0⟩ := db hh
    have e0 := rm_rf_v _ _ e0
    obtain ⟨o1, e1, hb1⟩ := db hb0
    have e1 := rm_rf_v _ _ e1
    subst e0 e1
    refine c223_0 hD hz _ _ _ _ ?_ hb1
    all_goals (simp only [la_r, la_i, la_j]; rfl)
  · cases hh
def b224_63 (L : Nat) (xs : Nat → Int32) (zf : Value) (D : dD) (w : Nat) (h : rm_H) : Option dR :=
  some (none, h)
theorem c224_63 {L : Nat} {xs : Nat → Int32} {zf : Value} {D : dD} {w k : Nat} (hD : dO L xs zf D k) (hz : zf.category = 1) : ∀ (lv : rm_L) (h : rm_H) (r : dR), b224_63 L xs zf D w  h = some r → dq L xs zf ah_M224 63 lv [] h (k + 1) r := by
  intro lv h r hh
  unfold b224_63 at hh
  cases hh
  exact dq_ret0 (by decide +kernel) rfl
def b224_0 (L : Nat) (xs : Nat → Int32) (zf : Value) (D : dD) (w : Nat) (o0 : Option Nat) (o1 : Option Nat) (i2 : Int32) (i3 : Int32) (h : rm_H) : Option dR :=
  ((dcV L xs D 216 [2] o0 [] h).bind dxV).bind fun h1 =>
  (dpF h1 7 [2] o0 (va_rf o1)).bind fun h5 =>
  (dpF h5 5 [2] o0 (.int i2)).bind fun h7 =>
  (dpF h7 6 [2] o0 (.int i3)).bind fun h9 =>
  (dgR L xs h9 6 [4] o1).bind fun p11 =>
  if dnl p11 = true then
    b224_63 L xs zf D w h9
  else
    (dgR L xs h9 6 [4] o1).bind fun p14 =>
    ((dcV L xs D 225 [2] o0 [va_rf p14] h9).bind dxI).bind fun x16 =>
    (dgR L xs x16.2 6 [4] o1).bind fun p25 =>
    ((dcV L xs D 226 [2] o0 [va_rf p25, .int x16.1] x16.2).bind dxR).bind fun p27 =>
    (dgR L xs p27.2 6 [4] o1).bind fun p37 =>
    (dgR L xs p27.2 6 [9] p37).bind fun p39 =>
    ((dcV L xs D 230 [2] o0 [va_rf p27.1, va_rf p39, va_rf p27.1] p27.2).bind dxV).bind fun h41 =>
    b224_63 L xs zf D w h41
theorem c224_0 {L : Nat} {xs : Nat → Int32} {zf : Value} {D : dD} {w k : Nat} (hD : dO L xs zf D k) (hz : zf.category = 1) : ∀ (o0 : Option Nat) (o1 : Option Nat) (i2 : Int32) (i3 : Int32) (lv : rm_L) (h : rm_H) (r : dR), rm_get lv 0 = some (va_rf o0) → rm_get lv 1 = some (va_rf o1) → rm_get lv 2 = some (.int i2) → rm_get lv 3 = some (.int i3) → b224_0 L xs zf D w  o0 o1 i2 i3 h = some r → dq L xs zf ah_M224 0 lv [] h (k + 1) r := by
  intro o0 o1 i2 i3 lv h r G0 G1 G2 G3 hh
  unfold b224_0 at hh
  refine dq_aln 0 1 (by decide +kernel) rfl G0 ?_
  obtain ⟨h1, q2, hh⟩ := db hh
  obtain ⟨a3, q4, q2⟩ := db q2
  rw [dq_xV q2] at q4
  refine dq_cvi hD 59 216 5 0 [2] o0 [] [] 4 [] (by decide +kernel) ap_216 ⟨⟨Nat.le_of_ble_eq_true rfl, by decide⟩, rfl, rfl⟩ (dq_ok8 [1] [] (dc_r dc_n) dc_n (by decide +kernel)) (by decide +kernel) rfl q4 rfl ?_
  refine dq_aln 0 5 (by decide +kernel) rfl G0 ?_
  refine dq_aln 1 6 (by decide +kernel) rfl G1 ?_
  obtain ⟨h5, q6, hh⟩ := db hh
  refine dq_put 30 7 [2] 9 (by decide +kernel) rfl q6 ?_
  refine dq_aln 0 10 (by decide +kernel) rfl G0 ?_
  refine dq_iln 2 11 (by decide +kernel) rfl G2 ?_
  obtain ⟨h7, q8, hh⟩ := db hh
  refine dq_put 62 5 [2] 14 (by decide +kernel) rfl q8 ?_
  refine dq_aln 0 15 (by decide +kernel) rfl G0 ?_
  refine dq_iln 3 16 (by decide +kernel) rfl G3 ?_
  obtain ⟨h9, q10, hh⟩ := db hh
  refine dq_put 65 6 [2] 19 (by decide +kernel) rfl q10 ?_
  refine dq_aln 1 20 (by decide +kernel) rfl G1 ?_
  obtain ⟨p11, q12, hh⟩ := db hh
  refine dq_gR 68 6 [4] 23 (by decide +kernel) rfl q12 ?_
  rcases di hh with ⟨q13, hh⟩ | ⟨q13, hh⟩
  · refine dq_null 40 true 63 q13 (by decide +kernel) (by decide +kernel) ?_
    exact c224_63 hD hz  _ _ _  hh
  · refine dq_null 40 false 26 q13 (by decide +kernel) (by decide +kernel) ?_
    refine dq_aln 0 27 (by decide +kernel) rfl G0 ?_
    refine dq_aln 1 28 (by decide +kernel) rfl G1 ?_
    obtain ⟨p14, q15, hh⟩ := db hh
    refine dq_gR 68 6 [4] 31 (by decide +kernel) rfl q15 ?_
    obtain ⟨x16, q17, hh⟩ := db hh
    obtain ⟨a18, q19, q17⟩ := db q17
    rw [dq_xI q17] at q19
    refine dq_cvi hD 74 225 5 1 [2] o0 [va_rf p14] [] 34 [.int x16.1] (by decide +kernel) ap_225 ⟨⟨Nat.le_of_ble_eq_true rfl, by decide⟩, rfl, rfl⟩ (dq_ok8 [1, 1] [] (dc_r (dc_r dc_n)) dc_n (by decide +kernel)) (by decide +kernel) rfl q19 rfl ?_
    refine dq_is 4 36 (by decide +kernel) (by decide +kernel) ?_
    have g20 := dg_ne (i := 4) (u := .int x16.1) (by decide) (Or.inl (by decide)) G0
    have g21 := dg_ne (i := 4) (u := .int x16.1) (by decide) (Or.inl (by decide)) G1
    have g22 := dg_ne (i := 4) (u := .int x16.1) (by decide) (Or.inl (by decide)) G2
    have g23 := dg_ne (i := 4) (u := .int x16.1) (by decide) (Or.inr rfl) G3
    have g24 := dg_eq (lv) 4 (.int x16.1)
    refine dq_aln 0 37 (by decide +kernel) rfl g20 ?_
    refine dq_aln 1 38 (by decide +kernel) rfl g21 ?_
    obtain ⟨p25, q26, hh⟩ := db hh
    refine dq_gR 68 6 [4] 41 (by decide +kernel) rfl q26 ?_
    refine dq_il 4 43 (by decide +kernel) rfl g24 ?_
    obtain ⟨p27, q28, hh⟩ := db hh
    obtain ⟨a29, q30, q28⟩ := db q28
    rw [dq_xR q28] at q30
    refine dq_cvi hD 78 226 5 2 [2] o0 [va_rf p25, .int x16.1] [] 46 [va_rf p27.1] (by decide +kernel) ap_226 ⟨⟨Nat.le_of_ble_eq_true rfl, by decide⟩, rfl, rfl⟩ (dq_ok8 [1, 1, 1] [] (dc_r (dc_r (dc_i dc_n))) dc_n (by decide +kernel)) (by decide +kernel) rfl q30 rfl ?_
    refine dq_as 5 48 (by decide +kernel) (by decide +kernel) ?_
    have g31 := dg_ne (i := 5) (u := va_rf p27.1) (by decide) (Or.inl (by decide)) g20
    have g32 := dg_ne (i := 5) (u := va_rf p27.1) (by decide) (Or.inl (by decide)) g21
    have g33 := dg_ne (i := 5) (u := va_rf p27.1) (by decide) (Or.inl (by decide)) g22
    have g34 := dg_ne (i := 5) (u := va_rf p27.1) (by decide) (Or.inl (by decide)) g23
    have g35 := dg_ne (i := 5) (u := va_rf p27.1) (by decide) (Or.inr rfl) g24
    have g36 := dg_eq (rm_set1 (lv) 4 (.int x16.1)) 5 (va_rf p27.1)
    refine dq_aln 0 49 (by decide +kernel) rfl g31 ?_
    refine dq_al 5 51 (by decide +kernel) rfl g36 ?_
    refine dq_aln 1 52 (by decide +kernel) rfl g32 ?_
    obtain ⟨p37, q38, hh⟩ := db hh
    refine dq_gR 68 6 [4] 55 (by decide +kernel) rfl q38 ?_
    obtain ⟨p39, q40, hh⟩ := db hh
    refine dq_gR 82 6 [9] 58 (by decide +kernel) rfl q40 ?_
    refine dq_al 5 60 (by decide +kernel) rfl g36 ?_
    obtain ⟨h41, q42, hh⟩ := db hh
    obtain ⟨a43, q44, q42⟩ := db q42
    rw [dq_xV q42] at q44
    refine dq_cvi hD 88 230 5 3 [2] o0 [va_rf p27.1, va_rf p39, va_rf p27.1] [] 63 [] (by decide +kernel) ap_230 ⟨⟨Nat.le_of_ble_eq_true rfl, by decide⟩, rfl, rfl⟩ (dq_ok8 [1, 1, 1, 1] [] (dc_r (dc_r (dc_r (dc_r dc_n)))) dc_n (by decide +kernel)) (by decide +kernel) rfl q44 rfl ?_
    exact c224_63 hD hz  _ _ _  hh
def f224 (L : Nat) (xs : Nat → Int32) (zf : Value) (D : dD) (w : Nat) (As : List Value) (h : rm_H) : Option dR := match As with
  | [v0, v1, .int i2, .int i3] => (rm_rf v0).bind fun o0 => (rm_rf v1).bind fun o1 => b224_0 L xs zf D w o0 o1 i2 i3 h
  | _ => none
theorem d224 {L : Nat} {xs : Nat → Int32} {zf : Value} {D : dD} {w k : Nat} (hD : dO L xs zf D k) (hz : zf.category = 1) (As : List Value) (h : rm_H) (r : dR) (hh : f224 L xs zf D w As h = some r) : dq L xs zf ah_M224 0 (lv_args 0 As) [] h (k + 1) r := by
  unfold f224 at hh
  split at hh
  · obtain ⟨o0, e0, hb0⟩ := db hh
    have e0 := rm_rf_v _ _ e0
    obtain ⟨o1, e1, hb1⟩ := db hb0
    have e1 := rm_rf_v _ _ e1
    subst e0 e1
    refine c224_0 hD hz _ _ _ _ _ _ _ ?_ ?_ ?_ ?_ hb1
    all_goals (simp only [la_r, la_i, la_j]; rfl)
  · cases hh
def b225_43 (L : Nat) (xs : Nat → Int32) (zf : Value) (D : dD) (w : Nat) (h : rm_H) : Option dR :=
  drI (some .int) (-1) h
theorem c225_43 {L : Nat} {xs : Nat → Int32} {zf : Value} {D : dD} {w k : Nat} (hD : dO L xs zf D k) (hz : zf.category = 1) : ∀ (lv : rm_L) (h : rm_H) (r : dR), b225_43 L xs zf D w  h = some r → dq L xs zf ah_M225 43 lv [] h (k + 1) r := by
  intro lv h r hh
  unfold b225_43 at hh
  refine dq_S (.iconst (-1)) 1 [] 44 _ [.int (-1)] (by decide +kernel) rfl ?_
  exact dq_retI (some .int) (by decide +kernel) rfl hh
def b225_70 (L : Nat) (xs : Nat → Int32) (zf : Value) (D : dD) (w : Nat) : Nat → Option Nat → Int32 → Int32 → rm_H → Option dR
  | 0, _, _, _, _ => none
  | n + 1, o0, i3, i4, h =>
    (dgI L xs h 10 [2] o0).bind fun x1 =>
    if mx_f2 .ge i4 x1 = true then
      drI (some .int) i3 h
    else
      (dgR L xs h 0 [2] o0).bind fun p4 =>
      (dsI h p4 i4 0).bind fun h6 =>
      b225_70 L xs zf D w n o0 i3 (i4 + 1) h6
theorem c225_70 {L : Nat} {xs : Nat → Int32} {zf : Value} {D : dD} {w k : Nat} (hD : dO L xs zf D k) (hz : zf.category = 1) : ∀ (n : Nat) (o0 : Option Nat) (i3 : Int32) (i4 : Int32) (lv : rm_L) (h : rm_H) (r : dR), rm_get lv 0 = some (va_rf o0) → rm_get lv 3 = some (.int i3) → rm_get lv 4 = some (.int i4) → b225_70 L xs zf D w n  o0 i3 i4 h = some r → dq L xs zf ah_M225 70 lv [] h (k + 1) r := by
  intro n
  induction n with
  | zero =>
    intro o0 i3 i4 lv h r G0 G3 G4 hh
    cases hh
  | succ n ih =>
    intro o0 i3 i4 lv h r G0 G3 G4 hh
    rw [b225_70] at hh
    refine dq_il 4 72 (by decide +kernel) rfl G4 ?_
    refine dq_aln 0 73 (by decide +kernel) rfl G0 ?_
    obtain ⟨x1, q2, hh⟩ := db hh
    refine dq_gI 41 10 [2] 76 (by decide +kernel) rfl q2 ?_
    rcases di hh with ⟨q3, hh⟩ | ⟨q3, hh⟩
    · refine dq_2 .ge 17 true 93 q3 (by decide +kernel) ?_
      refine dq_iln 3 94 (by decide +kernel) rfl G3 ?_
      exact dq_retI (some .int) (by decide +kernel) rfl hh
    · refine dq_2 .ge 17 false 79 q3 (by decide +kernel) ?_
      refine dq_aln 0 80 (by decide +kernel) rfl G0 ?_
      obtain ⟨p4, q5, hh⟩ := db hh
      refine dq_gR 9 0 [2] 83 (by decide +kernel) rfl q5 ?_
      refine dq_il 4 85 (by decide +kernel) rfl G4 ?_
      refine dq_S (.iconst 0) 1 [] 86 _ [.int 0, .int i4, va_rf p4] (by decide +kernel) rfl ?_
      obtain ⟨h6, q7, hh⟩ := db hh
      refine dq_sI 87 (by decide +kernel) rfl q7 ?_
      refine dq_incy 4 1 1 90 (by decide +kernel) ⟨rfl, by decide +kernel, by decide +kernel⟩ G4 ?_
      have g8 := dg_ne (i := 4) (u := .int (i4 + 1)) (by decide) (Or.inl (by decide)) G0
      have g9 := dg_ne (i := 4) (u := .int (i4 + 1)) (by decide) (Or.inr rfl) G3
      have g10 := dg_eq (lv) 4 (.int (i4 + 1))
      refine dq_S (.goto (-20)) 3 [] 70 _ [] (by decide +kernel) rfl ?_
      exact ih _ _ _ _ _ _ g8 g9 g10 hh
def b225_0 (L : Nat) (xs : Nat → Int32) (zf : Value) (D : dD) (w : Nat) (o0 : Option Nat) (o1 : Option Nat) (h : rm_H) : Option dR :=
  (dgR L xs h 7 [2] o0).bind fun p1 =>
  ((dcV L xs D 223 [4] p1 [va_rf o1] h).bind dxI).bind fun x3 =>
  (dgI L xs x3.2 10 [2] o0).bind fun x10 =>
  if mx_f2 .lt x3.1 1 = true then
    b225_43 L xs zf D w x3.2
  else
    (dgI L xs x3.2 5 [2] o0).bind fun x17 =>
    (dgI L xs x3.2 10 [2] o0).bind fun x19 =>
    if mx_f2 .gt x3.1 (x17 - x19) = true then
      b225_43 L xs zf D w x3.2
    else
      (dgR L xs x3.2 0 [2] o0).bind fun p22 =>
      (daN L xs x3.2 p22).bind fun x24 =>
      if mx_f2 .le (x10 + x3.1) x24 = true then
        (dgI L xs x3.2 10 [2] o0).bind fun x27 =>
        (dpF x3.2 10 [2] o0 (.int (x27 + x3.1))).bind fun h29 =>
        (dgR L xs h29 0 [2] o0).bind fun p31 =>
        (dgI L xs h29 3 [9] o1).bind fun x33 =>
        (dsI h29 p31 x10 x33).bind fun h35 =>
        b225_70 L xs zf D w w o0 x10 (x10 + 1) h35
      else
        b225_43 L xs zf D w x3.2
theorem c225_0 {L : Nat} {xs : Nat → Int32} {zf : Value} {D : dD} {w k : Nat} (hD : dO L xs zf D k) (hz : zf.category = 1) : ∀ (o0 : Option Nat) (o1 : Option Nat) (lv : rm_L) (h : rm_H) (r : dR), rm_get lv 0 = some (va_rf o0) → rm_get lv 1 = some (va_rf o1) → b225_0 L xs zf D w  o0 o1 h = some r → dq L xs zf ah_M225 0 lv [] h (k + 1) r := by
  intro o0 o1 lv h r G0 G1 hh
  unfold b225_0 at hh
  refine dq_aln 0 1 (by decide +kernel) rfl G0 ?_
  obtain ⟨p1, q2, hh⟩ := db hh
  refine dq_gR 30 7 [2] 4 (by decide +kernel) rfl q2 ?_
  refine dq_aln 1 5 (by decide +kernel) rfl G1 ?_
  obtain ⟨x3, q4, hh⟩ := db hh
  obtain ⟨a5, q6, q4⟩ := db q4
  rw [dq_xI q4] at q6
  refine dq_cvi hD 216 223 5 1 [4] p1 [va_rf o1] [] 8 [.int x3.1] (by decide +kernel) ap_223 ⟨⟨Nat.le_of_ble_eq_true rfl, by decide⟩, rfl, rfl⟩ (dq_ok8 [1, 1] [] (dc_r (dc_r dc_n)) dc_n (by decide +kernel)) (by decide +kernel) rfl q6 rfl ?_
  refine dq_isn 2 9 (by decide +kernel) (by decide +kernel) ?_
  have g7 := dg_ne (i := 2) (u := .int x3.1) (by decide) (Or.inl (by decide)) G0
  have g8 := dg_ne (i := 2) (u := .int x3.1) (by decide) (Or.inr (drc _)) G1
  have g9 := dg_eq (lv) 2 (.int x3.1)
  refine dq_aln 0 10 (by decide +kernel) rfl g7 ?_
  obtain ⟨x10, q11, hh⟩ := db hh
  refine dq_gI 41 10 [2] 13 (by decide +kernel) rfl q11 ?_
  refine dq_isn 3 14 (by decide +kernel) (by decide +kernel) ?_
  have g12 := dg_ne (i := 3) (u := .int x10) (by decide) (Or.inl (by decide)) g7
  have g13 := dg_ne (i := 3) (u := .int x10) (by decide) (Or.inl (by decide)) g8
  have g14 := dg_ne (i := 3) (u := .int x10) (by decide) (Or.inr rfl) g9
  have g15 := dg_eq (rm_set1 (lv) 2 (.int x3.1)) 3 (.int x10)
  refine dq_iln 2 15 (by decide +kernel) rfl g14 ?_
  refine dq_S (.iconst 1) 1 [] 16 _ [.int 1, .int x3.1] (by decide +kernel) rfl ?_
  rcases di hh with ⟨q16, hh⟩ | ⟨q16, hh⟩
  · refine dq_2 .lt 27 true 43 q16 (by decide +kernel) ?_
    exact c225_43 hD hz  _ _ _  hh
  · refine dq_2 .lt 27 false 19 q16 (by decide +kernel) ?_
    refine dq_iln 2 20 (by decide +kernel) rfl g14 ?_
    refine dq_aln 0 21 (by decide +kernel) rfl g12 ?_
    obtain ⟨x17, q18, hh⟩ := db hh
    refine dq_gI 62 5 [2] 24 (by decide +kernel) rfl q18 ?_
    refine dq_aln 0 25 (by decide +kernel) rfl g12 ?_
    obtain ⟨x19, q20, hh⟩ := db hh
    refine dq_gI 41 10 [2] 28 (by decide +kernel) rfl q20 ?_
    refine dq_S (.isub) 1 [] 29 _ [.int (x17 - x19), .int x3.1] (by decide +kernel) rfl ?_
    rcases di hh with ⟨q21, hh⟩ | ⟨q21, hh⟩
    · refine dq_2 .gt 14 true 43 q21 (by decide +kernel) ?_
      exact c225_43 hD hz  _ _ _  hh
    · refine dq_2 .gt 14 false 32 q21 (by decide +kernel) ?_
      refine dq_iln 3 33 (by decide +kernel) rfl g15 ?_
      refine dq_iln 2 34 (by decide +kernel) rfl g14 ?_
      refine dq_S (.iadd) 1 [] 35 _ [.int (x10 + x3.1)] (by decide +kernel) rfl ?_
      refine dq_aln 0 36 (by decide +kernel) rfl g12 ?_
      obtain ⟨p22, q23, hh⟩ := db hh
      refine dq_gR 9 0 [2] 39 (by decide +kernel) rfl q23 ?_
      obtain ⟨x24, q25, hh⟩ := db hh
      refine dq_aN 40 (by decide +kernel) rfl q25 ?_
      rcases di hh with ⟨q26, hh⟩ | ⟨q26, hh⟩
      · refine dq_2 .le 5 true 45 q26 (by decide +kernel) ?_
        refine dq_aln 0 46 (by decide +kernel) rfl g12 ?_
        refine dq_dup 47 (by decide +kernel) rfl ?_
        obtain ⟨x27, q28, hh⟩ := db hh
        refine dq_gI 41 10 [2] 50 (by decide +kernel) rfl q28 ?_
        refine dq_iln 2 51 (by decide +kernel) rfl g14 ?_
        refine dq_S (.iadd) 1 [] 52 _ [.int (x27 + x3.1), va_rf o0] (by decide +kernel) rfl ?_
        obtain ⟨h29, q30, hh⟩ := db hh
        refine dq_put 41 10 [2] 55 (by decide +kernel) rfl q30 ?_
        refine dq_aln 0 56 (by decide +kernel) rfl g12 ?_
        obtain ⟨p31, q32, hh⟩ := db hh
        refine dq_gR 9 0 [2] 59 (by decide +kernel) rfl q32 ?_
        refine dq_iln 3 60 (by decide +kernel) rfl g15 ?_
        refine dq_aln 1 61 (by decide +kernel) rfl g13 ?_
        obtain ⟨x33, q34, hh⟩ := db hh
        refine dq_gI 219 3 [9] 64 (by decide +kernel) rfl q34 ?_
        obtain ⟨h35, q36, hh⟩ := db hh
        refine dq_sI 65 (by decide +kernel) rfl q36 ?_
        refine dq_iln 3 66 (by decide +kernel) rfl g15 ?_
        refine dq_S (.iconst 1) 1 [] 67 _ [.int 1, .int x10] (by decide +kernel) rfl ?_
        refine dq_S (.iadd) 1 [] 68 _ [.int (x10 + 1)] (by decide +kernel) rfl ?_
        refine dq_is 4 70 (by decide +kernel) (by decide +kernel) ?_
        have g37 := dg_ne (i := 4) (u := .int (x10 + 1)) (by decide) (Or.inl (by decide)) g12
        have g38 := dg_ne (i := 4) (u := .int (x10 + 1)) (by decide) (Or.inl (by decide)) g13
        have g39 := dg_ne (i := 4) (u := .int (x10 + 1)) (by decide) (Or.inl (by decide)) g14
        have g40 := dg_ne (i := 4) (u := .int (x10 + 1)) (by decide) (Or.inr rfl) g15
        have g41 := dg_eq (rm_set1 (rm_set1 (lv) 2 (.int x3.1)) 3 (.int x10)) 4 (.int (x10 + 1))
        exact c225_70 hD hz _ _ _ _ _ _ _ g37 g40 g41 hh
      · refine dq_2 .le 5 false 43 q26 (by decide +kernel) ?_
        exact c225_43 hD hz  _ _ _  hh
def f225 (L : Nat) (xs : Nat → Int32) (zf : Value) (D : dD) (w : Nat) (As : List Value) (h : rm_H) : Option dR := match As with
  | [v0, v1] => (rm_rf v0).bind fun o0 => (rm_rf v1).bind fun o1 => b225_0 L xs zf D w o0 o1 h
  | _ => none
theorem d225 {L : Nat} {xs : Nat → Int32} {zf : Value} {D : dD} {w k : Nat} (hD : dO L xs zf D k) (hz : zf.category = 1) (As : List Value) (h : rm_H) (r : dR) (hh : f225 L xs zf D w As h = some r) : dq L xs zf ah_M225 0 (lv_args 0 As) [] h (k + 1) r := by
  unfold f225 at hh
  split at hh
  · obtain ⟨o0, e0, hb0⟩ := db hh
    have e0 := rm_rf_v _ _ e0
    obtain ⟨o1, e1, hb1⟩ := db hb0
    have e1 := rm_rf_v _ _ e1
    subst e0 e1
    refine c225_0 hD hz _ _ _ _ _ ?_ ?_ hb1
    all_goals (simp only [la_r, la_i, la_j]; rfl)
  · cases hh
def b226_33 (L : Nat) (xs : Nat → Int32) (zf : Value) (D : dD) (w : Nat) (o0 : Option Nat) (o1 : Option Nat) (i2 : Int32) (i3 : Int32) (h : rm_H) : Option dR :=
  (dgR L xs h 2 [2] o0).bind fun p1 =>
  (daR L xs h p1 i3).bind fun p3 =>
  ((dcV L xs D 228 [14] p3 [va_rf o1, .int i2] h).bind dxV).bind fun h5 =>
  (dpF h5 8 [2] o0 (.int (i3 + 1))).bind fun h9 =>
  (dgR L xs h9 2 [2] o0).bind fun p11 =>
  (daR L xs h9 p11 i3).bind fun p13 =>
  some (some (va_rf p13), h9)
theorem c226_33 {L : Nat} {xs : Nat → Int32} {zf : Value} {D : dD} {w k : Nat} (hD : dO L xs zf D k) (hz : zf.category = 1) : ∀ (o0 : Option Nat) (o1 : Option Nat) (i2 : Int32) (i3 : Int32) (lv : rm_L) (h : rm_H) (r : dR), rm_get lv 0 = some (va_rf o0) → rm_get lv 1 = some (va_rf o1) → rm_get lv 2 = some (.int i2) → rm_get lv 3 = some (.int i3) → b226_33 L xs zf D w  o0 o1 i2 i3 h = some r → dq L xs zf ah_M226 33 lv [] h (k + 1) r := by
  intro o0 o1 i2 i3 lv h r G0 G1 G2 G3 hh
  unfold b226_33 at hh
  refine dq_aln 0 34 (by decide +kernel) rfl G0 ?_
  obtain ⟨p1, q2, hh⟩ := db hh
  refine dq_gR 20 2 [2] 37 (by decide +kernel) rfl q2 ?_
  refine dq_iln 3 38 (by decide +kernel) rfl G3 ?_
  obtain ⟨p3, q4, hh⟩ := db hh
  refine dq_aR 39 (by decide +kernel) rfl q4 ?_
  refine dq_aln 1 40 (by decide +kernel) rfl G1 ?_
  refine dq_iln 2 41 (by decide +kernel) rfl G2 ?_
  obtain ⟨h5, q6, hh⟩ := db hh
  obtain ⟨a7, q8, q6⟩ := db q6
  rw [dq_xV q6] at q8
  refine dq_cvi hD 228 228 5 2 [14] p3 [va_rf o1, .int i2] [] 44 [] (by decide +kernel) ap_228 ⟨⟨Nat.le_of_ble_eq_true rfl, by decide⟩, rfl, rfl⟩ (dq_ok8 [1, 1, 1] [] (dc_r (dc_r (dc_i dc_n))) dc_n (by decide +kernel)) (by decide +kernel) rfl q8 rfl ?_
  refine dq_aln 0 45 (by decide +kernel) rfl G0 ?_
  refine dq_iln 3 46 (by decide +kernel) rfl G3 ?_
  refine dq_S (.iconst 1) 1 [] 47 _ [.int 1, .int i3, va_rf o0] (by decide +kernel) rfl ?_
  refine dq_S (.iadd) 1 [] 48 _ [.int (i3 + 1), va_rf o0] (by decide +kernel) rfl ?_
  obtain ⟨h9, q10, hh⟩ := db hh
  refine dq_put 34 8 [2] 51 (by decide +kernel) rfl q10 ?_
  refine dq_aln 0 52 (by decide +kernel) rfl G0 ?_
  obtain ⟨p11, q12, hh⟩ := db hh
  refine dq_gR 20 2 [2] 55 (by decide +kernel) rfl q12 ?_
  refine dq_iln 3 56 (by decide +kernel) rfl G3 ?_
  obtain ⟨p13, q14, hh⟩ := db hh
  refine dq_aR 57 (by decide +kernel) rfl q14 ?_
  cases hh
  exact dq_retR (by decide +kernel) rfl
def b226_0 (L : Nat) (xs : Nat → Int32) (zf : Value) (D : dD) (w : Nat) (o0 : Option Nat) (o1 : Option Nat) (i2 : Int32) (h : rm_H) : Option dR :=
  (dgI L xs h 8 [2] o0).bind fun x1 =>
  ((D 21 [.int x1, .int 11] h).bind dxI).bind fun x3 =>
  (dgR L xs x3.2 2 [2] o0).bind fun p11 =>
  (daR L xs x3.2 p11 x3.1).bind fun p13 =>
  if dnl p13 = true then
    (dgR L xs x3.2 2 [2] o0).bind fun p16 =>
    (some (x3.2 ++ [.inr (14, ah_DV 14)])).bind fun h18 =>
    ((dcN D 227 (some (21 + List.length x3.2)) [.int x3.1] h18).bind dxV).bind fun h20 =>
    (dsR L xs h20 p16 x3.1 (some (21 + List.length x3.2))).bind fun h24 =>
    b226_33 L xs zf D w o0 o1 i2 x3.1 h24
  else
    b226_33 L xs zf D w o0 o1 i2 x3.1 x3.2
theorem c226_0 {L : Nat} {xs : Nat → Int32} {zf : Value} {D : dD} {w k : Nat} (hD : dO L xs zf D k) (hz : zf.category = 1) : ∀ (o0 : Option Nat) (o1 : Option Nat) (i2 : Int32) (lv : rm_L) (h : rm_H) (r : dR), rm_get lv 0 = some (va_rf o0) → rm_get lv 1 = some (va_rf o1) → rm_get lv 2 = some (.int i2) → b226_0 L xs zf D w  o0 o1 i2 h = some r → dq L xs zf ah_M226 0 lv [] h (k + 1) r := by
  intro o0 o1 i2 lv h r G0 G1 G2 hh
  unfold b226_0 at hh
  refine dq_aln 0 1 (by decide +kernel) rfl G0 ?_
  obtain ⟨x1, q2, hh⟩ := db hh
  refine dq_gI 34 8 [2] 4 (by decide +kernel) rfl q2 ?_
  refine dq_S (.bipush 11) 2 [] 6 _ [.int 11, .int x1] (by decide +kernel) rfl ?_
  obtain ⟨x3, q4, hh⟩ := db hh
  obtain ⟨a5, q6, q4⟩ := db q4
  rw [dq_xI q4] at q6
  refine dq_cst hD 220 21 0 2 [.int x1, .int 11] [] 9 [.int x3.1] (by decide +kernel) ap_21 ⟨⟨Nat.le_of_ble_eq_true rfl, by decide⟩, rfl, rfl⟩ (dq_ok8 [1, 1] [] (dc_i (dc_i dc_n)) dc_n (by decide +kernel)) (by decide +kernel) rfl q6 rfl ?_
  refine dq_isn 3 10 (by decide +kernel) (by decide +kernel) ?_
  have g7 := dg_ne (i := 3) (u := .int x3.1) (by decide) (Or.inl (by decide)) G0
  have g8 := dg_ne (i := 3) (u := .int x3.1) (by decide) (Or.inl (by decide)) G1
  have g9 := dg_ne (i := 3) (u := .int x3.1) (by decide) (Or.inr rfl) G2
  have g10 := dg_eq (lv) 3 (.int x3.1)
  refine dq_aln 0 11 (by decide +kernel) rfl g7 ?_
  obtain ⟨p11, q12, hh⟩ := db hh
  refine dq_gR 20 2 [2] 14 (by decide +kernel) rfl q12 ?_
  refine dq_iln 3 15 (by decide +kernel) rfl g10 ?_
  obtain ⟨p13, q14, hh⟩ := db hh
  refine dq_aR 16 (by decide +kernel) rfl q14 ?_
  rcases di hh with ⟨q15, hh⟩ | ⟨q15, hh⟩
  · refine dq_nnull 17 false 19 q15 (by decide +kernel) (by decide +kernel) ?_
    refine dq_aln 0 20 (by decide +kernel) rfl g7 ?_
    obtain ⟨p16, q17, hh⟩ := db hh
    refine dq_gR 20 2 [2] 23 (by decide +kernel) rfl q17 ?_
    refine dq_iln 3 24 (by decide +kernel) rfl g10 ?_
    obtain ⟨h18, q19, hh⟩ := db hh
    refine dq_new 18 14 27 (by decide +kernel) rfl ?_
    rw [Option.some.inj q19]
    refine dq_dup 28 (by decide +kernel) rfl ?_
    refine dq_iln 3 29 (by decide +kernel) rfl g10 ?_
    obtain ⟨h20, q21, hh⟩ := db hh
    obtain ⟨a22, q23, q21⟩ := db q21
    rw [dq_xV q21] at q23
    refine dq_csp hD 226 227 1 [] (some (21 + List.length x3.2)) [.int x3.1] [va_rf (some (21 + List.length x3.2)), .int x3.1, va_rf p16] 32 [va_rf (some (21 + List.length x3.2)), .int x3.1, va_rf p16] (by decide +kernel) ap_227 ⟨Nat.le_of_ble_eq_true rfl, rfl, rfl⟩ (dq_ok8 [1, 1] [1, 1, 1] (dc_r (dc_i dc_n)) (dc_r (dc_i (dc_r dc_n))) (by decide +kernel)) (by decide +kernel) rfl q23 rfl ?_
    obtain ⟨h24, q25, hh⟩ := db hh
    refine dq_sR 33 (by decide +kernel) rfl q25 ?_
    exact c226_33 hD hz _ _ _ _ _ _ _ g7 g8 g9 g10 hh
  · refine dq_nnull 17 true 33 q15 (by decide +kernel) (by decide +kernel) ?_
    exact c226_33 hD hz _ _ _ _ _ _ _ g7 g8 g9 g10 hh
def f226 (L : Nat) (xs : Nat → Int32) (zf : Value) (D : dD) (w : Nat) (As : List Value) (h : rm_H) : Option dR := match As with
  | [v0, v1, .int i2] => (rm_rf v0).bind fun o0 => (rm_rf v1).bind fun o1 => b226_0 L xs zf D w o0 o1 i2 h
  | _ => none
theorem d226 {L : Nat} {xs : Nat → Int32} {zf : Value} {D : dD} {w k : Nat} (hD : dO L xs zf D k) (hz : zf.category = 1) (As : List Value) (h : rm_H) (r : dR) (hh : f226 L xs zf D w As h = some r) : dq L xs zf ah_M226 0 (lv_args 0 As) [] h (k + 1) r := by
  unfold f226 at hh
  split at hh
  · obtain ⟨o0, e0, hb0⟩ := db hh
    have e0 := rm_rf_v _ _ e0
    obtain ⟨o1, e1, hb1⟩ := db hb0
    have e1 := rm_rf_v _ _ e1
    subst e0 e1
    refine c226_0 hD hz _ _ _ _ _ _ ?_ ?_ ?_ hb1
    all_goals (simp only [la_r, la_i, la_j]; rfl)
  · cases hh
def b227_0 (L : Nat) (xs : Nat → Int32) (zf : Value) (D : dD) (w : Nat) (o0 : Option Nat) (i1 : Int32) (h : rm_H) : Option dR :=
  if dnl o0 = true then none else
  (dpF h 0 [14] o0 (.int i1)).bind fun h2 =>
  (dnI 0 10 h2).bind fun h4 =>
  (dpF h4 7 [14] o0 (va_rf (some (21 + List.length h2)))).bind fun h6 =>
  (dnI 0 10 h6).bind fun h8 =>
  (dpF h8 8 [14] o0 (va_rf (some (21 + List.length h6)))).bind fun h10 =>
  (dnI 0 10 h10).bind fun h12 =>
  (dpF h12 9 [14] o0 (va_rf (some (21 + List.length h10)))).bind fun h14 =>
  (dnI 0 42 h14).bind fun h16 =>
  (dpF h16 10 [14] o0 (va_rf (some (21 + List.length h14)))).bind fun h18 =>
  (dnI 0 64 h18).bind fun h20 =>
  (dpF h20 12 [14] o0 (va_rf (some (21 + List.length h18)))).bind fun h22 =>
  some (none, h22)
theorem c227_0 {L : Nat} {xs : Nat → Int32} {zf : Value} {D : dD} {w k : Nat} (hD : dO L xs zf D k) (hz : zf.category = 1) : ∀ (o0 : Option Nat) (i1 : Int32) (lv : rm_L) (h : rm_H) (r : dR), rm_get lv 0 = some (va_rf o0) → rm_get lv 1 = some (.int i1) → b227_0 L xs zf D w  o0 i1 h = some r → dq L xs zf ah_M227 0 lv [] h (k + 1) r := by
  intro o0 i1 lv h r G0 G1 hh
  unfold b227_0 at hh
  refine dq_aln 0 1 (by decide +kernel) rfl G0 ?_
  rcases di hh with ⟨_, hh⟩ | ⟨q1, hh⟩
  · cases hh
  refine dq_obj 3 4 (by decide +kernel) (dc_s dc_n (by decide +kernel)) rfl q1 ?_
  refine dq_aln 0 5 (by decide +kernel) rfl G0 ?_
  refine dq_iln 1 6 (by decide +kernel) rfl G1 ?_
  obtain ⟨h2, q3, hh⟩ := db hh
  refine dq_put 9 0 [14] 9 (by decide +kernel) rfl q3 ?_
  refine dq_aln 0 10 (by decide +kernel) rfl G0 ?_
  refine dq_S (.bipush 10) 2 [] 12 _ [.int 10, va_rf o0] (by decide +kernel) rfl ?_
  obtain ⟨h4, q5, hh⟩ := db hh
  refine dq_nI .int 0 14 ⟨Or.inl rfl, rfl⟩ (by decide +kernel) rfl q5 ?_
  obtain ⟨h6, q7, hh⟩ := db hh
  refine dq_put 15 7 [14] 17 (by decide +kernel) rfl q7 ?_
  refine dq_aln 0 18 (by decide +kernel) rfl G0 ?_
  refine dq_S (.bipush 10) 2 [] 20 _ [.int 10, va_rf o0] (by decide +kernel) rfl ?_
  obtain ⟨h8, q9, hh⟩ := db hh
  refine dq_nI .int 0 22 ⟨Or.inl rfl, rfl⟩ (by decide +kernel) rfl q9 ?_
  obtain ⟨h10, q11, hh⟩ := db hh
  refine dq_put 19 8 [14] 25 (by decide +kernel) rfl q11 ?_
  refine dq_aln 0 26 (by decide +kernel) rfl G0 ?_
  refine dq_S (.bipush 10) 2 [] 28 _ [.int 10, va_rf o0] (by decide +kernel) rfl ?_
  obtain ⟨h12, q13, hh⟩ := db hh
  refine dq_nI .int 0 30 ⟨Or.inl rfl, rfl⟩ (by decide +kernel) rfl q13 ?_
  obtain ⟨h14, q15, hh⟩ := db hh
  refine dq_put 22 9 [14] 33 (by decide +kernel) rfl q15 ?_
  refine dq_aln 0 34 (by decide +kernel) rfl G0 ?_
  refine dq_S (.bipush 42) 2 [] 36 _ [.int 42, va_rf o0] (by decide +kernel) rfl ?_
  obtain ⟨h16, q17, hh⟩ := db hh
  refine dq_nI .int 0 38 ⟨Or.inl rfl, rfl⟩ (by decide +kernel) rfl q17 ?_
  obtain ⟨h18, q19, hh⟩ := db hh
  refine dq_put 25 10 [14] 41 (by decide +kernel) rfl q19 ?_
  refine dq_aln 0 42 (by decide +kernel) rfl G0 ?_
  refine dq_S (.bipush 64) 2 [] 44 _ [.int 64, va_rf o0] (by decide +kernel) rfl ?_
  obtain ⟨h20, q21, hh⟩ := db hh
  refine dq_nI .int 0 46 ⟨Or.inl rfl, rfl⟩ (by decide +kernel) rfl q21 ?_
  obtain ⟨h22, q23, hh⟩ := db hh
  refine dq_put 28 12 [14] 49 (by decide +kernel) rfl q23 ?_
  cases hh
  exact dq_ret0 (by decide +kernel) rfl
def f227 (L : Nat) (xs : Nat → Int32) (zf : Value) (D : dD) (w : Nat) (As : List Value) (h : rm_H) : Option dR := match As with
  | [v0, .int i1] => (rm_rf v0).bind fun o0 => b227_0 L xs zf D w o0 i1 h
  | _ => none
theorem d227 {L : Nat} {xs : Nat → Int32} {zf : Value} {D : dD} {w k : Nat} (hD : dO L xs zf D k) (hz : zf.category = 1) (As : List Value) (h : rm_H) (r : dR) (hh : f227 L xs zf D w As h = some r) : dq L xs zf ah_M227 0 (lv_args 0 As) [] h (k + 1) r := by
  unfold f227 at hh
  split at hh
  · obtain ⟨o0, e0, hb0⟩ := db hh
    have e0 := rm_rf_v _ _ e0
    subst e0
    refine c227_0 hD hz _ _ _ _ _ ?_ ?_ hb0
    all_goals (simp only [la_r, la_i, la_j]; rfl)
  · cases hh
def b228_0 (L : Nat) (xs : Nat → Int32) (zf : Value) (D : dD) (w : Nat) (o0 : Option Nat) (o1 : Option Nat) (i2 : Int32) (h : rm_H) : Option dR :=
  (dpF h 1 [14] o0 (va_rf o1)).bind fun h1 =>
  (dpF h1 2 [14] o0 (.int i2)).bind fun h3 =>
  (dpF h3 4 [14] o0 (.int 0)).bind fun h5 =>
  (dpF h5 5 [14] o0 (.int 0)).bind fun h7 =>
  (dpF h7 6 [14] o0 (.int 0)).bind fun h9 =>
  (dpF h9 11 [14] o0 (.int 0)).bind fun h11 =>
  ((dcV L xs D 229 [14] o0 [] h11).bind dxV).bind fun h13 =>
  some (none, h13)
theorem c228_0 {L : Nat} {xs : Nat → Int32} {zf : Value} {D : dD} {w k : Nat} (hD : dO L xs zf D k) (hz : zf.category = 1) : ∀ (o0 : Option Nat) (o1 : Option Nat) (i2 : Int32) (lv : rm_L) (h : rm_H) (r : dR), rm_get lv 0 = some (va_rf o0) → rm_get lv 1 = some (va_rf o1) → rm_get lv 2 = some (.int i2) → b228_0 L xs zf D w  o0 o1 i2 h = some r → dq L xs zf ah_M228 0 lv [] h (k + 1) r := by
  intro o0 o1 i2 lv h r G0 G1 G2 hh
  unfold b228_0 at hh
  refine dq_aln 0 1 (by decide +kernel) rfl G0 ?_
  refine dq_aln 1 2 (by decide +kernel) rfl G1 ?_
  obtain ⟨h1, q2, hh⟩ := db hh
  refine dq_put 31 1 [14] 5 (by decide +kernel) rfl q2 ?_
  refine dq_aln 0 6 (by decide +kernel) rfl G0 ?_
  refine dq_iln 2 7 (by decide +kernel) rfl G2 ?_
  obtain ⟨h3, q4, hh⟩ := db hh
  refine dq_put 35 2 [14] 10 (by decide +kernel) rfl q4 ?_
  refine dq_aln 0 11 (by decide +kernel) rfl G0 ?_
  refine dq_S (.iconst 0) 1 [] 12 _ [.int 0, va_rf o0] (by decide +kernel) rfl ?_
  obtain ⟨h5, q6, hh⟩ := db hh
  refine dq_put 38 4 [14] 15 (by decide +kernel) rfl q6 ?_
  refine dq_aln 0 16 (by decide +kernel) rfl G0 ?_
  refine dq_S (.iconst 0) 1 [] 17 _ [.int 0, va_rf o0] (by decide +kernel) rfl ?_
  obtain ⟨h7, q8, hh⟩ := db hh
  refine dq_put 41 5 [14] 20 (by decide +kernel) rfl q8 ?_
  refine dq_aln 0 21 (by decide +kernel) rfl G0 ?_
  refine dq_S (.iconst 0) 1 [] 22 _ [.int 0, va_rf o0] (by decide +kernel) rfl ?_
  obtain ⟨h9, q10, hh⟩ := db hh
  refine dq_put 44 6 [14] 25 (by decide +kernel) rfl q10 ?_
  refine dq_aln 0 26 (by decide +kernel) rfl G0 ?_
  refine dq_S (.iconst 0) 1 [] 27 _ [.int 0, va_rf o0] (by decide +kernel) rfl ?_
  obtain ⟨h11, q12, hh⟩ := db hh
  refine dq_put 47 11 [14] 30 (by decide +kernel) rfl q12 ?_
  refine dq_aln 0 31 (by decide +kernel) rfl G0 ?_
  obtain ⟨h13, q14, hh⟩ := db hh
  obtain ⟨a15, q16, q14⟩ := db q14
  rw [dq_xV q14] at q16
  refine dq_cvi hD 50 229 5 0 [14] o0 [] [] 34 [] (by decide +kernel) ap_229 ⟨⟨Nat.le_of_ble_eq_true rfl, by decide⟩, rfl, rfl⟩ (dq_ok8 [1] [] (dc_r dc_n) dc_n (by decide +kernel)) (by decide +kernel) rfl q16 rfl ?_
  cases hh
  exact dq_ret0 (by decide +kernel) rfl
def f228 (L : Nat) (xs : Nat → Int32) (zf : Value) (D : dD) (w : Nat) (As : List Value) (h : rm_H) : Option dR := match As with
  | [v0, v1, .int i2] => (rm_rf v0).bind fun o0 => (rm_rf v1).bind fun o1 => b228_0 L xs zf D w o0 o1 i2 h
  | _ => none
theorem d228 {L : Nat} {xs : Nat → Int32} {zf : Value} {D : dD} {w k : Nat} (hD : dO L xs zf D k) (hz : zf.category = 1) (As : List Value) (h : rm_H) (r : dR) (hh : f228 L xs zf D w As h = some r) : dq L xs zf ah_M228 0 (lv_args 0 As) [] h (k + 1) r := by
  unfold f228 at hh
  split at hh
  · obtain ⟨o0, e0, hb0⟩ := db hh
    have e0 := rm_rf_v _ _ e0
    obtain ⟨o1, e1, hb1⟩ := db hb0
    have e1 := rm_rf_v _ _ e1
    subst e0 e1
    refine c228_0 hD hz _ _ _ _ _ _ ?_ ?_ ?_ hb1
    all_goals (simp only [la_r, la_i, la_j]; rfl)
  · cases hh
def b229_0 (L : Nat) (xs : Nat → Int32) (zf : Value) (D : dD) (w : Nat) (o0 : Option Nat) (h : rm_H) : Option dR :=
  (dpF h 3 [14] o0 (.int 0)).bind fun h1 =>
  (dpF h1 13 [14] o0 (.int 0)).bind fun h3 =>
  some (none, h3)
theorem c229_0 {L : Nat} {xs : Nat → Int32} {zf : Value} {D : dD} {w k : Nat} (hD : dO L xs zf D k) (hz : zf.category = 1) : ∀ (o0 : Option Nat) (lv : rm_L) (h : rm_H) (r : dR), rm_get lv 0 = some (va_rf o0) → b229_0 L xs zf D w  o0 h = some r → dq L xs zf ah_M229 0 lv [] h (k + 1) r := by
  intro o0 lv h r G0 hh
  unfold b229_0 at hh
  refine dq_aln 0 1 (by decide +kernel) rfl G0 ?_
  refine dq_S (.iconst 0) 1 [] 2 _ [.int 0, va_rf o0] (by decide +kernel) rfl ?_
  obtain ⟨h1, q2, hh⟩ := db hh
  refine dq_put 53 3 [14] 5 (by decide +kernel) rfl q2 ?_
  refine dq_aln 0 6 (by decide +kernel) rfl G0 ?_
  refine dq_S (.iconst 0) 1 [] 7 _ [.int 0, va_rf o0] (by decide +kernel) rfl ?_
  obtain ⟨h3, q4, hh⟩ := db hh
  refine dq_put 56 13 [14] 10 (by decide +kernel) rfl q4 ?_
  cases hh
  exact dq_ret0 (by decide +kernel) rfl
def f229 (L : Nat) (xs : Nat → Int32) (zf : Value) (D : dD) (w : Nat) (As : List Value) (h : rm_H) : Option dR := match As with
  | [v0] => (rm_rf v0).bind fun o0 => b229_0 L xs zf D w o0 h
  | _ => none
theorem d229 {L : Nat} {xs : Nat → Int32} {zf : Value} {D : dD} {w k : Nat} (hD : dO L xs zf D k) (hz : zf.category = 1) (As : List Value) (h : rm_H) (r : dR) (hh : f229 L xs zf D w As h = some r) : dq L xs zf ah_M229 0 (lv_args 0 As) [] h (k + 1) r := by
  unfold f229 at hh
  split at hh
  · obtain ⟨o0, e0, hb0⟩ := db hh
    have e0 := rm_rf_v _ _ e0
    subst e0
    refine c229_0 hD hz _ _ _ _ ?_ hb0
    all_goals (simp only [la_r, la_i, la_j]; rfl)
  · cases hh
def b230_20 (L : Nat) (xs : Nat → Int32) (zf : Value) (D : dD) (w : Nat) (h : rm_H) : Option dR :=
  some (none, h)
theorem c230_20 {L : Nat} {xs : Nat → Int32} {zf : Value} {D : dD} {w k : Nat} (hD : dO L xs zf D k) (hz : zf.category = 1) : ∀ (lv : rm_L) (h : rm_H) (r : dR), b230_20 L xs zf D w  h = some r → dq L xs zf ah_M230 20 lv [] h (k + 1) r := by
  intro lv h r hh
  unfold b230_20 at hh
  cases hh
  exact dq_ret0 (by decide +kernel) rfl
def b230_0 (L : Nat) (xs : Nat → Int32) (zf : Value) (D : dD) (w : Nat) (o0 : Option Nat) (o1 : Option Nat) (o2 : Option Nat) (o3 : Option Nat) (h : rm_H) : Option dR :=
  if dnl o2 = true then
    b230_20 L xs zf D w h
  else
    ((dcV L xs D 231 [14] o1 [va_rf o2, va_rf o3] h).bind dxV).bind fun h2 =>
    (dgI L xs h2 13 [2] o0).bind fun x6 =>
    (dpF h2 13 [2] o0 (.int (x6 + 1))).bind fun h8 =>
    b230_20 L xs zf D w h8
theorem c230_0 {L : Nat} {xs : Nat → Int32} {zf : Value} {D : dD} {w k : Nat} (hD : dO L xs zf D k) (hz : zf.category = 1) : ∀ (o0 : Option Nat) (o1 : Option Nat) (o2 : Option Nat) (o3 : Option Nat) (lv : rm_L) (h : rm_H) (r : dR), rm_get lv 0 = some (va_rf o0) → rm_get lv 1 = some (va_rf o1) → rm_get lv 2 = some (va_rf o2) → rm_get lv 3 = some (va_rf o3) → b230_0 L xs zf D w  o0 o1 o2 o3 h = some r → dq L xs zf ah_M230 0 lv [] h (k + 1) r := by
  intro o0 o1 o2 o3 lv h r G0 G1 G2 G3 hh
  unfold b230_0 at hh
  refine dq_aln 2 1 (by decide +kernel) rfl G2 ?_
  rcases di hh with ⟨q1, hh⟩ | ⟨q1, hh⟩
  · refine dq_null 19 true 20 q1 (by decide +kernel) (by decide +kernel) ?_
    exact c230_20 hD hz  _ _ _  hh
  · refine dq_null 19 false 4 q1 (by decide +kernel) (by decide +kernel) ?_
    refine dq_aln 1 5 (by decide +kernel) rfl G1 ?_
    refine dq_aln 2 6 (by decide +kernel) rfl G2 ?_
    refine dq_aln 3 7 (by decide +kernel) rfl G3 ?_
    obtain ⟨h2, q3, hh⟩ := db hh
    obtain ⟨a4, q5, q3⟩ := db q3
    rw [dq_xV q3] at q5
    refine dq_cvi hD 207 231 5 2 [14] o1 [va_rf o2, va_rf o3] [] 10 [] (by decide +kernel) ap_231 ⟨⟨Nat.le_of_ble_eq_true rfl, by decide⟩, rfl, rfl⟩ (dq_ok8 [1, 1, 1] [] (dc_r (dc_r (dc_r dc_n))) dc_n (by decide +kernel)) (by decide +kernel) rfl q5 rfl ?_
    refine dq_aln 0 11 (by decide +kernel) rfl G0 ?_
    refine dq_dup 12 (by decide +kernel) rfl ?_
    obtain ⟨x6, q7, hh⟩ := db hh
    refine dq_gI 50 13 [2] 15 (by decide +kernel) rfl q7 ?_
    refine dq_S (.iconst 1) 1 [] 16 _ [.int 1, .int x6, va_rf o0] (by decide +kernel) rfl ?_
    refine dq_S (.iadd) 1 [] 17 _ [.int (x6 + 1), va_rf o0] (by decide +kernel) rfl ?_
    obtain ⟨h8, q9, hh⟩ := db hh
    refine dq_put 50 13 [2] 20 (by decide +kernel) rfl q9 ?_
    exact c230_20 hD hz  _ _ _  hh
def f230 (L : Nat) (xs : Nat → Int32) (zf : Value) (D : dD) (w : Nat) (As : List Value) (h : rm_H) : Option dR := match As with
  | [v0, v1, v2, v3] => (rm_rf v0).bind fun o0 => (rm_rf v1).bind fun o1 => (rm_rf v2).bind fun o2 => (rm_rf v3).bind fun o3 => b230_0 L xs zf D w o0 o1 o2 o3 h
  | _ => none
theorem d230 {L : Nat} {xs : Nat → Int32} {zf : Value} {D : dD} {w k : Nat} (hD : dO L xs zf D k) (hz : zf.category = 1) (As : List Value) (h : rm_H) (r : dR) (hh : f230 L xs zf D w As h = some r) : dq L xs zf ah_M230 0 (lv_args 0 As) [] h (k + 1) r := by
  unfold f230 at hh
  split at hh
  · obtain ⟨o0, e0, hb0⟩ := db hh
    have e0 := rm_rf_v _ _ e0
    obtain ⟨o1, e1, hb1⟩ := db hb0
    have e1 := rm_rf_v _ _ e1
    obtain ⟨o2, e2, hb2⟩ := db hb1
    have e2 := rm_rf_v _ _ e2
    obtain ⟨o3, e3, hb3⟩ := db hb2
    have e3 := rm_rf_v _ _ e3
    subst e0 e1 e2 e3
    refine c230_0 hD hz _ _ _ _ _ _ _ ?_ ?_ ?_ ?_ hb3
    all_goals (simp only [la_r, la_i, la_j]; rfl)
  · cases hh
def b231_35 (L : Nat) (xs : Nat → Int32) (zf : Value) (D : dD) (w : Nat) : Nat → Option Nat → Option Nat → Int32 → Int32 → rm_H → Option dR
  | 0, _, _, _, _, _ => none
  | n + 1, o0, o2, i3, i4, h =>
    if mx_f1 .le i4 = true then
      (dgI L xs h 4 [14] o0).bind fun x2 =>
      ((D 21 [.int (x2 + 1), .int 6] h).bind dxI).bind fun x4 =>
      (dpF x4.2 4 [14] o0 (.int x4.1)).bind fun h8 =>
      some (none, h8)
    else
      (dgR L xs h 10 [14] o0).bind fun p10 =>
      ((dcV L xs D 234 [14] o2 [] h).bind dxI).bind fun x12 =>
      (dsI x12.2 p10 (i3 + i4) x12.1).bind fun h16 =>
      b231_35 L xs zf D w n o0 o2 i3 (i4 + (-1)) h16
theorem c231_35 {L : Nat} {xs : Nat → Int32} {zf : Value} {D : dD} {w k : Nat} (hD : dO L xs zf D k) (hz : zf.category = 1) : ∀ (n : Nat) (o0 : Option Nat) (o2 : Option Nat) (i3 : Int32) (i4 : Int32) (lv : rm_L) (h : rm_H) (r : dR), rm_get lv 0 = some (va_rf o0) → rm_get lv 2 = some (va_rf o2) → rm_get lv 3 = some (.int i3) → rm_get lv 4 = some (.int i4) → b231_35 L xs zf D w n  o0 o2 i3 i4 h = some r → dq L xs zf ah_M231 35 lv [] h (k + 1) r := by
  intro n
  induction n with
  | zero =>
    intro o0 o2 i3 i4 lv h r G0 G2 G3 G4 hh
    cases hh
  | succ n ih =>
    intro o0 o2 i3 i4 lv h r G0 G2 G3 G4 hh
    rw [b231_35] at hh
    refine dq_il 4 37 (by decide +kernel) rfl G4 ?_
    rcases di hh with ⟨q1, hh⟩ | ⟨q1, hh⟩
    · refine dq_1 .le 22 true 59 q1 (by decide +kernel) ?_
      refine dq_aln 0 60 (by decide +kernel) rfl G0 ?_
      refine dq_aln 0 61 (by decide +kernel) rfl G0 ?_
      obtain ⟨x2, q3, hh⟩ := db hh
      refine dq_gI 38 4 [14] 64 (by decide +kernel) rfl q3 ?_
      refine dq_S (.iconst 1) 1 [] 65 _ [.int 1, .int x2, va_rf o0] (by decide +kernel) rfl ?_
      refine dq_S (.iadd) 1 [] 66 _ [.int (x2 + 1), va_rf o0] (by decide +kernel) rfl ?_
      refine dq_S (.bipush 6) 2 [] 68 _ [.int 6, .int (x2 + 1), va_rf o0] (by decide +kernel) rfl ?_
      obtain ⟨x4, q5, hh⟩ := db hh
      obtain ⟨a6, q7, q5⟩ := db q5
      rw [dq_xI q5] at q7
      refine dq_cst hD 65 21 0 2 [.int (x2 + 1), .int 6] [va_rf o0] 71 [.int x4.1, va_rf o0] (by decide +kernel) ap_21 ⟨⟨Nat.le_of_ble_eq_true rfl, by decide⟩, rfl, rfl⟩ (dq_ok8 [1, 1] [1] (dc_i (dc_i dc_n)) (dc_r dc_n) (by decide +kernel)) (by decide +kernel) rfl q7 rfl ?_
      obtain ⟨h8, q9, hh⟩ := db hh
      refine dq_put 38 4 [14] 74 (by decide +kernel) rfl q9 ?_
      cases hh
      exact dq_ret0 (by decide +kernel) rfl
    · refine dq_1 .le 22 false 40 q1 (by decide +kernel) ?_
      refine dq_aln 0 41 (by decide +kernel) rfl G0 ?_
      obtain ⟨p10, q11, hh⟩ := db hh
      refine dq_gR 25 10 [14] 44 (by decide +kernel) rfl q11 ?_
      refine dq_iln 3 45 (by decide +kernel) rfl G3 ?_
      refine dq_il 4 47 (by decide +kernel) rfl G4 ?_
      refine dq_S (.iadd) 1 [] 48 _ [.int (i3 + i4), va_rf p10] (by decide +kernel) rfl ?_
      refine dq_aln 2 49 (by decide +kernel) rfl G2 ?_
      obtain ⟨x12, q13, hh⟩ := db hh
      obtain ⟨a14, q15, q13⟩ := db q13
      rw [dq_xI q13] at q15
      refine dq_cvi hD 104 234 5 0 [14] o2 [] [.int (i3 + i4), va_rf p10] 52 [.int x12.1, .int (i3 + i4), va_rf p10] (by decide +kernel) ap_234 ⟨⟨Nat.le_of_ble_eq_true rfl, by decide⟩, rfl, rfl⟩ (dq_ok8 [1] [1, 1] (dc_r dc_n) (dc_i (dc_r dc_n)) (by decide +kernel)) (by decide +kernel) rfl q15 rfl ?_
      obtain ⟨h16, q17, hh⟩ := db hh
      refine dq_sI 53 (by decide +kernel) rfl q17 ?_
      refine dq_incy 4 (-1) (-1) 56 (by decide +kernel) ⟨rfl, by decide +kernel, by decide +kernel⟩ G4 ?_
      have g18 := dg_ne (i := 4) (u := .int (i4 + (-1))) (by decide) (Or.inl (by decide)) G0
      have g19 := dg_ne (i := 4) (u := .int (i4 + (-1))) (by decide) (Or.inl (by decide)) G2
      have g20 := dg_ne (i := 4) (u := .int (i4 + (-1))) (by decide) (Or.inr rfl) G3
      have g21 := dg_eq (lv) 4 (.int (i4 + (-1)))
      refine dq_S (.goto (-21)) 3 [] 35 _ [] (by decide +kernel) rfl ?_
      exact ih _ _ _ _ _ _ _ g18 g19 g20 g21 hh
def b231_0 (L : Nat) (xs : Nat → Int32) (zf : Value) (D : dD) (w : Nat) (o0 : Option Nat) (o1 : Option Nat) (o2 : Option Nat) (h : rm_H) : Option dR :=
  (dgI L xs h 4 [14] o0).bind fun x1 =>
  ((dcV L xs D 232 [14] o0 [.int x1] h).bind dxI).bind fun x3 =>
  (dgR L xs x3.2 10 [14] o0).bind fun p11 =>
  (dgI L xs x3.2 2 [11] o1).bind fun x13 =>
  (dsI x3.2 p11 x3.1 x13).bind fun h15 =>
  (dgR L xs h15 5 [11] o1).bind fun p17 =>
  ((dcV L xs D 101 [5] p17 [] h15).bind dxI).bind fun x19 =>
  ((D 21 [.int x19.1, .int 6] x19.2).bind dxI).bind fun x23 =>
  b231_35 L xs zf D w w o0 o2 x3.1 x23.1 x23.2
theorem c231_0 {L : Nat} {xs : Nat → Int32} {zf : Value} {D : dD} {w k : Nat} (hD : dO L xs zf D k) (hz : zf.category = 1) : ∀ (o0 : Option Nat) (o1 : Option Nat) (o2 : Option Nat) (lv : rm_L) (h : rm_H) (r : dR), rm_get lv 0 = some (va_rf o0) → rm_get lv 1 = some (va_rf o1) → rm_get lv 2 = some (va_rf o2) → b231_0 L xs zf D w  o0 o1 o2 h = some r → dq L xs zf ah_M231 0 lv [] h (k + 1) r := by
  intro o0 o1 o2 lv h r G0 G1 G2 hh
  unfold b231_0 at hh
  refine dq_aln 0 1 (by decide +kernel) rfl G0 ?_
  refine dq_aln 0 2 (by decide +kernel) rfl G0 ?_
  obtain ⟨x1, q2, hh⟩ := db hh
  refine dq_gI 38 4 [14] 5 (by decide +kernel) rfl q2 ?_
  obtain ⟨x3, q4, hh⟩ := db hh
  obtain ⟨a5, q6, q4⟩ := db q4
  rw [dq_xI q4] at q6
  refine dq_cvi hD 99 232 5 1 [14] o0 [.int x1] [] 8 [.int x3.1] (by decide +kernel) ap_232 ⟨⟨Nat.le_of_ble_eq_true rfl, by decide⟩, rfl, rfl⟩ (dq_ok8 [1, 1] [] (dc_r (dc_i dc_n)) dc_n (by decide +kernel)) (by decide +kernel) rfl q6 rfl ?_
  refine dq_isn 3 9 (by decide +kernel) (by decide +kernel) ?_
  have g7 := dg_ne (i := 3) (u := .int x3.1) (by decide) (Or.inl (by decide)) G0
  have g8 := dg_ne (i := 3) (u := .int x3.1) (by decide) (Or.inl (by decide)) G1
  have g9 := dg_ne (i := 3) (u := .int x3.1) (by decide) (Or.inr (drc _)) G2
  have g10 := dg_eq (lv) 3 (.int x3.1)
  refine dq_aln 0 10 (by decide +kernel) rfl g7 ?_
  obtain ⟨p11, q12, hh⟩ := db hh
  refine dq_gR 25 10 [14] 13 (by decide +kernel) rfl q12 ?_
  refine dq_iln 3 14 (by decide +kernel) rfl g10 ?_
  refine dq_aln 1 15 (by decide +kernel) rfl g8 ?_
  obtain ⟨x13, q14, hh⟩ := db hh
  refine dq_gI 103 2 [11] 18 (by decide +kernel) rfl q14 ?_
  obtain ⟨h15, q16, hh⟩ := db hh
  refine dq_sI 19 (by decide +kernel) rfl q16 ?_
  refine dq_aln 1 20 (by decide +kernel) rfl g8 ?_
  obtain ⟨p17, q18, hh⟩ := db hh
  refine dq_gR 78 5 [11] 23 (by decide +kernel) rfl q18 ?_
  obtain ⟨x19, q20, hh⟩ := db hh
  obtain ⟨a21, q22, q20⟩ := db q20
  rw [dq_xI q20] at q22
  refine dq_cif hD 84 1 101 7 0 [5] p17 [] [] 28 [.int x19.1] (by decide +kernel) ap_101 ⟨⟨Nat.le_of_ble_eq_true rfl, by decide⟩, rfl, rfl⟩ (dq_ok8 [1] [] (dc_r dc_n) dc_n (by decide +kernel)) (by decide +kernel) rfl q22 rfl ?_
  refine dq_S (.bipush 6) 2 [] 30 _ [.int 6, .int x19.1] (by decide +kernel) rfl ?_
  obtain ⟨x23, q24, hh⟩ := db hh
  obtain ⟨a25, q26, q24⟩ := db q24
  rw [dq_xI q24] at q26
  refine dq_cst hD 65 21 0 2 [.int x19.1, .int 6] [] 33 [.int x23.1] (by decide +kernel) ap_21 ⟨⟨Nat.le_of_ble_eq_true rfl, by decide⟩, rfl, rfl⟩ (dq_ok8 [1, 1] [] (dc_i (dc_i dc_n)) dc_n (by decide +kernel)) (by decide +kernel) rfl q26 rfl ?_
  refine dq_is 4 35 (by decide +kernel) (by decide +kernel) ?_
  have g27 := dg_ne (i := 4) (u := .int x23.1) (by decide) (Or.inl (by decide)) g7
  have g28 := dg_ne (i := 4) (u := .int x23.1) (by decide) (Or.inl (by decide)) g8
  have g29 := dg_ne (i := 4) (u := .int x23.1) (by decide) (Or.inl (by decide)) g9
  have g30 := dg_ne (i := 4) (u := .int x23.1) (by decide) (Or.inr rfl) g10
  have g31 := dg_eq (rm_set1 (lv) 3 (.int x3.1)) 4 (.int x23.1)
  exact c231_35 hD hz _ _ _ _ _ _ _ _ g27 g29 g30 g31 hh
def f231 (L : Nat) (xs : Nat → Int32) (zf : Value) (D : dD) (w : Nat) (As : List Value) (h : rm_H) : Option dR := match As with
  | [v0, v1, v2] => (rm_rf v0).bind fun o0 => (rm_rf v1).bind fun o1 => (rm_rf v2).bind fun o2 => b231_0 L xs zf D w o0 o1 o2 h
  | _ => none
theorem d231 {L : Nat} {xs : Nat → Int32} {zf : Value} {D : dD} {w k : Nat} (hD : dO L xs zf D k) (hz : zf.category = 1) (As : List Value) (h : rm_H) (r : dR) (hh : f231 L xs zf D w As h = some r) : dq L xs zf ah_M231 0 (lv_args 0 As) [] h (k + 1) r := by
  unfold f231 at hh
  split at hh
  · obtain ⟨o0, e0, hb0⟩ := db hh
    have e0 := rm_rf_v _ _ e0
    obtain ⟨o1, e1, hb1⟩ := db hb0
    have e1 := rm_rf_v _ _ e1
    obtain ⟨o2, e2, hb2⟩ := db hb1
    have e2 := rm_rf_v _ _ e2
    subst e0 e1 e2
    refine c231_0 hD hz _ _ _ _ _ _ ?_ ?_ ?_ hb2
    all_goals (simp only [la_r, la_i, la_j]; rfl)
  · cases hh
def b232_0 (L : Nat) (xs : Nat → Int32) (zf : Value) (D : dD) (w : Nat) (o0 : Option Nat) (i1 : Int32) (h : rm_H) : Option dR :=
  (dgI L xs h 11 [14] o0).bind fun x1 =>
  ((D 233 [.int (x1 + i1), .int 6] h).bind dxI).bind fun x3 =>
  drI (some .int) (x3.1 * 7) x3.2
theorem c232_0 {L : Nat} {xs : Nat → Int32} {zf : Value} {D : dD} {w k : Nat} (hD : dO L xs zf D k) (hz : zf.category = 1) : ∀ (o0 : Option Nat) (i1 : Int32) (lv : rm_L) (h : rm_H) (r : dR), rm_get lv 0 = some (va_rf o0) → rm_get lv 1 = some (.int i1) → b232_0 L xs zf D w  o0 i1 h = some r → dq L xs zf ah_M232 0 lv [] h (k + 1) r := by
  intro o0 i1 lv h r G0 G1 hh
  unfold b232_0 at hh
  refine dq_aln 0 1 (by decide +kernel) rfl G0 ?_
  obtain ⟨x1, q2, hh⟩ := db hh
  refine dq_gI 47 11 [14] 4 (by decide +kernel) rfl q2 ?_
  refine dq_iln 1 5 (by decide +kernel) rfl G1 ?_
  refine dq_S (.iadd) 1 [] 6 _ [.int (x1 + i1)] (by decide +kernel) rfl ?_
  refine dq_S (.bipush 6) 2 [] 8 _ [.int 6, .int (x1 + i1)] (by decide +kernel) rfl ?_
  obtain ⟨x3, q4, hh⟩ := db hh
  obtain ⟨a5, q6, q4⟩ := db q4
  rw [dq_xI q4] at q6
  refine dq_cst hD 110 233 0 2 [.int (x1 + i1), .int 6] [] 11 [.int x3.1] (by decide +kernel) ap_233 ⟨⟨Nat.le_of_ble_eq_true rfl, by decide⟩, rfl, rfl⟩ (dq_ok8 [1, 1] [] (dc_i (dc_i dc_n)) dc_n (by decide +kernel)) (by decide +kernel) rfl q6 rfl ?_
  refine dq_S (.bipush 7) 2 [] 13 _ [.int 7, .int x3.1] (by decide +kernel) rfl ?_
  refine dq_S (.imul) 1 [] 14 _ [.int (x3.1 * 7)] (by decide +kernel) rfl ?_
  exact dq_retI (some .int) (by decide +kernel) rfl hh
def f232 (L : Nat) (xs : Nat → Int32) (zf : Value) (D : dD) (w : Nat) (As : List Value) (h : rm_H) : Option dR := match As with
  | [v0, .int i1] => (rm_rf v0).bind fun o0 => b232_0 L xs zf D w o0 i1 h
  | _ => none
theorem d232 {L : Nat} {xs : Nat → Int32} {zf : Value} {D : dD} {w k : Nat} (hD : dO L xs zf D k) (hz : zf.category = 1) (As : List Value) (h : rm_H) (r : dR) (hh : f232 L xs zf D w As h = some r) : dq L xs zf ah_M232 0 (lv_args 0 As) [] h (k + 1) r := by
  unfold f232 at hh
  split at hh
  · obtain ⟨o0, e0, hb0⟩ := db hh
    have e0 := rm_rf_v _ _ e0
    subst e0
    refine c232_0 hD hz _ _ _ _ _ ?_ ?_ hb0
    all_goals (simp only [la_r, la_i, la_j]; rfl)
  · cases hh
def b233_18 (L : Nat) (xs : Nat → Int32) (zf : Value) (D : dD) (w : Nat) (i2 : Int32) (h : rm_H) : Option dR :=
  drI (some .int) i2 h
theorem c233_18 {L : Nat} {xs : Nat → Int32} {zf : Value} {D : dD} {w k : Nat} (hD : dO L xs zf D k) (hz : zf.category = 1) : ∀ (i2 : Int32) (lv : rm_L) (h : rm_H) (r : dR), rm_get lv 2 = some (.int i2) → b233_18 L xs zf D w  i2 h = some r → dq L xs zf ah_M233 18 lv [] h (k + 1) r := by
  intro i2 lv h r G2 hh
  unfold b233_18 at hh
  refine dq_iln 2 19 (by decide +kernel) rfl G2 ?_
  exact dq_retI (some .int) (by decide +kernel) rfl hh
def b233_0 (L : Nat) (xs : Nat → Int32) (zf : Value) (D : dD) (w : Nat) (i0 : Int32) (i1 : Int32) (h : rm_H) : Option dR :=
  if (i1 : Int32) = 0 then none else
  if mx_f1 .ge (i0 ^^^ i1) = true then
    b233_18 L xs zf D w (i0 - i0 / i1 * i1) h
  else
    if mx_f1 .eq (i0 - i0 / i1 * i1) = true then
      b233_18 L xs zf D w (i0 - i0 / i1 * i1) h
    else
      drI (some .int) ((i0 - i0 / i1 * i1) + i1) h
theorem c233_0 {L : Nat} {xs : Nat → Int32} {zf : Value} {D : dD} {w k : Nat} (hD : dO L xs zf D k) (hz : zf.category = 1) : ∀ (i0 : Int32) (i1 : Int32) (lv : rm_L) (h : rm_H) (r : dR), rm_get lv 0 = some (.int i0) → rm_get lv 1 = some (.int i1) → b233_0 L xs zf D w  i0 i1 h = some r → dq L xs zf ah_M233 0 lv [] h (k + 1) r := by
  intro i0 i1 lv h r G0 G1 hh
  unfold b233_0 at hh
  refine dq_iln 0 1 (by decide +kernel) rfl G0 ?_
  refine dq_iln 1 2 (by decide +kernel) rfl G1 ?_
  rcases dp hh with ⟨_, hh⟩ | ⟨q1, hh⟩
  · cases hh
  refine dq_rem 3 q1 (by decide +kernel) rfl ?_
  refine dq_isn 2 4 (by decide +kernel) (by decide +kernel) ?_
  have g2 := dg_ne (i := 2) (u := .int (i0 - i0 / i1 * i1)) (by decide) (Or.inl (by decide)) G0
  have g3 := dg_ne (i := 2) (u := .int (i0 - i0 / i1 * i1)) (by decide) (Or.inr rfl) G1
  have g4 := dg_eq (lv) 2 (.int (i0 - i0 / i1 * i1))
  refine dq_iln 0 5 (by decide +kernel) rfl g2 ?_
  refine dq_iln 1 6 (by decide +kernel) rfl g3 ?_
  refine dq_S (.ixor) 1 [] 7 _ [.int (i0 ^^^ i1)] (by decide +kernel) rfl ?_
  rcases di hh with ⟨q5, hh⟩ | ⟨q5, hh⟩
  · refine dq_1 .ge 11 true 18 q5 (by decide +kernel) ?_
    exact c233_18 hD hz _ _ _ _ g4 hh
  · refine dq_1 .ge 11 false 10 q5 (by decide +kernel) ?_
    refine dq_iln 2 11 (by decide +kernel) rfl g4 ?_
    rcases di hh with ⟨q6, hh⟩ | ⟨q6, hh⟩
    · refine dq_1 .eq 7 true 18 q6 (by decide +kernel) ?_
      exact c233_18 hD hz _ _ _ _ g4 hh
    · refine dq_1 .eq 7 false 14 q6 (by decide +kernel) ?_
      refine dq_iln 2 15 (by decide +kernel) rfl g4 ?_
      refine dq_iln 1 16 (by decide +kernel) rfl g3 ?_
      refine dq_S (.iadd) 1 [] 17 _ [.int ((i0 - i0 / i1 * i1) + i1)] (by decide +kernel) rfl ?_
      exact dq_retI (some .int) (by decide +kernel) rfl hh
def f233 (L : Nat) (xs : Nat → Int32) (zf : Value) (D : dD) (w : Nat) (As : List Value) (h : rm_H) : Option dR := match As with
  | [.int i0, .int i1] => b233_0 L xs zf D w i0 i1 h
  | _ => none
theorem d233 {L : Nat} {xs : Nat → Int32} {zf : Value} {D : dD} {w k : Nat} (hD : dO L xs zf D k) (hz : zf.category = 1) (As : List Value) (h : rm_H) (r : dR) (hh : f233 L xs zf D w As h = some r) : dq L xs zf ah_M233 0 (lv_args 0 As) [] h (k + 1) r := by
  unfold f233 at hh
  split at hh
  · refine c233_0 hD hz _ _ _ _ _ ?_ ?_ hh
    all_goals (simp only [la_r, la_i, la_j]; rfl)
  · cases hh
def b234_0 (L : Nat) (xs : Nat → Int32) (zf : Value) (D : dD) (w : Nat) (o0 : Option Nat) (h : rm_H) : Option dR :=
  (dgI L xs h 13 [14] o0).bind fun x1 =>
  if mx_f1 .gt x1 = true then
    (dgI L xs h 13 [14] o0).bind fun x4 =>
    (dpF h 13 [14] o0 (.int (x4 - 1))).bind fun h6 =>
    (dgR L xs h6 12 [14] o0).bind fun p8 =>
    (dgI L xs h6 13 [14] o0).bind fun x10 =>
    (daI L xs h6 p8 x10).bind fun x12 =>
    drI (some .int) x12 h6
  else
    drI (some .int) 0 h
theorem c234_0 {L : Nat} {xs : Nat → Int32} {zf : Value} {D : dD} {w k : Nat} (hD : dO L xs zf D k) (hz : zf.category = 1) : ∀ (o0 : Option Nat) (lv : rm_L) (h : rm_H) (r : dR), rm_get lv 0 = some (va_rf o0) → b234_0 L xs zf D w  o0 h = some r → dq L xs zf ah_M234 0 lv [] h (k + 1) r := by
  intro o0 lv h r G0 hh
  unfold b234_0 at hh
  refine dq_aln 0 1 (by decide +kernel) rfl G0 ?_
  obtain ⟨x1, q2, hh⟩ := db hh
  refine dq_gI 56 13 [14] 4 (by decide +kernel) rfl q2 ?_
  rcases di hh with ⟨q3, hh⟩ | ⟨q3, hh⟩
  · refine dq_1 .gt 5 true 9 q3 (by decide +kernel) ?_
    refine dq_aln 0 10 (by decide +kernel) rfl G0 ?_
    refine dq_dup 11 (by decide +kernel) rfl ?_
    obtain ⟨x4, q5, hh⟩ := db hh
    refine dq_gI 56 13 [14] 14 (by decide +kernel) rfl q5 ?_
    refine dq_S (.iconst 1) 1 [] 15 _ [.int 1, .int x4, va_rf o0] (by decide +kernel) rfl ?_
    refine dq_S (.isub) 1 [] 16 _ [.int (x4 - 1), va_rf o0] (by decide +kernel) rfl ?_
    obtain ⟨h6, q7, hh⟩ := db hh
    refine dq_put 56 13 [14] 19 (by decide +kernel) rfl q7 ?_
    refine dq_aln 0 20 (by decide +kernel) rfl G0 ?_
    obtain ⟨p8, q9, hh⟩ := db hh
    refine dq_gR 28 12 [14] 23 (by decide +kernel) rfl q9 ?_
    refine dq_aln 0 24 (by decide +kernel) rfl G0 ?_
    obtain ⟨x10, q11, hh⟩ := db hh
    refine dq_gI 56 13 [14] 27 (by decide +kernel) rfl q11 ?_
    obtain ⟨x12, q13, hh⟩ := db hh
    refine dq_aI 28 (by decide +kernel) rfl q13 ?_
    exact dq_retI (some .int) (by decide +kernel) rfl hh
  · refine dq_1 .gt 5 false 7 q3 (by decide +kernel) ?_
    refine dq_S (.iconst 0) 1 [] 8 _ [.int 0] (by decide +kernel) rfl ?_
    exact dq_retI (some .int) (by decide +kernel) rfl hh
def f234 (L : Nat) (xs : Nat → Int32) (zf : Value) (D : dD) (w : Nat) (As : List Value) (h : rm_H) : Option dR := match As with
  | [v0] => (rm_rf v0).bind fun o0 => b234_0 L xs zf D w o0 h
  | _ => none
theorem d234 {L : Nat} {xs : Nat → Int32} {zf : Value} {D : dD} {w k : Nat} (hD : dO L xs zf D k) (hz : zf.category = 1) (As : List Value) (h : rm_H) (r : dR) (hh : f234 L xs zf D w As h = some r) : dq L xs zf ah_M234 0 (lv_args 0 As) [] h (k + 1) r := by
  unfold f234 at hh
  split at hh
  · obtain ⟨o0, e0, hb0⟩ := db hh
    have e0 := rm_rf_v _ _ e0
    subst e0
    refine c234_0 hD hz _ _ _ _ ?_ hb0
    all_goals (simp only [la_r, la_i, la_j]; rfl)
  · cases hh
