/-! METHODS AS FUNCTIONS, printed by wip/whole/gen_fun.py -/
def b266_25 (L : Nat) (xs : Nat → Int32) (zf : Value) (D : dD) (w : Nat) (s0 : Int32) (h : rm_H) : Option dR :=
  drI (some .int) s0 h
theorem c266_25 {L : Nat} {xs : Nat → Int32} {zf : Value} {D : dD} {w k : Nat} (hD : dO L xs zf D k) (hz : zf.category = 1) : ∀ (s0 : Int32) (lv : rm_L) (h : rm_H) (r : dR), b266_25 L xs zf D w  s0 h = some r → dq L xs zf ah_M266 25 lv [.int s0] h (k + 1) r := by
  intro s0 lv h r hh
  unfold b266_25 at hh
  exact dq_retI (some .int) (by decide +kernel) rfl hh
def b266_13 (L : Nat) (xs : Nat → Int32) (zf : Value) (D : dD) (w : Nat) (h : rm_H) : Option dR :=
  b266_25 L xs zf D w 0 h
theorem c266_13 {L : Nat} {xs : Nat → Int32} {zf : Value} {D : dD} {w k : Nat} (hD : dO L xs zf D k) (hz : zf.category = 1) : ∀ (lv : rm_L) (h : rm_H) (r : dR), b266_13 L xs zf D w  h = some r → dq L xs zf ah_M266 13 lv [] h (k + 1) r := by
  intro lv h r hh
  unfold b266_13 at hh
  refine dq_S (.iconst 0) 1 [] 14 _ [.int 0] (by decide +kernel) rfl ?_
  refine dq_S (.goto 11) 3 [] 25 _ [.int 0] (by decide +kernel) rfl ?_
  exact c266_25 hD hz _ _ _ _  hh
def b266_0 (L : Nat) (xs : Nat → Int32) (zf : Value) (D : dD) (w : Nat) (o0 : Option Nat) (i1 : Int32) (h : rm_H) : Option dR :=
  if mx_f1 .lt i1 = true then
    b266_13 L xs zf D w h
  else
    (dgR L xs h 1 [2] o0).bind fun p2 =>
    (daN L xs h p2).bind fun x4 =>
    if mx_f2 .lt i1 x4 = true then
      (dgR L xs h 1 [2] o0).bind fun p7 =>
      (daI L xs h p7 i1).bind fun x9 =>
      b266_25 L xs zf D w (x9 + 1) h
    else
      b266_13 L xs zf D w h
theorem c266_0 {L : Nat} {xs : Nat → Int32} {zf : Value} {D : dD} {w k : Nat} (hD : dO L xs zf D k) (hz : zf.category = 1) : ∀ (o0 : Option Nat) (i1 : Int32) (lv : rm_L) (h : rm_H) (r : dR), rm_get lv 0 = some (va_rf o0) → rm_get lv 1 = some (.int i1) → b266_0 L xs zf D w  o0 i1 h = some r → dq L xs zf ah_M266 0 lv [] h (k + 1) r := by
  intro o0 i1 lv h r G0 G1 hh
  unfold b266_0 at hh
  refine dq_iln 1 1 (by decide +kernel) rfl G1 ?_
  rcases di hh with ⟨q1, hh⟩ | ⟨q1, hh⟩
  · refine dq_1 .lt 12 true 13 q1 (by decide +kernel) ?_
    exact c266_13 hD hz  _ _ _  hh
  · refine dq_1 .lt 12 false 4 q1 (by decide +kernel) ?_
    refine dq_iln 1 5 (by decide +kernel) rfl G1 ?_
    refine dq_aln 0 6 (by decide +kernel) rfl G0 ?_
    obtain ⟨p2, q3, hh⟩ := db hh
    refine dq_gR 15 1 [2] 9 (by decide +kernel) rfl q3 ?_
    obtain ⟨x4, q5, hh⟩ := db hh
    refine dq_aN 10 (by decide +kernel) rfl q5 ?_
    rcases di hh with ⟨q6, hh⟩ | ⟨q6, hh⟩
    · refine dq_2 .lt 7 true 17 q6 (by decide +kernel) ?_
      refine dq_aln 0 18 (by decide +kernel) rfl G0 ?_
      obtain ⟨p7, q8, hh⟩ := db hh
      refine dq_gR 15 1 [2] 21 (by decide +kernel) rfl q8 ?_
      refine dq_iln 1 22 (by decide +kernel) rfl G1 ?_
      obtain ⟨x9, q10, hh⟩ := db hh
      refine dq_aI 23 (by decide +kernel) rfl q10 ?_
      refine dq_S (.iconst 1) 1 [] 24 _ [.int 1, .int x9] (by decide +kernel) rfl ?_
      refine dq_S (.iadd) 1 [] 25 _ [.int (x9 + 1)] (by decide +kernel) rfl ?_
      exact c266_25 hD hz _ _ _ _  hh
    · refine dq_2 .lt 7 false 13 q6 (by decide +kernel) ?_
      exact c266_13 hD hz  _ _ _  hh
def f266 (L : Nat) (xs : Nat → Int32) (zf : Value) (D : dD) (w : Nat) (As : List Value) (h : rm_H) : Option dR := match As with
  | [v0, .int i1] => (rm_rf v0).bind fun o0 => b266_0 L xs zf D w o0 i1 h
  | _ => none
theorem d266 {L : Nat} {xs : Nat → Int32} {zf : Value} {D : dD} {w k : Nat} (hD : dO L xs zf D k) (hz : zf.category = 1) (As : List Value) (h : rm_H) (r : dR) (hh : f266 L xs zf D w As h = some r) : dq L xs zf ah_M266 0 (lv_args 0 As) [] h (k + 1) r := by
  unfold f266 at hh
  split at hh
  · obtain ⟨o0, e0, hb0⟩ := db hh
    have e0 := rm_rf_v _ _ e0
    subst e0
    refine c266_0 hD hz _ _ _ _ _ ?_ ?_ hb0
    all_goals (simp only [la_r, la_i, la_j]; rfl)
  · cases hh
def b267_0 (L : Nat) (xs : Nat → Int32) (zf : Value) (D : dD) (w : Nat) (o0 : Option Nat) (i1 : Int32) (h : rm_H) : Option dR :=
  if dsw 0 7 i1 = true then
    drI (some .int) (-1) h
  else if i1 = 0 then
    (dgR L xs h 1 [0] o0).bind fun p3 =>
    (dgI L xs h 8 [2] p3).bind fun x5 =>
    drI (some .int) x5 h
  else if i1 = 1 then
    (dgR L xs h 1 [0] o0).bind fun p8 =>
    (dgI L xs h 9 [2] p8).bind fun x10 =>
    drI (some .int) x10 h
  else if i1 = 2 then
    (dgR L xs h 1 [0] o0).bind fun p13 =>
    (dgI L xs h 10 [2] p13).bind fun x15 =>
    drI (some .int) x15 h
  else if i1 = 3 then
    (dgR L xs h 1 [0] o0).bind fun p18 =>
    (dgI L xs h 11 [2] p18).bind fun x20 =>
    drI (some .int) x20 h
  else if i1 = 4 then
    (dgR L xs h 1 [0] o0).bind fun p23 =>
    (dgI L xs h 12 [2] p23).bind fun x25 =>
    drI (some .int) x25 h
  else if i1 = 5 then
    (dgR L xs h 1 [0] o0).bind fun p28 =>
    (dgI L xs h 13 [2] p28).bind fun x30 =>
    drI (some .int) x30 h
  else if i1 = 6 then
    (dgR L xs h 1 [0] o0).bind fun p33 =>
    (dgI L xs h 14 [2] p33).bind fun x35 =>
    drI (some .int) x35 h
  else if i1 = 7 then
    (dgR L xs h 1 [0] o0).bind fun p38 =>
    (dgI L xs h 15 [2] p38).bind fun x40 =>
    drI (some .int) x40 h
  else none
theorem c267_0 {L : Nat} {xs : Nat → Int32} {zf : Value} {D : dD} {w k : Nat} (hD : dO L xs zf D k) (hz : zf.category = 1) : ∀ (o0 : Option Nat) (i1 : Int32) (lv : rm_L) (h : rm_H) (r : dR), rm_get lv 0 = some (va_rf o0) → rm_get lv 1 = some (.int i1) → b267_0 L xs zf D w  o0 i1 h = some r → dq L xs zf ah_M267 0 lv [] h (k + 1) r := by
  intro o0 i1 lv h r G0 G1 hh
  unfold b267_0 at hh
  refine dq_iln 1 1 (by decide +kernel) rfl G1 ?_
  rcases di hh with ⟨q1, hh⟩ | ⟨_, hh⟩
  · refine dq_sd 111 0 7 #[47, 55, 63, 71, 79, 87, 95, 103] 47 112 (by decide +kernel) (by decide +kernel) q1 ?_
    refine dq_S (.iconst (-1)) 1 [] 113 _ [.int (-1)] (by decide +kernel) rfl ?_
    exact dq_retI (some .int) (by decide +kernel) rfl hh
  rcases dp hh with ⟨q2, hh⟩ | ⟨_, hh⟩
  · refine dq_eq 0 q2 ?_
    refine dq_S (.tableswitch 111 0 7 #[47, 55, 63, 71, 79, 87, 95, 103]) 47 [] 48 _ [] (by decide +kernel) rfl ?_
    refine dq_aln 0 49 (by decide +kernel) rfl G0 ?_
    obtain ⟨p3, q4, hh⟩ := db hh
    refine dq_gR 19 1 [0] 52 (by decide +kernel) rfl q4 ?_
    obtain ⟨x5, q6, hh⟩ := db hh
    refine dq_gI 153 8 [2] 55 (by decide +kernel) rfl q6 ?_
    exact dq_retI (some .int) (by decide +kernel) rfl hh
  rcases dp hh with ⟨q7, hh⟩ | ⟨_, hh⟩
  · refine dq_eq 1 q7 ?_
    refine dq_S (.tableswitch 111 0 7 #[47, 55, 63, 71, 79, 87, 95, 103]) 47 [] 56 _ [] (by decide +kernel) rfl ?_
    refine dq_aln 0 57 (by decide +kernel) rfl G0 ?_
    obtain ⟨p8, q9, hh⟩ := db hh
    refine dq_gR 19 1 [0] 60 (by decide +kernel) rfl q9 ?_
    obtain ⟨x10, q11, hh⟩ := db hh
    refine dq_gI 156 9 [2] 63 (by decide +kernel) rfl q11 ?_
    exact dq_retI (some .int) (by decide +kernel) rfl hh
  rcases dp hh with ⟨q12, hh⟩ | ⟨_, hh⟩
  · refine dq_eq 2 q12 ?_
    refine dq_S (.tableswitch 111 0 7 #[47, 55, 63, 71, 79, 87, 95, 103]) 47 [] 64 _ [] (by decide +kernel) rfl ?_
    refine dq_aln 0 65 (by decide +kernel) rfl G0 ?_
    obtain ⟨p13, q14, hh⟩ := db hh
    refine dq_gR 19 1 [0] 68 (by decide +kernel) rfl q14 ?_
    obtain ⟨x15, q16, hh⟩ := db hh
    refine dq_gI 159 10 [2] 71 (by decide +kernel) rfl q16 ?_
    exact dq_retI (some .int) (by decide +kernel) rfl hh
  rcases dp hh with ⟨q17, hh⟩ | ⟨_, hh⟩
  · refine dq_eq 3 q17 ?_
    refine dq_S (.tableswitch 111 0 7 #[47, 55, 63, 71, 79, 87, 95, 103]) 47 [] 72 _ [] (by decide +kernel) rfl ?_
    refine dq_aln 0 73 (by decide +kernel) rfl G0 ?_
    obtain ⟨p18, q19, hh⟩ := db hh
    refine dq_gR 19 1 [0] 76 (by decide +kernel) rfl q19 ?_
    obtain ⟨x20, q21, hh⟩ := db hh
    refine dq_gI 162 11 [2] 79 (by decide +kernel) rfl q21 ?_
    exact dq_retI (some .int) (by decide +kernel) rfl hh
  rcases dp hh with ⟨q22, hh⟩ | ⟨_, hh⟩
  · refine dq_eq 4 q22 ?_
    refine dq_S (.tableswitch 111 0 7 #[47, 55, 63, 71, 79, 87, 95, 103]) 47 [] 80 _ [] (by decide +kernel) rfl ?_
    refine dq_aln 0 81 (by decide +kernel) rfl G0 ?_
    obtain ⟨p23, q24, hh⟩ := db hh
    refine dq_gR 19 1 [0] 84 (by decide +kernel) rfl q24 ?_
    obtain ⟨x25, q26, hh⟩ := db hh
    refine dq_gI 165 12 [2] 87 (by decide +kernel) rfl q26 ?_
    exact dq_retI (some .int) (by decide +kernel) rfl hh
  rcases dp hh with ⟨q27, hh⟩ | ⟨_, hh⟩
  · refine dq_eq 5 q27 ?_
    refine dq_S (.tableswitch 111 0 7 #[47, 55, 63, 71, 79, 87, 95, 103]) 47 [] 88 _ [] (by decide +kernel) rfl ?_
    refine dq_aln 0 89 (by decide +kernel) rfl G0 ?_
    obtain ⟨p28, q29, hh⟩ := db hh
    refine dq_gR 19 1 [0] 92 (by decide +kernel) rfl q29 ?_
    obtain ⟨x30, q31, hh⟩ := db hh
    refine dq_gI 168 13 [2] 95 (by decide +kernel) rfl q31 ?_
    exact dq_retI (some .int) (by decide +kernel) rfl hh
  rcases dp hh with ⟨q32, hh⟩ | ⟨_, hh⟩
  · refine dq_eq 6 q32 ?_
    refine dq_S (.tableswitch 111 0 7 #[47, 55, 63, 71, 79, 87, 95, 103]) 47 [] 96 _ [] (by decide +kernel) rfl ?_
    refine dq_aln 0 97 (by decide +kernel) rfl G0 ?_
    obtain ⟨p33, q34, hh⟩ := db hh
    refine dq_gR 19 1 [0] 100 (by decide +kernel) rfl q34 ?_
    obtain ⟨x35, q36, hh⟩ := db hh
    refine dq_gI 171 14 [2] 103 (by decide +kernel) rfl q36 ?_
    exact dq_retI (some .int) (by decide +kernel) rfl hh
  rcases dp hh with ⟨q37, hh⟩ | ⟨_, hh⟩
  · refine dq_eq 7 q37 ?_
    refine dq_S (.tableswitch 111 0 7 #[47, 55, 63, 71, 79, 87, 95, 103]) 47 [] 104 _ [] (by decide +kernel) rfl ?_
    refine dq_aln 0 105 (by decide +kernel) rfl G0 ?_
    obtain ⟨p38, q39, hh⟩ := db hh
    refine dq_gR 19 1 [0] 108 (by decide +kernel) rfl q39 ?_
    obtain ⟨x40, q41, hh⟩ := db hh
    refine dq_gI 174 15 [2] 111 (by decide +kernel) rfl q41 ?_
    exact dq_retI (some .int) (by decide +kernel) rfl hh
  cases hh
def f267 (L : Nat) (xs : Nat → Int32) (zf : Value) (D : dD) (w : Nat) (As : List Value) (h : rm_H) : Option dR := match As with
  | [v0, .int i1] => (rm_rf v0).bind fun o0 => b267_0 L xs zf D w o0 i1 h
  | _ => none
theorem d267 {L : Nat} {xs : Nat → Int32} {zf : Value} {D : dD} {w k : Nat} (hD : dO L xs zf D k) (hz : zf.category = 1) (As : List Value) (h : rm_H) (r : dR) (hh : f267 L xs zf D w As h = some r) : dq L xs zf ah_M267 0 (lv_args 0 As) [] h (k + 1) r := by
  unfold f267 at hh
  split at hh
  · obtain ⟨o0, e0, hb0⟩ := db hh
    have e0 := rm_rf_v _ _ e0
    subst e0
    refine c267_0 hD hz _ _ _ _ _ ?_ ?_ hb0
    all_goals (simp only [la_r, la_i, la_j]; rfl)
  · cases hh
def b268_0 (L : Nat) (xs : Nat → Int32) (zf : Value) (D : dD) (w : Nat) (o0 : Option Nat) (i1 : Int32) (i2 : Int32) (h : rm_H) : Option dR :=
  (dgR L xs h 1 [0] o0).bind fun p1 =>
  ((dcV L xs D 236 [2] p1 [.int i1] h).bind dxR).bind fun p3 =>
  if dnl p3.1 = true then
    drI (some .int) (-1) p3.2
  else
    if dsw 0 4 i2 = true then
      drI (some .int) (-1) p3.2
    else if i2 = 0 then
      (dgR L xs p3.2 1 [14] p3.1).bind fun p14 =>
      (dgI L xs p3.2 3 [9] p14).bind fun x16 =>
      drI (some .int) x16 p3.2
    else if i2 = 1 then
      (dgI L xs p3.2 3 [14] p3.1).bind fun x19 =>
      drI (some .int) x19 p3.2
    else if i2 = 2 then
      (dgI L xs p3.2 4 [14] p3.1).bind fun x22 =>
      drI (some .int) x22 p3.2
    else if i2 = 3 then
      (dgI L xs p3.2 5 [14] p3.1).bind fun x25 =>
      drI (some .int) x25 p3.2
    else if i2 = 4 then
      (dgI L xs p3.2 6 [14] p3.1).bind fun x28 =>
      drI (some .int) x28 p3.2
    else none
theorem c268_0 {L : Nat} {xs : Nat → Int32} {zf : Value} {D : dD} {w k : Nat} (hD : dO L xs zf D k) (hz : zf.category = 1) : ∀ (o0 : Option Nat) (i1 : Int32) (i2 : Int32) (lv : rm_L) (h : rm_H) (r : dR), rm_get lv 0 = some (va_rf o0) → rm_get lv 1 = some (.int i1) → rm_get lv 2 = some (.int i2) → b268_0 L xs zf D w  o0 i1 i2 h = some r → dq L xs zf ah_M268 0 lv [] h (k + 1) r := by
  intro o0 i1 i2 lv h r G0 G1 G2 hh
  unfold b268_0 at hh
  refine dq_aln 0 1 (by decide +kernel) rfl G0 ?_
  obtain ⟨p1, q2, hh⟩ := db hh
  refine dq_gR 19 1 [0] 4 (by decide +kernel) rfl q2 ?_
  refine dq_iln 1 5 (by decide +kernel) rfl G1 ?_
  obtain ⟨p3, q4, hh⟩ := db hh
  obtain ⟨a5, q6, q4⟩ := db q4
  rw [dq_xR q4] at q6
  refine dq_cvi hD 145 236 5 1 [2] p1 [.int i1] [] 8 [va_rf p3.1] (by decide +kernel) ap_236 ⟨⟨Nat.le_of_ble_eq_true rfl, by decide⟩, rfl, rfl⟩ (dq_ok8 [1, 1] [] (dc_r (dc_i dc_n)) dc_n (by decide +kernel)) (by decide +kernel) rfl q6 rfl ?_
  refine dq_asn 3 9 (by decide +kernel) (by decide +kernel) ?_
  have g7 := dg_ne (i := 3) (u := va_rf p3.1) (by decide) (Or.inl (by decide)) G0
  have g8 := dg_ne (i := 3) (u := va_rf p3.1) (by decide) (Or.inl (by decide)) G1
  have g9 := dg_ne (i := 3) (u := va_rf p3.1) (by decide) (Or.inr rfl) G2
  have g10 := dg_eq (lv) 3 (va_rf p3.1)
  refine dq_aln 3 10 (by decide +kernel) rfl g10 ?_
  rcases di hh with ⟨q11, hh⟩ | ⟨q11, hh⟩
  · refine dq_nnull 5 false 13 q11 (by decide +kernel) (by decide +kernel) ?_
    refine dq_S (.iconst (-1)) 1 [] 14 _ [.int (-1)] (by decide +kernel) rfl ?_
    exact dq_retI (some .int) (by decide +kernel) rfl hh
  · refine dq_nnull 5 true 15 q11 (by decide +kernel) (by decide +kernel) ?_
    refine dq_iln 2 16 (by decide +kernel) rfl g9 ?_
    rcases di hh with ⟨q12, hh⟩ | ⟨_, hh⟩
    · refine dq_sd 64 0 4 #[36, 44, 49, 54, 59] 36 80 (by decide +kernel) (by decide +kernel) q12 ?_
      refine dq_S (.iconst (-1)) 1 [] 81 _ [.int (-1)] (by decide +kernel) rfl ?_
      exact dq_retI (some .int) (by decide +kernel) rfl hh
    rcases dp hh with ⟨q13, hh⟩ | ⟨_, hh⟩
    · refine dq_eq 0 q13 ?_
      refine dq_S (.tableswitch 64 0 4 #[36, 44, 49, 54, 59]) 36 [] 52 _ [] (by decide +kernel) rfl ?_
      refine dq_aln 3 53 (by decide +kernel) rfl g10 ?_
      obtain ⟨p14, q15, hh⟩ := db hh
      refine dq_gR 177 1 [14] 56 (by decide +kernel) rfl q15 ?_
      obtain ⟨x16, q17, hh⟩ := db hh
      refine dq_gI 182 3 [9] 59 (by decide +kernel) rfl q17 ?_
      exact dq_retI (some .int) (by decide +kernel) rfl hh
    rcases dp hh with ⟨q18, hh⟩ | ⟨_, hh⟩
    · refine dq_eq 1 q18 ?_
      refine dq_S (.tableswitch 64 0 4 #[36, 44, 49, 54, 59]) 36 [] 60 _ [] (by decide +kernel) rfl ?_
      refine dq_aln 3 61 (by decide +kernel) rfl g10 ?_
      obtain ⟨x19, q20, hh⟩ := db hh
      refine dq_gI 187 3 [14] 64 (by decide +kernel) rfl q20 ?_
      exact dq_retI (some .int) (by decide +kernel) rfl hh
    rcases dp hh with ⟨q21, hh⟩ | ⟨_, hh⟩
    · refine dq_eq 2 q21 ?_
      refine dq_S (.tableswitch 64 0 4 #[36, 44, 49, 54, 59]) 36 [] 65 _ [] (by decide +kernel) rfl ?_
      refine dq_aln 3 66 (by decide +kernel) rfl g10 ?_
      obtain ⟨x22, q23, hh⟩ := db hh
      refine dq_gI 190 4 [14] 69 (by decide +kernel) rfl q23 ?_
      exact dq_retI (some .int) (by decide +kernel) rfl hh
    rcases dp hh with ⟨q24, hh⟩ | ⟨_, hh⟩
    · refine dq_eq 3 q24 ?_
      refine dq_S (.tableswitch 64 0 4 #[36, 44, 49, 54, 59]) 36 [] 70 _ [] (by decide +kernel) rfl ?_
      refine dq_aln 3 71 (by decide +kernel) rfl g10 ?_
      obtain ⟨x25, q26, hh⟩ := db hh
      refine dq_gI 193 5 [14] 74 (by decide +kernel) rfl q26 ?_
      exact dq_retI (some .int) (by decide +kernel) rfl hh
    rcases dp hh with ⟨q27, hh⟩ | ⟨_, hh⟩
    · refine dq_eq 4 q27 ?_
      refine dq_S (.tableswitch 64 0 4 #[36, 44, 49, 54, 59]) 36 [] 75 _ [] (by decide +kernel) rfl ?_
      refine dq_aln 3 76 (by decide +kernel) rfl g10 ?_
      obtain ⟨x28, q29, hh⟩ := db hh
      refine dq_gI 194 6 [14] 79 (by decide +kernel) rfl q29 ?_
      exact dq_retI (some .int) (by decide +kernel) rfl hh
    cases hh
def f268 (L : Nat) (xs : Nat → Int32) (zf : Value) (D : dD) (w : Nat) (As : List Value) (h : rm_H) : Option dR := match As with
  | [v0, .int i1, .int i2] => (rm_rf v0).bind fun o0 => b268_0 L xs zf D w o0 i1 i2 h
  | _ => none
theorem d268 {L : Nat} {xs : Nat → Int32} {zf : Value} {D : dD} {w k : Nat} (hD : dO L xs zf D k) (hz : zf.category = 1) (As : List Value) (h : rm_H) (r : dR) (hh : f268 L xs zf D w As h = some r) : dq L xs zf ah_M268 0 (lv_args 0 As) [] h (k + 1) r := by
  unfold f268 at hh
  split at hh
  · obtain ⟨o0, e0, hb0⟩ := db hh
    have e0 := rm_rf_v _ _ e0
    subst e0
    refine c268_0 hD hz _ _ _ _ _ _ ?_ ?_ ?_ hb0
    all_goals (simp only [la_r, la_i, la_j]; rfl)
  · cases hh
def b269_22 (L : Nat) (xs : Nat → Int32) (zf : Value) (D : dD) (w : Nat) (h : rm_H) : Option dR :=
  drI (some .int) 0 h
theorem c269_22 {L : Nat} {xs : Nat → Int32} {zf : Value} {D : dD} {w k : Nat} (hD : dO L xs zf D k) (hz : zf.category = 1) : ∀ (lv : rm_L) (h : rm_H) (r : dR), b269_22 L xs zf D w  h = some r → dq L xs zf ah_M269 22 lv [] h (k + 1) r := by
  intro lv h r hh
  unfold b269_22 at hh
  refine dq_S (.iconst 0) 1 [] 23 _ [.int 0] (by decide +kernel) rfl ?_
  exact dq_retI (some .int) (by decide +kernel) rfl hh
def b269_56 (L : Nat) (xs : Nat → Int32) (zf : Value) (D : dD) (w : Nat) (s0 : Int32) (h : rm_H) : Option dR :=
  drI (some .int) s0 h
theorem c269_56 {L : Nat} {xs : Nat → Int32} {zf : Value} {D : dD} {w k : Nat} (hD : dO L xs zf D k) (hz : zf.category = 1) : ∀ (s0 : Int32) (lv : rm_L) (h : rm_H) (r : dR), b269_56 L xs zf D w  s0 h = some r → dq L xs zf ah_M269 56 lv [.int s0] h (k + 1) r := by
  intro s0 lv h r hh
  unfold b269_56 at hh
  exact dq_retI (some .int) (by decide +kernel) rfl hh
def b269_0 (L : Nat) (xs : Nat → Int32) (zf : Value) (D : dD) (w : Nat) (o0 : Option Nat) (i1 : Int32) (i2 : Int32) (h : rm_H) : Option dR :=
  if mx_f1 .lt i1 = true then
    b269_22 L xs zf D w h
  else
    if mx_f2 .ge i1 200 = true then
      b269_22 L xs zf D w h
    else
      (dgR L xs h 1 [0] o0).bind fun p3 =>
      (dgI L xs h 12 [2] p3).bind fun x5 =>
      if mx_f2 .lt i1 x5 = true then
        if mx_f1 .ne i2 = true then
          if mx_f2 .ne i2 1 = true then
            b269_56 L xs zf D w 0 h
          else
            (dgR L xs h 1 [0] o0).bind fun p10 =>
            (dgR L xs h 4 [2] p10).bind fun p12 =>
            (daI L xs h p12 i1).bind fun x14 =>
            b269_56 L xs zf D w x14 h
        else
          (dgR L xs h 1 [0] o0).bind fun p16 =>
          (dgR L xs h 3 [2] p16).bind fun p18 =>
          (daI L xs h p18 i1).bind fun x20 =>
          drI (some .int) x20 h
      else
        b269_22 L xs zf D w h
theorem c269_0 {L : Nat} {xs : Nat → Int32} {zf : Value} {D : dD} {w k : Nat} (hD : dO L xs zf D k) (hz : zf.category = 1) : ∀ (o0 : Option Nat) (i1 : Int32) (i2 : Int32) (lv : rm_L) (h : rm_H) (r : dR), rm_get lv 0 = some (va_rf o0) → rm_get lv 1 = some (.int i1) → rm_get lv 2 = some (.int i2) → b269_0 L xs zf D w  o0 i1 i2 h = some r → dq L xs zf ah_M269 0 lv [] h (k + 1) r := by
  intro o0 i1 i2 lv h r G0 G1 G2 hh
  unfold b269_0 at hh
  refine dq_iln 1 1 (by decide +kernel) rfl G1 ?_
  rcases di hh with ⟨q1, hh⟩ | ⟨q1, hh⟩
  · refine dq_1 .lt 21 true 22 q1 (by decide +kernel) ?_
    exact c269_22 hD hz  _ _ _  hh
  · refine dq_1 .lt 21 false 4 q1 (by decide +kernel) ?_
    refine dq_iln 1 5 (by decide +kernel) rfl G1 ?_
    refine dq_S (.sipush 200) 3 [] 8 _ [.int 200, .int i1] (by decide +kernel) rfl ?_
    rcases di hh with ⟨q2, hh⟩ | ⟨q2, hh⟩
    · refine dq_2 .ge 14 true 22 q2 (by decide +kernel) ?_
      exact c269_22 hD hz  _ _ _  hh
    · refine dq_2 .ge 14 false 11 q2 (by decide +kernel) ?_
      refine dq_iln 1 12 (by decide +kernel) rfl G1 ?_
      refine dq_aln 0 13 (by decide +kernel) rfl G0 ?_
      obtain ⟨p3, q4, hh⟩ := db hh
      refine dq_gR 19 1 [0] 16 (by decide +kernel) rfl q4 ?_
      obtain ⟨x5, q6, hh⟩ := db hh
      refine dq_gI 165 12 [2] 19 (by decide +kernel) rfl q6 ?_
      rcases di hh with ⟨q7, hh⟩ | ⟨q7, hh⟩
      · refine dq_2 .lt 5 true 24 q7 (by decide +kernel) ?_
        refine dq_iln 2 25 (by decide +kernel) rfl G2 ?_
        rcases di hh with ⟨q8, hh⟩ | ⟨q8, hh⟩
        · refine dq_1 .ne 13 true 38 q8 (by decide +kernel) ?_
          refine dq_iln 2 39 (by decide +kernel) rfl G2 ?_
          refine dq_S (.iconst 1) 1 [] 40 _ [.int 1, .int i2] (by decide +kernel) rfl ?_
          rcases di hh with ⟨q9, hh⟩ | ⟨q9, hh⟩
          · refine dq_2 .ne 15 true 55 q9 (by decide +kernel) ?_
            refine dq_S (.iconst 0) 1 [] 56 _ [.int 0] (by decide +kernel) rfl ?_
            exact c269_56 hD hz _ _ _ _  hh
          · refine dq_2 .ne 15 false 43 q9 (by decide +kernel) ?_
            refine dq_aln 0 44 (by decide +kernel) rfl G0 ?_
            obtain ⟨p10, q11, hh⟩ := db hh
            refine dq_gR 19 1 [0] 47 (by decide +kernel) rfl q11 ?_
            obtain ⟨p12, q13, hh⟩ := db hh
            refine dq_gR 200 4 [2] 50 (by decide +kernel) rfl q13 ?_
            refine dq_iln 1 51 (by decide +kernel) rfl G1 ?_
            obtain ⟨x14, q15, hh⟩ := db hh
            refine dq_aI 52 (by decide +kernel) rfl q15 ?_
            refine dq_S (.goto 4) 3 [] 56 _ [.int x14] (by decide +kernel) rfl ?_
            exact c269_56 hD hz _ _ _ _  hh
        · refine dq_1 .ne 13 false 28 q8 (by decide +kernel) ?_
          refine dq_aln 0 29 (by decide +kernel) rfl G0 ?_
          obtain ⟨p16, q17, hh⟩ := db hh
          refine dq_gR 19 1 [0] 32 (by decide +kernel) rfl q17 ?_
          obtain ⟨p18, q19, hh⟩ := db hh
          refine dq_gR 197 3 [2] 35 (by decide +kernel) rfl q19 ?_
          refine dq_iln 1 36 (by decide +kernel) rfl G1 ?_
          obtain ⟨x20, q21, hh⟩ := db hh
          refine dq_aI 37 (by decide +kernel) rfl q21 ?_
          exact dq_retI (some .int) (by decide +kernel) rfl hh
      · refine dq_2 .lt 5 false 22 q7 (by decide +kernel) ?_
        exact c269_22 hD hz  _ _ _  hh
def f269 (L : Nat) (xs : Nat → Int32) (zf : Value) (D : dD) (w : Nat) (As : List Value) (h : rm_H) : Option dR := match As with
  | [v0, .int i1, .int i2] => (rm_rf v0).bind fun o0 => b269_0 L xs zf D w o0 i1 i2 h
  | _ => none
theorem d269 {L : Nat} {xs : Nat → Int32} {zf : Value} {D : dD} {w k : Nat} (hD : dO L xs zf D k) (hz : zf.category = 1) (As : List Value) (h : rm_H) (r : dR) (hh : f269 L xs zf D w As h = some r) : dq L xs zf ah_M269 0 (lv_args 0 As) [] h (k + 1) r := by
  unfold f269 at hh
  split at hh
  · obtain ⟨o0, e0, hb0⟩ := db hh
    have e0 := rm_rf_v _ _ e0
    subst e0
    refine c269_0 hD hz _ _ _ _ _ _ ?_ ?_ ?_ hb0
    all_goals (simp only [la_r, la_i, la_j]; rfl)
  · cases hh
def b270_40 (L : Nat) (xs : Nat → Int32) (zf : Value) (D : dD) (w : Nat) (h : rm_H) : Option dR :=
  drI (some .int) (-1) h
theorem c270_40 {L : Nat} {xs : Nat → Int32} {zf : Value} {D : dD} {w k : Nat} (hD : dO L xs zf D k) (hz : zf.category = 1) : ∀ (lv : rm_L) (h : rm_H) (r : dR), b270_40 L xs zf D w  h = some r → dq L xs zf ah_M270 40 lv [] h (k + 1) r := by
  intro lv h r hh
  unfold b270_40 at hh
  refine dq_S (.iconst (-1)) 1 [] 41 _ [.int (-1)] (by decide +kernel) rfl ?_
  exact dq_retI (some .int) (by decide +kernel) rfl hh
def b270_0 (L : Nat) (xs : Nat → Int32) (zf : Value) (D : dD) (w : Nat) (o0 : Option Nat) (i1 : Int32) (i2 : Int32) (h : rm_H) : Option dR :=
  (dgR L xs h 2 [0] o0).bind fun p1 =>
  ((dcV L xs D 217 [3] p1 [] h).bind dxV).bind fun h3 =>
  (dgR L xs h3 1 [0] o0).bind fun p7 =>
  ((dcV L xs D 236 [2] p7 [.int i1] h3).bind dxR).bind fun p9 =>
  if dnl p9.1 = true then
    b270_40 L xs zf D w p9.2
  else
    if mx_f1 .lt i2 = true then
      b270_40 L xs zf D w p9.2
    else
      (dgR L xs p9.2 1 [14] p9.1).bind fun p19 =>
      (dgR L xs p9.2 4 [9] p19).bind fun p21 =>
      ((dcV L xs D 101 [5] p21 [] p9.2).bind dxI).bind fun x23 =>
      if mx_f2 .lt i2 x23.1 = true then
        (dgR L xs x23.2 2 [0] o0).bind fun p28 =>
        (dgR L xs x23.2 1 [0] o0).bind fun p30 =>
        ((dcV L xs D 271 [3] p28 [va_rf p30, va_rf p9.1, .int i2] x23.2).bind dxV).bind fun h32 =>
        (dgR L xs h32 2 [0] o0).bind fun p36 =>
        ((dcV L xs D 279 [3] p36 [] h32).bind dxI).bind fun x38 =>
        drI (some .int) x38.1 x38.2
      else
        b270_40 L xs zf D w x23.2
theorem c270_0 {L : Nat} {xs : Nat → Int32} {zf : Value} {D : dD} {w k : Nat} (hD : dO L xs zf D k) (hz : zf.category = 1) : ∀ (o0 : Option Nat) (i1 : Int32) (i2 : Int32) (lv : rm_L) (h : rm_H) (r : dR), rm_get lv 0 = some (va_rf o0) → rm_get lv 1 = some (.int i1) → rm_get lv 2 = some (.int i2) → b270_0 L xs zf D w  o0 i1 i2 h = some r → dq L xs zf ah_M270 0 lv [] h (k + 1) r := by
  intro o0 i1 i2 lv h r G0 G1 G2 hh
  unfold b270_0 at hh
  refine dq_aln 0 1 (by decide +kernel) rfl G0 ?_
  obtain ⟨p1, q2, hh⟩ := db hh
  refine dq_gR 26 2 [0] 4 (by decide +kernel) rfl q2 ?_
  obtain ⟨h3, q4, hh⟩ := db hh
  obtain ⟨a5, q6, q4⟩ := db q4
  rw [dq_xV q4] at q6
  refine dq_cvi hD 91 217 5 0 [3] p1 [] [] 7 [] (by decide +kernel) ap_217 ⟨⟨Nat.le_of_ble_eq_true rfl, by decide⟩, rfl, rfl⟩ (dq_ok8 [1] [] (dc_r dc_n) dc_n (by decide +kernel)) (by decide +kernel) rfl q6 rfl ?_
  refine dq_aln 0 8 (by decide +kernel) rfl G0 ?_
  obtain ⟨p7, q8, hh⟩ := db hh
  refine dq_gR 19 1 [0] 11 (by decide +kernel) rfl q8 ?_
  refine dq_iln 1 12 (by decide +kernel) rfl G1 ?_
  obtain ⟨p9, q10, hh⟩ := db hh
  obtain ⟨a11, q12, q10⟩ := db q10
  rw [dq_xR q10] at q12
  refine dq_cvi hD 145 236 5 1 [2] p7 [.int i1] [] 15 [va_rf p9.1] (by decide +kernel) ap_236 ⟨⟨Nat.le_of_ble_eq_true rfl, by decide⟩, rfl, rfl⟩ (dq_ok8 [1, 1] [] (dc_r (dc_i dc_n)) dc_n (by decide +kernel)) (by decide +kernel) rfl q12 rfl ?_
  refine dq_asn 3 16 (by decide +kernel) (by decide +kernel) ?_
  have g13 := dg_ne (i := 3) (u := va_rf p9.1) (by decide) (Or.inl (by decide)) G0
  have g14 := dg_ne (i := 3) (u := va_rf p9.1) (by decide) (Or.inl (by decide)) G1
  have g15 := dg_ne (i := 3) (u := va_rf p9.1) (by decide) (Or.inr rfl) G2
  have g16 := dg_eq (lv) 3 (va_rf p9.1)
  refine dq_aln 3 17 (by decide +kernel) rfl g16 ?_
  rcases di hh with ⟨q17, hh⟩ | ⟨q17, hh⟩
  · refine dq_null 23 true 40 q17 (by decide +kernel) (by decide +kernel) ?_
    exact c270_40 hD hz  _ _ _  hh
  · refine dq_null 23 false 20 q17 (by decide +kernel) (by decide +kernel) ?_
    refine dq_iln 2 21 (by decide +kernel) rfl g15 ?_
    rcases di hh with ⟨q18, hh⟩ | ⟨q18, hh⟩
    · refine dq_1 .lt 19 true 40 q18 (by decide +kernel) ?_
      exact c270_40 hD hz  _ _ _  hh
    · refine dq_1 .lt 19 false 24 q18 (by decide +kernel) ?_
      refine dq_iln 2 25 (by decide +kernel) rfl g15 ?_
      refine dq_aln 3 26 (by decide +kernel) rfl g16 ?_
      obtain ⟨p19, q20, hh⟩ := db hh
      refine dq_gR 177 1 [14] 29 (by decide +kernel) rfl q20 ?_
      obtain ⟨p21, q22, hh⟩ := db hh
      refine dq_gR 203 4 [9] 32 (by decide +kernel) rfl q22 ?_
      obtain ⟨x23, q24, hh⟩ := db hh
      obtain ⟨a25, q26, q24⟩ := db q24
      rw [dq_xI q24] at q26
      refine dq_cif hD 99 1 101 7 0 [5] p21 [] [.int i2] 37 [.int x23.1, .int i2] (by decide +kernel) ap_101 ⟨⟨Nat.le_of_ble_eq_true rfl, by decide⟩, rfl, rfl⟩ (dq_ok8 [1] [1] (dc_r dc_n) (dc_i dc_n) (by decide +kernel)) (by decide +kernel) rfl q26 rfl ?_
      rcases di hh with ⟨q27, hh⟩ | ⟨q27, hh⟩
      · refine dq_2 .lt 5 true 42 q27 (by decide +kernel) ?_
        refine dq_aln 0 43 (by decide +kernel) rfl g13 ?_
        obtain ⟨p28, q29, hh⟩ := db hh
        refine dq_gR 26 2 [0] 46 (by decide +kernel) rfl q29 ?_
        refine dq_aln 0 47 (by decide +kernel) rfl g13 ?_
        obtain ⟨p30, q31, hh⟩ := db hh
        refine dq_gR 19 1 [0] 50 (by decide +kernel) rfl q31 ?_
        refine dq_aln 3 51 (by decide +kernel) rfl g16 ?_
        refine dq_iln 2 52 (by decide +kernel) rfl g15 ?_
        obtain ⟨h32, q33, hh⟩ := db hh
        obtain ⟨a34, q35, q33⟩ := db q33
        rw [dq_xV q33] at q35
        refine dq_cvi hD 206 271 5 3 [3] p28 [va_rf p30, va_rf p9.1, .int i2] [] 55 [] (by decide +kernel) ap_271 ⟨⟨Nat.le_of_ble_eq_true rfl, by decide⟩, rfl, rfl⟩ (dq_ok8 [1, 1, 1, 1] [] (dc_r (dc_r (dc_r (dc_i dc_n)))) dc_n (by decide +kernel)) (by decide +kernel) rfl q35 rfl ?_
        refine dq_aln 0 56 (by decide +kernel) rfl g13 ?_
        obtain ⟨p36, q37, hh⟩ := db hh
        refine dq_gR 26 2 [0] 59 (by decide +kernel) rfl q37 ?_
        obtain ⟨x38, q39, hh⟩ := db hh
        obtain ⟨a40, q41, q39⟩ := db q39
        rw [dq_xI q39] at q41
        refine dq_cvi hD 210 279 5 0 [3] p36 [] [] 62 [.int x38.1] (by decide +kernel) ap_279 ⟨⟨Nat.le_of_ble_eq_true rfl, by decide⟩, rfl, rfl⟩ (dq_ok8 [1] [] (dc_r dc_n) dc_n (by decide +kernel)) (by decide +kernel) rfl q41 rfl ?_
        exact dq_retI (some .int) (by decide +kernel) rfl hh
      · refine dq_2 .lt 5 false 40 q27 (by decide +kernel) ?_
        exact c270_40 hD hz  _ _ _  hh
def f270 (L : Nat) (xs : Nat → Int32) (zf : Value) (D : dD) (w : Nat) (As : List Value) (h : rm_H) : Option dR := match As with
  | [v0, .int i1, .int i2] => (rm_rf v0).bind fun o0 => b270_0 L xs zf D w o0 i1 i2 h
  | _ => none
theorem d270 {L : Nat} {xs : Nat → Int32} {zf : Value} {D : dD} {w k : Nat} (hD : dO L xs zf D k) (hz : zf.category = 1) (As : List Value) (h : rm_H) (r : dR) (hh : f270 L xs zf D w As h = some r) : dq L xs zf ah_M270 0 (lv_args 0 As) [] h (k + 1) r := by
  unfold f270 at hh
  split at hh
  · obtain ⟨o0, e0, hb0⟩ := db hh
    have e0 := rm_rf_v _ _ e0
    subst e0
    refine c270_0 hD hz _ _ _ _ _ _ ?_ ?_ ?_ hb0
    all_goals (simp only [la_r, la_i, la_j]; rfl)
  · cases hh
def b271_63 (L : Nat) (xs : Nat → Int32) (zf : Value) (D : dD) (w : Nat) (h : rm_H) : Option dR :=
  some (none, h)
theorem c271_63 {L : Nat} {xs : Nat → Int32} {zf : Value} {D : dD} {w k : Nat} (hD : dO L xs zf D k) (hz : zf.category = 1) : ∀ (lv : rm_L) (h : rm_H) (r : dR), b271_63 L xs zf D w  h = some r → dq L xs zf ah_M271 63 lv [] h (k + 1) r := by
  intro lv h r hh
  unfold b271_63 at hh
  cases hh
  exact dq_ret0 (by decide +kernel) rfl
def b271_0 (L : Nat) (xs : Nat → Int32) (zf : Value) (D : dD) (w : Nat) (o0 : Option Nat) (o1 : Option Nat) (o2 : Option Nat) (i3 : Int32) (h : rm_H) : Option dR :=
  (dgR L xs h 7 [2] o1).bind fun p1 =>
  if dnl p1 = true then
    b271_63 L xs zf D w h
  else
    if mx_f1 .lt i3 = true then
      b271_63 L xs zf D w h
    else
      (dgR L xs h 1 [14] o2).bind fun p5 =>
      (dgR L xs h 4 [9] p5).bind fun p7 =>
      ((dcV L xs D 101 [5] p7 [] h).bind dxI).bind fun x9 =>
      if mx_f2 .ge i3 x9.1 = true then
        b271_63 L xs zf D w x9.2
      else
        (dgR L xs x9.2 1 [14] o2).bind fun p14 =>
        (dgR L xs x9.2 4 [9] p14).bind fun p16 =>
        ((dcV L xs D 146 [5] p16 [.int i3] x9.2).bind dxR).bind fun p18 =>
        if dcK L xs p18.2 [10] p18.1 = false then none else
        (dgI L xs p18.2 7 [10] p18.1).bind fun x23 =>
        (dgI L xs p18.2 2 [14] o2).bind fun x25 =>
        ((dcV L xs D 272 [2] o1 [.int ((x25 + 1) + i3)] p18.2).bind dxI).bind fun x27 =>
        ((dcV L xs D 273 [3] o0 [va_rf o1, .int x23, .int x27.1] x27.2).bind dxV).bind fun h31 =>
        b271_63 L xs zf D w h31
theorem c271_0 {L : Nat} {xs : Nat → Int32} {zf : Value} {D : dD} {w k : Nat} (hD : dO L xs zf D k) (hz : zf.category = 1) : ∀ (o0 : Option Nat) (o1 : Option Nat) (o2 : Option Nat) (i3 : Int32) (lv : rm_L) (h : rm_H) (r : dR), rm_get lv 0 = some (va_rf o0) → rm_get lv 1 = some (va_rf o1) → rm_get lv 2 = some (va_rf o2) → rm_get lv 3 = some (.int i3) → b271_0 L xs zf D w  o0 o1 o2 i3 h = some r → dq L xs zf ah_M271 0 lv [] h (k + 1) r := by
  intro o0 o1 o2 i3 lv h r G0 G1 G2 G3 hh
  unfold b271_0 at hh
  refine dq_aln 1 1 (by decide +kernel) rfl G1 ?_
  obtain ⟨p1, q2, hh⟩ := db hh
  refine dq_gR 62 7 [2] 4 (by decide +kernel) rfl q2 ?_
  rcases di hh with ⟨q3, hh⟩ | ⟨q3, hh⟩
  · refine dq_null 59 true 63 q3 (by decide +kernel) (by decide +kernel) ?_
    exact c271_63 hD hz  _ _ _  hh
  · refine dq_null 59 false 7 q3 (by decide +kernel) (by decide +kernel) ?_
    refine dq_iln 3 8 (by decide +kernel) rfl G3 ?_
    rcases di hh with ⟨q4, hh⟩ | ⟨q4, hh⟩
    · refine dq_1 .lt 55 true 63 q4 (by decide +kernel) ?_
      exact c271_63 hD hz  _ _ _  hh
    · refine dq_1 .lt 55 false 11 q4 (by decide +kernel) ?_
      refine dq_iln 3 12 (by decide +kernel) rfl G3 ?_
      refine dq_aln 2 13 (by decide +kernel) rfl G2 ?_
      obtain ⟨p5, q6, hh⟩ := db hh
      refine dq_gR 68 1 [14] 16 (by decide +kernel) rfl q6 ?_
      obtain ⟨p7, q8, hh⟩ := db hh
      refine dq_gR 74 4 [9] 19 (by decide +kernel) rfl q8 ?_
      obtain ⟨x9, q10, hh⟩ := db hh
      obtain ⟨a11, q12, q10⟩ := db q10
      rw [dq_xI q10] at q12
      refine dq_cif hD 80 1 101 7 0 [5] p7 [] [.int i3] 24 [.int x9.1, .int i3] (by decide +kernel) ap_101 ⟨⟨Nat.le_of_ble_eq_true rfl, by decide⟩, rfl, rfl⟩ (dq_ok8 [1] [1] (dc_r dc_n) (dc_i dc_n) (by decide +kernel)) (by decide +kernel) rfl q12 rfl ?_
      rcases di hh with ⟨q13, hh⟩ | ⟨q13, hh⟩
      · refine dq_2 .ge 39 true 63 q13 (by decide +kernel) ?_
        exact c271_63 hD hz  _ _ _  hh
      · refine dq_2 .ge 39 false 27 q13 (by decide +kernel) ?_
        refine dq_aln 0 28 (by decide +kernel) rfl G0 ?_
        refine dq_aln 1 29 (by decide +kernel) rfl G1 ?_
        refine dq_aln 2 30 (by decide +kernel) rfl G2 ?_
        obtain ⟨p14, q15, hh⟩ := db hh
        refine dq_gR 68 1 [14] 33 (by decide +kernel) rfl q15 ?_
        obtain ⟨p16, q17, hh⟩ := db hh
        refine dq_gR 74 4 [9] 36 (by decide +kernel) rfl q17 ?_
        refine dq_iln 3 37 (by decide +kernel) rfl G3 ?_
        obtain ⟨p18, q19, hh⟩ := db hh
        obtain ⟨a20, q21, q19⟩ := db q19
        rw [dq_xR q19] at q21
        refine dq_cif hD 85 2 146 7 1 [5] p16 [.int i3] [va_rf o1, va_rf o0] 42 [va_rf p18.1, va_rf o1, va_rf o0] (by decide +kernel) ap_146 ⟨⟨Nat.le_of_ble_eq_true rfl, by decide⟩, rfl, rfl⟩ (dq_ok8 [1, 1] [1, 1] (dc_r (dc_i dc_n)) (dc_r (dc_r dc_n)) (by decide +kernel)) (by decide +kernel) rfl q21 rfl ?_
        rcases dp hh with ⟨_, hh⟩ | ⟨q22, hh⟩
        · cases hh
        refine dq_cast 89 [10] 45 (by decide +kernel) ⟨rfl, by decide⟩ (by rw [Bool.not_eq_false] at q22; exact q22) ?_
        obtain ⟨x23, q24, hh⟩ := db hh
        refine dq_gI 91 7 [10] 48 (by decide +kernel) rfl q24 ?_
        refine dq_aln 1 49 (by decide +kernel) rfl G1 ?_
        refine dq_aln 2 50 (by decide +kernel) rfl G2 ?_
        obtain ⟨x25, q26, hh⟩ := db hh
        refine dq_gI 94 2 [14] 53 (by decide +kernel) rfl q26 ?_
        refine dq_S (.iconst 1) 1 [] 54 _ [.int 1, .int x25, va_rf o1, .int x23, va_rf o1, va_rf o0] (by decide +kernel) rfl ?_
        refine dq_S (.iadd) 1 [] 55 _ [.int (x25 + 1), va_rf o1, .int x23, va_rf o1, va_rf o0] (by decide +kernel) rfl ?_
        refine dq_iln 3 56 (by decide +kernel) rfl G3 ?_
        refine dq_S (.iadd) 1 [] 57 _ [.int ((x25 + 1) + i3), va_rf o1, .int x23, va_rf o1, va_rf o0] (by decide +kernel) rfl ?_
        obtain ⟨x27, q28, hh⟩ := db hh
        obtain ⟨a29, q30, q28⟩ := db q28
        rw [dq_xI q28] at q30
        refine dq_cvi hD 97 272 5 1 [2] o1 [.int ((x25 + 1) + i3)] [.int x23, va_rf o1, va_rf o0] 60 [.int x27.1, .int x23, va_rf o1, va_rf o0] (by decide +kernel) ap_272 ⟨⟨Nat.le_of_ble_eq_true rfl, by decide⟩, rfl, rfl⟩ (dq_ok8 [1, 1] [1, 1, 1] (dc_r (dc_i dc_n)) (dc_i (dc_r (dc_r dc_n))) (by decide +kernel)) (by decide +kernel) rfl q30 rfl ?_
        obtain ⟨h31, q32, hh⟩ := db hh
        obtain ⟨a33, q34, q32⟩ := db q32
        rw [dq_xV q32] at q34
        refine dq_cvi hD 101 273 5 3 [3] o0 [va_rf o1, .int x23, .int x27.1] [] 63 [] (by decide +kernel) ap_273 ⟨⟨Nat.le_of_ble_eq_true rfl, by decide⟩, rfl, rfl⟩ (dq_ok8 [1, 1, 1, 1] [] (dc_r (dc_r (dc_i (dc_i dc_n)))) dc_n (by decide +kernel)) (by decide +kernel) rfl q34 rfl ?_
        exact c271_63 hD hz  _ _ _  hh
def f271 (L : Nat) (xs : Nat → Int32) (zf : Value) (D : dD) (w : Nat) (As : List Value) (h : rm_H) : Option dR := match As with
  | [v0, v1, v2, .int i3] => (rm_rf v0).bind fun o0 => (rm_rf v1).bind fun o1 => (rm_rf v2).bind fun o2 => b271_0 L xs zf D w o0 o1 o2 i3 h
  | _ => none
theorem d271 {L : Nat} {xs : Nat → Int32} {zf : Value} {D : dD} {w k : Nat} (hD : dO L xs zf D k) (hz : zf.category = 1) (As : List Value) (h : rm_H) (r : dR) (hh : f271 L xs zf D w As h = some r) : dq L xs zf ah_M271 0 (lv_args 0 As) [] h (k + 1) r := by
  unfold f271 at hh
  split at hh
  · obtain ⟨o0, e0, hb0⟩ := db hh
    have e0 := rm_rf_v _ _ e0
    obtain ⟨o1, e1, hb1⟩ := db hb0
    have e1 := rm_rf_v _ _ e1
    obtain ⟨o2, e2, hb2⟩ := db hb1
    have e2 := rm_rf_v _ _ e2
    subst e0 e1 e2
    refine c271_0 hD hz _ _ _ _ _ _ _ ?_ ?_ ?_ ?_ hb2
    all_goals (simp only [la_r, la_i, la_j]; rfl)
  · cases hh
def b272_23 (L : Nat) (xs : Nat → Int32) (zf : Value) (D : dD) (w : Nat) (s0 : Int32) (h : rm_H) : Option dR :=
  drI (some .int) s0 h
theorem c272_23 {L : Nat} {xs : Nat → Int32} {zf : Value} {D : dD} {w k : Nat} (hD : dO L xs zf D k) (hz : zf.category = 1) : ∀ (s0 : Int32) (lv : rm_L) (h : rm_H) (r : dR), b272_23 L xs zf D w  s0 h = some r → dq L xs zf ah_M272 23 lv [.int s0] h (k + 1) r := by
  intro s0 lv h r hh
  unfold b272_23 at hh
  exact dq_retI (some .int) (by decide +kernel) rfl hh
def b272_13 (L : Nat) (xs : Nat → Int32) (zf : Value) (D : dD) (w : Nat) (h : rm_H) : Option dR :=
  b272_23 L xs zf D w 0 h
theorem c272_13 {L : Nat} {xs : Nat → Int32} {zf : Value} {D : dD} {w k : Nat} (hD : dO L xs zf D k) (hz : zf.category = 1) : ∀ (lv : rm_L) (h : rm_H) (r : dR), b272_13 L xs zf D w  h = some r → dq L xs zf ah_M272 13 lv [] h (k + 1) r := by
  intro lv h r hh
  unfold b272_13 at hh
  refine dq_S (.iconst 0) 1 [] 14 _ [.int 0] (by decide +kernel) rfl ?_
  refine dq_S (.goto 9) 3 [] 23 _ [.int 0] (by decide +kernel) rfl ?_
  exact c272_23 hD hz _ _ _ _  hh
def b272_0 (L : Nat) (xs : Nat → Int32) (zf : Value) (D : dD) (w : Nat) (o0 : Option Nat) (i1 : Int32) (h : rm_H) : Option dR :=
  if mx_f1 .lt i1 = true then
    b272_13 L xs zf D w h
  else
    (dgR L xs h 0 [2] o0).bind fun p2 =>
    (daN L xs h p2).bind fun x4 =>
    if mx_f2 .lt i1 x4 = true then
      (dgR L xs h 0 [2] o0).bind fun p7 =>
      (daI L xs h p7 i1).bind fun x9 =>
      b272_23 L xs zf D w x9 h
    else
      b272_13 L xs zf D w h
theorem c272_0 {L : Nat} {xs : Nat → Int32} {zf : Value} {D : dD} {w k : Nat} (hD : dO L xs zf D k) (hz : zf.category = 1) : ∀ (o0 : Option Nat) (i1 : Int32) (lv : rm_L) (h : rm_H) (r : dR), rm_get lv 0 = some (va_rf o0) → rm_get lv 1 = some (.int i1) → b272_0 L xs zf D w  o0 i1 h = some r → dq L xs zf ah_M272 0 lv [] h (k + 1) r := by
  intro o0 i1 lv h r G0 G1 hh
  unfold b272_0 at hh
  refine dq_iln 1 1 (by decide +kernel) rfl G1 ?_
  rcases di hh with ⟨q1, hh⟩ | ⟨q1, hh⟩
  · refine dq_1 .lt 12 true 13 q1 (by decide +kernel) ?_
    exact c272_13 hD hz  _ _ _  hh
  · refine dq_1 .lt 12 false 4 q1 (by decide +kernel) ?_
    refine dq_iln 1 5 (by decide +kernel) rfl G1 ?_
    refine dq_aln 0 6 (by decide +kernel) rfl G0 ?_
    obtain ⟨p2, q3, hh⟩ := db hh
    refine dq_gR 9 0 [2] 9 (by decide +kernel) rfl q3 ?_
    obtain ⟨x4, q5, hh⟩ := db hh
    refine dq_aN 10 (by decide +kernel) rfl q5 ?_
    rcases di hh with ⟨q6, hh⟩ | ⟨q6, hh⟩
    · refine dq_2 .lt 7 true 17 q6 (by decide +kernel) ?_
      refine dq_aln 0 18 (by decide +kernel) rfl G0 ?_
      obtain ⟨p7, q8, hh⟩ := db hh
      refine dq_gR 9 0 [2] 21 (by decide +kernel) rfl q8 ?_
      refine dq_iln 1 22 (by decide +kernel) rfl G1 ?_
      obtain ⟨x9, q10, hh⟩ := db hh
      refine dq_aI 23 (by decide +kernel) rfl q10 ?_
      exact c272_23 hD hz _ _ _ _  hh
    · refine dq_2 .lt 7 false 13 q6 (by decide +kernel) ?_
      exact c272_13 hD hz  _ _ _  hh
def f272 (L : Nat) (xs : Nat → Int32) (zf : Value) (D : dD) (w : Nat) (As : List Value) (h : rm_H) : Option dR := match As with
  | [v0, .int i1] => (rm_rf v0).bind fun o0 => b272_0 L xs zf D w o0 i1 h
  | _ => none
theorem d272 {L : Nat} {xs : Nat → Int32} {zf : Value} {D : dD} {w k : Nat} (hD : dO L xs zf D k) (hz : zf.category = 1) (As : List Value) (h : rm_H) (r : dR) (hh : f272 L xs zf D w As h = some r) : dq L xs zf ah_M272 0 (lv_args 0 As) [] h (k + 1) r := by
  unfold f272 at hh
  split at hh
  · obtain ⟨o0, e0, hb0⟩ := db hh
    have e0 := rm_rf_v _ _ e0
    subst e0
    refine c272_0 hD hz _ _ _ _ _ ?_ ?_ hb0
    all_goals (simp only [la_r, la_i, la_j]; rfl)
  · cases hh
def b273_197 (L : Nat) (xs : Nat → Int32) (zf : Value) (D : dD) (w : Nat) (K15 : Option Nat → Option Nat → Int32 → rm_H → Option dR) (o0 : Option Nat) (o1 : Option Nat) (i4 : Int32) (h : rm_H) : Option dR :=
  K15 o0 o1 (i4 + 1) h
theorem c273_197 {L : Nat} {xs : Nat → Int32} {zf : Value} {D : dD} {w k : Nat} {K15 : Option Nat → Option Nat → Int32 → rm_H → Option dR} (hD : dO L xs zf D k) (hz : zf.category = 1) (hK15 : ∀ (o0 : Option Nat) (o1 : Option Nat) (i4 : Int32) (lv : rm_L) (h : rm_H) (r : dR), rm_get lv 0 = some (va_rf o0) → rm_get lv 1 = some (va_rf o1) → rm_get lv 4 = some (.int i4) → K15 o0 o1 i4 h = some r → dq L xs zf ah_M273 15 lv [] h (k + 1) r) : ∀ (o0 : Option Nat) (o1 : Option Nat) (i4 : Int32) (lv : rm_L) (h : rm_H) (r : dR), rm_get lv 0 = some (va_rf o0) → rm_get lv 1 = some (va_rf o1) → rm_get lv 4 = some (.int i4) → b273_197 L xs zf D w K15  o0 o1 i4 h = some r → dq L xs zf ah_M273 197 lv [] h (k + 1) r := by
  intro o0 o1 i4 lv h r G0 G1 G4 hh
  unfold b273_197 at hh
  refine dq_incy 4 1 1 200 (by decide +kernel) ⟨rfl, by decide +kernel, by decide +kernel⟩ G4 ?_
  have g1 := dg_ne (i := 4) (u := .int (i4 + 1)) (by decide) (Or.inl (by decide)) G0
  have g2 := dg_ne (i := 4) (u := .int (i4 + 1)) (by decide) (Or.inl (by decide)) G1
  have g3 := dg_eq (lv) 4 (.int (i4 + 1))
  refine dq_S (.goto (-185)) 3 [] 15 _ [] (by decide +kernel) rfl ?_
  exact hK15 _ _ _ _ _ _ g1 g2 g3 hh
def b273_97 (L : Nat) (xs : Nat → Int32) (zf : Value) (D : dD) (w : Nat) (K15 : Option Nat → Option Nat → Int32 → rm_H → Option dR) (o0 : Option Nat) (o1 : Option Nat) (i4 : Int32) (h : rm_H) : Option dR :=
  ((dcV L xs D 276 [3] o0 [.int 125] h).bind dxV).bind fun h1 =>
  (dgI L xs h1 6 [3] o0).bind fun x5 =>
  (dpF h1 6 [3] o0 (.int (x5 - 1))).bind fun h7 =>
  b273_197 L xs zf D w K15 o0 o1 i4 h7
theorem c273_97 {L : Nat} {xs : Nat → Int32} {zf : Value} {D : dD} {w k : Nat} {K15 : Option Nat → Option Nat → Int32 → rm_H → Option dR} (hD : dO L xs zf D k) (hz : zf.category = 1) (hK15 : ∀ (o0 : Option Nat) (o1 : Option Nat) (i4 : Int32) (lv : rm_L) (h : rm_H) (r : dR), rm_get lv 0 = some (va_rf o0) → rm_get lv 1 = some (va_rf o1) → rm_get lv 4 = some (.int i4) → K15 o0 o1 i4 h = some r → dq L xs zf ah_M273 15 lv [] h (k + 1) r) : ∀ (o0 : Option Nat) (o1 : Option Nat) (i4 : Int32) (lv : rm_L) (h : rm_H) (r : dR), rm_get lv 0 = some (va_rf o0) → rm_get lv 1 = some (va_rf o1) → rm_get lv 4 = some (.int i4) → b273_97 L xs zf D w K15  o0 o1 i4 h = some r → dq L xs zf ah_M273 97 lv [] h (k + 1) r := by
  intro o0 o1 i4 lv h r G0 G1 G4 hh
  unfold b273_97 at hh
  refine dq_aln 0 98 (by decide +kernel) rfl G0 ?_
  refine dq_S (.bipush 125) 2 [] 100 _ [.int 125, va_rf o0] (by decide +kernel) rfl ?_
  obtain ⟨h1, q2, hh⟩ := db hh
  obtain ⟨a3, q4, q2⟩ := db q2
  rw [dq_xV q2] at q4
  refine dq_cvi hD 58 276 5 1 [3] o0 [.int 125] [] 103 [] (by decide +kernel) ap_276 ⟨⟨Nat.le_of_ble_eq_true rfl, by decide⟩, rfl, rfl⟩ (dq_ok8 [1, 1] [] (dc_r (dc_i dc_n)) dc_n (by decide +kernel)) (by decide +kernel) rfl q4 rfl ?_
  refine dq_aln 0 104 (by decide +kernel) rfl G0 ?_
  refine dq_dup 105 (by decide +kernel) rfl ?_
  obtain ⟨x5, q6, hh⟩ := db hh
  refine dq_gI 35 6 [3] 108 (by decide +kernel) rfl q6 ?_
  refine dq_S (.iconst 1) 1 [] 109 _ [.int 1, .int x5, va_rf o0] (by decide +kernel) rfl ?_
  refine dq_S (.isub) 1 [] 110 _ [.int (x5 - 1), va_rf o0] (by decide +kernel) rfl ?_
  obtain ⟨h7, q8, hh⟩ := db hh
  refine dq_put 35 6 [3] 113 (by decide +kernel) rfl q8 ?_
  refine dq_S (.goto 84) 3 [] 197 _ [] (by decide +kernel) rfl ?_
  exact c273_197 hD hz hK15 _ _ _ _ _ _ G0 G1 G4 hh
def b273_142 (L : Nat) (xs : Nat → Int32) (zf : Value) (D : dD) (w : Nat) (K15 : Option Nat → Option Nat → Int32 → rm_H → Option dR) (o0 : Option Nat) (o1 : Option Nat) (i4 : Int32) (i5 : Int32) (i6 : Int32) (o7 : Option Nat) (h : rm_H) : Option dR :=
  (dgR L xs h 4 [9] o7).bind fun p1 =>
  ((dcV L xs D 146 [5] p1 [.int i6] h).bind dxR).bind fun p3 =>
  if dcK L xs p3.2 [10] p3.1 = false then none else
  (dgR L xs p3.2 0 [10] p3.1).bind fun p15 =>
  ((dcV L xs D 277 [3] o0 [va_rf p15] p3.2).bind dxV).bind fun h17 =>
  ((dcV L xs D 276 [3] o0 [.int 58] h17).bind dxV).bind fun h21 =>
  (dgI L xs h21 7 [10] p3.1).bind fun x25 =>
  ((dcV L xs D 266 [2] o1 [.int i5] h21).bind dxI).bind fun x27 =>
  ((dcV L xs D 272 [2] o1 [.int (x27.1 + i6)] x27.2).bind dxI).bind fun x31 =>
  ((dcV L xs D 274 [3] o0 [va_rf o1, .int x25, .int x31.1] x31.2).bind dxV).bind fun h35 =>
  b273_197 L xs zf D w K15 o0 o1 i4 h35
theorem c273_142 {L : Nat} {xs : Nat → Int32} {zf : Value} {D : dD} {w k : Nat} {K15 : Option Nat → Option Nat → Int32 → rm_H → Option dR} (hD : dO L xs zf D k) (hz : zf.category = 1) (hK15 : ∀ (o0 : Option Nat) (o1 : Option Nat) (i4 : Int32) (lv : rm_L) (h : rm_H) (r : dR), rm_get lv 0 = some (va_rf o0) → rm_get lv 1 = some (va_rf o1) → rm_get lv 4 = some (.int i4) → K15 o0 o1 i4 h = some r → dq L xs zf ah_M273 15 lv [] h (k + 1) r) : ∀ (o0 : Option Nat) (o1 : Option Nat) (i4 : Int32) (i5 : Int32) (i6 : Int32) (o7 : Option Nat) (lv : rm_L) (h : rm_H) (r : dR), rm_get lv 0 = some (va_rf o0) → rm_get lv 1 = some (va_rf o1) → rm_get lv 4 = some (.int i4) → rm_get lv 5 = some (.int i5) → rm_get lv 6 = some (.int i6) → rm_get lv 7 = some (va_rf o7) → b273_142 L xs zf D w K15  o0 o1 i4 i5 i6 o7 h = some r → dq L xs zf ah_M273 142 lv [] h (k + 1) r := by
  intro o0 o1 i4 i5 i6 o7 lv h r G0 G1 G4 G5 G6 G7 hh
  unfold b273_142 at hh
  refine dq_al 7 144 (by decide +kernel) rfl G7 ?_
  obtain ⟨p1, q2, hh⟩ := db hh
  refine dq_gR 74 4 [9] 147 (by decide +kernel) rfl q2 ?_
  refine dq_il 6 149 (by decide +kernel) rfl G6 ?_
  obtain ⟨p3, q4, hh⟩ := db hh
  obtain ⟨a5, q6, q4⟩ := db q4
  rw [dq_xR q4] at q6
  refine dq_cif hD 85 2 146 7 1 [5] p1 [.int i6] [] 154 [va_rf p3.1] (by decide +kernel) ap_146 ⟨⟨Nat.le_of_ble_eq_true rfl, by decide⟩, rfl, rfl⟩ (dq_ok8 [1, 1] [] (dc_r (dc_i dc_n)) dc_n (by decide +kernel)) (by decide +kernel) rfl q6 rfl ?_
  rcases dp hh with ⟨_, hh⟩ | ⟨q7, hh⟩
  · cases hh
  refine dq_cast 89 [10] 157 (by decide +kernel) ⟨rfl, by decide⟩ (by rw [Bool.not_eq_false] at q7; exact q7) ?_
  refine dq_as 8 159 (by decide +kernel) (by decide +kernel) ?_
  have g8 := dg_ne (i := 8) (u := va_rf p3.1) (by decide) (Or.inl (by decide)) G0
  have g9 := dg_ne (i := 8) (u := va_rf p3.1) (by decide) (Or.inl (by decide)) G1
  have g10 := dg_ne (i := 8) (u := va_rf p3.1) (by decide) (Or.inl (by decide)) G4
  have g11 := dg_ne (i := 8) (u := va_rf p3.1) (by decide) (Or.inl (by decide)) G5
  have g12 := dg_ne (i := 8) (u := va_rf p3.1) (by decide) (Or.inl (by decide)) G6
  have g13 := dg_ne (i := 8) (u := va_rf p3.1) (by decide) (Or.inr (drc _)) G7
  have g14 := dg_eq (lv) 8 (va_rf p3.1)
  refine dq_aln 0 160 (by decide +kernel) rfl g8 ?_
  refine dq_al 8 162 (by decide +kernel) rfl g14 ?_
  obtain ⟨p15, q16, hh⟩ := db hh
  refine dq_gR 140 0 [10] 165 (by decide +kernel) rfl q16 ?_
  obtain ⟨h17, q18, hh⟩ := db hh
  obtain ⟨a19, q20, q18⟩ := db q18
  rw [dq_xV q18] at q20
  refine dq_cvi hD 120 277 5 1 [3] o0 [va_rf p15] [] 168 [] (by decide +kernel) ap_277 ⟨⟨Nat.le_of_ble_eq_true rfl, by decide⟩, rfl, rfl⟩ (dq_ok8 [1, 1] [] (dc_r (dc_r dc_n)) dc_n (by decide +kernel)) (by decide +kernel) rfl q20 rfl ?_
  refine dq_aln 0 169 (by decide +kernel) rfl g8 ?_
  refine dq_S (.bipush 58) 2 [] 171 _ [.int 58, va_rf o0] (by decide +kernel) rfl ?_
  obtain ⟨h21, q22, hh⟩ := db hh
  obtain ⟨a23, q24, q22⟩ := db q22
  rw [dq_xV q22] at q24
  refine dq_cvi hD 58 276 5 1 [3] o0 [.int 58] [] 174 [] (by decide +kernel) ap_276 ⟨⟨Nat.le_of_ble_eq_true rfl, by decide⟩, rfl, rfl⟩ (dq_ok8 [1, 1] [] (dc_r (dc_i dc_n)) dc_n (by decide +kernel)) (by decide +kernel) rfl q24 rfl ?_
  refine dq_aln 0 175 (by decide +kernel) rfl g8 ?_
  refine dq_aln 1 176 (by decide +kernel) rfl g9 ?_
  refine dq_al 8 178 (by decide +kernel) rfl g14 ?_
  obtain ⟨x25, q26, hh⟩ := db hh
  refine dq_gI 91 7 [10] 181 (by decide +kernel) rfl q26 ?_
  refine dq_aln 1 182 (by decide +kernel) rfl g9 ?_
  refine dq_aln 1 183 (by decide +kernel) rfl g9 ?_
  refine dq_il 5 185 (by decide +kernel) rfl g11 ?_
  obtain ⟨x27, q28, hh⟩ := db hh
  obtain ⟨a29, q30, q28⟩ := db q28
  rw [dq_xI q28] at q30
  refine dq_cvi hD 134 266 5 1 [2] o1 [.int i5] [va_rf o1, .int x25, va_rf o1, va_rf o0] 188 [.int x27.1, va_rf o1, .int x25, va_rf o1, va_rf o0] (by decide +kernel) ap_266 ⟨⟨Nat.le_of_ble_eq_true rfl, by decide⟩, rfl, rfl⟩ (dq_ok8 [1, 1] [1, 1, 1, 1] (dc_r (dc_i dc_n)) (dc_r (dc_i (dc_r (dc_r dc_n)))) (by decide +kernel)) (by decide +kernel) rfl q30 rfl ?_
  refine dq_il 6 190 (by decide +kernel) rfl g12 ?_
  refine dq_S (.iadd) 1 [] 191 _ [.int (x27.1 + i6), va_rf o1, .int x25, va_rf o1, va_rf o0] (by decide +kernel) rfl ?_
  obtain ⟨x31, q32, hh⟩ := db hh
  obtain ⟨a33, q34, q32⟩ := db q32
  rw [dq_xI q32] at q34
  refine dq_cvi hD 97 272 5 1 [2] o1 [.int (x27.1 + i6)] [.int x25, va_rf o1, va_rf o0] 194 [.int x31.1, .int x25, va_rf o1, va_rf o0] (by decide +kernel) ap_272 ⟨⟨Nat.le_of_ble_eq_true rfl, by decide⟩, rfl, rfl⟩ (dq_ok8 [1, 1] [1, 1, 1] (dc_r (dc_i dc_n)) (dc_i (dc_r (dc_r dc_n))) (by decide +kernel)) (by decide +kernel) rfl q34 rfl ?_
  obtain ⟨h35, q36, hh⟩ := db hh
  obtain ⟨a37, q38, q36⟩ := db q36
  rw [dq_xV q36] at q38
  refine dq_cvi hD 131 274 5 3 [3] o0 [va_rf o1, .int x25, .int x31.1] [] 197 [] (by decide +kernel) ap_274 ⟨⟨Nat.le_of_ble_eq_true rfl, by decide⟩, rfl, rfl⟩ (dq_ok8 [1, 1, 1, 1] [] (dc_r (dc_r (dc_i (dc_i dc_n)))) dc_n (by decide +kernel)) (by decide +kernel) rfl q38 rfl ?_
  exact c273_197 hD hz hK15 _ _ _ _ _ _ g8 g9 g10 hh
def b273_203 (L : Nat) (xs : Nat → Int32) (zf : Value) (D : dD) (w : Nat) (h : rm_H) : Option dR :=
  some (none, h)
theorem c273_203 {L : Nat} {xs : Nat → Int32} {zf : Value} {D : dD} {w k : Nat} (hD : dO L xs zf D k) (hz : zf.category = 1) : ∀ (lv : rm_L) (h : rm_H) (r : dR), b273_203 L xs zf D w  h = some r → dq L xs zf ah_M273 203 lv [] h (k + 1) r := by
  intro lv h r hh
  unfold b273_203 at hh
  cases hh
  exact dq_ret0 (by decide +kernel) rfl
def b273_15 (L : Nat) (xs : Nat → Int32) (zf : Value) (D : dD) (w : Nat) : Nat → Option Nat → Option Nat → Int32 → rm_H → Option dR
  | 0, _, _, _, _ => none
  | n + 1, o0, o1, i4, h =>
    if mx_f2 .ge i4 800 = true then
      b273_203 L xs zf D w h
    else
      (dgI L xs h 6 [3] o0).bind fun x2 =>
      if mx_f1 .le x2 = true then
        b273_203 L xs zf D w h
      else
        (dgR L xs h 2 [3] o0).bind fun p5 =>
        (dgI L xs h 6 [3] o0).bind fun x7 =>
        (daI L xs h p5 (x7 - 1)).bind fun x9 =>
        (dgR L xs h 3 [3] o0).bind fun p15 =>
        (dgI L xs h 6 [3] o0).bind fun x17 =>
        (daI L xs h p15 (x17 - 1)).bind fun x19 =>
        (dgR L xs h 7 [2] o1).bind fun p26 =>
        ((dcV L xs D 266 [2] o1 [.int x9] h).bind dxI).bind fun x28 =>
        ((dcV L xs D 272 [2] o1 [.int (x28.1 - 1)] x28.2).bind dxI).bind fun x32 =>
        ((dcV L xs D 194 [4] p26 [.int x32.1] x32.2).bind dxR).bind fun p36 =>
        if dnl p36.1 = true then
          b273_97 L xs zf D w (b273_15 L xs zf D w n) o0 o1 i4 p36.2
        else
          (dgR L xs p36.2 4 [9] p36.1).bind fun p47 =>
          ((dcV L xs D 101 [5] p47 [] p36.2).bind dxI).bind fun x49 =>
          if mx_f2 .lt x19 x49.1 = true then
            (dgR L xs x49.2 3 [3] o0).bind fun p54 =>
            (dgI L xs x49.2 6 [3] o0).bind fun x56 =>
            (dsI x49.2 p54 (x56 - 1) (x19 + 1)).bind fun h58 =>
            if mx_f1 .le x19 = true then
              b273_142 L xs zf D w (b273_15 L xs zf D w n) o0 o1 i4 x9 x19 p36.1 h58
            else
              ((dcV L xs D 276 [3] o0 [.int 44] h58).bind dxV).bind fun h61 =>
              b273_142 L xs zf D w (b273_15 L xs zf D w n) o0 o1 i4 x9 x19 p36.1 h61
          else
            b273_97 L xs zf D w (b273_15 L xs zf D w n) o0 o1 i4 x49.2
theorem c273_15 {L : Nat} {xs : Nat → Int32} {zf : Value} {D : dD} {w k : Nat} (hD : dO L xs zf D k) (hz : zf.category = 1) : ∀ (n : Nat) (o0 : Option Nat) (o1 : Option Nat) (i4 : Int32) (lv : rm_L) (h : rm_H) (r : dR), rm_get lv 0 = some (va_rf o0) → rm_get lv 1 = some (va_rf o1) → rm_get lv 4 = some (.int i4) → b273_15 L xs zf D w n  o0 o1 i4 h = some r → dq L xs zf ah_M273 15 lv [] h (k + 1) r := by
  intro n
  induction n with
  | zero =>
    intro o0 o1 i4 lv h r G0 G1 G4 hh
    cases hh
  | succ n ih =>
    intro o0 o1 i4 lv h r G0 G1 G4 hh
    rw [b273_15] at hh
    refine dq_il 4 17 (by decide +kernel) rfl G4 ?_
    refine dq_S (.sipush 800) 3 [] 20 _ [.int 800, .int i4] (by decide +kernel) rfl ?_
    rcases di hh with ⟨q1, hh⟩ | ⟨q1, hh⟩
    · refine dq_2 .ge 183 true 203 q1 (by decide +kernel) ?_
      exact c273_203 hD hz  _ _ _  hh
    · refine dq_2 .ge 183 false 23 q1 (by decide +kernel) ?_
      refine dq_aln 0 24 (by decide +kernel) rfl G0 ?_
      obtain ⟨x2, q3, hh⟩ := db hh
      refine dq_gI 35 6 [3] 27 (by decide +kernel) rfl q3 ?_
      rcases di hh with ⟨q4, hh⟩ | ⟨q4, hh⟩
      · refine dq_1 .le 176 true 203 q4 (by decide +kernel) ?_
        exact c273_203 hD hz  _ _ _  hh
      · refine dq_1 .le 176 false 30 q4 (by decide +kernel) ?_
        refine dq_aln 0 31 (by decide +kernel) rfl G0 ?_
        obtain ⟨p5, q6, hh⟩ := db hh
        refine dq_gR 22 2 [3] 34 (by decide +kernel) rfl q6 ?_
        refine dq_aln 0 35 (by decide +kernel) rfl G0 ?_
        obtain ⟨x7, q8, hh⟩ := db hh
        refine dq_gI 35 6 [3] 38 (by decide +kernel) rfl q8 ?_
        refine dq_S (.iconst 1) 1 [] 39 _ [.int 1, .int x7, va_rf p5] (by decide +kernel) rfl ?_
        refine dq_S (.isub) 1 [] 40 _ [.int (x7 - 1), va_rf p5] (by decide +kernel) rfl ?_
        obtain ⟨x9, q10, hh⟩ := db hh
        refine dq_aI 41 (by decide +kernel) rfl q10 ?_
        refine dq_is 5 43 (by decide +kernel) (by decide +kernel) ?_
        have g11 := dg_ne (i := 5) (u := .int x9) (by decide) (Or.inl (by decide)) G0
        have g12 := dg_ne (i := 5) (u := .int x9) (by decide) (Or.inl (by decide)) G1
        have g13 := dg_ne (i := 5) (u := .int x9) (by decide) (Or.inr rfl) G4
        have g14 := dg_eq (lv) 5 (.int x9)
        refine dq_aln 0 44 (by decide +kernel) rfl g11 ?_
        obtain ⟨p15, q16, hh⟩ := db hh
        refine dq_gR 25 3 [3] 47 (by decide +kernel) rfl q16 ?_
        refine dq_aln 0 48 (by decide +kernel) rfl g11 ?_
        obtain ⟨x17, q18, hh⟩ := db hh
        refine dq_gI 35 6 [3] 51 (by decide +kernel) rfl q18 ?_
        refine dq_S (.iconst 1) 1 [] 52 _ [.int 1, .int x17, va_rf p15] (by decide +kernel) rfl ?_
        refine dq_S (.isub) 1 [] 53 _ [.int (x17 - 1), va_rf p15] (by decide +kernel) rfl ?_
        obtain ⟨x19, q20, hh⟩ := db hh
        refine dq_aI 54 (by decide +kernel) rfl q20 ?_
        refine dq_is 6 56 (by decide +kernel) (by decide +kernel) ?_
        have g21 := dg_ne (i := 6) (u := .int x19) (by decide) (Or.inl (by decide)) g11
        have g22 := dg_ne (i := 6) (u := .int x19) (by decide) (Or.inl (by decide)) g12
        have g23 := dg_ne (i := 6) (u := .int x19) (by decide) (Or.inl (by decide)) g13
        have g24 := dg_ne (i := 6) (u := .int x19) (by decide) (Or.inr rfl) g14
        have g25 := dg_eq (rm_set1 (lv) 5 (.int x9)) 6 (.int x19)
        refine dq_aln 1 57 (by decide +kernel) rfl g22 ?_
        obtain ⟨p26, q27, hh⟩ := db hh
        refine dq_gR 62 7 [2] 60 (by decide +kernel) rfl q27 ?_
        refine dq_aln 1 61 (by decide +kernel) rfl g22 ?_
        refine dq_aln 1 62 (by decide +kernel) rfl g22 ?_
        refine dq_il 5 64 (by decide +kernel) rfl g24 ?_
        obtain ⟨x28, q29, hh⟩ := db hh
        obtain ⟨a30, q31, q29⟩ := db q29
        rw [dq_xI q29] at q31
        refine dq_cvi hD 134 266 5 1 [2] o1 [.int x9] [va_rf o1, va_rf p26] 67 [.int x28.1, va_rf o1, va_rf p26] (by decide +kernel) ap_266 ⟨⟨Nat.le_of_ble_eq_true rfl, by decide⟩, rfl, rfl⟩ (dq_ok8 [1, 1] [1, 1] (dc_r (dc_i dc_n)) (dc_r (dc_r dc_n)) (by decide +kernel)) (by decide +kernel) rfl q31 rfl ?_
        refine dq_S (.iconst 1) 1 [] 68 _ [.int 1, .int x28.1, va_rf o1, va_rf p26] (by decide +kernel) rfl ?_
        refine dq_S (.isub) 1 [] 69 _ [.int (x28.1 - 1), va_rf o1, va_rf p26] (by decide +kernel) rfl ?_
        obtain ⟨x32, q33, hh⟩ := db hh
        obtain ⟨a34, q35, q33⟩ := db q33
        rw [dq_xI q33] at q35
        refine dq_cvi hD 97 272 5 1 [2] o1 [.int (x28.1 - 1)] [va_rf p26] 72 [.int x32.1, va_rf p26] (by decide +kernel) ap_272 ⟨⟨Nat.le_of_ble_eq_true rfl, by decide⟩, rfl, rfl⟩ (dq_ok8 [1, 1] [1] (dc_r (dc_i dc_n)) (dc_r dc_n) (by decide +kernel)) (by decide +kernel) rfl q35 rfl ?_
        obtain ⟨p36, q37, hh⟩ := db hh
        obtain ⟨a38, q39, q37⟩ := db q37
        rw [dq_xR q37] at q39
        refine dq_cvi hD 137 194 5 1 [4] p26 [.int x32.1] [] 75 [va_rf p36.1] (by decide +kernel) ap_194 ⟨⟨Nat.le_of_ble_eq_true rfl, by decide⟩, rfl, rfl⟩ (dq_ok8 [1, 1] [] (dc_r (dc_i dc_n)) dc_n (by decide +kernel)) (by decide +kernel) rfl q39 rfl ?_
        refine dq_as 7 77 (by decide +kernel) (by decide +kernel) ?_
        have g40 := dg_ne (i := 7) (u := va_rf p36.1) (by decide) (Or.inl (by decide)) g21
        have g41 := dg_ne (i := 7) (u := va_rf p36.1) (by decide) (Or.inl (by decide)) g22
        have g42 := dg_ne (i := 7) (u := va_rf p36.1) (by decide) (Or.inl (by decide)) g23
        have g43 := dg_ne (i := 7) (u := va_rf p36.1) (by decide) (Or.inl (by decide)) g24
        have g44 := dg_ne (i := 7) (u := va_rf p36.1) (by decide) (Or.inr rfl) g25
        have g45 := dg_eq (rm_set1 (rm_set1 (lv) 5 (.int x9)) 6 (.int x19)) 7 (va_rf p36.1)
        refine dq_al 7 79 (by decide +kernel) rfl g45 ?_
        rcases di hh with ⟨q46, hh⟩ | ⟨q46, hh⟩
        · refine dq_null 18 true 97 q46 (by decide +kernel) (by decide +kernel) ?_
          exact c273_97 hD hz ih _ _ _ _ _ _ g40 g41 g42 hh
        · refine dq_null 18 false 82 q46 (by decide +kernel) (by decide +kernel) ?_
          refine dq_il 6 84 (by decide +kernel) rfl g44 ?_
          refine dq_al 7 86 (by decide +kernel) rfl g45 ?_
          obtain ⟨p47, q48, hh⟩ := db hh
          refine dq_gR 74 4 [9] 89 (by decide +kernel) rfl q48 ?_
          obtain ⟨x49, q50, hh⟩ := db hh
          obtain ⟨a51, q52, q50⟩ := db q50
          rw [dq_xI q50] at q52
          refine dq_cif hD 80 1 101 7 0 [5] p47 [] [.int x19] 94 [.int x49.1, .int x19] (by decide +kernel) ap_101 ⟨⟨Nat.le_of_ble_eq_true rfl, by decide⟩, rfl, rfl⟩ (dq_ok8 [1] [1] (dc_r dc_n) (dc_i dc_n) (by decide +kernel)) (by decide +kernel) rfl q52 rfl ?_
          rcases di hh with ⟨q53, hh⟩ | ⟨q53, hh⟩
          · refine dq_2 .lt 22 true 116 q53 (by decide +kernel) ?_
            refine dq_aln 0 117 (by decide +kernel) rfl g40 ?_
            obtain ⟨p54, q55, hh⟩ := db hh
            refine dq_gR 25 3 [3] 120 (by decide +kernel) rfl q55 ?_
            refine dq_aln 0 121 (by decide +kernel) rfl g40 ?_
            obtain ⟨x56, q57, hh⟩ := db hh
            refine dq_gI 35 6 [3] 124 (by decide +kernel) rfl q57 ?_
            refine dq_S (.iconst 1) 1 [] 125 _ [.int 1, .int x56, va_rf p54] (by decide +kernel) rfl ?_
            refine dq_S (.isub) 1 [] 126 _ [.int (x56 - 1), va_rf p54] (by decide +kernel) rfl ?_
            refine dq_il 6 128 (by decide +kernel) rfl g44 ?_
            refine dq_S (.iconst 1) 1 [] 129 _ [.int 1, .int x19, .int (x56 - 1), va_rf p54] (by decide +kernel) rfl ?_
            refine dq_S (.iadd) 1 [] 130 _ [.int (x19 + 1), .int (x56 - 1), va_rf p54] (by decide +kernel) rfl ?_
            obtain ⟨h58, q59, hh⟩ := db hh
            refine dq_sI 131 (by decide +kernel) rfl q59 ?_
            refine dq_il 6 133 (by decide +kernel) rfl g44 ?_
            rcases di hh with ⟨q60, hh⟩ | ⟨q60, hh⟩
            · refine dq_1 .le 9 true 142 q60 (by decide +kernel) ?_
              exact c273_142 hD hz ih _ _ _ _ _ _ _ _ _ g40 g41 g42 g43 g44 g45 hh
            · refine dq_1 .le 9 false 136 q60 (by decide +kernel) ?_
              refine dq_aln 0 137 (by decide +kernel) rfl g40 ?_
              refine dq_S (.bipush 44) 2 [] 139 _ [.int 44, va_rf o0] (by decide +kernel) rfl ?_
              obtain ⟨h61, q62, hh⟩ := db hh
              obtain ⟨a63, q64, q62⟩ := db q62
              rw [dq_xV q62] at q64
              refine dq_cvi hD 58 276 5 1 [3] o0 [.int 44] [] 142 [] (by decide +kernel) ap_276 ⟨⟨Nat.le_of_ble_eq_true rfl, by decide⟩, rfl, rfl⟩ (dq_ok8 [1, 1] [] (dc_r (dc_i dc_n)) dc_n (by decide +kernel)) (by decide +kernel) rfl q64 rfl ?_
              exact c273_142 hD hz ih _ _ _ _ _ _ _ _ _ g40 g41 g42 g43 g44 g45 hh
          · refine dq_2 .lt 22 false 97 q53 (by decide +kernel) ?_
            exact c273_97 hD hz ih _ _ _ _ _ _ g40 g41 g42 hh
def b273_0 (L : Nat) (xs : Nat → Int32) (zf : Value) (D : dD) (w : Nat) (o0 : Option Nat) (o1 : Option Nat) (i2 : Int32) (i3 : Int32) (h : rm_H) : Option dR :=
  (dpF h 6 [3] o0 (.int 0)).bind fun h1 =>
  ((dcV L xs D 274 [3] o0 [va_rf o1, .int i2, .int i3] h1).bind dxV).bind fun h3 =>
  b273_15 L xs zf D w w o0 o1 0 h3
theorem c273_0 {L : Nat} {xs : Nat → Int32} {zf : Value} {D : dD} {w k : Nat} (hD : dO L xs zf D k) (hz : zf.category = 1) : ∀ (o0 : Option Nat) (o1 : Option Nat) (i2 : Int32) (i3 : Int32) (lv : rm_L) (h : rm_H) (r : dR), rm_get lv 0 = some (va_rf o0) → rm_get lv 1 = some (va_rf o1) → rm_get lv 2 = some (.int i2) → rm_get lv 3 = some (.int i3) → b273_0 L xs zf D w  o0 o1 i2 i3 h = some r → dq L xs zf ah_M273 0 lv [] h (k + 1) r := by
  intro o0 o1 i2 i3 lv h r G0 G1 G2 G3 hh
  unfold b273_0 at hh
  refine dq_aln 0 1 (by decide +kernel) rfl G0 ?_
  refine dq_S (.iconst 0) 1 [] 2 _ [.int 0, va_rf o0] (by decide +kernel) rfl ?_
  obtain ⟨h1, q2, hh⟩ := db hh
  refine dq_put 35 6 [3] 5 (by decide +kernel) rfl q2 ?_
  refine dq_aln 0 6 (by decide +kernel) rfl G0 ?_
  refine dq_aln 1 7 (by decide +kernel) rfl G1 ?_
  refine dq_iln 2 8 (by decide +kernel) rfl G2 ?_
  refine dq_iln 3 9 (by decide +kernel) rfl G3 ?_
  obtain ⟨h3, q4, hh⟩ := db hh
  obtain ⟨a5, q6, q4⟩ := db q4
  rw [dq_xV q4] at q6
  refine dq_cvi hD 131 274 5 3 [3] o0 [va_rf o1, .int i2, .int i3] [] 12 [] (by decide +kernel) ap_274 ⟨⟨Nat.le_of_ble_eq_true rfl, by decide⟩, rfl, rfl⟩ (dq_ok8 [1, 1, 1, 1] [] (dc_r (dc_r (dc_i (dc_i dc_n)))) dc_n (by decide +kernel)) (by decide +kernel) rfl q6 rfl ?_
  refine dq_S (.iconst 0) 1 [] 13 _ [.int 0] (by decide +kernel) rfl ?_
  refine dq_is 4 15 (by decide +kernel) (by decide +kernel) ?_
  have g7 := dg_ne (i := 4) (u := .int 0) (by decide) (Or.inl (by decide)) G0
  have g8 := dg_ne (i := 4) (u := .int 0) (by decide) (Or.inl (by decide)) G1
  have g9 := dg_ne (i := 4) (u := .int 0) (by decide) (Or.inl (by decide)) G2
  have g10 := dg_ne (i := 4) (u := .int 0) (by decide) (Or.inr rfl) G3
  have g11 := dg_eq (lv) 4 (.int 0)
  exact c273_15 hD hz _ _ _ _ _ _ _ g7 g8 g11 hh
def f273 (L : Nat) (xs : Nat → Int32) (zf : Value) (D : dD) (w : Nat) (As : List Value) (h : rm_H) : Option dR := match As with
  | [v0, v1, .int i2, .int i3] => (rm_rf v0).bind fun o0 => (rm_rf v1).bind fun o1 => b273_0 L xs zf D w o0 o1 i2 i3 h
  | _ => none
theorem d273 {L : Nat} {xs : Nat → Int32} {zf : Value} {D : dD} {w k : Nat} (hD : dO L xs zf D k) (hz : zf.category = 1) (As : List Value) (h : rm_H) (r : dR) (hh : f273 L xs zf D w As h = some r) : dq L xs zf ah_M273 0 (lv_args 0 As) [] h (k + 1) r := by
  unfold f273 at hh
  split at hh
  · obtain ⟨o0, e0, hb0⟩ := db hh
    have e0 := rm_rf_v _ _ e0
    obtain ⟨o1, e1, hb1⟩ := db hb0
    have e1 := rm_rf_v _ _ e1
    subst e0 e1
    refine c273_0 hD hz _ _ _ _ _ _ _ ?_ ?_ ?_ ?_ hb1
    all_goals (simp only [la_r, la_i, la_j]; rfl)
  · cases hh
def b274_107 (L : Nat) (xs : Nat → Int32) (zf : Value) (D : dD) (w : Nat) (h : rm_H) : Option dR :=
  some (none, h)
theorem c274_107 {L : Nat} {xs : Nat → Int32} {zf : Value} {D : dD} {w k : Nat} (hD : dO L xs zf D k) (hz : zf.category = 1) : ∀ (lv : rm_L) (h : rm_H) (r : dR), b274_107 L xs zf D w  h = some r → dq L xs zf ah_M274 107 lv [] h (k + 1) r := by
  intro lv h r hh
  unfold b274_107 at hh
  cases hh
  exact dq_ret0 (by decide +kernel) rfl
def b274_38 (L : Nat) (xs : Nat → Int32) (zf : Value) (D : dD) (w : Nat) (o0 : Option Nat) (h : rm_H) : Option dR :=
  ((dcV L xs D 277 [3] o0 [va_rf (some 12)] h).bind dxV).bind fun h1 =>
  b274_107 L xs zf D w h1
theorem c274_38 {L : Nat} {xs : Nat → Int32} {zf : Value} {D : dD} {w k : Nat} (hD : dO L xs zf D k) (hz : zf.category = 1) : ∀ (o0 : Option Nat) (lv : rm_L) (h : rm_H) (r : dR), rm_get lv 0 = some (va_rf o0) → b274_38 L xs zf D w  o0 h = some r → dq L xs zf ah_M274 38 lv [] h (k + 1) r := by
  intro o0 lv h r G0 hh
  unfold b274_38 at hh
  refine dq_aln 0 39 (by decide +kernel) rfl G0 ?_
  refine dq_S (.ldc 150) 2 [1, 12] 41 _ [va_rf (some 12), va_rf o0] (by decide +kernel) rfl ?_
  obtain ⟨h1, q2, hh⟩ := db hh
  obtain ⟨a3, q4, q2⟩ := db q2
  rw [dq_xV q2] at q4
  refine dq_cvi hD 120 277 5 1 [3] o0 [va_rf (some 12)] [] 44 [] (by decide +kernel) ap_277 ⟨⟨Nat.le_of_ble_eq_true rfl, by decide⟩, rfl, rfl⟩ (dq_ok8 [1, 1] [] (dc_r (dc_r dc_n)) dc_n (by decide +kernel)) (by decide +kernel) rfl q4 rfl ?_
  refine dq_S (.goto 63) 3 [] 107 _ [] (by decide +kernel) rfl ?_
  exact c274_107 hD hz  _ _ _  hh
def b274_91 (L : Nat) (xs : Nat → Int32) (zf : Value) (D : dD) (w : Nat) (o0 : Option Nat) (i2 : Int32) (i3 : Int32) (s0 : Int32) (s1 : Option Nat) (h : rm_H) : Option dR :=
  ((dcV L xs D 275 [3] s1 [.int s0] h).bind dxV).bind fun h1 =>
  ((D 159 [.int i2] h1).bind dxI).bind fun x5 =>
  if mx_f2 .ne x5.1 5 = true then
    b274_107 L xs zf D w x5.2
  else
    ((dcV L xs D 278 [3] o0 [.int i3] x5.2).bind dxV).bind fun h10 =>
    b274_107 L xs zf D w h10
theorem c274_91 {L : Nat} {xs : Nat → Int32} {zf : Value} {D : dD} {w k : Nat} (hD : dO L xs zf D k) (hz : zf.category = 1) : ∀ (o0 : Option Nat) (i2 : Int32) (i3 : Int32) (s0 : Int32) (s1 : Option Nat) (lv : rm_L) (h : rm_H) (r : dR), rm_get lv 0 = some (va_rf o0) → rm_get lv 2 = some (.int i2) → rm_get lv 3 = some (.int i3) → b274_91 L xs zf D w  o0 i2 i3 s0 s1 h = some r → dq L xs zf ah_M274 91 lv [.int s0, va_rf s1] h (k + 1) r := by
  intro o0 i2 i3 s0 s1 lv h r G0 G2 G3 hh
  unfold b274_91 at hh
  obtain ⟨h1, q2, hh⟩ := db hh
  obtain ⟨a3, q4, q2⟩ := db q2
  rw [dq_xV q2] at q4
  refine dq_cvi hD 147 275 5 1 [3] s1 [.int s0] [] 94 [] (by decide +kernel) ap_275 ⟨⟨Nat.le_of_ble_eq_true rfl, by decide⟩, rfl, rfl⟩ (dq_ok8 [1, 1] [] (dc_r (dc_i dc_n)) dc_n (by decide +kernel)) (by decide +kernel) rfl q4 rfl ?_
  refine dq_iln 2 95 (by decide +kernel) rfl G2 ?_
  obtain ⟨x5, q6, hh⟩ := db hh
  obtain ⟨a7, q8, q6⟩ := db q6
  rw [dq_xI q6] at q8
  refine dq_cst hD 144 159 1 1 [.int i2] [] 98 [.int x5.1] (by decide +kernel) ap_159 ⟨⟨Nat.le_of_ble_eq_true rfl, by decide⟩, rfl, rfl⟩ (dq_ok8 [1] [] (dc_i dc_n) dc_n (by decide +kernel)) (by decide +kernel) rfl q8 rfl ?_
  refine dq_S (.iconst 5) 1 [] 99 _ [.int 5, .int x5.1] (by decide +kernel) rfl ?_
  rcases di hh with ⟨q9, hh⟩ | ⟨q9, hh⟩
  · refine dq_2 .ne 8 true 107 q9 (by decide +kernel) ?_
    exact c274_107 hD hz  _ _ _  hh
  · refine dq_2 .ne 8 false 102 q9 (by decide +kernel) ?_
    refine dq_aln 0 103 (by decide +kernel) rfl G0 ?_
    refine dq_iln 3 104 (by decide +kernel) rfl G3 ?_
    obtain ⟨h10, q11, hh⟩ := db hh
    obtain ⟨a12, q13, q11⟩ := db q11
    rw [dq_xV q11] at q13
    refine dq_cvi hD 155 278 5 1 [3] o0 [.int i3] [] 107 [] (by decide +kernel) ap_278 ⟨⟨Nat.le_of_ble_eq_true rfl, by decide⟩, rfl, rfl⟩ (dq_ok8 [1, 1] [] (dc_r (dc_i dc_n)) dc_n (by decide +kernel)) (by decide +kernel) rfl q13 rfl ?_
    exact c274_107 hD hz  _ _ _  hh
def b274_72 (L : Nat) (xs : Nat → Int32) (zf : Value) (D : dD) (w : Nat) (o0 : Option Nat) (i2 : Int32) (i3 : Int32) (s0 : Int32) (s1 : Option Nat) (h : rm_H) : Option dR :=
  ((dcV L xs D 276 [3] s1 [.int s0] h).bind dxV).bind fun h1 =>
  ((D 159 [.int i2] h1).bind dxI).bind fun x5 =>
  if mx_f2 .ne x5.1 3 = true then
    b274_91 L xs zf D w o0 i2 i3 i3 o0 x5.2
  else
    b274_91 L xs zf D w o0 i2 i3 (i3 - 1) o0 x5.2
theorem c274_72 {L : Nat} {xs : Nat → Int32} {zf : Value} {D : dD} {w k : Nat} (hD : dO L xs zf D k) (hz : zf.category = 1) : ∀ (o0 : Option Nat) (i2 : Int32) (i3 : Int32) (s0 : Int32) (s1 : Option Nat) (lv : rm_L) (h : rm_H) (r : dR), rm_get lv 0 = some (va_rf o0) → rm_get lv 2 = some (.int i2) → rm_get lv 3 = some (.int i3) → b274_72 L xs zf D w  o0 i2 i3 s0 s1 h = some r → dq L xs zf ah_M274 72 lv [.int s0, va_rf s1] h (k + 1) r := by
  intro o0 i2 i3 s0 s1 lv h r G0 G2 G3 hh
  unfold b274_72 at hh
  obtain ⟨h1, q2, hh⟩ := db hh
  obtain ⟨a3, q4, q2⟩ := db q2
  rw [dq_xV q2] at q4
  refine dq_cvi hD 58 276 5 1 [3] s1 [.int s0] [] 75 [] (by decide +kernel) ap_276 ⟨⟨Nat.le_of_ble_eq_true rfl, by decide⟩, rfl, rfl⟩ (dq_ok8 [1, 1] [] (dc_r (dc_i dc_n)) dc_n (by decide +kernel)) (by decide +kernel) rfl q4 rfl ?_
  refine dq_aln 0 76 (by decide +kernel) rfl G0 ?_
  refine dq_iln 2 77 (by decide +kernel) rfl G2 ?_
  obtain ⟨x5, q6, hh⟩ := db hh
  obtain ⟨a7, q8, q6⟩ := db q6
  rw [dq_xI q6] at q8
  refine dq_cst hD 144 159 1 1 [.int i2] [va_rf o0] 80 [.int x5.1, va_rf o0] (by decide +kernel) ap_159 ⟨⟨Nat.le_of_ble_eq_true rfl, by decide⟩, rfl, rfl⟩ (dq_ok8 [1] [1] (dc_i dc_n) (dc_r dc_n) (by decide +kernel)) (by decide +kernel) rfl q8 rfl ?_
  refine dq_S (.iconst 3) 1 [] 81 _ [.int 3, .int x5.1, va_rf o0] (by decide +kernel) rfl ?_
  rcases di hh with ⟨q9, hh⟩ | ⟨q9, hh⟩
  · refine dq_2 .ne 9 true 90 q9 (by decide +kernel) ?_
    refine dq_iln 3 91 (by decide +kernel) rfl G3 ?_
    exact c274_91 hD hz _ _ _ _ _ _ _ _ G0 G2 G3 hh
  · refine dq_2 .ne 9 false 84 q9 (by decide +kernel) ?_
    refine dq_iln 3 85 (by decide +kernel) rfl G3 ?_
    refine dq_S (.iconst 1) 1 [] 86 _ [.int 1, .int i3, va_rf o0] (by decide +kernel) rfl ?_
    refine dq_S (.isub) 1 [] 87 _ [.int (i3 - 1), va_rf o0] (by decide +kernel) rfl ?_
    refine dq_S (.goto 4) 3 [] 91 _ [.int (i3 - 1), va_rf o0] (by decide +kernel) rfl ?_
    exact c274_91 hD hz _ _ _ _ _ _ _ _ G0 G2 G3 hh
def b274_0 (L : Nat) (xs : Nat → Int32) (zf : Value) (D : dD) (w : Nat) (o0 : Option Nat) (o1 : Option Nat) (i2 : Int32) (i3 : Int32) (h : rm_H) : Option dR :=
  (dgR L xs h 7 [2] o1).bind fun p1 =>
  ((D 189 [.int i2] h).bind dxI).bind fun x3 =>
  ((dcV L xs D 194 [4] p1 [.int x3.1] x3.2).bind dxR).bind fun p7 =>
  ((D 159 [.int i2] p7.2).bind dxI).bind fun x16 =>
  if mx_f2 .ne x16.1 1 = true then
    if mx_f1 .eq i3 = true then
      b274_38 L xs zf D w o0 x16.2
    else
      if dnl p7.1 = true then
        b274_38 L xs zf D w o0 x16.2
      else
        (dgR L xs x16.2 0 [9] p7.1).bind fun p23 =>
        ((dcV L xs D 277 [3] o0 [va_rf p23] x16.2).bind dxV).bind fun h25 =>
        ((D 159 [.int i2] h25).bind dxI).bind fun x29 =>
        if mx_f2 .ne x29.1 3 = true then
          b274_72 L xs zf D w o0 i2 i3 35 o0 x29.2
        else
          b274_72 L xs zf D w o0 i2 i3 64 o0 x29.2
  else
    ((dcV L xs D 275 [3] o0 [.int i3] x16.2).bind dxV).bind fun h34 =>
    b274_107 L xs zf D w h34
theorem c274_0 {L : Nat} {xs : Nat → Int32} {zf : Value} {D : dD} {w k : Nat} (hD : dO L xs zf D k) (hz : zf.category = 1) : ∀ (o0 : Option Nat) (o1 : Option Nat) (i2 : Int32) (i3 : Int32) (lv : rm_L) (h : rm_H) (r : dR), rm_get lv 0 = some (va_rf o0) → rm_get lv 1 = some (va_rf o1) → rm_get lv 2 = some (.int i2) → rm_get lv 3 = some (.int i3) → b274_0 L xs zf D w  o0 o1 i2 i3 h = some r → dq L xs zf ah_M274 0 lv [] h (k + 1) r := by
  intro o0 o1 i2 i3 lv h r G0 G1 G2 G3 hh
  unfold b274_0 at hh
  refine dq_aln 1 1 (by decide +kernel) rfl G1 ?_
  obtain ⟨p1, q2, hh⟩ := db hh
  refine dq_gR 62 7 [2] 4 (by decide +kernel) rfl q2 ?_
  refine dq_iln 2 5 (by decide +kernel) rfl G2 ?_
  obtain ⟨x3, q4, hh⟩ := db hh
  obtain ⟨a5, q6, q4⟩ := db q4
  rw [dq_xI q4] at q6
  refine dq_cst hD 141 189 1 1 [.int i2] [va_rf p1] 8 [.int x3.1, va_rf p1] (by decide +kernel) ap_189 ⟨⟨Nat.le_of_ble_eq_true rfl, by decide⟩, rfl, rfl⟩ (dq_ok8 [1] [1] (dc_i dc_n) (dc_r dc_n) (by decide +kernel)) (by decide +kernel) rfl q6 rfl ?_
  obtain ⟨p7, q8, hh⟩ := db hh
  obtain ⟨a9, q10, q8⟩ := db q8
  rw [dq_xR q8] at q10
  refine dq_cvi hD 137 194 5 1 [4] p1 [.int x3.1] [] 11 [va_rf p7.1] (by decide +kernel) ap_194 ⟨⟨Nat.le_of_ble_eq_true rfl, by decide⟩, rfl, rfl⟩ (dq_ok8 [1, 1] [] (dc_r (dc_i dc_n)) dc_n (by decide +kernel)) (by decide +kernel) rfl q10 rfl ?_
  refine dq_as 4 13 (by decide +kernel) (by decide +kernel) ?_
  have g11 := dg_ne (i := 4) (u := va_rf p7.1) (by decide) (Or.inl (by decide)) G0
  have g12 := dg_ne (i := 4) (u := va_rf p7.1) (by decide) (Or.inl (by decide)) G1
  have g13 := dg_ne (i := 4) (u := va_rf p7.1) (by decide) (Or.inl (by decide)) G2
  have g14 := dg_ne (i := 4) (u := va_rf p7.1) (by decide) (Or.inr rfl) G3
  have g15 := dg_eq (lv) 4 (va_rf p7.1)
  refine dq_iln 2 14 (by decide +kernel) rfl g13 ?_
  obtain ⟨x16, q17, hh⟩ := db hh
  obtain ⟨a18, q19, q17⟩ := db q17
  rw [dq_xI q17] at q19
  refine dq_cst hD 144 159 1 1 [.int i2] [] 17 [.int x16.1] (by decide +kernel) ap_159 ⟨⟨Nat.le_of_ble_eq_true rfl, by decide⟩, rfl, rfl⟩ (dq_ok8 [1] [] (dc_i dc_n) dc_n (by decide +kernel)) (by decide +kernel) rfl q19 rfl ?_
  refine dq_S (.iconst 1) 1 [] 18 _ [.int 1, .int x16.1] (by decide +kernel) rfl ?_
  rcases di hh with ⟨q20, hh⟩ | ⟨q20, hh⟩
  · refine dq_2 .ne 11 true 29 q20 (by decide +kernel) ?_
    refine dq_iln 3 30 (by decide +kernel) rfl g14 ?_
    rcases di hh with ⟨q21, hh⟩ | ⟨q21, hh⟩
    · refine dq_1 .eq 8 true 38 q21 (by decide +kernel) ?_
      exact c274_38 hD hz _ _ _ _ g11 hh
    · refine dq_1 .eq 8 false 33 q21 (by decide +kernel) ?_
      refine dq_al 4 35 (by decide +kernel) rfl g15 ?_
      rcases di hh with ⟨q22, hh⟩ | ⟨q22, hh⟩
      · refine dq_nnull 12 false 38 q22 (by decide +kernel) (by decide +kernel) ?_
        exact c274_38 hD hz _ _ _ _ g11 hh
      · refine dq_nnull 12 true 47 q22 (by decide +kernel) (by decide +kernel) ?_
        refine dq_aln 0 48 (by decide +kernel) rfl g11 ?_
        refine dq_al 4 50 (by decide +kernel) rfl g15 ?_
        obtain ⟨p23, q24, hh⟩ := db hh
        refine dq_gR 152 0 [9] 53 (by decide +kernel) rfl q24 ?_
        obtain ⟨h25, q26, hh⟩ := db hh
        obtain ⟨a27, q28, q26⟩ := db q26
        rw [dq_xV q26] at q28
        refine dq_cvi hD 120 277 5 1 [3] o0 [va_rf p23] [] 56 [] (by decide +kernel) ap_277 ⟨⟨Nat.le_of_ble_eq_true rfl, by decide⟩, rfl, rfl⟩ (dq_ok8 [1, 1] [] (dc_r (dc_r dc_n)) dc_n (by decide +kernel)) (by decide +kernel) rfl q28 rfl ?_
        refine dq_aln 0 57 (by decide +kernel) rfl g11 ?_
        refine dq_iln 2 58 (by decide +kernel) rfl g13 ?_
        obtain ⟨x29, q30, hh⟩ := db hh
        obtain ⟨a31, q32, q30⟩ := db q30
        rw [dq_xI q30] at q32
        refine dq_cst hD 144 159 1 1 [.int i2] [va_rf o0] 61 [.int x29.1, va_rf o0] (by decide +kernel) ap_159 ⟨⟨Nat.le_of_ble_eq_true rfl, by decide⟩, rfl, rfl⟩ (dq_ok8 [1] [1] (dc_i dc_n) (dc_r dc_n) (by decide +kernel)) (by decide +kernel) rfl q32 rfl ?_
        refine dq_S (.iconst 3) 1 [] 62 _ [.int 3, .int x29.1, va_rf o0] (by decide +kernel) rfl ?_
        rcases di hh with ⟨q33, hh⟩ | ⟨q33, hh⟩
        · refine dq_2 .ne 8 true 70 q33 (by decide +kernel) ?_
          refine dq_S (.bipush 35) 2 [] 72 _ [.int 35, va_rf o0] (by decide +kernel) rfl ?_
          exact c274_72 hD hz _ _ _ _ _ _ _ _ g11 g13 g14 hh
        · refine dq_2 .ne 8 false 65 q33 (by decide +kernel) ?_
          refine dq_S (.bipush 64) 2 [] 67 _ [.int 64, va_rf o0] (by decide +kernel) rfl ?_
          refine dq_S (.goto 5) 3 [] 72 _ [.int 64, va_rf o0] (by decide +kernel) rfl ?_
          exact c274_72 hD hz _ _ _ _ _ _ _ _ g11 g13 g14 hh
  · refine dq_2 .ne 11 false 21 q20 (by decide +kernel) ?_
    refine dq_aln 0 22 (by decide +kernel) rfl g11 ?_
    refine dq_iln 3 23 (by decide +kernel) rfl g14 ?_
    obtain ⟨h34, q35, hh⟩ := db hh
    obtain ⟨a36, q37, q35⟩ := db q35
    rw [dq_xV q35] at q37
    refine dq_cvi hD 147 275 5 1 [3] o0 [.int i3] [] 26 [] (by decide +kernel) ap_275 ⟨⟨Nat.le_of_ble_eq_true rfl, by decide⟩, rfl, rfl⟩ (dq_ok8 [1, 1] [] (dc_r (dc_i dc_n)) dc_n (by decide +kernel)) (by decide +kernel) rfl q37 rfl ?_
    refine dq_S (.goto 81) 3 [] 107 _ [] (by decide +kernel) rfl ?_
    exact c274_107 hD hz  _ _ _  hh
def f274 (L : Nat) (xs : Nat → Int32) (zf : Value) (D : dD) (w : Nat) (As : List Value) (h : rm_H) : Option dR := match As with
  | [v0, v1, .int i2, .int i3] => (rm_rf v0).bind fun o0 => (rm_rf v1).bind fun o1 => b274_0 L xs zf D w o0 o1 i2 i3 h
  | _ => none
theorem d274 {L : Nat} {xs : Nat → Int32} {zf : Value} {D : dD} {w k : Nat} (hD : dO L xs zf D k) (hz : zf.category = 1) (As : List Value) (h : rm_H) (r : dR) (hh : f274 L xs zf D w As h = some r) : dq L xs zf ah_M274 0 (lv_args 0 As) [] h (k + 1) r := by
  unfold f274 at hh
  split at hh
  · obtain ⟨o0, e0, hb0⟩ := db hh
    have e0 := rm_rf_v _ _ e0
    obtain ⟨o1, e1, hb1⟩ := db hb0
    have e1 := rm_rf_v _ _ e1
    subst e0 e1
    refine c274_0 hD hz _ _ _ _ _ _ _ ?_ ?_ ?_ ?_ hb1
    all_goals (simp only [la_r, la_i, la_j]; rfl)
  · cases hh
def b275_56 (L : Nat) (xs : Nat → Int32) (zf : Value) (D : dD) (w : Nat) : Nat → Option Nat → Int64 → Int64 → rm_H → Option dR
  | 0, _, _, _, _ => none
  | n + 1, o0, j2, j4, h =>
    if mx_f1 .le (lg_cmp j4 0) = true then
      some (none, h)
    else
      if (j4 : Int64) = 0 then none else
      ((dcV L xs D 276 [3] o0 [.int (UInt32.toInt32 (Int32.toUInt32 (Int64.toInt32 (48 + ((j2 / j4) - (j2 / j4) / 10 * 10))) % 65536))] h).bind dxV).bind fun h3 =>
      b275_56 L xs zf D w n o0 j2 (j4 / 10) h3
theorem c275_56 {L : Nat} {xs : Nat → Int32} {zf : Value} {D : dD} {w k : Nat} (hD : dO L xs zf D k) (hz : zf.category = 1) : ∀ (n : Nat) (o0 : Option Nat) (j2 : Int64) (j4 : Int64) (lv : rm_L) (h : rm_H) (r : dR), rm_get lv 0 = some (va_rf o0) → rm_get lv 2 = some (.long j2) → rm_get lv 4 = some (.long j4) → b275_56 L xs zf D w n  o0 j2 j4 h = some r → dq L xs zf ah_M275 56 lv [] h (k + 1) r := by
  intro n
  induction n with
  | zero =>
    intro o0 j2 j4 lv h r G0 G2 G4 hh
    cases hh
  | succ n ih =>
    intro o0 j2 j4 lv h r G0 G2 G4 hh
    rw [b275_56] at hh
    refine dq_ll 4 58 (by decide +kernel) rfl G4 ?_
    refine dq_S (.lconst 0) 1 [] 59 _ [.long 0, .long j4] (by decide +kernel) rfl ?_
    refine dq_S (.lcmp) 1 [] 60 _ [.int (lg_cmp j4 0)] (by decide +kernel) rfl ?_
    rcases di hh with ⟨q1, hh⟩ | ⟨q1, hh⟩
    · refine dq_1 .le 32 true 92 q1 (by decide +kernel) ?_
      cases hh
      exact dq_ret0 (by decide +kernel) rfl
    · refine dq_1 .le 32 false 63 q1 (by decide +kernel) ?_
      refine dq_aln 0 64 (by decide +kernel) rfl G0 ?_
      refine dq_S (.ldc2_w 160) 3 [48] 67 _ [.long 48, va_rf o0] (by decide +kernel) rfl ?_
      refine dq_lln 2 68 (by decide +kernel) rfl G2 ?_
      refine dq_ll 4 70 (by decide +kernel) rfl G4 ?_
      rcases dp hh with ⟨_, hh⟩ | ⟨q2, hh⟩
      · cases hh
      refine dq_divJ 71 q2 (by decide +kernel) rfl ?_
      refine dq_S (.ldc2_w 158) 3 [10] 74 _ [.long 10, .long (j2 / j4), .long 48, va_rf o0] (by decide +kernel) rfl ?_
      refine dq_remJ 75 (by decide) (by decide +kernel) rfl ?_
      refine dq_S (.ladd) 1 [] 76 _ [.long (48 + ((j2 / j4) - (j2 / j4) / 10 * 10)), va_rf o0] (by decide +kernel) rfl ?_
      refine dq_S (.l2i) 1 [] 77 _ [.int (Int64.toInt32 (48 + ((j2 / j4) - (j2 / j4) / 10 * 10))), va_rf o0] (by decide +kernel) rfl ?_
      refine dq_S (.i2c) 1 [] 78 _ [.int (UInt32.toInt32 (Int32.toUInt32 (Int64.toInt32 (48 + ((j2 / j4) - (j2 / j4) / 10 * 10))) % 65536)), va_rf o0] (by decide +kernel) rfl ?_
      obtain ⟨h3, q4, hh⟩ := db hh
      obtain ⟨a5, q6, q4⟩ := db q4
      rw [dq_xV q4] at q6
      refine dq_cvi hD 58 276 5 1 [3] o0 [.int (UInt32.toInt32 (Int32.toUInt32 (Int64.toInt32 (48 + ((j2 / j4) - (j2 / j4) / 10 * 10))) % 65536))] [] 81 [] (by decide +kernel) ap_276 ⟨⟨Nat.le_of_ble_eq_true rfl, by decide⟩, rfl, rfl⟩ (dq_ok8 [1, 1] [] (dc_r (dc_i dc_n)) dc_n (by decide +kernel)) (by decide +kernel) rfl q6 rfl ?_
      refine dq_ll 4 83 (by decide +kernel) rfl G4 ?_
      refine dq_S (.ldc2_w 158) 3 [10] 86 _ [.long 10, .long j4] (by decide +kernel) rfl ?_
      refine dq_divJ 87 (by decide) (by decide +kernel) rfl ?_
      refine dq_ls 4 89 (by decide +kernel) (by decide +kernel) ?_
      have g7 := dg_ne2 (i := 4) (u := .long (j4 / 10)) (by decide) (by decide) (Or.inl (by decide)) G0
      have g8 := dg_ne2 (i := 4) (u := .long (j4 / 10)) (by decide) (by decide) (Or.inl (by decide)) G2
      have g9 := dg_eq2 (lv) 4 (.long (j4 / 10))
      refine dq_S (.goto (-33)) 3 [] 56 _ [] (by decide +kernel) rfl ?_
      exact ih _ _ _ _ _ _ g7 g8 g9 hh
def b275_24 (L : Nat) (xs : Nat → Int32) (zf : Value) (D : dD) (w : Nat) : Nat → Option Nat → Int64 → Int64 → Int32 → rm_H → Option dR
  | 0, _, _, _, _, _ => none
  | n + 1, o0, j2, j4, i6, h =>
    if mx_f2 .ge i6 10 = true then
      b275_56 L xs zf D w w o0 j2 j4 h
    else
      if mx_f1 .gt (lg_cmp j4 (j2 / 10)) = true then
        b275_56 L xs zf D w w o0 j2 j4 h
      else
        b275_24 L xs zf D w n o0 j2 (j4 * 10) (i6 + 1) h
theorem c275_24 {L : Nat} {xs : Nat → Int32} {zf : Value} {D : dD} {w k : Nat} (hD : dO L xs zf D k) (hz : zf.category = 1) : ∀ (n : Nat) (o0 : Option Nat) (j2 : Int64) (j4 : Int64) (i6 : Int32) (lv : rm_L) (h : rm_H) (r : dR), rm_get lv 0 = some (va_rf o0) → rm_get lv 2 = some (.long j2) → rm_get lv 4 = some (.long j4) → rm_get lv 6 = some (.int i6) → b275_24 L xs zf D w n  o0 j2 j4 i6 h = some r → dq L xs zf ah_M275 24 lv [] h (k + 1) r := by
  intro n
  induction n with
  | zero =>
    intro o0 j2 j4 i6 lv h r G0 G2 G4 G6 hh
    cases hh
  | succ n ih =>
    intro o0 j2 j4 i6 lv h r G0 G2 G4 G6 hh
    rw [b275_24] at hh
    refine dq_il 6 26 (by decide +kernel) rfl G6 ?_
    refine dq_S (.bipush 10) 2 [] 28 _ [.int 10, .int i6] (by decide +kernel) rfl ?_
    rcases di hh with ⟨q1, hh⟩ | ⟨q1, hh⟩
    · refine dq_2 .ge 28 true 56 q1 (by decide +kernel) ?_
      exact c275_56 hD hz _ _ _ _ _ _ _ G0 G2 G4 hh
    · refine dq_2 .ge 28 false 31 q1 (by decide +kernel) ?_
      refine dq_ll 4 33 (by decide +kernel) rfl G4 ?_
      refine dq_lln 2 34 (by decide +kernel) rfl G2 ?_
      refine dq_S (.ldc2_w 158) 3 [10] 37 _ [.long 10, .long j2, .long j4] (by decide +kernel) rfl ?_
      refine dq_divJ 38 (by decide) (by decide +kernel) rfl ?_
      refine dq_S (.lcmp) 1 [] 39 _ [.int (lg_cmp j4 (j2 / 10))] (by decide +kernel) rfl ?_
      rcases di hh with ⟨q2, hh⟩ | ⟨q2, hh⟩
      · refine dq_1 .gt 17 true 56 q2 (by decide +kernel) ?_
        exact c275_56 hD hz _ _ _ _ _ _ _ G0 G2 G4 hh
      · refine dq_1 .gt 17 false 42 q2 (by decide +kernel) ?_
        refine dq_ll 4 44 (by decide +kernel) rfl G4 ?_
        refine dq_S (.ldc2_w 158) 3 [10] 47 _ [.long 10, .long j4] (by decide +kernel) rfl ?_
        refine dq_S (.lmul) 1 [] 48 _ [.long (j4 * 10)] (by decide +kernel) rfl ?_
        refine dq_ls 4 50 (by decide +kernel) (by decide +kernel) ?_
        have g3 := dg_ne2 (i := 4) (u := .long (j4 * 10)) (by decide) (by decide) (Or.inl (by decide)) G0
        have g4 := dg_ne2 (i := 4) (u := .long (j4 * 10)) (by decide) (by decide) (Or.inl (by decide)) G2
        have g5 := dg_ne2 (i := 4) (u := .long (j4 * 10)) (by decide) (by decide) (Or.inl (by decide)) G6
        have g6 := dg_eq2 (lv) 4 (.long (j4 * 10))
        refine dq_incy 6 1 1 53 (by decide +kernel) ⟨rfl, by decide +kernel, by decide +kernel⟩ g5 ?_
        have g7 := dg_ne (i := 6) (u := .int (i6 + 1)) (by decide) (Or.inl (by decide)) g3
        have g8 := dg_ne (i := 6) (u := .int (i6 + 1)) (by decide) (Or.inl (by decide)) g4
        have g9 := dg_ne (i := 6) (u := .int (i6 + 1)) (by decide) (Or.inl (by decide)) g6
        have g10 := dg_eq (rm_set2 (lv) 4 (.long (j4 * 10))) 6 (.int (i6 + 1))
        refine dq_S (.goto (-29)) 3 [] 24 _ [] (by decide +kernel) rfl ?_
        exact ih _ _ _ _ _ _ _ g7 g8 g9 g10 hh
def b275_18 (L : Nat) (xs : Nat → Int32) (zf : Value) (D : dD) (w : Nat) (o0 : Option Nat) (j2 : Int64) (h : rm_H) : Option dR :=
  b275_24 L xs zf D w w o0 j2 1 1 h
theorem c275_18 {L : Nat} {xs : Nat → Int32} {zf : Value} {D : dD} {w k : Nat} (hD : dO L xs zf D k) (hz : zf.category = 1) : ∀ (o0 : Option Nat) (j2 : Int64) (lv : rm_L) (h : rm_H) (r : dR), rm_get lv 0 = some (va_rf o0) → rm_get lv 2 = some (.long j2) → b275_18 L xs zf D w  o0 j2 h = some r → dq L xs zf ah_M275 18 lv [] h (k + 1) r := by
  intro o0 j2 lv h r G0 G2 hh
  unfold b275_18 at hh
  refine dq_S (.lconst 1) 1 [] 19 _ [.long 1] (by decide +kernel) rfl ?_
  refine dq_ls 4 21 (by decide +kernel) (by decide +kernel) ?_
  have g1 := dg_ne2 (i := 4) (u := .long 1) (by decide) (by decide) (Or.inl (by decide)) G0
  have g2 := dg_ne2 (i := 4) (u := .long 1) (by decide) (by decide) (Or.inl (by decide)) G2
  have g3 := dg_eq2 (lv) 4 (.long 1)
  refine dq_S (.iconst 1) 1 [] 22 _ [.int 1] (by decide +kernel) rfl ?_
  refine dq_is 6 24 (by decide +kernel) (by decide +kernel) ?_
  have g4 := dg_ne (i := 6) (u := .int 1) (by decide) (Or.inl (by decide)) g1
  have g5 := dg_ne (i := 6) (u := .int 1) (by decide) (Or.inl (by decide)) g2
  have g6 := dg_ne (i := 6) (u := .int 1) (by decide) (Or.inl (by decide)) g3
  have g7 := dg_eq (rm_set2 (lv) 4 (.long 1)) 6 (.int 1)
  exact c275_24 hD hz _ _ _ _ _ _ _ _ g4 g5 g6 g7 hh
def b275_0 (L : Nat) (xs : Nat → Int32) (zf : Value) (D : dD) (w : Nat) (o0 : Option Nat) (i1 : Int32) (h : rm_H) : Option dR :=
  if mx_f1 .ge (lg_cmp (Int32.toInt64 i1) 0) = true then
    b275_18 L xs zf D w o0 (Int32.toInt64 i1) h
  else
    ((dcV L xs D 276 [3] o0 [.int 45] h).bind dxV).bind fun h5 =>
    b275_18 L xs zf D w o0 (-(Int32.toInt64 i1)) h5
theorem c275_0 {L : Nat} {xs : Nat → Int32} {zf : Value} {D : dD} {w k : Nat} (hD : dO L xs zf D k) (hz : zf.category = 1) : ∀ (o0 : Option Nat) (i1 : Int32) (lv : rm_L) (h : rm_H) (r : dR), rm_get lv 0 = some (va_rf o0) → rm_get lv 1 = some (.int i1) → b275_0 L xs zf D w  o0 i1 h = some r → dq L xs zf ah_M275 0 lv [] h (k + 1) r := by
  intro o0 i1 lv h r G0 G1 hh
  unfold b275_0 at hh
  refine dq_iln 1 1 (by decide +kernel) rfl G1 ?_
  refine dq_S (.i2l) 1 [] 2 _ [.long (Int32.toInt64 i1)] (by decide +kernel) rfl ?_
  refine dq_lsn 2 3 (by decide +kernel) (by decide +kernel) ?_
  have g1 := dg_ne2 (i := 2) (u := .long (Int32.toInt64 i1)) (by decide) (by decide) (Or.inl (by decide)) G0
  have g2 := dg_ne2 (i := 2) (u := .long (Int32.toInt64 i1)) (by decide) (by decide) (Or.inr rfl) G1
  have g3 := dg_eq2 (lv) 2 (.long (Int32.toInt64 i1))
  refine dq_lln 2 4 (by decide +kernel) rfl g3 ?_
  refine dq_S (.lconst 0) 1 [] 5 _ [.long 0, .long (Int32.toInt64 i1)] (by decide +kernel) rfl ?_
  refine dq_S (.lcmp) 1 [] 6 _ [.int (lg_cmp (Int32.toInt64 i1) 0)] (by decide +kernel) rfl ?_
  rcases di hh with ⟨q4, hh⟩ | ⟨q4, hh⟩
  · refine dq_1 .ge 12 true 18 q4 (by decide +kernel) ?_
    exact c275_18 hD hz _ _ _ _ _ g1 g3 hh
  · refine dq_1 .ge 12 false 9 q4 (by decide +kernel) ?_
    refine dq_aln 0 10 (by decide +kernel) rfl g1 ?_
    refine dq_S (.bipush 45) 2 [] 12 _ [.int 45, va_rf o0] (by decide +kernel) rfl ?_
    obtain ⟨h5, q6, hh⟩ := db hh
    obtain ⟨a7, q8, q6⟩ := db q6
    rw [dq_xV q6] at q8
    refine dq_cvi hD 58 276 5 1 [3] o0 [.int 45] [] 15 [] (by decide +kernel) ap_276 ⟨⟨Nat.le_of_ble_eq_true rfl, by decide⟩, rfl, rfl⟩ (dq_ok8 [1, 1] [] (dc_r (dc_i dc_n)) dc_n (by decide +kernel)) (by decide +kernel) rfl q8 rfl ?_
    refine dq_lln 2 16 (by decide +kernel) rfl g3 ?_
    refine dq_S (.lneg) 1 [] 17 _ [.long (-(Int32.toInt64 i1))] (by decide +kernel) rfl ?_
    refine dq_lsn 2 18 (by decide +kernel) (by decide +kernel) ?_
    have g9 := dg_ne2 (i := 2) (u := .long (-(Int32.toInt64 i1))) (by decide) (by decide) (Or.inl (by decide)) g1
    have g10 := dg_ne2 (i := 2) (u := .long (-(Int32.toInt64 i1))) (by decide) (by decide) (Or.inr rfl) g2
    have g11 := dg_eq2 (rm_set2 (lv) 2 (.long (Int32.toInt64 i1))) 2 (.long (-(Int32.toInt64 i1)))
    exact c275_18 hD hz _ _ _ _ _ g9 g11 hh
def f275 (L : Nat) (xs : Nat → Int32) (zf : Value) (D : dD) (w : Nat) (As : List Value) (h : rm_H) : Option dR := match As with
  | [v0, .int i1] => (rm_rf v0).bind fun o0 => b275_0 L xs zf D w o0 i1 h
  | _ => none
theorem d275 {L : Nat} {xs : Nat → Int32} {zf : Value} {D : dD} {w k : Nat} (hD : dO L xs zf D k) (hz : zf.category = 1) (As : List Value) (h : rm_H) (r : dR) (hh : f275 L xs zf D w As h = some r) : dq L xs zf ah_M275 0 (lv_args 0 As) [] h (k + 1) r := by
  unfold f275 at hh
  split at hh
  · obtain ⟨o0, e0, hb0⟩ := db hh
    have e0 := rm_rf_v _ _ e0
    subst e0
    refine c275_0 hD hz _ _ _ _ _ ?_ ?_ hb0
    all_goals (simp only [la_r, la_i, la_j]; rfl)
  · cases hh
def b276_19 (L : Nat) (xs : Nat → Int32) (zf : Value) (D : dD) (w : Nat) (o0 : Option Nat) (h : rm_H) : Option dR :=
  (dgI L xs h 4 [3] o0).bind fun x1 =>
  (dpF h 4 [3] o0 (.int (x1 + 1))).bind fun h3 =>
  some (none, h3)
theorem c276_19 {L : Nat} {xs : Nat → Int32} {zf : Value} {D : dD} {w k : Nat} (hD : dO L xs zf D k) (hz : zf.category = 1) : ∀ (o0 : Option Nat) (lv : rm_L) (h : rm_H) (r : dR), rm_get lv 0 = some (va_rf o0) → b276_19 L xs zf D w  o0 h = some r → dq L xs zf ah_M276 19 lv [] h (k + 1) r := by
  intro o0 lv h r G0 hh
  unfold b276_19 at hh
  refine dq_aln 0 20 (by decide +kernel) rfl G0 ?_
  refine dq_dup 21 (by decide +kernel) rfl ?_
  obtain ⟨x1, q2, hh⟩ := db hh
  refine dq_gI 28 4 [3] 24 (by decide +kernel) rfl q2 ?_
  refine dq_S (.iconst 1) 1 [] 25 _ [.int 1, .int x1, va_rf o0] (by decide +kernel) rfl ?_
  refine dq_S (.iadd) 1 [] 26 _ [.int (x1 + 1), va_rf o0] (by decide +kernel) rfl ?_
  obtain ⟨h3, q4, hh⟩ := db hh
  refine dq_put 28 4 [3] 29 (by decide +kernel) rfl q4 ?_
  cases hh
  exact dq_ret0 (by decide +kernel) rfl
def b276_0 (L : Nat) (xs : Nat → Int32) (zf : Value) (D : dD) (w : Nat) (o0 : Option Nat) (i1 : Int32) (h : rm_H) : Option dR :=
  (dgI L xs h 4 [3] o0).bind fun x1 =>
  if mx_f2 .ge x1 3000 = true then
    b276_19 L xs zf D w o0 h
  else
    (dgR L xs h 0 [3] o0).bind fun p4 =>
    ((dcV L xs D 13 [1] p4 [.int i1] h).bind dxR).bind fun p6 =>
    b276_19 L xs zf D w o0 p6.2
theorem c276_0 {L : Nat} {xs : Nat → Int32} {zf : Value} {D : dD} {w k : Nat} (hD : dO L xs zf D k) (hz : zf.category = 1) : ∀ (o0 : Option Nat) (i1 : Int32) (lv : rm_L) (h : rm_H) (r : dR), rm_get lv 0 = some (va_rf o0) → rm_get lv 1 = some (.int i1) → b276_0 L xs zf D w  o0 i1 h = some r → dq L xs zf ah_M276 0 lv [] h (k + 1) r := by
  intro o0 i1 lv h r G0 G1 hh
  unfold b276_0 at hh
  refine dq_aln 0 1 (by decide +kernel) rfl G0 ?_
  obtain ⟨x1, q2, hh⟩ := db hh
  refine dq_gI 28 4 [3] 4 (by decide +kernel) rfl q2 ?_
  refine dq_S (.sipush 3000) 3 [] 7 _ [.int 3000, .int x1] (by decide +kernel) rfl ?_
  rcases di hh with ⟨q3, hh⟩ | ⟨q3, hh⟩
  · refine dq_2 .ge 12 true 19 q3 (by decide +kernel) ?_
    exact c276_19 hD hz _ _ _ _ G0 hh
  · refine dq_2 .ge 12 false 10 q3 (by decide +kernel) ?_
    refine dq_aln 0 11 (by decide +kernel) rfl G0 ?_
    obtain ⟨p4, q5, hh⟩ := db hh
    refine dq_gR 12 0 [3] 14 (by decide +kernel) rfl q5 ?_
    refine dq_iln 1 15 (by decide +kernel) rfl G1 ?_
    obtain ⟨p6, q7, hh⟩ := db hh
    obtain ⟨a8, q9, q7⟩ := db q7
    rw [dq_xR q7] at q9
    refine dq_cvi hD 50 13 5 1 [1] p4 [.int i1] [] 18 [va_rf p6.1] (by decide +kernel) ap_13 ⟨⟨Nat.le_of_ble_eq_true rfl, by decide⟩, rfl, rfl⟩ (dq_ok8 [1, 1] [] (dc_r (dc_i dc_n)) dc_n (by decide +kernel)) (by decide +kernel) rfl q9 rfl ?_
    refine dq_pop 19 (by decide +kernel) rfl ?_
    exact c276_19 hD hz _ _ _ _ G0 hh
def f276 (L : Nat) (xs : Nat → Int32) (zf : Value) (D : dD) (w : Nat) (As : List Value) (h : rm_H) : Option dR := match As with
  | [v0, .int i1] => (rm_rf v0).bind fun o0 => b276_0 L xs zf D w o0 i1 h
  | _ => none
theorem d276 {L : Nat} {xs : Nat → Int32} {zf : Value} {D : dD} {w k : Nat} (hD : dO L xs zf D k) (hz : zf.category = 1) (As : List Value) (h : rm_H) (r : dR) (hh : f276 L xs zf D w As h = some r) : dq L xs zf ah_M276 0 (lv_args 0 As) [] h (k + 1) r := by
  unfold f276 at hh
  split at hh
  · obtain ⟨o0, e0, hb0⟩ := db hh
    have e0 := rm_rf_v _ _ e0
    subst e0
    refine c276_0 hD hz _ _ _ _ _ ?_ ?_ hb0
    all_goals (simp only [la_r, la_i, la_j]; rfl)
  · cases hh
def b277_2 (L : Nat) (xs : Nat → Int32) (zf : Value) (D : dD) (w : Nat) : Nat → Option Nat → Option Nat → Int32 → rm_H → Option dR
  | 0, _, _, _, _ => none
  | n + 1, o0, o1, i2, h =>
    ((dcV L xs D 60 [7, 16] o1 [] h).bind dxI).bind fun x1 =>
    if mx_f2 .ge i2 x1.1 = true then
      some (none, x1.2)
    else
      ((dcV L xs D 63 [7, 16] o1 [.int i2] x1.2).bind dxI).bind fun x6 =>
      ((dcV L xs D 276 [3] o0 [.int x6.1] x6.2).bind dxV).bind fun h10 =>
      b277_2 L xs zf D w n o0 o1 (i2 + 1) h10
theorem c277_2 {L : Nat} {xs : Nat → Int32} {zf : Value} {D : dD} {w k : Nat} (hD : dO L xs zf D k) (hz : zf.category = 1) : ∀ (n : Nat) (o0 : Option Nat) (o1 : Option Nat) (i2 : Int32) (lv : rm_L) (h : rm_H) (r : dR), rm_get lv 0 = some (va_rf o0) → rm_get lv 1 = some (va_rf o1) → rm_get lv 2 = some (.int i2) → b277_2 L xs zf D w n  o0 o1 i2 h = some r → dq L xs zf ah_M277 2 lv [] h (k + 1) r := by
  intro n
  induction n with
  | zero =>
    intro o0 o1 i2 lv h r G0 G1 G2 hh
    cases hh
  | succ n ih =>
    intro o0 o1 i2 lv h r G0 G1 G2 hh
    rw [b277_2] at hh
    refine dq_iln 2 3 (by decide +kernel) rfl G2 ?_
    refine dq_aln 1 4 (by decide +kernel) rfl G1 ?_
    obtain ⟨x1, q2, hh⟩ := db hh
    obtain ⟨a3, q4, q2⟩ := db q2
    rw [dq_xI q2] at q4
    refine dq_cvi hD 54 60 5 0 [7, 16] o1 [] [.int i2] 7 [.int x1.1, .int i2] (by decide +kernel) ap_60 ⟨⟨Nat.le_of_ble_eq_true rfl, by decide⟩, rfl, rfl⟩ (dq_ok8 [1] [1] (dc_r dc_n) (dc_i dc_n) (by decide +kernel)) (by decide +kernel) rfl q4 rfl ?_
    rcases di hh with ⟨q5, hh⟩ | ⟨q5, hh⟩
    · refine dq_2 .ge 18 true 25 q5 (by decide +kernel) ?_
      cases hh
      exact dq_ret0 (by decide +kernel) rfl
    · refine dq_2 .ge 18 false 10 q5 (by decide +kernel) ?_
      refine dq_aln 0 11 (by decide +kernel) rfl G0 ?_
      refine dq_aln 1 12 (by decide +kernel) rfl G1 ?_
      refine dq_iln 2 13 (by decide +kernel) rfl G2 ?_
      obtain ⟨x6, q7, hh⟩ := db hh
      obtain ⟨a8, q9, q7⟩ := db q7
      rw [dq_xI q7] at q9
      refine dq_cvi hD 57 63 5 1 [7, 16] o1 [.int i2] [va_rf o0] 16 [.int x6.1, va_rf o0] (by decide +kernel) ap_63 ⟨⟨Nat.le_of_ble_eq_true rfl, by decide⟩, rfl, rfl⟩ (dq_ok8 [1, 1] [1] (dc_r (dc_i dc_n)) (dc_r dc_n) (by decide +kernel)) (by decide +kernel) rfl q9 rfl ?_
      obtain ⟨h10, q11, hh⟩ := db hh
      obtain ⟨a12, q13, q11⟩ := db q11
      rw [dq_xV q11] at q13
      refine dq_cvi hD 58 276 5 1 [3] o0 [.int x6.1] [] 19 [] (by decide +kernel) ap_276 ⟨⟨Nat.le_of_ble_eq_true rfl, by decide⟩, rfl, rfl⟩ (dq_ok8 [1, 1] [] (dc_r (dc_i dc_n)) dc_n (by decide +kernel)) (by decide +kernel) rfl q13 rfl ?_
      refine dq_incy 2 1 1 22 (by decide +kernel) ⟨rfl, by decide +kernel, by decide +kernel⟩ G2 ?_
      have g14 := dg_ne (i := 2) (u := .int (i2 + 1)) (by decide) (Or.inl (by decide)) G0
      have g15 := dg_ne (i := 2) (u := .int (i2 + 1)) (by decide) (Or.inr (drc _)) G1
      have g16 := dg_eq (lv) 2 (.int (i2 + 1))
      refine dq_S (.goto (-20)) 3 [] 2 _ [] (by decide +kernel) rfl ?_
      exact ih _ _ _ _ _ _ g14 g15 g16 hh
def b277_0 (L : Nat) (xs : Nat → Int32) (zf : Value) (D : dD) (w : Nat) (o0 : Option Nat) (o1 : Option Nat) (h : rm_H) : Option dR :=
  b277_2 L xs zf D w w o0 o1 0 h
theorem c277_0 {L : Nat} {xs : Nat → Int32} {zf : Value} {D : dD} {w k : Nat} (hD : dO L xs zf D k) (hz : zf.category = 1) : ∀ (o0 : Option Nat) (o1 : Option Nat) (lv : rm_L) (h : rm_H) (r : dR), rm_get lv 0 = some (va_rf o0) → rm_get lv 1 = some (va_rf o1) → b277_0 L xs zf D w  o0 o1 h = some r → dq L xs zf ah_M277 0 lv [] h (k + 1) r := by
  intro o0 o1 lv h r G0 G1 hh
  unfold b277_0 at hh
  refine dq_S (.iconst 0) 1 [] 1 _ [.int 0] (by decide +kernel) rfl ?_
  refine dq_isn 2 2 (by decide +kernel) (by decide +kernel) ?_
  have g1 := dg_ne (i := 2) (u := .int 0) (by decide) (Or.inl (by decide)) G0
  have g2 := dg_ne (i := 2) (u := .int 0) (by decide) (Or.inr (drc _)) G1
  have g3 := dg_eq (lv) 2 (.int 0)
  exact c277_2 hD hz _ _ _ _ _ _ _ g1 g2 g3 hh
def f277 (L : Nat) (xs : Nat → Int32) (zf : Value) (D : dD) (w : Nat) (As : List Value) (h : rm_H) : Option dR := match As with
  | [v0, v1] => (rm_rf v0).bind fun o0 => (rm_rf v1).bind fun o1 => b277_0 L xs zf D w o0 o1 h
  | _ => none
theorem d277 {L : Nat} {xs : Nat → Int32} {zf : Value} {D : dD} {w k : Nat} (hD : dO L xs zf D k) (hz : zf.category = 1) (As : List Value) (h : rm_H) (r : dR) (hh : f277 L xs zf D w As h = some r) : dq L xs zf ah_M277 0 (lv_args 0 As) [] h (k + 1) r := by
  unfold f277 at hh
  split at hh
  · obtain ⟨o0, e0, hb0⟩ := db hh
    have e0 := rm_rf_v _ _ e0
    obtain ⟨o1, e1, hb1⟩ := db hb0
    have e1 := rm_rf_v _ _ e1
    subst e0 e1
    refine c277_0 hD hz _ _ _ _ _ ?_ ?_ hb1
    all_goals (simp only [la_r, la_i, la_j]; rfl)
  · cases hh
def b278_38 (L : Nat) (xs : Nat → Int32) (zf : Value) (D : dD) (w : Nat) (h : rm_H) : Option dR :=
  some (none, h)
theorem c278_38 {L : Nat} {xs : Nat → Int32} {zf : Value} {D : dD} {w k : Nat} (hD : dO L xs zf D k) (hz : zf.category = 1) : ∀ (lv : rm_L) (h : rm_H) (r : dR), b278_38 L xs zf D w  h = some r → dq L xs zf ah_M278 38 lv [] h (k + 1) r := by
  intro lv h r hh
  unfold b278_38 at hh
  cases hh
  exact dq_ret0 (by decide +kernel) rfl
def b278_0 (L : Nat) (xs : Nat → Int32) (zf : Value) (D : dD) (w : Nat) (o0 : Option Nat) (i1 : Int32) (h : rm_H) : Option dR :=
  if mx_f1 .lt i1 = true then
    b278_38 L xs zf D w h
  else
    (dgR L xs h 1 [3] o0).bind fun p2 =>
    (daN L xs h p2).bind fun x4 =>
    if mx_f2 .ge i1 x4 = true then
      b278_38 L xs zf D w h
    else
      (dgR L xs h 1 [3] o0).bind fun p7 =>
      (daI L xs h p7 i1).bind fun x9 =>
      (dgI L xs h 5 [3] o0).bind fun x11 =>
      if mx_f2 .eq x9 x11 = true then
        b278_38 L xs zf D w h
      else
        (dgI L xs h 6 [3] o0).bind fun x14 =>
        (dgR L xs h 2 [3] o0).bind fun p16 =>
        (daN L xs h p16).bind fun x18 =>
        if mx_f2 .lt x14 x18 = true then
          (dgR L xs h 1 [3] o0).bind fun p21 =>
          (dgI L xs h 5 [3] o0).bind fun x23 =>
          (dsI h p21 i1 x23).bind fun h25 =>
          ((dcV L xs D 276 [3] o0 [.int 123] h25).bind dxV).bind fun h27 =>
          (dgR L xs h27 2 [3] o0).bind fun p31 =>
          (dgI L xs h27 6 [3] o0).bind fun x33 =>
          (dsI h27 p31 x33 i1).bind fun h35 =>
          (dgR L xs h35 3 [3] o0).bind fun p37 =>
          (dgI L xs h35 6 [3] o0).bind fun x39 =>
          (dsI h35 p37 x39 0).bind fun h41 =>
          (dgI L xs h41 6 [3] o0).bind fun x43 =>
          (dpF h41 6 [3] o0 (.int (x43 + 1))).bind fun h45 =>
          some (none, h45)
        else
          b278_38 L xs zf D w h
theorem c278_0 {L : Nat} {xs : Nat → Int32} {zf : Value} {D : dD} {w k : Nat} (hD : dO L xs zf D k) (hz : zf.category = 1) : ∀ (o0 : Option Nat) (i1 : Int32) (lv : rm_L) (h : rm_H) (r : dR), rm_get lv 0 = some (va_rf o0) → rm_get lv 1 = some (.int i1) → b278_0 L xs zf D w  o0 i1 h = some r → dq L xs zf ah_M278 0 lv [] h (k + 1) r := by
  intro o0 i1 lv h r G0 G1 hh
  unfold b278_0 at hh
  refine dq_iln 1 1 (by decide +kernel) rfl G1 ?_
  rcases di hh with ⟨q1, hh⟩ | ⟨q1, hh⟩
  · refine dq_1 .lt 37 true 38 q1 (by decide +kernel) ?_
    exact c278_38 hD hz  _ _ _  hh
  · refine dq_1 .lt 37 false 4 q1 (by decide +kernel) ?_
    refine dq_iln 1 5 (by decide +kernel) rfl G1 ?_
    refine dq_aln 0 6 (by decide +kernel) rfl G0 ?_
    obtain ⟨p2, q3, hh⟩ := db hh
    refine dq_gR 18 1 [3] 9 (by decide +kernel) rfl q3 ?_
    obtain ⟨x4, q5, hh⟩ := db hh
    refine dq_aN 10 (by decide +kernel) rfl q5 ?_
    rcases di hh with ⟨q6, hh⟩ | ⟨q6, hh⟩
    · refine dq_2 .ge 28 true 38 q6 (by decide +kernel) ?_
      exact c278_38 hD hz  _ _ _  hh
    · refine dq_2 .ge 28 false 13 q6 (by decide +kernel) ?_
      refine dq_aln 0 14 (by decide +kernel) rfl G0 ?_
      obtain ⟨p7, q8, hh⟩ := db hh
      refine dq_gR 18 1 [3] 17 (by decide +kernel) rfl q8 ?_
      refine dq_iln 1 18 (by decide +kernel) rfl G1 ?_
      obtain ⟨x9, q10, hh⟩ := db hh
      refine dq_aI 19 (by decide +kernel) rfl q10 ?_
      refine dq_aln 0 20 (by decide +kernel) rfl G0 ?_
      obtain ⟨x11, q12, hh⟩ := db hh
      refine dq_gI 32 5 [3] 23 (by decide +kernel) rfl q12 ?_
      rcases di hh with ⟨q13, hh⟩ | ⟨q13, hh⟩
      · refine dq_2 .eq 15 true 38 q13 (by decide +kernel) ?_
        exact c278_38 hD hz  _ _ _  hh
      · refine dq_2 .eq 15 false 26 q13 (by decide +kernel) ?_
        refine dq_aln 0 27 (by decide +kernel) rfl G0 ?_
        obtain ⟨x14, q15, hh⟩ := db hh
        refine dq_gI 35 6 [3] 30 (by decide +kernel) rfl q15 ?_
        refine dq_aln 0 31 (by decide +kernel) rfl G0 ?_
        obtain ⟨p16, q17, hh⟩ := db hh
        refine dq_gR 22 2 [3] 34 (by decide +kernel) rfl q17 ?_
        obtain ⟨x18, q19, hh⟩ := db hh
        refine dq_aN 35 (by decide +kernel) rfl q19 ?_
        rcases di hh with ⟨q20, hh⟩ | ⟨q20, hh⟩
        · refine dq_2 .lt 4 true 39 q20 (by decide +kernel) ?_
          refine dq_aln 0 40 (by decide +kernel) rfl G0 ?_
          obtain ⟨p21, q22, hh⟩ := db hh
          refine dq_gR 18 1 [3] 43 (by decide +kernel) rfl q22 ?_
          refine dq_iln 1 44 (by decide +kernel) rfl G1 ?_
          refine dq_aln 0 45 (by decide +kernel) rfl G0 ?_
          obtain ⟨x23, q24, hh⟩ := db hh
          refine dq_gI 32 5 [3] 48 (by decide +kernel) rfl q24 ?_
          obtain ⟨h25, q26, hh⟩ := db hh
          refine dq_sI 49 (by decide +kernel) rfl q26 ?_
          refine dq_aln 0 50 (by decide +kernel) rfl G0 ?_
          refine dq_S (.bipush 123) 2 [] 52 _ [.int 123, va_rf o0] (by decide +kernel) rfl ?_
          obtain ⟨h27, q28, hh⟩ := db hh
          obtain ⟨a29, q30, q28⟩ := db q28
          rw [dq_xV q28] at q30
          refine dq_cvi hD 58 276 5 1 [3] o0 [.int 123] [] 55 [] (by decide +kernel) ap_276 ⟨⟨Nat.le_of_ble_eq_true rfl, by decide⟩, rfl, rfl⟩ (dq_ok8 [1, 1] [] (dc_r (dc_i dc_n)) dc_n (by decide +kernel)) (by decide +kernel) rfl q30 rfl ?_
          refine dq_aln 0 56 (by decide +kernel) rfl G0 ?_
          obtain ⟨p31, q32, hh⟩ := db hh
          refine dq_gR 22 2 [3] 59 (by decide +kernel) rfl q32 ?_
          refine dq_aln 0 60 (by decide +kernel) rfl G0 ?_
          obtain ⟨x33, q34, hh⟩ := db hh
          refine dq_gI 35 6 [3] 63 (by decide +kernel) rfl q34 ?_
          refine dq_iln 1 64 (by decide +kernel) rfl G1 ?_
          obtain ⟨h35, q36, hh⟩ := db hh
          refine dq_sI 65 (by decide +kernel) rfl q36 ?_
          refine dq_aln 0 66 (by decide +kernel) rfl G0 ?_
          obtain ⟨p37, q38, hh⟩ := db hh
          refine dq_gR 25 3 [3] 69 (by decide +kernel) rfl q38 ?_
          refine dq_aln 0 70 (by decide +kernel) rfl G0 ?_
          obtain ⟨x39, q40, hh⟩ := db hh
          refine dq_gI 35 6 [3] 73 (by decide +kernel) rfl q40 ?_
          refine dq_S (.iconst 0) 1 [] 74 _ [.int 0, .int x39, va_rf p37] (by decide +kernel) rfl ?_
          obtain ⟨h41, q42, hh⟩ := db hh
          refine dq_sI 75 (by decide +kernel) rfl q42 ?_
          refine dq_aln 0 76 (by decide +kernel) rfl G0 ?_
          refine dq_dup 77 (by decide +kernel) rfl ?_
          obtain ⟨x43, q44, hh⟩ := db hh
          refine dq_gI 35 6 [3] 80 (by decide +kernel) rfl q44 ?_
          refine dq_S (.iconst 1) 1 [] 81 _ [.int 1, .int x43, va_rf o0] (by decide +kernel) rfl ?_
          refine dq_S (.iadd) 1 [] 82 _ [.int (x43 + 1), va_rf o0] (by decide +kernel) rfl ?_
          obtain ⟨h45, q46, hh⟩ := db hh
          refine dq_put 35 6 [3] 85 (by decide +kernel) rfl q46 ?_
          cases hh
          exact dq_ret0 (by decide +kernel) rfl
        · refine dq_2 .lt 4 false 38 q20 (by decide +kernel) ?_
          exact c278_38 hD hz  _ _ _  hh
def f278 (L : Nat) (xs : Nat → Int32) (zf : Value) (D : dD) (w : Nat) (As : List Value) (h : rm_H) : Option dR := match As with
  | [v0, .int i1] => (rm_rf v0).bind fun o0 => b278_0 L xs zf D w o0 i1 h
  | _ => none
theorem d278 {L : Nat} {xs : Nat → Int32} {zf : Value} {D : dD} {w k : Nat} (hD : dO L xs zf D k) (hz : zf.category = 1) (As : List Value) (h : rm_H) (r : dR) (hh : f278 L xs zf D w As h = some r) : dq L xs zf ah_M278 0 (lv_args 0 As) [] h (k + 1) r := by
  unfold f278 at hh
  split at hh
  · obtain ⟨o0, e0, hb0⟩ := db hh
    have e0 := rm_rf_v _ _ e0
    subst e0
    refine c278_0 hD hz _ _ _ _ _ ?_ ?_ hb0
    all_goals (simp only [la_r, la_i, la_j]; rfl)
  · cases hh
def b279_0 (L : Nat) (xs : Nat → Int32) (zf : Value) (D : dD) (w : Nat) (o0 : Option Nat) (h : rm_H) : Option dR :=
  (dgI L xs h 4 [3] o0).bind fun x1 =>
  drI (some .int) x1 h
theorem c279_0 {L : Nat} {xs : Nat → Int32} {zf : Value} {D : dD} {w k : Nat} (hD : dO L xs zf D k) (hz : zf.category = 1) : ∀ (o0 : Option Nat) (lv : rm_L) (h : rm_H) (r : dR), rm_get lv 0 = some (va_rf o0) → b279_0 L xs zf D w  o0 h = some r → dq L xs zf ah_M279 0 lv [] h (k + 1) r := by
  intro o0 lv h r G0 hh
  unfold b279_0 at hh
  refine dq_aln 0 1 (by decide +kernel) rfl G0 ?_
  obtain ⟨x1, q2, hh⟩ := db hh
  refine dq_gI 28 4 [3] 4 (by decide +kernel) rfl q2 ?_
  exact dq_retI (some .int) (by decide +kernel) rfl hh
def f279 (L : Nat) (xs : Nat → Int32) (zf : Value) (D : dD) (w : Nat) (As : List Value) (h : rm_H) : Option dR := match As with
  | [v0] => (rm_rf v0).bind fun o0 => b279_0 L xs zf D w o0 h
  | _ => none
theorem d279 {L : Nat} {xs : Nat → Int32} {zf : Value} {D : dD} {w k : Nat} (hD : dO L xs zf D k) (hz : zf.category = 1) (As : List Value) (h : rm_H) (r : dR) (hh : f279 L xs zf D w As h = some r) : dq L xs zf ah_M279 0 (lv_args 0 As) [] h (k + 1) r := by
  unfold f279 at hh
  split at hh
  · obtain ⟨o0, e0, hb0⟩ := db hh
    have e0 := rm_rf_v _ _ e0
    subst e0
    refine c279_0 hD hz _ _ _ _ ?_ hb0
    all_goals (simp only [la_r, la_i, la_j]; rfl)
  · cases hh
def b280_32 (L : Nat) (xs : Nat → Int32) (zf : Value) (D : dD) (w : Nat) (h : rm_H) : Option dR :=
  drI (some .int) (-1) h
theorem c280_32 {L : Nat} {xs : Nat → Int32} {zf : Value} {D : dD} {w k : Nat} (hD : dO L xs zf D k) (hz : zf.category = 1) : ∀ (lv : rm_L) (h : rm_H) (r : dR), b280_32 L xs zf D w  h = some r → dq L xs zf ah_M280 32 lv [] h (k + 1) r := by
  intro lv h r hh
  unfold b280_32 at hh
  refine dq_S (.iconst (-1)) 1 [] 33 _ [.int (-1)] (by decide +kernel) rfl ?_
  exact dq_retI (some .int) (by decide +kernel) rfl hh
def b280_0 (L : Nat) (xs : Nat → Int32) (zf : Value) (D : dD) (w : Nat) (o0 : Option Nat) (i1 : Int32) (i2 : Int32) (h : rm_H) : Option dR :=
  (dgR L xs h 2 [0] o0).bind fun p1 =>
  ((dcV L xs D 217 [3] p1 [] h).bind dxV).bind fun h3 =>
  (dgR L xs h3 1 [0] o0).bind fun p7 =>
  ((dcV L xs D 236 [2] p7 [.int i1] h3).bind dxR).bind fun p9 =>
  if dnl p9.1 = true then
    b280_32 L xs zf D w p9.2
  else
    if mx_f1 .lt i2 = true then
      b280_32 L xs zf D w p9.2
    else
      (dgI L xs p9.2 4 [14] p9.1).bind fun x19 =>
      if mx_f2 .lt i2 x19 = true then
        (dgR L xs p9.2 2 [0] o0).bind fun p22 =>
        (dgR L xs p9.2 1 [0] o0).bind fun p24 =>
        ((dcV L xs D 281 [3] p22 [va_rf p24, va_rf p9.1, .int i2] p9.2).bind dxV).bind fun h26 =>
        (dgR L xs h26 2 [0] o0).bind fun p30 =>
        ((dcV L xs D 279 [3] p30 [] h26).bind dxI).bind fun x32 =>
        drI (some .int) x32.1 x32.2
      else
        b280_32 L xs zf D w p9.2
theorem c280_0 {L : Nat} {xs : Nat → Int32} {zf : Value} {D : dD} {w k : Nat} (hD : dO L xs zf D k) (hz : zf.category = 1) : ∀ (o0 : Option Nat) (i1 : Int32) (i2 : Int32) (lv : rm_L) (h : rm_H) (r : dR), rm_get lv 0 = some (va_rf o0) → rm_get lv 1 = some (.int i1) → rm_get lv 2 = some (.int i2) → b280_0 L xs zf D w  o0 i1 i2 h = some r → dq L xs zf ah_M280 0 lv [] h (k + 1) r := by
  intro o0 i1 i2 lv h r G0 G1 G2 hh
  unfold b280_0 at hh
  refine dq_aln 0 1 (by decide +kernel) rfl G0 ?_
  obtain ⟨p1, q2, hh⟩ := db hh
  refine dq_gR 26 2 [0] 4 (by decide +kernel) rfl q2 ?_
  obtain ⟨h3, q4, hh⟩ := db hh
  obtain ⟨a5, q6, q4⟩ := db q4
  rw [dq_xV q4] at q6
  refine dq_cvi hD 91 217 5 0 [3] p1 [] [] 7 [] (by decide +kernel) ap_217 ⟨⟨Nat.le_of_ble_eq_true rfl, by decide⟩, rfl, rfl⟩ (dq_ok8 [1] [] (dc_r dc_n) dc_n (by decide +kernel)) (by decide +kernel) rfl q6 rfl ?_
  refine dq_aln 0 8 (by decide +kernel) rfl G0 ?_
  obtain ⟨p7, q8, hh⟩ := db hh
  refine dq_gR 19 1 [0] 11 (by decide +kernel) rfl q8 ?_
  refine dq_iln 1 12 (by decide +kernel) rfl G1 ?_
  obtain ⟨p9, q10, hh⟩ := db hh
  obtain ⟨a11, q12, q10⟩ := db q10
  rw [dq_xR q10] at q12
  refine dq_cvi hD 145 236 5 1 [2] p7 [.int i1] [] 15 [va_rf p9.1] (by decide +kernel) ap_236 ⟨⟨Nat.le_of_ble_eq_true rfl, by decide⟩, rfl, rfl⟩ (dq_ok8 [1, 1] [] (dc_r (dc_i dc_n)) dc_n (by decide +kernel)) (by decide +kernel) rfl q12 rfl ?_
  refine dq_asn 3 16 (by decide +kernel) (by decide +kernel) ?_
  have g13 := dg_ne (i := 3) (u := va_rf p9.1) (by decide) (Or.inl (by decide)) G0
  have g14 := dg_ne (i := 3) (u := va_rf p9.1) (by decide) (Or.inl (by decide)) G1
  have g15 := dg_ne (i := 3) (u := va_rf p9.1) (by decide) (Or.inr rfl) G2
  have g16 := dg_eq (lv) 3 (va_rf p9.1)
  refine dq_aln 3 17 (by decide +kernel) rfl g16 ?_
  rcases di hh with ⟨q17, hh⟩ | ⟨q17, hh⟩
  · refine dq_null 15 true 32 q17 (by decide +kernel) (by decide +kernel) ?_
    exact c280_32 hD hz  _ _ _  hh
  · refine dq_null 15 false 20 q17 (by decide +kernel) (by decide +kernel) ?_
    refine dq_iln 2 21 (by decide +kernel) rfl g15 ?_
    rcases di hh with ⟨q18, hh⟩ | ⟨q18, hh⟩
    · refine dq_1 .lt 11 true 32 q18 (by decide +kernel) ?_
      exact c280_32 hD hz  _ _ _  hh
    · refine dq_1 .lt 11 false 24 q18 (by decide +kernel) ?_
      refine dq_iln 2 25 (by decide +kernel) rfl g15 ?_
      refine dq_aln 3 26 (by decide +kernel) rfl g16 ?_
      obtain ⟨x19, q20, hh⟩ := db hh
      refine dq_gI 190 4 [14] 29 (by decide +kernel) rfl q20 ?_
      rcases di hh with ⟨q21, hh⟩ | ⟨q21, hh⟩
      · refine dq_2 .lt 5 true 34 q21 (by decide +kernel) ?_
        refine dq_aln 0 35 (by decide +kernel) rfl g13 ?_
        obtain ⟨p22, q23, hh⟩ := db hh
        refine dq_gR 26 2 [0] 38 (by decide +kernel) rfl q23 ?_
        refine dq_aln 0 39 (by decide +kernel) rfl g13 ?_
        obtain ⟨p24, q25, hh⟩ := db hh
        refine dq_gR 19 1 [0] 42 (by decide +kernel) rfl q25 ?_
        refine dq_aln 3 43 (by decide +kernel) rfl g16 ?_
        refine dq_iln 2 44 (by decide +kernel) rfl g15 ?_
        obtain ⟨h26, q27, hh⟩ := db hh
        obtain ⟨a28, q29, q27⟩ := db q27
        rw [dq_xV q27] at q29
        refine dq_cvi hD 211 281 5 3 [3] p22 [va_rf p24, va_rf p9.1, .int i2] [] 47 [] (by decide +kernel) ap_281 ⟨⟨Nat.le_of_ble_eq_true rfl, by decide⟩, rfl, rfl⟩ (dq_ok8 [1, 1, 1, 1] [] (dc_r (dc_r (dc_r (dc_i dc_n)))) dc_n (by decide +kernel)) (by decide +kernel) rfl q29 rfl ?_
        refine dq_aln 0 48 (by decide +kernel) rfl g13 ?_
        obtain ⟨p30, q31, hh⟩ := db hh
        refine dq_gR 26 2 [0] 51 (by decide +kernel) rfl q31 ?_
        obtain ⟨x32, q33, hh⟩ := db hh
        obtain ⟨a34, q35, q33⟩ := db q33
        rw [dq_xI q33] at q35
        refine dq_cvi hD 210 279 5 0 [3] p30 [] [] 54 [.int x32.1] (by decide +kernel) ap_279 ⟨⟨Nat.le_of_ble_eq_true rfl, by decide⟩, rfl, rfl⟩ (dq_ok8 [1] [] (dc_r dc_n) dc_n (by decide +kernel)) (by decide +kernel) rfl q35 rfl ?_
        exact dq_retI (some .int) (by decide +kernel) rfl hh
      · refine dq_2 .lt 5 false 32 q21 (by decide +kernel) ?_
        exact c280_32 hD hz  _ _ _  hh
def f280 (L : Nat) (xs : Nat → Int32) (zf : Value) (D : dD) (w : Nat) (As : List Value) (h : rm_H) : Option dR := match As with
  | [v0, .int i1, .int i2] => (rm_rf v0).bind fun o0 => b280_0 L xs zf D w o0 i1 i2 h
  | _ => none
theorem d280 {L : Nat} {xs : Nat → Int32} {zf : Value} {D : dD} {w k : Nat} (hD : dO L xs zf D k) (hz : zf.category = 1) (As : List Value) (h : rm_H) (r : dR) (hh : f280 L xs zf D w As h = some r) : dq L xs zf ah_M280 0 (lv_args 0 As) [] h (k + 1) r := by
  unfold f280 at hh
  split at hh
  · obtain ⟨o0, e0, hb0⟩ := db hh
    have e0 := rm_rf_v _ _ e0
    subst e0
    refine c280_0 hD hz _ _ _ _ _ _ ?_ ?_ ?_ hb0
    all_goals (simp only [la_r, la_i, la_j]; rfl)
  · cases hh
def b281_75 (L : Nat) (xs : Nat → Int32) (zf : Value) (D : dD) (w : Nat) (K49 : Option Nat → Option Nat → Option Nat → Int32 → Option Nat → Int32 → rm_H → Option dR) (o0 : Option Nat) (o1 : Option Nat) (o2 : Option Nat) (i3 : Int32) (o4 : Option Nat) (i5 : Int32) (h : rm_H) : Option dR :=
  (dgR L xs h 5 [11] o4).bind fun p1 =>
  ((dcV L xs D 146 [5] p1 [.int i5] h).bind dxR).bind fun p3 =>
  if dcK L xs p3.2 [10] p3.1 = false then none else
  (dgI L xs p3.2 7 [10] p3.1).bind fun x8 =>
  ((dcV L xs D 242 [14] o2 [.int i3, .int i5] p3.2).bind dxI).bind fun x10 =>
  ((dcV L xs D 273 [3] o0 [va_rf o1, .int x8, .int x10.1] x10.2).bind dxV).bind fun h14 =>
  K49 o0 o1 o2 i3 o4 (i5 + 1) h14
theorem c281_75 {L : Nat} {xs : Nat → Int32} {zf : Value} {D : dD} {w k : Nat} {K49 : Option Nat → Option Nat → Option Nat → Int32 → Option Nat → Int32 → rm_H → Option dR} (hD : dO L xs zf D k) (hz : zf.category = 1) (hK49 : ∀ (o0 : Option Nat) (o1 : Option Nat) (o2 : Option Nat) (i3 : Int32) (o4 : Option Nat) (i5 : Int32) (lv : rm_L) (h : rm_H) (r : dR), rm_get lv 0 = some (va_rf o0) → rm_get lv 1 = some (va_rf o1) → rm_get lv 2 = some (va_rf o2) → rm_get lv 3 = some (.int i3) → rm_get lv 4 = some (va_rf o4) → rm_get lv 5 = some (.int i5) → K49 o0 o1 o2 i3 o4 i5 h = some r → dq L xs zf ah_M281 49 lv [] h (k + 1) r) : ∀ (o0 : Option Nat) (o1 : Option Nat) (o2 : Option Nat) (i3 : Int32) (o4 : Option Nat) (i5 : Int32) (lv : rm_L) (h : rm_H) (r : dR), rm_get lv 0 = some (va_rf o0) → rm_get lv 1 = some (va_rf o1) → rm_get lv 2 = some (va_rf o2) → rm_get lv 3 = some (.int i3) → rm_get lv 4 = some (va_rf o4) → rm_get lv 5 = some (.int i5) → b281_75 L xs zf D w K49  o0 o1 o2 i3 o4 i5 h = some r → dq L xs zf ah_M281 75 lv [] h (k + 1) r := by
  intro o0 o1 o2 i3 o4 i5 lv h r G0 G1 G2 G3 G4 G5 hh
  unfold b281_75 at hh
  refine dq_aln 0 76 (by decide +kernel) rfl G0 ?_
  refine dq_aln 1 77 (by decide +kernel) rfl G1 ?_
  refine dq_al 4 79 (by decide +kernel) rfl G4 ?_
  obtain ⟨p1, q2, hh⟩ := db hh
  refine dq_gR 124 5 [11] 82 (by decide +kernel) rfl q2 ?_
  refine dq_il 5 84 (by decide +kernel) rfl G5 ?_
  obtain ⟨p3, q4, hh⟩ := db hh
  obtain ⟨a5, q6, q4⟩ := db q4
  rw [dq_xR q4] at q6
  refine dq_cif hD 85 2 146 7 1 [5] p1 [.int i5] [va_rf o1, va_rf o0] 89 [va_rf p3.1, va_rf o1, va_rf o0] (by decide +kernel) ap_146 ⟨⟨Nat.le_of_ble_eq_true rfl, by decide⟩, rfl, rfl⟩ (dq_ok8 [1, 1] [1, 1] (dc_r (dc_i dc_n)) (dc_r (dc_r dc_n)) (by decide +kernel)) (by decide +kernel) rfl q6 rfl ?_
  rcases dp hh with ⟨_, hh⟩ | ⟨q7, hh⟩
  · cases hh
  refine dq_cast 89 [10] 92 (by decide +kernel) ⟨rfl, by decide⟩ (by rw [Bool.not_eq_false] at q7; exact q7) ?_
  obtain ⟨x8, q9, hh⟩ := db hh
  refine dq_gI 91 7 [10] 95 (by decide +kernel) rfl q9 ?_
  refine dq_aln 2 96 (by decide +kernel) rfl G2 ?_
  refine dq_iln 3 97 (by decide +kernel) rfl G3 ?_
  refine dq_il 5 99 (by decide +kernel) rfl G5 ?_
  obtain ⟨x10, q11, hh⟩ := db hh
  obtain ⟨a12, q13, q11⟩ := db q11
  rw [dq_xI q11] at q13
  refine dq_cvi hD 127 242 5 2 [14] o2 [.int i3, .int i5] [.int x8, va_rf o1, va_rf o0] 102 [.int x10.1, .int x8, va_rf o1, va_rf o0] (by decide +kernel) ap_242 ⟨⟨Nat.le_of_ble_eq_true rfl, by decide⟩, rfl, rfl⟩ (dq_ok8 [1, 1, 1] [1, 1, 1] (dc_r (dc_i (dc_i dc_n))) (dc_i (dc_r (dc_r dc_n))) (by decide +kernel)) (by decide +kernel) rfl q13 rfl ?_
  obtain ⟨h14, q15, hh⟩ := db hh
  obtain ⟨a16, q17, q15⟩ := db q15
  rw [dq_xV q15] at q17
  refine dq_cvi hD 101 273 5 3 [3] o0 [va_rf o1, .int x8, .int x10.1] [] 105 [] (by decide +kernel) ap_273 ⟨⟨Nat.le_of_ble_eq_true rfl, by decide⟩, rfl, rfl⟩ (dq_ok8 [1, 1, 1, 1] [] (dc_r (dc_r (dc_i (dc_i dc_n)))) dc_n (by decide +kernel)) (by decide +kernel) rfl q17 rfl ?_
  refine dq_incy 5 1 1 108 (by decide +kernel) ⟨rfl, by decide +kernel, by decide +kernel⟩ G5 ?_
  have g18 := dg_ne (i := 5) (u := .int (i5 + 1)) (by decide) (Or.inl (by decide)) G0
  have g19 := dg_ne (i := 5) (u := .int (i5 + 1)) (by decide) (Or.inl (by decide)) G1
  have g20 := dg_ne (i := 5) (u := .int (i5 + 1)) (by decide) (Or.inl (by decide)) G2
  have g21 := dg_ne (i := 5) (u := .int (i5 + 1)) (by decide) (Or.inl (by decide)) G3
  have g22 := dg_ne (i := 5) (u := .int (i5 + 1)) (by decide) (Or.inr (drc _)) G4
  have g23 := dg_eq (lv) 5 (.int (i5 + 1))
  refine dq_S (.goto (-59)) 3 [] 49 _ [] (by decide +kernel) rfl ?_
  exact hK49 _ _ _ _ _ _ _ _ _ g18 g19 g20 g21 g22 g23 hh
def b281_49 (L : Nat) (xs : Nat → Int32) (zf : Value) (D : dD) (w : Nat) : Nat → Option Nat → Option Nat → Option Nat → Int32 → Option Nat → Int32 → rm_H → Option dR
  | 0, _, _, _, _, _, _, _ => none
  | n + 1, o0, o1, o2, i3, o4, i5, h =>
    (dgR L xs h 5 [11] o4).bind fun p1 =>
    ((dcV L xs D 101 [5] p1 [] h).bind dxI).bind fun x3 =>
    if mx_f2 .ge i5 x3.1 = true then
      ((dcV L xs D 276 [3] o0 [.int 41] x3.2).bind dxV).bind fun h8 =>
      some (none, h8)
    else
      if mx_f1 .le i5 = true then
        b281_75 L xs zf D w (b281_49 L xs zf D w n) o0 o1 o2 i3 o4 i5 x3.2
      else
        ((dcV L xs D 276 [3] o0 [.int 44] x3.2).bind dxV).bind fun h13 =>
        b281_75 L xs zf D w (b281_49 L xs zf D w n) o0 o1 o2 i3 o4 i5 h13
theorem c281_49 {L : Nat} {xs : Nat → Int32} {zf : Value} {D : dD} {w k : Nat} (hD : dO L xs zf D k) (hz : zf.category = 1) : ∀ (n : Nat) (o0 : Option Nat) (o1 : Option Nat) (o2 : Option Nat) (i3 : Int32) (o4 : Option Nat) (i5 : Int32) (lv : rm_L) (h : rm_H) (r : dR), rm_get lv 0 = some (va_rf o0) → rm_get lv 1 = some (va_rf o1) → rm_get lv 2 = some (va_rf o2) → rm_get lv 3 = some (.int i3) → rm_get lv 4 = some (va_rf o4) → rm_get lv 5 = some (.int i5) → b281_49 L xs zf D w n  o0 o1 o2 i3 o4 i5 h = some r → dq L xs zf ah_M281 49 lv [] h (k + 1) r := by
  intro n
  induction n with
  | zero =>
    intro o0 o1 o2 i3 o4 i5 lv h r G0 G1 G2 G3 G4 G5 hh
    cases hh
  | succ n ih =>
    intro o0 o1 o2 i3 o4 i5 lv h r G0 G1 G2 G3 G4 G5 hh
    rw [b281_49] at hh
    refine dq_il 5 51 (by decide +kernel) rfl G5 ?_
    refine dq_al 4 53 (by decide +kernel) rfl G4 ?_
    obtain ⟨p1, q2, hh⟩ := db hh
    refine dq_gR 124 5 [11] 56 (by decide +kernel) rfl q2 ?_
    obtain ⟨x3, q4, hh⟩ := db hh
    obtain ⟨a5, q6, q4⟩ := db q4
    rw [dq_xI q4] at q6
    refine dq_cif hD 80 1 101 7 0 [5] p1 [] [.int i5] 61 [.int x3.1, .int i5] (by decide +kernel) ap_101 ⟨⟨Nat.le_of_ble_eq_true rfl, by decide⟩, rfl, rfl⟩ (dq_ok8 [1] [1] (dc_r dc_n) (dc_i dc_n) (by decide +kernel)) (by decide +kernel) rfl q6 rfl ?_
    rcases di hh with ⟨q7, hh⟩ | ⟨q7, hh⟩
    · refine dq_2 .ge 50 true 111 q7 (by decide +kernel) ?_
      refine dq_aln 0 112 (by decide +kernel) rfl G0 ?_
      refine dq_S (.bipush 41) 2 [] 114 _ [.int 41, va_rf o0] (by decide +kernel) rfl ?_
      obtain ⟨h8, q9, hh⟩ := db hh
      obtain ⟨a10, q11, q9⟩ := db q9
      rw [dq_xV q9] at q11
      refine dq_cvi hD 58 276 5 1 [3] o0 [.int 41] [] 117 [] (by decide +kernel) ap_276 ⟨⟨Nat.le_of_ble_eq_true rfl, by decide⟩, rfl, rfl⟩ (dq_ok8 [1, 1] [] (dc_r (dc_i dc_n)) dc_n (by decide +kernel)) (by decide +kernel) rfl q11 rfl ?_
      cases hh
      exact dq_ret0 (by decide +kernel) rfl
    · refine dq_2 .ge 50 false 64 q7 (by decide +kernel) ?_
      refine dq_il 5 66 (by decide +kernel) rfl G5 ?_
      rcases di hh with ⟨q12, hh⟩ | ⟨q12, hh⟩
      · refine dq_1 .le 9 true 75 q12 (by decide +kernel) ?_
        exact c281_75 hD hz ih _ _ _ _ _ _ _ _ _ G0 G1 G2 G3 G4 G5 hh
      · refine dq_1 .le 9 false 69 q12 (by decide +kernel) ?_
        refine dq_aln 0 70 (by decide +kernel) rfl G0 ?_
        refine dq_S (.bipush 44) 2 [] 72 _ [.int 44, va_rf o0] (by decide +kernel) rfl ?_
        obtain ⟨h13, q14, hh⟩ := db hh
        obtain ⟨a15, q16, q14⟩ := db q14
        rw [dq_xV q14] at q16
        refine dq_cvi hD 58 276 5 1 [3] o0 [.int 44] [] 75 [] (by decide +kernel) ap_276 ⟨⟨Nat.le_of_ble_eq_true rfl, by decide⟩, rfl, rfl⟩ (dq_ok8 [1, 1] [] (dc_r (dc_i dc_n)) dc_n (by decide +kernel)) (by decide +kernel) rfl q16 rfl ?_
        exact c281_75 hD hz ih _ _ _ _ _ _ _ _ _ G0 G1 G2 G3 G4 G5 hh
def b281_23 (L : Nat) (xs : Nat → Int32) (zf : Value) (D : dD) (w : Nat) (o0 : Option Nat) (o1 : Option Nat) (o2 : Option Nat) (i3 : Int32) (s0 : Option Nat) (h : rm_H) : Option dR :=
  if dnl s0 = true then
    some (none, h)
  else
    (dgR L xs h 3 [11] s0).bind fun p7 =>
    ((dcV L xs D 277 [3] o0 [va_rf p7] h).bind dxV).bind fun h9 =>
    ((dcV L xs D 276 [3] o0 [.int 40] h9).bind dxV).bind fun h13 =>
    b281_49 L xs zf D w w o0 o1 o2 i3 s0 0 h13
theorem c281_23 {L : Nat} {xs : Nat → Int32} {zf : Value} {D : dD} {w k : Nat} (hD : dO L xs zf D k) (hz : zf.category = 1) : ∀ (o0 : Option Nat) (o1 : Option Nat) (o2 : Option Nat) (i3 : Int32) (s0 : Option Nat) (lv : rm_L) (h : rm_H) (r : dR), rm_get lv 0 = some (va_rf o0) → rm_get lv 1 = some (va_rf o1) → rm_get lv 2 = some (va_rf o2) → rm_get lv 3 = some (.int i3) → b281_23 L xs zf D w  o0 o1 o2 i3 s0 h = some r → dq L xs zf ah_M281 23 lv [va_rf s0] h (k + 1) r := by
  intro o0 o1 o2 i3 s0 lv h r G0 G1 G2 G3 hh
  unfold b281_23 at hh
  refine dq_as 4 25 (by decide +kernel) (by decide +kernel) ?_
  have g1 := dg_ne (i := 4) (u := va_rf s0) (by decide) (Or.inl (by decide)) G0
  have g2 := dg_ne (i := 4) (u := va_rf s0) (by decide) (Or.inl (by decide)) G1
  have g3 := dg_ne (i := 4) (u := va_rf s0) (by decide) (Or.inl (by decide)) G2
  have g4 := dg_ne (i := 4) (u := va_rf s0) (by decide) (Or.inr rfl) G3
  have g5 := dg_eq (lv) 4 (va_rf s0)
  refine dq_al 4 27 (by decide +kernel) rfl g5 ?_
  rcases di hh with ⟨q6, hh⟩ | ⟨q6, hh⟩
  · refine dq_nnull 4 false 30 q6 (by decide +kernel) (by decide +kernel) ?_
    cases hh
    exact dq_ret0 (by decide +kernel) rfl
  · refine dq_nnull 4 true 31 q6 (by decide +kernel) (by decide +kernel) ?_
    refine dq_aln 0 32 (by decide +kernel) rfl g1 ?_
    refine dq_al 4 34 (by decide +kernel) rfl g5 ?_
    obtain ⟨p7, q8, hh⟩ := db hh
    refine dq_gR 114 3 [11] 37 (by decide +kernel) rfl q8 ?_
    obtain ⟨h9, q10, hh⟩ := db hh
    obtain ⟨a11, q12, q10⟩ := db q10
    rw [dq_xV q10] at q12
    refine dq_cvi hD 120 277 5 1 [3] o0 [va_rf p7] [] 40 [] (by decide +kernel) ap_277 ⟨⟨Nat.le_of_ble_eq_true rfl, by decide⟩, rfl, rfl⟩ (dq_ok8 [1, 1] [] (dc_r (dc_r dc_n)) dc_n (by decide +kernel)) (by decide +kernel) rfl q12 rfl ?_
    refine dq_aln 0 41 (by decide +kernel) rfl g1 ?_
    refine dq_S (.bipush 40) 2 [] 43 _ [.int 40, va_rf o0] (by decide +kernel) rfl ?_
    obtain ⟨h13, q14, hh⟩ := db hh
    obtain ⟨a15, q16, q14⟩ := db q14
    rw [dq_xV q14] at q16
    refine dq_cvi hD 58 276 5 1 [3] o0 [.int 40] [] 46 [] (by decide +kernel) ap_276 ⟨⟨Nat.le_of_ble_eq_true rfl, by decide⟩, rfl, rfl⟩ (dq_ok8 [1, 1] [] (dc_r (dc_i dc_n)) dc_n (by decide +kernel)) (by decide +kernel) rfl q16 rfl ?_
    refine dq_S (.iconst 0) 1 [] 47 _ [.int 0] (by decide +kernel) rfl ?_
    refine dq_is 5 49 (by decide +kernel) (by decide +kernel) ?_
    have g17 := dg_ne (i := 5) (u := .int 0) (by decide) (Or.inl (by decide)) g1
    have g18 := dg_ne (i := 5) (u := .int 0) (by decide) (Or.inl (by decide)) g2
    have g19 := dg_ne (i := 5) (u := .int 0) (by decide) (Or.inl (by decide)) g3
    have g20 := dg_ne (i := 5) (u := .int 0) (by decide) (Or.inl (by decide)) g4
    have g21 := dg_ne (i := 5) (u := .int 0) (by decide) (Or.inr (drc _)) g5
    have g22 := dg_eq (rm_set1 (lv) 4 (va_rf s0)) 5 (.int 0)
    exact c281_49 hD hz _ _ _ _ _ _ _ _ _ _ g17 g18 g19 g20 g21 g22 hh
def b281_0 (L : Nat) (xs : Nat → Int32) (zf : Value) (D : dD) (w : Nat) (o0 : Option Nat) (o1 : Option Nat) (o2 : Option Nat) (i3 : Int32) (h : rm_H) : Option dR :=
  (dgR L xs h 7 [2] o1).bind fun p1 =>
  if dnl p1 = true then
    b281_23 L xs zf D w o0 o1 o2 i3 none h
  else
    (dgR L xs h 7 [2] o1).bind fun p4 =>
    ((dcV L xs D 239 [14] o2 [.int i3] h).bind dxI).bind fun x6 =>
    ((dcV L xs D 240 [4] p4 [.int x6.1] x6.2).bind dxR).bind fun p10 =>
    b281_23 L xs zf D w o0 o1 o2 i3 p10.1 p10.2
theorem c281_0 {L : Nat} {xs : Nat → Int32} {zf : Value} {D : dD} {w k : Nat} (hD : dO L xs zf D k) (hz : zf.category = 1) : ∀ (o0 : Option Nat) (o1 : Option Nat) (o2 : Option Nat) (i3 : Int32) (lv : rm_L) (h : rm_H) (r : dR), rm_get lv 0 = some (va_rf o0) → rm_get lv 1 = some (va_rf o1) → rm_get lv 2 = some (va_rf o2) → rm_get lv 3 = some (.int i3) → b281_0 L xs zf D w  o0 o1 o2 i3 h = some r → dq L xs zf ah_M281 0 lv [] h (k + 1) r := by
  intro o0 o1 o2 i3 lv h r G0 G1 G2 G3 hh
  unfold b281_0 at hh
  refine dq_aln 1 1 (by decide +kernel) rfl G1 ?_
  obtain ⟨p1, q2, hh⟩ := db hh
  refine dq_gR 62 7 [2] 4 (by decide +kernel) rfl q2 ?_
  rcases di hh with ⟨q3, hh⟩ | ⟨q3, hh⟩
  · refine dq_nnull 7 false 7 q3 (by decide +kernel) (by decide +kernel) ?_
    refine dq_S (.aconst_null) 1 [] 8 _ [va_rf none] (by decide +kernel) rfl ?_
    refine dq_S (.goto 15) 3 [] 23 _ [va_rf none] (by decide +kernel) rfl ?_
    exact c281_23 hD hz _ _ _ _ _ _ _ _ G0 G1 G2 G3 hh
  · refine dq_nnull 7 true 11 q3 (by decide +kernel) (by decide +kernel) ?_
    refine dq_aln 1 12 (by decide +kernel) rfl G1 ?_
    obtain ⟨p4, q5, hh⟩ := db hh
    refine dq_gR 62 7 [2] 15 (by decide +kernel) rfl q5 ?_
    refine dq_aln 2 16 (by decide +kernel) rfl G2 ?_
    refine dq_iln 3 17 (by decide +kernel) rfl G3 ?_
    obtain ⟨x6, q7, hh⟩ := db hh
    obtain ⟨a8, q9, q7⟩ := db q7
    rw [dq_xI q7] at q9
    refine dq_cvi hD 105 239 5 1 [14] o2 [.int i3] [va_rf p4] 20 [.int x6.1, va_rf p4] (by decide +kernel) ap_239 ⟨⟨Nat.le_of_ble_eq_true rfl, by decide⟩, rfl, rfl⟩ (dq_ok8 [1, 1] [1] (dc_r (dc_i dc_n)) (dc_r dc_n) (by decide +kernel)) (by decide +kernel) rfl q9 rfl ?_
    obtain ⟨p10, q11, hh⟩ := db hh
    obtain ⟨a12, q13, q11⟩ := db q11
    rw [dq_xR q11] at q13
    refine dq_cvi hD 108 240 5 1 [4] p4 [.int x6.1] [] 23 [va_rf p10.1] (by decide +kernel) ap_240 ⟨⟨Nat.le_of_ble_eq_true rfl, by decide⟩, rfl, rfl⟩ (dq_ok8 [1, 1] [] (dc_r (dc_i dc_n)) dc_n (by decide +kernel)) (by decide +kernel) rfl q13 rfl ?_
    exact c281_23 hD hz _ _ _ _ _ _ _ _ G0 G1 G2 G3 hh
def f281 (L : Nat) (xs : Nat → Int32) (zf : Value) (D : dD) (w : Nat) (As : List Value) (h : rm_H) : Option dR := match As with
  | [v0, v1, v2, .int i3] => (rm_rf v0).bind fun o0 => (rm_rf v1).bind fun o1 => (rm_rf v2).bind fun o2 => b281_0 L xs zf D w o0 o1 o2 i3 h
  | _ => none
theorem d281 {L : Nat} {xs : Nat → Int32} {zf : Value} {D : dD} {w k : Nat} (hD : dO L xs zf D k) (hz : zf.category = 1) (As : List Value) (h : rm_H) (r : dR) (hh : f281 L xs zf D w As h = some r) : dq L xs zf ah_M281 0 (lv_args 0 As) [] h (k + 1) r := by
  unfold f281 at hh
  split at hh
  · obtain ⟨o0, e0, hb0⟩ := db hh
    have e0 := rm_rf_v _ _ e0
    obtain ⟨o1, e1, hb1⟩ := db hb0
    have e1 := rm_rf_v _ _ e1
    obtain ⟨o2, e2, hb2⟩ := db hb1
    have e2 := rm_rf_v _ _ e2
    subst e0 e1 e2
    refine c281_0 hD hz _ _ _ _ _ _ _ ?_ ?_ ?_ ?_ hb2
    all_goals (simp only [la_r, la_i, la_j]; rfl)
  · cases hh
def b282_0 (L : Nat) (xs : Nat → Int32) (zf : Value) (D : dD) (w : Nat) (o0 : Option Nat) (i1 : Int32) (h : rm_H) : Option dR :=
  (dgR L xs h 2 [0] o0).bind fun p1 =>
  ((dcV L xs D 283 [3] p1 [.int i1] h).bind dxI).bind fun x3 =>
  drI (some .int) x3.1 x3.2
theorem c282_0 {L : Nat} {xs : Nat → Int32} {zf : Value} {D : dD} {w k : Nat} (hD : dO L xs zf D k) (hz : zf.category = 1) : ∀ (o0 : Option Nat) (i1 : Int32) (lv : rm_L) (h : rm_H) (r : dR), rm_get lv 0 = some (va_rf o0) → rm_get lv 1 = some (.int i1) → b282_0 L xs zf D w  o0 i1 h = some r → dq L xs zf ah_M282 0 lv [] h (k + 1) r := by
  intro o0 i1 lv h r G0 G1 hh
  unfold b282_0 at hh
  refine dq_aln 0 1 (by decide +kernel) rfl G0 ?_
  obtain ⟨p1, q2, hh⟩ := db hh
  refine dq_gR 26 2 [0] 4 (by decide +kernel) rfl q2 ?_
  refine dq_iln 1 5 (by decide +kernel) rfl G1 ?_
  obtain ⟨x3, q4, hh⟩ := db hh
  obtain ⟨a5, q6, q4⟩ := db q4
  rw [dq_xI q4] at q6
  refine dq_cvi hD 214 283 5 1 [3] p1 [.int i1] [] 8 [.int x3.1] (by decide +kernel) ap_283 ⟨⟨Nat.le_of_ble_eq_true rfl, by decide⟩, rfl, rfl⟩ (dq_ok8 [1, 1] [] (dc_r (dc_i dc_n)) dc_n (by decide +kernel)) (by decide +kernel) rfl q6 rfl ?_
  exact dq_retI (some .int) (by decide +kernel) rfl hh
def f282 (L : Nat) (xs : Nat → Int32) (zf : Value) (D : dD) (w : Nat) (As : List Value) (h : rm_H) : Option dR := match As with
  | [v0, .int i1] => (rm_rf v0).bind fun o0 => b282_0 L xs zf D w o0 i1 h
  | _ => none
theorem d282 {L : Nat} {xs : Nat → Int32} {zf : Value} {D : dD} {w k : Nat} (hD : dO L xs zf D k) (hz : zf.category = 1) (As : List Value) (h : rm_H) (r : dR) (hh : f282 L xs zf D w As h = some r) : dq L xs zf ah_M282 0 (lv_args 0 As) [] h (k + 1) r := by
  unfold f282 at hh
  split at hh
  · obtain ⟨o0, e0, hb0⟩ := db hh
    have e0 := rm_rf_v _ _ e0
    subst e0
    refine c282_0 hD hz _ _ _ _ _ ?_ ?_ hb0
    all_goals (simp only [la_r, la_i, la_j]; rfl)
  · cases hh
def b283_27 (L : Nat) (xs : Nat → Int32) (zf : Value) (D : dD) (w : Nat) (s0 : Int32) (h : rm_H) : Option dR :=
  drI (some .int) s0 h
theorem c283_27 {L : Nat} {xs : Nat → Int32} {zf : Value} {D : dD} {w k : Nat} (hD : dO L xs zf D k) (hz : zf.category = 1) : ∀ (s0 : Int32) (lv : rm_L) (h : rm_H) (r : dR), b283_27 L xs zf D w  s0 h = some r → dq L xs zf ah_M283 27 lv [.int s0] h (k + 1) r := by
  intro s0 lv h r hh
  unfold b283_27 at hh
  exact dq_retI (some .int) (by decide +kernel) rfl hh
def b283_15 (L : Nat) (xs : Nat → Int32) (zf : Value) (D : dD) (w : Nat) (h : rm_H) : Option dR :=
  b283_27 L xs zf D w 0 h
theorem c283_15 {L : Nat} {xs : Nat → Int32} {zf : Value} {D : dD} {w k : Nat} (hD : dO L xs zf D k) (hz : zf.category = 1) : ∀ (lv : rm_L) (h : rm_H) (r : dR), b283_15 L xs zf D w  h = some r → dq L xs zf ah_M283 15 lv [] h (k + 1) r := by
  intro lv h r hh
  unfold b283_15 at hh
  refine dq_S (.iconst 0) 1 [] 16 _ [.int 0] (by decide +kernel) rfl ?_
  refine dq_S (.goto 11) 3 [] 27 _ [.int 0] (by decide +kernel) rfl ?_
  exact c283_27 hD hz _ _ _ _  hh
def b283_0 (L : Nat) (xs : Nat → Int32) (zf : Value) (D : dD) (w : Nat) (o0 : Option Nat) (i1 : Int32) (h : rm_H) : Option dR :=
  if mx_f1 .lt i1 = true then
    b283_15 L xs zf D w h
  else
    (dgR L xs h 0 [3] o0).bind fun p2 =>
    ((dcV L xs D 10 [1] p2 [] h).bind dxI).bind fun x4 =>
    if mx_f2 .lt i1 x4.1 = true then
      (dgR L xs x4.2 0 [3] o0).bind fun p9 =>
      ((dcV L xs D 284 [1] p9 [.int i1] x4.2).bind dxI).bind fun x11 =>
      b283_27 L xs zf D w x11.1 x11.2
    else
      b283_15 L xs zf D w x4.2
theorem c283_0 {L : Nat} {xs : Nat → Int32} {zf : Value} {D : dD} {w k : Nat} (hD : dO L xs zf D k) (hz : zf.category = 1) : ∀ (o0 : Option Nat) (i1 : Int32) (lv : rm_L) (h : rm_H) (r : dR), rm_get lv 0 = some (va_rf o0) → rm_get lv 1 = some (.int i1) → b283_0 L xs zf D w  o0 i1 h = some r → dq L xs zf ah_M283 0 lv [] h (k + 1) r := by
  intro o0 i1 lv h r G0 G1 hh
  unfold b283_0 at hh
  refine dq_iln 1 1 (by decide +kernel) rfl G1 ?_
  rcases di hh with ⟨q1, hh⟩ | ⟨q1, hh⟩
  · refine dq_1 .lt 14 true 15 q1 (by decide +kernel) ?_
    exact c283_15 hD hz  _ _ _  hh
  · refine dq_1 .lt 14 false 4 q1 (by decide +kernel) ?_
    refine dq_iln 1 5 (by decide +kernel) rfl G1 ?_
    refine dq_aln 0 6 (by decide +kernel) rfl G0 ?_
    obtain ⟨p2, q3, hh⟩ := db hh
    refine dq_gR 12 0 [3] 9 (by decide +kernel) rfl q3 ?_
    obtain ⟨x4, q5, hh⟩ := db hh
    obtain ⟨a6, q7, q5⟩ := db q5
    rw [dq_xI q5] at q7
    refine dq_cvi hD 42 10 5 0 [1] p2 [] [.int i1] 12 [.int x4.1, .int i1] (by decide +kernel) ap_10 ⟨⟨Nat.le_of_ble_eq_true rfl, by decide⟩, rfl, rfl⟩ (dq_ok8 [1] [1] (dc_r dc_n) (dc_i dc_n) (by decide +kernel)) (by decide +kernel) rfl q7 rfl ?_
    rcases di hh with ⟨q8, hh⟩ | ⟨q8, hh⟩
    · refine dq_2 .lt 7 true 19 q8 (by decide +kernel) ?_
      refine dq_aln 0 20 (by decide +kernel) rfl G0 ?_
      obtain ⟨p9, q10, hh⟩ := db hh
      refine dq_gR 12 0 [3] 23 (by decide +kernel) rfl q10 ?_
      refine dq_iln 1 24 (by decide +kernel) rfl G1 ?_
      obtain ⟨x11, q12, hh⟩ := db hh
      obtain ⟨a13, q14, q12⟩ := db q12
      rw [dq_xI q12] at q14
      refine dq_cvi hD 46 284 5 1 [1] p9 [.int i1] [] 27 [.int x11.1] (by decide +kernel) ap_284 ⟨⟨Nat.le_of_ble_eq_true rfl, by decide⟩, rfl, rfl⟩ (dq_ok8 [1, 1] [] (dc_r (dc_i dc_n)) dc_n (by decide +kernel)) (by decide +kernel) rfl q14 rfl ?_
      exact c283_27 hD hz _ _ _ _  hh
    · refine dq_2 .lt 7 false 15 q8 (by decide +kernel) ?_
      exact c283_15 hD hz  _ _ _  hh
def f283 (L : Nat) (xs : Nat → Int32) (zf : Value) (D : dD) (w : Nat) (As : List Value) (h : rm_H) : Option dR := match As with
  | [v0, .int i1] => (rm_rf v0).bind fun o0 => b283_0 L xs zf D w o0 i1 h
  | _ => none
theorem d283 {L : Nat} {xs : Nat → Int32} {zf : Value} {D : dD} {w k : Nat} (hD : dO L xs zf D k) (hz : zf.category = 1) (As : List Value) (h : rm_H) (r : dR) (hh : f283 L xs zf D w As h = some r) : dq L xs zf ah_M283 0 (lv_args 0 As) [] h (k + 1) r := by
  unfold f283 at hh
  split at hh
  · obtain ⟨o0, e0, hb0⟩ := db hh
    have e0 := rm_rf_v _ _ e0
    subst e0
    refine c283_0 hD hz _ _ _ _ _ ?_ ?_ hb0
    all_goals (simp only [la_r, la_i, la_j]; rfl)
  · cases hh
def b284_0 (L : Nat) (xs : Nat → Int32) (zf : Value) (D : dD) (w : Nat) (o0 : Option Nat) (i1 : Int32) (h : rm_H) : Option dR :=
  ((dcV L xs D 285 [1] o0 [.int i1] h).bind dxI).bind fun x1 =>
  drI (some .char) x1.1 x1.2
theorem c284_0 {L : Nat} {xs : Nat → Int32} {zf : Value} {D : dD} {w k : Nat} (hD : dO L xs zf D k) (hz : zf.category = 1) : ∀ (o0 : Option Nat) (i1 : Int32) (lv : rm_L) (h : rm_H) (r : dR), rm_get lv 0 = some (va_rf o0) → rm_get lv 1 = some (.int i1) → b284_0 L xs zf D w  o0 i1 h = some r → dq L xs zf ah_M284 0 lv [] h (k + 1) r := by
  intro o0 i1 lv h r G0 G1 hh
  unfold b284_0 at hh
  refine dq_aln 0 1 (by decide +kernel) rfl G0 ?_
  refine dq_iln 1 2 (by decide +kernel) rfl G1 ?_
  obtain ⟨x1, q2, hh⟩ := db hh
  obtain ⟨a3, q4, q2⟩ := db q2
  rw [dq_xI q2] at q4
  refine dq_csu hD 329 285 1 [1] o0 [.int i1] [] 5 [.int x1.1] (by decide +kernel) ap_285 ⟨Nat.le_of_ble_eq_true rfl, rfl, rfl⟩ (dq_ok8 [1, 1] [] (dc_r (dc_i dc_n)) dc_n (by decide +kernel)) (by decide +kernel) rfl q4 rfl ?_
  exact dq_retI (some .char) (by decide +kernel) rfl hh
def f284 (L : Nat) (xs : Nat → Int32) (zf : Value) (D : dD) (w : Nat) (As : List Value) (h : rm_H) : Option dR := match As with
  | [v0, .int i1] => (rm_rf v0).bind fun o0 => b284_0 L xs zf D w o0 i1 h
  | _ => none
theorem d284 {L : Nat} {xs : Nat → Int32} {zf : Value} {D : dD} {w k : Nat} (hD : dO L xs zf D k) (hz : zf.category = 1) (As : List Value) (h : rm_H) (r : dR) (hh : f284 L xs zf D w As h = some r) : dq L xs zf ah_M284 0 (lv_args 0 As) [] h (k + 1) r := by
  unfold f284 at hh
  split at hh
  · obtain ⟨o0, e0, hb0⟩ := db hh
    have e0 := rm_rf_v _ _ e0
    subst e0
    refine c284_0 hD hz _ _ _ _ _ ?_ ?_ hb0
    all_goals (simp only [la_r, la_i, la_j]; rfl)
  · cases hh
def b285_0 (L : Nat) (xs : Nat → Int32) (zf : Value) (D : dD) (w : Nat) (o0 : Option Nat) (i1 : Int32) (h : rm_H) : Option dR :=
  (dgI L xs h 1 [1] o0).bind fun x1 =>
  (dgR L xs h 0 [1] o0).bind fun p6 =>
  (dgI L xs h 3 [1] o0).bind fun x12 =>
  (daN L xs h p6).bind fun x14 =>
  ((D 21 [.int x12, .int (x14 >>> (x1 &&& 31))] h).bind dxI).bind fun x16 =>
  ((D 34 [.int i1, .int x16.1] x16.2).bind dxV).bind fun h25 =>
  if mx_f1 .ne x1 = true then
    ((D 57 [va_rf p6, .int i1] h25).bind dxI).bind fun x30 =>
    drI (some .char) x30.1 x30.2
  else
    (daB L xs h25 p6 i1).bind fun x34 =>
    drI (some .char) (UInt32.toInt32 (Int32.toUInt32 (x34 &&& 255) % 65536)) h25
theorem c285_0 {L : Nat} {xs : Nat → Int32} {zf : Value} {D : dD} {w k : Nat} (hD : dO L xs zf D k) (hz : zf.category = 1) : ∀ (o0 : Option Nat) (i1 : Int32) (lv : rm_L) (h : rm_H) (r : dR), rm_get lv 0 = some (va_rf o0) → rm_get lv 1 = some (.int i1) → b285_0 L xs zf D w  o0 i1 h = some r → dq L xs zf ah_M285 0 lv [] h (k + 1) r := by
  intro o0 i1 lv h r G0 G1 hh
  unfold b285_0 at hh
  refine dq_aln 0 1 (by decide +kernel) rfl G0 ?_
  obtain ⟨x1, q2, hh⟩ := db hh
  refine dq_gI 22 1 [1] 4 (by decide +kernel) rfl q2 ?_
  refine dq_isn 2 5 (by decide +kernel) (by decide +kernel) ?_
  have g3 := dg_ne (i := 2) (u := .int x1) (by decide) (Or.inl (by decide)) G0
  have g4 := dg_ne (i := 2) (u := .int x1) (by decide) (Or.inr rfl) G1
  have g5 := dg_eq (lv) 2 (.int x1)
  refine dq_aln 0 6 (by decide +kernel) rfl g3 ?_
  obtain ⟨p6, q7, hh⟩ := db hh
  refine dq_gR 15 0 [1] 9 (by decide +kernel) rfl q7 ?_
  refine dq_asn 3 10 (by decide +kernel) (by decide +kernel) ?_
  have g8 := dg_ne (i := 3) (u := va_rf p6) (by decide) (Or.inl (by decide)) g3
  have g9 := dg_ne (i := 3) (u := va_rf p6) (by decide) (Or.inl (by decide)) g4
  have g10 := dg_ne (i := 3) (u := va_rf p6) (by decide) (Or.inr rfl) g5
  have g11 := dg_eq (rm_set1 (lv) 2 (.int x1)) 3 (va_rf p6)
  refine dq_aln 0 11 (by decide +kernel) rfl g8 ?_
  obtain ⟨x12, q13, hh⟩ := db hh
  refine dq_gI 79 3 [1] 14 (by decide +kernel) rfl q13 ?_
  refine dq_aln 3 15 (by decide +kernel) rfl g11 ?_
  obtain ⟨x14, q15, hh⟩ := db hh
  refine dq_aN 16 (by decide +kernel) rfl q15 ?_
  refine dq_iln 2 17 (by decide +kernel) rfl g10 ?_
  refine dq_S (.ishr) 1 [] 18 _ [.int (x14 >>> (x1 &&& 31)), .int x12] (by decide +kernel) rfl ?_
  obtain ⟨x16, q17, hh⟩ := db hh
  obtain ⟨a18, q19, q17⟩ := db q17
  rw [dq_xI q17] at q19
  refine dq_cst hD 138 21 0 2 [.int x12, .int (x14 >>> (x1 &&& 31))] [] 21 [.int x16.1] (by decide +kernel) ap_21 ⟨⟨Nat.le_of_ble_eq_true rfl, by decide⟩, rfl, rfl⟩ (dq_ok8 [1, 1] [] (dc_i (dc_i dc_n)) dc_n (by decide +kernel)) (by decide +kernel) rfl q19 rfl ?_
  refine dq_is 4 23 (by decide +kernel) (by decide +kernel) ?_
  have g20 := dg_ne (i := 4) (u := .int x16.1) (by decide) (Or.inl (by decide)) g8
  have g21 := dg_ne (i := 4) (u := .int x16.1) (by decide) (Or.inl (by decide)) g9
  have g22 := dg_ne (i := 4) (u := .int x16.1) (by decide) (Or.inl (by decide)) g10
  have g23 := dg_ne (i := 4) (u := .int x16.1) (by decide) (Or.inr (drc _)) g11
  have g24 := dg_eq (rm_set1 (rm_set1 (lv) 2 (.int x1)) 3 (va_rf p6)) 4 (.int x16.1)
  refine dq_iln 1 24 (by decide +kernel) rfl g21 ?_
  refine dq_il 4 26 (by decide +kernel) rfl g24 ?_
  obtain ⟨h25, q26, hh⟩ := db hh
  obtain ⟨a27, q28, q26⟩ := db q26
  rw [dq_xV q26] at q28
  refine dq_cst hD 144 34 0 2 [.int i1, .int x16.1] [] 29 [] (by decide +kernel) ap_34 ⟨⟨Nat.le_of_ble_eq_true rfl, by decide⟩, rfl, rfl⟩ (dq_ok8 [1, 1] [] (dc_i (dc_i dc_n)) dc_n (by decide +kernel)) (by decide +kernel) rfl q28 rfl ?_
  refine dq_iln 2 30 (by decide +kernel) rfl g22 ?_
  rcases di hh with ⟨q29, hh⟩ | ⟨q29, hh⟩
  · refine dq_1 .ne 12 true 42 q29 (by decide +kernel) ?_
    refine dq_aln 3 43 (by decide +kernel) rfl g23 ?_
    refine dq_iln 1 44 (by decide +kernel) rfl g21 ?_
    obtain ⟨x30, q31, hh⟩ := db hh
    obtain ⟨a32, q33, q31⟩ := db q31
    rw [dq_xI q31] at q33
    refine dq_cst hD 148 57 0 2 [va_rf p6, .int i1] [] 47 [.int x30.1] (by decide +kernel) ap_57 ⟨⟨Nat.le_of_ble_eq_true rfl, by decide⟩, rfl, rfl⟩ (dq_ok8 [1, 1] [] (dc_r (dc_i dc_n)) dc_n (by decide +kernel)) (by decide +kernel) rfl q33 rfl ?_
    exact dq_retI (some .char) (by decide +kernel) rfl hh
  · refine dq_1 .ne 12 false 33 q29 (by decide +kernel) ?_
    refine dq_aln 3 34 (by decide +kernel) rfl g23 ?_
    refine dq_iln 1 35 (by decide +kernel) rfl g21 ?_
    obtain ⟨x34, q35, hh⟩ := db hh
    refine dq_aB 36 (by decide +kernel) rfl q35 ?_
    refine dq_S (.sipush 255) 3 [] 39 _ [.int 255, .int x34] (by decide +kernel) rfl ?_
    refine dq_S (.iand) 1 [] 40 _ [.int (x34 &&& 255)] (by decide +kernel) rfl ?_
    refine dq_S (.i2c) 1 [] 41 _ [.int (UInt32.toInt32 (Int32.toUInt32 (x34 &&& 255) % 65536))] (by decide +kernel) rfl ?_
    exact dq_retI (some .char) (by decide +kernel) rfl hh
def f285 (L : Nat) (xs : Nat → Int32) (zf : Value) (D : dD) (w : Nat) (As : List Value) (h : rm_H) : Option dR := match As with
  | [v0, .int i1] => (rm_rf v0).bind fun o0 => b285_0 L xs zf D w o0 i1 h
  | _ => none
theorem d285 {L : Nat} {xs : Nat → Int32} {zf : Value} {D : dD} {w k : Nat} (hD : dO L xs zf D k) (hz : zf.category = 1) (As : List Value) (h : rm_H) (r : dR) (hh : f285 L xs zf D w As h = some r) : dq L xs zf ah_M285 0 (lv_args 0 As) [] h (k + 1) r := by
  unfold f285 at hh
  split at hh
  · obtain ⟨o0, e0, hb0⟩ := db hh
    have e0 := rm_rf_v _ _ e0
    subst e0
    refine c285_0 hD hz _ _ _ _ _ ?_ ?_ hb0
    all_goals (simp only [la_r, la_i, la_j]; rfl)
  · cases hh
def b286_71 (L : Nat) (xs : Nat → Int32) (zf : Value) (D : dD) (w : Nat) (K18 : Option Nat → Int32 → Int32 → Int32 → Int32 → Int32 → Int32 → rm_H → Option dR) (o0 : Option Nat) (i1 : Int32) (i2 : Int32) (i3 : Int32) (i4 : Int32) (i5 : Int32) (i6 : Int32) (s0 : Int32) (h : rm_H) : Option dR :=
  (dgR L xs h 0 [15] o0).bind fun p9 =>
  (dgI L xs h 2 [15] o0).bind fun x11 =>
  (dsI h p9 (x11 + i6) ((s0 >>> ((24 - (8 * (i6 - i6 / 4 * 4))) &&& 31)) &&& 255)).bind fun h13 =>
  K18 o0 i1 i2 i3 i4 i5 (i6 + 1) h13
theorem c286_71 {L : Nat} {xs : Nat → Int32} {zf : Value} {D : dD} {w k : Nat} {K18 : Option Nat → Int32 → Int32 → Int32 → Int32 → Int32 → Int32 → rm_H → Option dR} (hD : dO L xs zf D k) (hz : zf.category = 1) (hK18 : ∀ (o0 : Option Nat) (i1 : Int32) (i2 : Int32) (i3 : Int32) (i4 : Int32) (i5 : Int32) (i6 : Int32) (lv : rm_L) (h : rm_H) (r : dR), rm_get lv 0 = some (va_rf o0) → rm_get lv 1 = some (.int i1) → rm_get lv 2 = some (.int i2) → rm_get lv 3 = some (.int i3) → rm_get lv 4 = some (.int i4) → rm_get lv 5 = some (.int i5) → rm_get lv 6 = some (.int i6) → K18 o0 i1 i2 i3 i4 i5 i6 h = some r → dq L xs zf ah_M286 18 lv [] h (k + 1) r) : ∀ (o0 : Option Nat) (i1 : Int32) (i2 : Int32) (i3 : Int32) (i4 : Int32) (i5 : Int32) (i6 : Int32) (s0 : Int32) (lv : rm_L) (h : rm_H) (r : dR), rm_get lv 0 = some (va_rf o0) → rm_get lv 1 = some (.int i1) → rm_get lv 2 = some (.int i2) → rm_get lv 3 = some (.int i3) → rm_get lv 4 = some (.int i4) → rm_get lv 5 = some (.int i5) → rm_get lv 6 = some (.int i6) → b286_71 L xs zf D w K18  o0 i1 i2 i3 i4 i5 i6 s0 h = some r → dq L xs zf ah_M286 71 lv [.int s0] h (k + 1) r := by
  intro o0 i1 i2 i3 i4 i5 i6 s0 lv h r G0 G1 G2 G3 G4 G5 G6 hh
  unfold b286_71 at hh
  refine dq_is 7 73 (by decide +kernel) (by decide +kernel) ?_
  have g1 := dg_ne (i := 7) (u := .int s0) (by decide) (Or.inl (by decide)) G0
  have g2 := dg_ne (i := 7) (u := .int s0) (by decide) (Or.inl (by decide)) G1
  have g3 := dg_ne (i := 7) (u := .int s0) (by decide) (Or.inl (by decide)) G2
  have g4 := dg_ne (i := 7) (u := .int s0) (by decide) (Or.inl (by decide)) G3
  have g5 := dg_ne (i := 7) (u := .int s0) (by decide) (Or.inl (by decide)) G4
  have g6 := dg_ne (i := 7) (u := .int s0) (by decide) (Or.inl (by decide)) G5
  have g7 := dg_ne (i := 7) (u := .int s0) (by decide) (Or.inr rfl) G6
  have g8 := dg_eq (lv) 7 (.int s0)
  refine dq_aln 0 74 (by decide +kernel) rfl g1 ?_
  obtain ⟨p9, q10, hh⟩ := db hh
  refine dq_gR 7 0 [15] 77 (by decide +kernel) rfl q10 ?_
  refine dq_aln 0 78 (by decide +kernel) rfl g1 ?_
  obtain ⟨x11, q12, hh⟩ := db hh
  refine dq_gI 1 2 [15] 81 (by decide +kernel) rfl q12 ?_
  refine dq_il 6 83 (by decide +kernel) rfl g7 ?_
  refine dq_S (.iadd) 1 [] 84 _ [.int (x11 + i6), va_rf p9] (by decide +kernel) rfl ?_
  refine dq_il 7 86 (by decide +kernel) rfl g8 ?_
  refine dq_S (.bipush 24) 2 [] 88 _ [.int 24, .int s0, .int (x11 + i6), va_rf p9] (by decide +kernel) rfl ?_
  refine dq_S (.bipush 8) 2 [] 90 _ [.int 8, .int 24, .int s0, .int (x11 + i6), va_rf p9] (by decide +kernel) rfl ?_
  refine dq_il 6 92 (by decide +kernel) rfl g7 ?_
  refine dq_S (.iconst 4) 1 [] 93 _ [.int 4, .int i6, .int 8, .int 24, .int s0, .int (x11 + i6), va_rf p9] (by decide +kernel) rfl ?_
  refine dq_rem 94 (by decide) (by decide +kernel) rfl ?_
  refine dq_S (.imul) 1 [] 95 _ [.int (8 * (i6 - i6 / 4 * 4)), .int 24, .int s0, .int (x11 + i6), va_rf p9] (by decide +kernel) rfl ?_
  refine dq_S (.isub) 1 [] 96 _ [.int (24 - (8 * (i6 - i6 / 4 * 4))), .int s0, .int (x11 + i6), va_rf p9] (by decide +kernel) rfl ?_
  refine dq_S (.ishr) 1 [] 97 _ [.int (s0 >>> ((24 - (8 * (i6 - i6 / 4 * 4))) &&& 31)), .int (x11 + i6), va_rf p9] (by decide +kernel) rfl ?_
  refine dq_S (.sipush 255) 3 [] 100 _ [.int 255, .int (s0 >>> ((24 - (8 * (i6 - i6 / 4 * 4))) &&& 31)), .int (x11 + i6), va_rf p9] (by decide +kernel) rfl ?_
  refine dq_S (.iand) 1 [] 101 _ [.int ((s0 >>> ((24 - (8 * (i6 - i6 / 4 * 4))) &&& 31)) &&& 255), .int (x11 + i6), va_rf p9] (by decide +kernel) rfl ?_
  obtain ⟨h13, q14, hh⟩ := db hh
  refine dq_sI 102 (by decide +kernel) rfl q14 ?_
  refine dq_incy 6 1 1 105 (by decide +kernel) ⟨rfl, by decide +kernel, by decide +kernel⟩ g7 ?_
  have g15 := dg_ne (i := 6) (u := .int (i6 + 1)) (by decide) (Or.inl (by decide)) g1
  have g16 := dg_ne (i := 6) (u := .int (i6 + 1)) (by decide) (Or.inl (by decide)) g2
  have g17 := dg_ne (i := 6) (u := .int (i6 + 1)) (by decide) (Or.inl (by decide)) g3
  have g18 := dg_ne (i := 6) (u := .int (i6 + 1)) (by decide) (Or.inl (by decide)) g4
  have g19 := dg_ne (i := 6) (u := .int (i6 + 1)) (by decide) (Or.inl (by decide)) g5
  have g20 := dg_ne (i := 6) (u := .int (i6 + 1)) (by decide) (Or.inr rfl) g6
  have g21 := dg_ne (i := 6) (u := .int (i6 + 1)) (by decide) (Or.inl (by decide)) g8
  have g22 := dg_eq (rm_set1 (lv) 7 (.int s0)) 6 (.int (i6 + 1))
  refine dq_S (.goto (-87)) 3 [] 18 _ [] (by decide +kernel) rfl ?_
  exact hK18 _ _ _ _ _ _ _ _ _ _ g15 g16 g17 g18 g19 g20 g22 hh
def b286_18 (L : Nat) (xs : Nat → Int32) (zf : Value) (D : dD) (w : Nat) : Nat → Option Nat → Int32 → Int32 → Int32 → Int32 → Int32 → Int32 → rm_H → Option dR
  | 0, _, _, _, _, _, _, _, _ => none
  | n + 1, o0, i1, i2, i3, i4, i5, i6, h =>
    if mx_f2 .ge i6 20 = true then
      (dgI L xs h 2 [15] o0).bind fun x2 =>
      (dpF h 2 [15] o0 (.int (x2 + 20))).bind fun h4 =>
      (dgI L xs h4 2 [15] o0).bind fun x6 =>
      drI (some .int) x6 h4
    else
      if mx_f2 .ge i6 4 = true then
        if mx_f2 .ge i6 8 = true then
          if mx_f2 .ge i6 12 = true then
            if mx_f2 .ge i6 16 = true then
              b286_71 L xs zf D w (b286_18 L xs zf D w n) o0 i1 i2 i3 i4 i5 i6 i5 h
            else
              b286_71 L xs zf D w (b286_18 L xs zf D w n) o0 i1 i2 i3 i4 i5 i6 i4 h
          else
            b286_71 L xs zf D w (b286_18 L xs zf D w n) o0 i1 i2 i3 i4 i5 i6 i3 h
        else
          b286_71 L xs zf D w (b286_18 L xs zf D w n) o0 i1 i2 i3 i4 i5 i6 i2 h
      else
        b286_71 L xs zf D w (b286_18 L xs zf D w n) o0 i1 i2 i3 i4 i5 i6 i1 h
theorem c286_18 {L : Nat} {xs : Nat → Int32} {zf : Value} {D : dD} {w k : Nat} (hD : dO L xs zf D k) (hz : zf.category = 1) : ∀ (n : Nat) (o0 : Option Nat) (i1 : Int32) (i2 : Int32) (i3 : Int32) (i4 : Int32) (i5 : Int32) (i6 : Int32) (lv : rm_L) (h : rm_H) (r : dR), rm_get lv 0 = some (va_rf o0) → rm_get lv 1 = some (.int i1) → rm_get lv 2 = some (.int i2) → rm_get lv 3 = some (.int i3) → rm_get lv 4 = some (.int i4) → rm_get lv 5 = some (.int i5) → rm_get lv 6 = some (.int i6) → b286_18 L xs zf D w n  o0 i1 i2 i3 i4 i5 i6 h = some r → dq L xs zf ah_M286 18 lv [] h (k + 1) r := by
  intro n
  induction n with
  | zero =>
    intro o0 i1 i2 i3 i4 i5 i6 lv h r G0 G1 G2 G3 G4 G5 G6 hh
    cases hh
  | succ n ih =>
    intro o0 i1 i2 i3 i4 i5 i6 lv h r G0 G1 G2 G3 G4 G5 G6 hh
    rw [b286_18] at hh
    refine dq_il 6 20 (by decide +kernel) rfl G6 ?_
    refine dq_S (.bipush 20) 2 [] 22 _ [.int 20, .int i6] (by decide +kernel) rfl ?_
    rcases di hh with ⟨q1, hh⟩ | ⟨q1, hh⟩
    · refine dq_2 .ge 86 true 108 q1 (by decide +kernel) ?_
      refine dq_aln 0 109 (by decide +kernel) rfl G0 ?_
      refine dq_dup 110 (by decide +kernel) rfl ?_
      obtain ⟨x2, q3, hh⟩ := db hh
      refine dq_gI 1 2 [15] 113 (by decide +kernel) rfl q3 ?_
      refine dq_S (.bipush 20) 2 [] 115 _ [.int 20, .int x2, va_rf o0] (by decide +kernel) rfl ?_
      refine dq_S (.iadd) 1 [] 116 _ [.int (x2 + 20), va_rf o0] (by decide +kernel) rfl ?_
      obtain ⟨h4, q5, hh⟩ := db hh
      refine dq_put 1 2 [15] 119 (by decide +kernel) rfl q5 ?_
      refine dq_aln 0 120 (by decide +kernel) rfl G0 ?_
      obtain ⟨x6, q7, hh⟩ := db hh
      refine dq_gI 1 2 [15] 123 (by decide +kernel) rfl q7 ?_
      exact dq_retI (some .int) (by decide +kernel) rfl hh
    · refine dq_2 .ge 86 false 25 q1 (by decide +kernel) ?_
      refine dq_il 6 27 (by decide +kernel) rfl G6 ?_
      refine dq_S (.iconst 4) 1 [] 28 _ [.int 4, .int i6] (by decide +kernel) rfl ?_
      rcases di hh with ⟨q8, hh⟩ | ⟨q8, hh⟩
      · refine dq_2 .ge 7 true 35 q8 (by decide +kernel) ?_
        refine dq_il 6 37 (by decide +kernel) rfl G6 ?_
        refine dq_S (.bipush 8) 2 [] 39 _ [.int 8, .int i6] (by decide +kernel) rfl ?_
        rcases di hh with ⟨q9, hh⟩ | ⟨q9, hh⟩
        · refine dq_2 .ge 7 true 46 q9 (by decide +kernel) ?_
          refine dq_il 6 48 (by decide +kernel) rfl G6 ?_
          refine dq_S (.bipush 12) 2 [] 50 _ [.int 12, .int i6] (by decide +kernel) rfl ?_
          rcases di hh with ⟨q10, hh⟩ | ⟨q10, hh⟩
          · refine dq_2 .ge 7 true 57 q10 (by decide +kernel) ?_
            refine dq_il 6 59 (by decide +kernel) rfl G6 ?_
            refine dq_S (.bipush 16) 2 [] 61 _ [.int 16, .int i6] (by decide +kernel) rfl ?_
            rcases di hh with ⟨q11, hh⟩ | ⟨q11, hh⟩
            · refine dq_2 .ge 8 true 69 q11 (by decide +kernel) ?_
              refine dq_il 5 71 (by decide +kernel) rfl G5 ?_
              exact c286_71 hD hz ih _ _ _ _ _ _ _ _ _ _ _ G0 G1 G2 G3 G4 G5 G6 hh
            · refine dq_2 .ge 8 false 64 q11 (by decide +kernel) ?_
              refine dq_il 4 66 (by decide +kernel) rfl G4 ?_
              refine dq_S (.goto 5) 3 [] 71 _ [.int i4] (by decide +kernel) rfl ?_
              exact c286_71 hD hz ih _ _ _ _ _ _ _ _ _ _ _ G0 G1 G2 G3 G4 G5 G6 hh
          · refine dq_2 .ge 7 false 53 q10 (by decide +kernel) ?_
            refine dq_iln 3 54 (by decide +kernel) rfl G3 ?_
            refine dq_S (.goto 17) 3 [] 71 _ [.int i3] (by decide +kernel) rfl ?_
            exact c286_71 hD hz ih _ _ _ _ _ _ _ _ _ _ _ G0 G1 G2 G3 G4 G5 G6 hh
        · refine dq_2 .ge 7 false 42 q9 (by decide +kernel) ?_
          refine dq_iln 2 43 (by decide +kernel) rfl G2 ?_
          refine dq_S (.goto 28) 3 [] 71 _ [.int i2] (by decide +kernel) rfl ?_
          exact c286_71 hD hz ih _ _ _ _ _ _ _ _ _ _ _ G0 G1 G2 G3 G4 G5 G6 hh
      · refine dq_2 .ge 7 false 31 q8 (by decide +kernel) ?_
        refine dq_iln 1 32 (by decide +kernel) rfl G1 ?_
        refine dq_S (.goto 39) 3 [] 71 _ [.int i1] (by decide +kernel) rfl ?_
        exact c286_71 hD hz ih _ _ _ _ _ _ _ _ _ _ _ G0 G1 G2 G3 G4 G5 G6 hh
def b286_0 (L : Nat) (xs : Nat → Int32) (zf : Value) (D : dD) (w : Nat) (o0 : Option Nat) (i1 : Int32) (i2 : Int32) (i3 : Int32) (i4 : Int32) (i5 : Int32) (h : rm_H) : Option dR :=
  (dgI L xs h 2 [15] o0).bind fun x1 =>
  if mx_f2 .le (x1 + 20) 2000 = true then
    b286_18 L xs zf D w w o0 i1 i2 i3 i4 i5 0 h
  else
    drI (some .int) (-1) h
theorem c286_0 {L : Nat} {xs : Nat → Int32} {zf : Value} {D : dD} {w k : Nat} (hD : dO L xs zf D k) (hz : zf.category = 1) : ∀ (o0 : Option Nat) (i1 : Int32) (i2 : Int32) (i3 : Int32) (i4 : Int32) (i5 : Int32) (lv : rm_L) (h : rm_H) (r : dR), rm_get lv 0 = some (va_rf o0) → rm_get lv 1 = some (.int i1) → rm_get lv 2 = some (.int i2) → rm_get lv 3 = some (.int i3) → rm_get lv 4 = some (.int i4) → rm_get lv 5 = some (.int i5) → b286_0 L xs zf D w  o0 i1 i2 i3 i4 i5 h = some r → dq L xs zf ah_M286 0 lv [] h (k + 1) r := by
  intro o0 i1 i2 i3 i4 i5 lv h r G0 G1 G2 G3 G4 G5 hh
  unfold b286_0 at hh
  refine dq_aln 0 1 (by decide +kernel) rfl G0 ?_
  obtain ⟨x1, q2, hh⟩ := db hh
  refine dq_gI 1 2 [15] 4 (by decide +kernel) rfl q2 ?_
  refine dq_S (.bipush 20) 2 [] 6 _ [.int 20, .int x1] (by decide +kernel) rfl ?_
  refine dq_S (.iadd) 1 [] 7 _ [.int (x1 + 20)] (by decide +kernel) rfl ?_
  refine dq_S (.sipush 2000) 3 [] 10 _ [.int 2000, .int (x1 + 20)] (by decide +kernel) rfl ?_
  rcases di hh with ⟨q3, hh⟩ | ⟨q3, hh⟩
  · refine dq_2 .le 5 true 15 q3 (by decide +kernel) ?_
    refine dq_S (.iconst 0) 1 [] 16 _ [.int 0] (by decide +kernel) rfl ?_
    refine dq_is 6 18 (by decide +kernel) (by decide +kernel) ?_
    have g4 := dg_ne (i := 6) (u := .int 0) (by decide) (Or.inl (by decide)) G0
    have g5 := dg_ne (i := 6) (u := .int 0) (by decide) (Or.inl (by decide)) G1
    have g6 := dg_ne (i := 6) (u := .int 0) (by decide) (Or.inl (by decide)) G2
    have g7 := dg_ne (i := 6) (u := .int 0) (by decide) (Or.inl (by decide)) G3
    have g8 := dg_ne (i := 6) (u := .int 0) (by decide) (Or.inl (by decide)) G4
    have g9 := dg_ne (i := 6) (u := .int 0) (by decide) (Or.inr rfl) G5
    have g10 := dg_eq (lv) 6 (.int 0)
    exact c286_18 hD hz _ _ _ _ _ _ _ _ _ _ _ g4 g5 g6 g7 g8 g9 g10 hh
  · refine dq_2 .le 5 false 13 q3 (by decide +kernel) ?_
    refine dq_S (.iconst (-1)) 1 [] 14 _ [.int (-1)] (by decide +kernel) rfl ?_
    exact dq_retI (some .int) (by decide +kernel) rfl hh
def f286 (L : Nat) (xs : Nat → Int32) (zf : Value) (D : dD) (w : Nat) (As : List Value) (h : rm_H) : Option dR := match As with
  | [v0, .int i1, .int i2, .int i3, .int i4, .int i5] => (rm_rf v0).bind fun o0 => b286_0 L xs zf D w o0 i1 i2 i3 i4 i5 h
  | _ => none
theorem d286 {L : Nat} {xs : Nat → Int32} {zf : Value} {D : dD} {w k : Nat} (hD : dO L xs zf D k) (hz : zf.category = 1) (As : List Value) (h : rm_H) (r : dR) (hh : f286 L xs zf D w As h = some r) : dq L xs zf ah_M286 0 (lv_args 0 As) [] h (k + 1) r := by
  unfold f286 at hh
  split at hh
  · obtain ⟨o0, e0, hb0⟩ := db hh
    have e0 := rm_rf_v _ _ e0
    subst e0
    refine c286_0 hD hz _ _ _ _ _ _ _ _ _ ?_ ?_ ?_ ?_ ?_ ?_ hb0
    all_goals (simp only [la_r, la_i, la_j]; rfl)
  · cases hh
def b287_12 (L : Nat) (xs : Nat → Int32) (zf : Value) (D : dD) (w : Nat) (h : rm_H) : Option dR :=
  drI (some .int) (-1) h
theorem c287_12 {L : Nat} {xs : Nat → Int32} {zf : Value} {D : dD} {w k : Nat} (hD : dO L xs zf D k) (hz : zf.category = 1) : ∀ (lv : rm_L) (h : rm_H) (r : dR), b287_12 L xs zf D w  h = some r → dq L xs zf ah_M287 12 lv [] h (k + 1) r := by
  intro lv h r hh
  unfold b287_12 at hh
  refine dq_S (.iconst (-1)) 1 [] 13 _ [.int (-1)] (by decide +kernel) rfl ?_
  exact dq_retI (some .int) (by decide +kernel) rfl hh
def b287_0 (L : Nat) (xs : Nat → Int32) (zf : Value) (D : dD) (w : Nat) (o0 : Option Nat) (i1 : Int32) (h : rm_H) : Option dR :=
  if mx_f1 .lt i1 = true then
    b287_12 L xs zf D w h
  else
    (dgI L xs h 2 [15] o0).bind fun x2 =>
    if mx_f2 .le i1 x2 = true then
      (dpF h 2 [15] o0 (.int i1)).bind fun h5 =>
      drI (some .int) i1 h5
    else
      b287_12 L xs zf D w h
theorem c287_0 {L : Nat} {xs : Nat → Int32} {zf : Value} {D : dD} {w k : Nat} (hD : dO L xs zf D k) (hz : zf.category = 1) : ∀ (o0 : Option Nat) (i1 : Int32) (lv : rm_L) (h : rm_H) (r : dR), rm_get lv 0 = some (va_rf o0) → rm_get lv 1 = some (.int i1) → b287_0 L xs zf D w  o0 i1 h = some r → dq L xs zf ah_M287 0 lv [] h (k + 1) r := by
  intro o0 i1 lv h r G0 G1 hh
  unfold b287_0 at hh
  refine dq_iln 1 1 (by decide +kernel) rfl G1 ?_
  rcases di hh with ⟨q1, hh⟩ | ⟨q1, hh⟩
  · refine dq_1 .lt 11 true 12 q1 (by decide +kernel) ?_
    exact c287_12 hD hz  _ _ _  hh
  · refine dq_1 .lt 11 false 4 q1 (by decide +kernel) ?_
    refine dq_iln 1 5 (by decide +kernel) rfl G1 ?_
    refine dq_aln 0 6 (by decide +kernel) rfl G0 ?_
    obtain ⟨x2, q3, hh⟩ := db hh
    refine dq_gI 1 2 [15] 9 (by decide +kernel) rfl q3 ?_
    rcases di hh with ⟨q4, hh⟩ | ⟨q4, hh⟩
    · refine dq_2 .le 5 true 14 q4 (by decide +kernel) ?_
      refine dq_aln 0 15 (by decide +kernel) rfl G0 ?_
      refine dq_iln 1 16 (by decide +kernel) rfl G1 ?_
      obtain ⟨h5, q6, hh⟩ := db hh
      refine dq_put 1 2 [15] 19 (by decide +kernel) rfl q6 ?_
      refine dq_iln 1 20 (by decide +kernel) rfl G1 ?_
      exact dq_retI (some .int) (by decide +kernel) rfl hh
    · refine dq_2 .le 5 false 12 q4 (by decide +kernel) ?_
      exact c287_12 hD hz  _ _ _  hh
def f287 (L : Nat) (xs : Nat → Int32) (zf : Value) (D : dD) (w : Nat) (As : List Value) (h : rm_H) : Option dR := match As with
  | [v0, .int i1] => (rm_rf v0).bind fun o0 => b287_0 L xs zf D w o0 i1 h
  | _ => none
theorem d287 {L : Nat} {xs : Nat → Int32} {zf : Value} {D : dD} {w k : Nat} (hD : dO L xs zf D k) (hz : zf.category = 1) (As : List Value) (h : rm_H) (r : dR) (hh : f287 L xs zf D w As h = some r) : dq L xs zf ah_M287 0 (lv_args 0 As) [] h (k + 1) r := by
  unfold f287 at hh
  split at hh
  · obtain ⟨o0, e0, hb0⟩ := db hh
    have e0 := rm_rf_v _ _ e0
    subst e0
    refine c287_0 hD hz _ _ _ _ _ ?_ ?_ hb0
    all_goals (simp only [la_r, la_i, la_j]; rfl)
  · cases hh
def b288_728 (L : Nat) (xs : Nat → Int32) (zf : Value) (D : dD) (w : Nat) (K682 : Option Nat → Option Nat → Int32 → Int32 → rm_H → Option dR) (o0 : Option Nat) (o1 : Option Nat) (i2 : Int32) (i3 : Int32) (h : rm_H) : Option dR :=
  K682 o0 o1 i2 (i3 + 1) h
theorem c288_728 {L : Nat} {xs : Nat → Int32} {zf : Value} {D : dD} {w k : Nat} {K682 : Option Nat → Option Nat → Int32 → Int32 → rm_H → Option dR} (hD : dO L xs zf D k) (hz : zf.category = 1) (hK682 : ∀ (o0 : Option Nat) (o1 : Option Nat) (i2 : Int32) (i3 : Int32) (lv : rm_L) (h : rm_H) (r : dR), rm_get lv 0 = some (va_rf o0) → rm_get lv 1 = some (va_rf o1) → rm_get lv 2 = some (.int i2) → rm_get lv 3 = some (.int i3) → K682 o0 o1 i2 i3 h = some r → dq L xs zf ah_M288 682 lv [] h (k + 1) r) : ∀ (o0 : Option Nat) (o1 : Option Nat) (i2 : Int32) (i3 : Int32) (lv : rm_L) (h : rm_H) (r : dR), rm_get lv 0 = some (va_rf o0) → rm_get lv 1 = some (va_rf o1) → rm_get lv 2 = some (.int i2) → rm_get lv 3 = some (.int i3) → b288_728 L xs zf D w K682  o0 o1 i2 i3 h = some r → dq L xs zf ah_M288 728 lv [] h (k + 1) r := by
  intro o0 o1 i2 i3 lv h r G0 G1 G2 G3 hh
  unfold b288_728 at hh
  refine dq_incy 3 1 1 731 (by decide +kernel) ⟨rfl, by decide +kernel, by decide +kernel⟩ G3 ?_
  have g1 := dg_ne (i := 3) (u := .int (i3 + 1)) (by decide) (Or.inl (by decide)) G0
  have g2 := dg_ne (i := 3) (u := .int (i3 + 1)) (by decide) (Or.inl (by decide)) G1
  have g3 := dg_ne (i := 3) (u := .int (i3 + 1)) (by decide) (Or.inr rfl) G2
  have g4 := dg_eq (lv) 3 (.int (i3 + 1))
  refine dq_S (.goto (-49)) 3 [] 682 _ [] (by decide +kernel) rfl ?_
  exact hK682 _ _ _ _ _ _ _ g1 g2 g3 g4 hh
def b288_682 (L : Nat) (xs : Nat → Int32) (zf : Value) (D : dD) (w : Nat) : Nat → Option Nat → Option Nat → Int32 → Int32 → rm_H → Option dR
  | 0, _, _, _, _, _ => none
  | n + 1, o0, o1, i2, i3, h =>
    ((dcV L xs D 60 [7, 16] o1 [] h).bind dxI).bind fun x1 =>
    if mx_f2 .ge i3 x1.1 = true then
      some (none, x1.2)
    else
      ((dcV L xs D 63 [7, 16] o1 [.int i3] x1.2).bind dxI).bind fun x6 =>
      if mx_f2 .ne x6.1 32 = true then
        (dgR L xs x6.2 4 [15] o0).bind fun p11 =>
        (dgR L xs x6.2 4 [15] o0).bind fun p13 =>
        (daJ L xs x6.2 p13 i2).bind fun y15 =>
        ((dcV L xs D 63 [7, 16] o1 [.int i3] x6.2).bind dxI).bind fun x17 =>
        (dsJ x17.2 p11 i2 ((y15 <<< ((8 : Int32).toInt64 &&& 63)) ||| (Int32.toInt64 x17.1))).bind fun h21 =>
        b288_728 L xs zf D w (b288_682 L xs zf D w n) o0 o1 i2 i3 h21
      else
        b288_728 L xs zf D w (b288_682 L xs zf D w n) o0 o1 (i2 + 1) i3 x6.2
theorem c288_682 {L : Nat} {xs : Nat → Int32} {zf : Value} {D : dD} {w k : Nat} (hD : dO L xs zf D k) (hz : zf.category = 1) : ∀ (n : Nat) (o0 : Option Nat) (o1 : Option Nat) (i2 : Int32) (i3 : Int32) (lv : rm_L) (h : rm_H) (r : dR), rm_get lv 0 = some (va_rf o0) → rm_get lv 1 = some (va_rf o1) → rm_get lv 2 = some (.int i2) → rm_get lv 3 = some (.int i3) → b288_682 L xs zf D w n  o0 o1 i2 i3 h = some r → dq L xs zf ah_M288 682 lv [] h (k + 1) r := by
  intro n
  induction n with
  | zero =>
    intro o0 o1 i2 i3 lv h r G0 G1 G2 G3 hh
    cases hh
  | succ n ih =>
    intro o0 o1 i2 i3 lv h r G0 G1 G2 G3 hh
    rw [b288_682] at hh
    refine dq_iln 3 683 (by decide +kernel) rfl G3 ?_
    refine dq_aln 1 684 (by decide +kernel) rfl G1 ?_
    obtain ⟨x1, q2, hh⟩ := db hh
    obtain ⟨a3, q4, q2⟩ := db q2
    rw [dq_xI q2] at q4
    refine dq_cvi hD 256 60 5 0 [7, 16] o1 [] [.int i3] 687 [.int x1.1, .int i3] (by decide +kernel) ap_60 ⟨⟨Nat.le_of_ble_eq_true rfl, by decide⟩, rfl, rfl⟩ (dq_ok8 [1] [1] (dc_r dc_n) (dc_i dc_n) (by decide +kernel)) (by decide +kernel) rfl q4 rfl ?_
    rcases di hh with ⟨q5, hh⟩ | ⟨q5, hh⟩
    · refine dq_2 .ge 47 true 734 q5 (by decide +kernel) ?_
      cases hh
      exact dq_ret0 (by decide +kernel) rfl
    · refine dq_2 .ge 47 false 690 q5 (by decide +kernel) ?_
      refine dq_aln 1 691 (by decide +kernel) rfl G1 ?_
      refine dq_iln 3 692 (by decide +kernel) rfl G3 ?_
      obtain ⟨x6, q7, hh⟩ := db hh
      obtain ⟨a8, q9, q7⟩ := db q7
      rw [dq_xI q7] at q9
      refine dq_cvi hD 262 63 5 1 [7, 16] o1 [.int i3] [] 695 [.int x6.1] (by decide +kernel) ap_63 ⟨⟨Nat.le_of_ble_eq_true rfl, by decide⟩, rfl, rfl⟩ (dq_ok8 [1, 1] [] (dc_r (dc_i dc_n)) dc_n (by decide +kernel)) (by decide +kernel) rfl q9 rfl ?_
      refine dq_S (.bipush 32) 2 [] 697 _ [.int 32, .int x6.1] (by decide +kernel) rfl ?_
      rcases di hh with ⟨q10, hh⟩ | ⟨q10, hh⟩
      · refine dq_2 .ne 9 true 706 q10 (by decide +kernel) ?_
        refine dq_aln 0 707 (by decide +kernel) rfl G0 ?_
        obtain ⟨p11, q12, hh⟩ := db hh
        refine dq_gR 20 4 [15] 710 (by decide +kernel) rfl q12 ?_
        refine dq_iln 2 711 (by decide +kernel) rfl G2 ?_
        refine dq_aln 0 712 (by decide +kernel) rfl G0 ?_
        obtain ⟨p13, q14, hh⟩ := db hh
        refine dq_gR 20 4 [15] 715 (by decide +kernel) rfl q14 ?_
        refine dq_iln 2 716 (by decide +kernel) rfl G2 ?_
        obtain ⟨y15, q16, hh⟩ := db hh
        refine dq_aJ 717 (by decide +kernel) rfl q16 ?_
        refine dq_S (.bipush 8) 2 [] 719 _ [.int 8, .long y15, .int i2, va_rf p11] (by decide +kernel) rfl ?_
        refine dq_S (.lshl) 1 [] 720 _ [.long (y15 <<< ((8 : Int32).toInt64 &&& 63)), .int i2, va_rf p11] (by decide +kernel) rfl ?_
        refine dq_aln 1 721 (by decide +kernel) rfl G1 ?_
        refine dq_iln 3 722 (by decide +kernel) rfl G3 ?_
        obtain ⟨x17, q18, hh⟩ := db hh
        obtain ⟨a19, q20, q18⟩ := db q18
        rw [dq_xI q18] at q20
        refine dq_cvi hD 262 63 5 1 [7, 16] o1 [.int i3] [.long (y15 <<< ((8 : Int32).toInt64 &&& 63)), .int i2, va_rf p11] 725 [.int x17.1, .long (y15 <<< ((8 : Int32).toInt64 &&& 63)), .int i2, va_rf p11] (by decide +kernel) ap_63 ⟨⟨Nat.le_of_ble_eq_true rfl, by decide⟩, rfl, rfl⟩ (dq_ok8 [1, 1] [2, 1, 1] (dc_r (dc_i dc_n)) (dc_j (dc_i (dc_r dc_n))) (by decide +kernel)) (by decide +kernel) rfl q20 rfl ?_
        refine dq_S (.i2l) 1 [] 726 _ [.long (Int32.toInt64 x17.1), .long (y15 <<< ((8 : Int32).toInt64 &&& 63)), .int i2, va_rf p11] (by decide +kernel) rfl ?_
        refine dq_S (.lor) 1 [] 727 _ [.long ((y15 <<< ((8 : Int32).toInt64 &&& 63)) ||| (Int32.toInt64 x17.1)), .int i2, va_rf p11] (by decide +kernel) rfl ?_
        obtain ⟨h21, q22, hh⟩ := db hh
        refine dq_sJ 728 (by decide +kernel) rfl q22 ?_
        exact c288_728 hD hz ih _ _ _ _ _ _ _ G0 G1 G2 G3 hh
      · refine dq_2 .ne 9 false 700 q10 (by decide +kernel) ?_
        refine dq_incy 2 1 1 703 (by decide +kernel) ⟨rfl, by decide +kernel, by decide +kernel⟩ G2 ?_
        have g23 := dg_ne (i := 2) (u := .int (i2 + 1)) (by decide) (Or.inl (by decide)) G0
        have g24 := dg_ne (i := 2) (u := .int (i2 + 1)) (by decide) (Or.inr (drc _)) G1
        have g25 := dg_ne (i := 2) (u := .int (i2 + 1)) (by decide) (Or.inl (by decide)) G3
        have g26 := dg_eq (lv) 2 (.int (i2 + 1))
        refine dq_S (.goto 25) 3 [] 728 _ [] (by decide +kernel) rfl ?_
        exact c288_728 hD hz ih _ _ _ _ _ _ _ g23 g24 g26 g25 hh
def b288_0 (L : Nat) (xs : Nat → Int32) (zf : Value) (D : dD) (w : Nat) (o0 : Option Nat) (h : rm_H) : Option dR :=
  if dnl o0 = true then none else
  (dnI 0 2000 h).bind fun h2 =>
  (dpF h2 0 [15] o0 (va_rf (some (21 + List.length h)))).bind fun h4 =>
  (dnI 0 2000 h4).bind fun h6 =>
  (dpF h6 1 [15] o0 (va_rf (some (21 + List.length h4)))).bind fun h8 =>
  (dnJ 2 24 h8).bind fun h10 =>
  (dpF h10 4 [15] o0 (va_rf (some (21 + List.length h8)))).bind fun h12 =>
  (dnI 0 2001 h12).bind fun h14 =>
  (dpF h14 6 [15] o0 (va_rf (some (21 + List.length h12)))).bind fun h16 =>
  (dnI 0 2001 h16).bind fun h18 =>
  (dpF h18 7 [15] o0 (va_rf (some (21 + List.length h16)))).bind fun h20 =>
  (dnI 0 2001 h20).bind fun h22 =>
  (dpF h22 8 [15] o0 (va_rf (some (21 + List.length h20)))).bind fun h24 =>
  (dnJ 2 2001 h24).bind fun h26 =>
  (dpF h26 9 [15] o0 (va_rf (some (21 + List.length h24)))).bind fun h28 =>
  (dnI 0 4400 h28).bind fun h30 =>
  (dpF h30 11 [15] o0 (va_rf (some (21 + List.length h28)))).bind fun h32 =>
  (dnI 0 4400 h32).bind fun h34 =>
  (dpF h34 12 [15] o0 (va_rf (some (21 + List.length h32)))).bind fun h36 =>
  (dnI 0 4400 h36).bind fun h38 =>
  (dpF h38 13 [15] o0 (va_rf (some (21 + List.length h36)))).bind fun h40 =>
  (dnI 0 4400 h40).bind fun h42 =>
  (dpF h42 14 [15] o0 (va_rf (some (21 + List.length h40)))).bind fun h44 =>
  (dnI 0 4400 h44).bind fun h46 =>
  (dpF h46 15 [15] o0 (va_rf (some (21 + List.length h44)))).bind fun h48 =>
  (dnI 0 4400 h48).bind fun h50 =>
  (dpF h50 16 [15] o0 (va_rf (some (21 + List.length h48)))).bind fun h52 =>
  (dnI 0 4400 h52).bind fun h54 =>
  (dpF h54 17 [15] o0 (va_rf (some (21 + List.length h52)))).bind fun h56 =>
  (dnI 0 4400 h56).bind fun h58 =>
  (dpF h58 18 [15] o0 (va_rf (some (21 + List.length h56)))).bind fun h60 =>
  (dnI 0 4400 h60).bind fun h62 =>
  (dpF h62 19 [15] o0 (va_rf (some (21 + List.length h60)))).bind fun h64 =>
  (dnI 0 4400 h64).bind fun h66 =>
  (dpF h66 20 [15] o0 (va_rf (some (21 + List.length h64)))).bind fun h68 =>
  (dnI 0 4400 h68).bind fun h70 =>
  (dpF h70 21 [15] o0 (va_rf (some (21 + List.length h68)))).bind fun h72 =>
  (dnI 0 4400 h72).bind fun h74 =>
  (dpF h74 22 [15] o0 (va_rf (some (21 + List.length h72)))).bind fun h76 =>
  (dnJ 2 4400 h76).bind fun h78 =>
  (dpF h78 23 [15] o0 (va_rf (some (21 + List.length h76)))).bind fun h80 =>
  (dnI 0 2000 h80).bind fun h82 =>
  (dpF h82 27 [15] o0 (va_rf (some (21 + List.length h80)))).bind fun h84 =>
  (dnI 0 2000 h84).bind fun h86 =>
  (dpF h86 28 [15] o0 (va_rf (some (21 + List.length h84)))).bind fun h88 =>
  (dnI 0 2000 h88).bind fun h90 =>
  (dpF h90 29 [15] o0 (va_rf (some (21 + List.length h88)))).bind fun h92 =>
  (dnI 0 2000 h92).bind fun h94 =>
  (dpF h94 30 [15] o0 (va_rf (some (21 + List.length h92)))).bind fun h96 =>
  (dnJ 2 2000 h96).bind fun h98 =>
  (dpF h98 31 [15] o0 (va_rf (some (21 + List.length h96)))).bind fun h100 =>
  (dnJ 2 8 h100).bind fun h102 =>
  (dpF h102 33 [15] o0 (va_rf (some (21 + List.length h100)))).bind fun h104 =>
  (dnI 0 8 h104).bind fun h106 =>
  (dpF h106 34 [15] o0 (va_rf (some (21 + List.length h104)))).bind fun h108 =>
  (dnI 0 9 h108).bind fun h110 =>
  (dpF h110 35 [15] o0 (va_rf (some (21 + List.length h108)))).bind fun h112 =>
  (dnI 0 9 h112).bind fun h114 =>
  (dpF h114 36 [15] o0 (va_rf (some (21 + List.length h112)))).bind fun h116 =>
  (dnI 3 8 h116).bind fun h118 =>
  (dpF h118 37 [15] o0 (va_rf (some (21 + List.length h116)))).bind fun h120 =>
  (dnJ 2 64 h120).bind fun h122 =>
  (dpF h122 39 [15] o0 (va_rf (some (21 + List.length h120)))).bind fun h124 =>
  (dnI 0 64 h124).bind fun h126 =>
  (dpF h126 40 [15] o0 (va_rf (some (21 + List.length h124)))).bind fun h128 =>
  (dnI 0 64 h128).bind fun h130 =>
  (dpF h130 41 [15] o0 (va_rf (some (21 + List.length h128)))).bind fun h132 =>
  (dnI 0 72 h132).bind fun h134 =>
  (dpF h134 43 [15] o0 (va_rf (some (21 + List.length h132)))).bind fun h136 =>
  (dnI 0 72 h136).bind fun h138 =>
  (dpF h138 44 [15] o0 (va_rf (some (21 + List.length h136)))).bind fun h140 =>
  (dnI 0 72 h140).bind fun h142 =>
  (dpF h142 45 [15] o0 (va_rf (some (21 + List.length h140)))).bind fun h144 =>
  (dnI 0 72 h144).bind fun h146 =>
  (dpF h146 46 [15] o0 (va_rf (some (21 + List.length h144)))).bind fun h148 =>
  (dnI 0 72 h148).bind fun h150 =>
  (dpF h150 47 [15] o0 (va_rf (some (21 + List.length h148)))).bind fun h152 =>
  (dnI 0 72 h152).bind fun h154 =>
  (dpF h154 48 [15] o0 (va_rf (some (21 + List.length h152)))).bind fun h156 =>
  (dnI 0 72 h156).bind fun h158 =>
  (dpF h158 49 [15] o0 (va_rf (some (21 + List.length h156)))).bind fun h160 =>
  (dnI 0 73 h160).bind fun h162 =>
  (dpF h162 50 [15] o0 (va_rf (some (21 + List.length h160)))).bind fun h164 =>
  (dnJ 2 72 h164).bind fun h166 =>
  (dpF h166 51 [15] o0 (va_rf (some (21 + List.length h164)))).bind fun h168 =>
  (dnJ 2 440 h168).bind fun h170 =>
  (dpF h170 53 [15] o0 (va_rf (some (21 + List.length h168)))).bind fun h172 =>
  (dnI 0 440 h172).bind fun h174 =>
  (dpF h174 54 [15] o0 (va_rf (some (21 + List.length h172)))).bind fun h176 =>
  (dnI 0 440 h176).bind fun h178 =>
  (dpF h178 55 [15] o0 (va_rf (some (21 + List.length h176)))).bind fun h180 =>
  (dpF h180 58 [15] o0 (.int (-1))).bind fun h182 =>
  (dnJ 2 16 h182).bind fun h184 =>
  (dpF h184 67 [15] o0 (va_rf (some (21 + List.length h182)))).bind fun h186 =>
  (dnI 0 16 h186).bind fun h188 =>
  (dpF h188 68 [15] o0 (va_rf (some (21 + List.length h186)))).bind fun h190 =>
  (dnI 0 16 h190).bind fun h192 =>
  (dpF h192 69 [15] o0 (va_rf (some (21 + List.length h190)))).bind fun h194 =>
  (dnI 0 16 h194).bind fun h196 =>
  (dpF h196 70 [15] o0 (va_rf (some (21 + List.length h194)))).bind fun h198 =>
  (dnI 0 4400 h198).bind fun h200 =>
  (dpF h200 71 [15] o0 (va_rf (some (21 + List.length h198)))).bind fun h202 =>
  (dnI 0 401 h202).bind fun h204 =>
  (dpF h204 85 [15] o0 (va_rf (some (21 + List.length h202)))).bind fun h206 =>
  (dnI 0 401 h206).bind fun h208 =>
  (dpF h208 86 [15] o0 (va_rf (some (21 + List.length h206)))).bind fun h210 =>
  (dnI 0 12 h210).bind fun h212 =>
  (dpF h212 88 [15] o0 (va_rf (some (21 + List.length h210)))).bind fun h214 =>
  (dnI 0 12 h214).bind fun h216 =>
  (dpF h216 89 [15] o0 (va_rf (some (21 + List.length h214)))).bind fun h218 =>
  (dnI 0 12 h218).bind fun h220 =>
  (dpF h220 90 [15] o0 (va_rf (some (21 + List.length h218)))).bind fun h222 =>
  (dnI 0 12 h222).bind fun h224 =>
  (dpF h224 91 [15] o0 (va_rf (some (21 + List.length h222)))).bind fun h226 =>
  (dnI 0 12 h226).bind fun h228 =>
  (dpF h228 92 [15] o0 (va_rf (some (21 + List.length h226)))).bind fun h230 =>
  (dnI 0 12 h230).bind fun h232 =>
  (dpF h232 93 [15] o0 (va_rf (some (21 + List.length h230)))).bind fun h234 =>
  (dnJ 2 96 h234).bind fun h236 =>
  (dpF h236 94 [15] o0 (va_rf (some (21 + List.length h234)))).bind fun h238 =>
  (dnJ 2 4800 h238).bind fun h240 =>
  (dpF h240 95 [15] o0 (va_rf (some (21 + List.length h238)))).bind fun h242 =>
  (dnJ 2 121200 h242).bind fun h244 =>
  (dpF h244 96 [15] o0 (va_rf (some (21 + List.length h242)))).bind fun h246 =>
  (dnI 0 120 h246).bind fun h248 =>
  (dpF h248 97 [15] o0 (va_rf (some (21 + List.length h246)))).bind fun h250 =>
  (dnI 0 120 h250).bind fun h252 =>
  (dpF h252 98 [15] o0 (va_rf (some (21 + List.length h250)))).bind fun h254 =>
  (dnJ 2 120 h254).bind fun h256 =>
  (dpF h256 99 [15] o0 (va_rf (some (21 + List.length h254)))).bind fun h258 =>
  (dnJ 2 1920 h258).bind fun h260 =>
  (dpF h260 100 [15] o0 (va_rf (some (21 + List.length h258)))).bind fun h262 =>
  (dnI 0 72 h262).bind fun h264 =>
  (dpF h264 101 [15] o0 (va_rf (some (21 + List.length h262)))).bind fun h266 =>
  (dnI 0 72 h266).bind fun h268 =>
  (dpF h268 102 [15] o0 (va_rf (some (21 + List.length h266)))).bind fun h270 =>
  (dnI 3 72 h270).bind fun h272 =>
  (dpF h272 103 [15] o0 (va_rf (some (21 + List.length h270)))).bind fun h274 =>
  (dnI 3 28872 h274).bind fun h276 =>
  (dpF h276 104 [15] o0 (va_rf (some (21 + List.length h274)))).bind fun h278 =>
  (dnJ 2 432 h278).bind fun h280 =>
  (dpF h280 105 [15] o0 (va_rf (some (21 + List.length h278)))).bind fun h282 =>
  (dnJ 2 28800 h282).bind fun h284 =>
  (dpF h284 106 [15] o0 (va_rf (some (21 + List.length h282)))).bind fun h286 =>
  (dnI 0 200 h286).bind fun h288 =>
  (dpF h288 107 [15] o0 (va_rf (some (21 + List.length h286)))).bind fun h290 =>
  (dnI 0 200 h290).bind fun h292 =>
  (dpF h292 108 [15] o0 (va_rf (some (21 + List.length h290)))).bind fun h294 =>
  (dnI 0 401 h294).bind fun h296 =>
  (dpF h296 109 [15] o0 (va_rf (some (21 + List.length h294)))).bind fun h298 =>
  (dnI 0 3000 h298).bind fun h300 =>
  (dpF h300 110 [15] o0 (va_rf (some (21 + List.length h298)))).bind fun h302 =>
  (dnI 3 401 h302).bind fun h304 =>
  (dpF h304 112 [15] o0 (va_rf (some (21 + List.length h302)))).bind fun h306 =>
  (dnI 0 401 h306).bind fun h308 =>
  (dpF h308 113 [15] o0 (va_rf (some (21 + List.length h306)))).bind fun h310 =>
  (dnI 0 401 h310).bind fun h312 =>
  (dpF h312 114 [15] o0 (va_rf (some (21 + List.length h310)))).bind fun h314 =>
  b288_682 L xs zf D w w o0 (some 13) 0 0 h314
theorem c288_0 {L : Nat} {xs : Nat → Int32} {zf : Value} {D : dD} {w k : Nat} (hD : dO L xs zf D k) (hz : zf.category = 1) : ∀ (o0 : Option Nat) (lv : rm_L) (h : rm_H) (r : dR), rm_get lv 0 = some (va_rf o0) → b288_0 L xs zf D w  o0 h = some r → dq L xs zf ah_M288 0 lv [] h (k + 1) r := by
  intro o0 lv h r G0 hh
  unfold b288_0 at hh
  refine dq_aln 0 1 (by decide +kernel) rfl G0 ?_
  rcases di hh with ⟨_, hh⟩ | ⟨q1, hh⟩
  · cases hh
  refine dq_obj 11 4 (by decide +kernel) (dc_s dc_n (by decide +kernel)) rfl q1 ?_
  refine dq_aln 0 5 (by decide +kernel) rfl G0 ?_
  refine dq_S (.sipush 2000) 3 [] 8 _ [.int 2000, va_rf o0] (by decide +kernel) rfl ?_
  obtain ⟨h2, q3, hh⟩ := db hh
  refine dq_nI .int 0 10 ⟨Or.inl rfl, rfl⟩ (by decide +kernel) rfl q3 ?_
  obtain ⟨h4, q5, hh⟩ := db hh
  refine dq_put 7 0 [15] 13 (by decide +kernel) rfl q5 ?_
  refine dq_aln 0 14 (by decide +kernel) rfl G0 ?_
  refine dq_S (.sipush 2000) 3 [] 17 _ [.int 2000, va_rf o0] (by decide +kernel) rfl ?_
  obtain ⟨h6, q7, hh⟩ := db hh
  refine dq_nI .int 0 19 ⟨Or.inl rfl, rfl⟩ (by decide +kernel) rfl q7 ?_
  obtain ⟨h8, q9, hh⟩ := db hh
  refine dq_put 17 1 [15] 22 (by decide +kernel) rfl q9 ?_
  refine dq_aln 0 23 (by decide +kernel) rfl G0 ?_
  refine dq_S (.bipush 24) 2 [] 25 _ [.int 24, va_rf o0] (by decide +kernel) rfl ?_
  obtain ⟨h10, q11, hh⟩ := db hh
  refine dq_nJ 2 27 rfl (by decide +kernel) rfl q11 ?_
  obtain ⟨h12, q13, hh⟩ := db hh
  refine dq_put 20 4 [15] 30 (by decide +kernel) rfl q13 ?_
  refine dq_aln 0 31 (by decide +kernel) rfl G0 ?_
  refine dq_S (.sipush 2001) 3 [] 34 _ [.int 2001, va_rf o0] (by decide +kernel) rfl ?_
  obtain ⟨h14, q15, hh⟩ := db hh
  refine dq_nI .int 0 36 ⟨Or.inl rfl, rfl⟩ (by decide +kernel) rfl q15 ?_
  obtain ⟨h16, q17, hh⟩ := db hh
  refine dq_put 24 6 [15] 39 (by decide +kernel) rfl q17 ?_
  refine dq_aln 0 40 (by decide +kernel) rfl G0 ?_
  refine dq_S (.sipush 2001) 3 [] 43 _ [.int 2001, va_rf o0] (by decide +kernel) rfl ?_
  obtain ⟨h18, q19, hh⟩ := db hh
  refine dq_nI .int 0 45 ⟨Or.inl rfl, rfl⟩ (by decide +kernel) rfl q19 ?_
  obtain ⟨h20, q21, hh⟩ := db hh
  refine dq_put 27 7 [15] 48 (by decide +kernel) rfl q21 ?_
  refine dq_aln 0 49 (by decide +kernel) rfl G0 ?_
  refine dq_S (.sipush 2001) 3 [] 52 _ [.int 2001, va_rf o0] (by decide +kernel) rfl ?_
  obtain ⟨h22, q23, hh⟩ := db hh
  refine dq_nI .int 0 54 ⟨Or.inl rfl, rfl⟩ (by decide +kernel) rfl q23 ?_
  obtain ⟨h24, q25, hh⟩ := db hh
  refine dq_put 30 8 [15] 57 (by decide +kernel) rfl q25 ?_
  refine dq_aln 0 58 (by decide +kernel) rfl G0 ?_
  refine dq_S (.sipush 2001) 3 [] 61 _ [.int 2001, va_rf o0] (by decide +kernel) rfl ?_
  obtain ⟨h26, q27, hh⟩ := db hh
  refine dq_nJ 2 63 rfl (by decide +kernel) rfl q27 ?_
  obtain ⟨h28, q29, hh⟩ := db hh
  refine dq_put 33 9 [15] 66 (by decide +kernel) rfl q29 ?_
  refine dq_aln 0 67 (by decide +kernel) rfl G0 ?_
  refine dq_S (.sipush 4400) 3 [] 70 _ [.int 4400, va_rf o0] (by decide +kernel) rfl ?_
  obtain ⟨h30, q31, hh⟩ := db hh
  refine dq_nI .int 0 72 ⟨Or.inl rfl, rfl⟩ (by decide +kernel) rfl q31 ?_
  obtain ⟨h32, q33, hh⟩ := db hh
  refine dq_put 36 11 [15] 75 (by decide +kernel) rfl q33 ?_
  refine dq_aln 0 76 (by decide +kernel) rfl G0 ?_
  refine dq_S (.sipush 4400) 3 [] 79 _ [.int 4400, va_rf o0] (by decide +kernel) rfl ?_
  obtain ⟨h34, q35, hh⟩ := db hh
  refine dq_nI .int 0 81 ⟨Or.inl rfl, rfl⟩ (by decide +kernel) rfl q35 ?_
  obtain ⟨h36, q37, hh⟩ := db hh
  refine dq_put 39 12 [15] 84 (by decide +kernel) rfl q37 ?_
  refine dq_aln 0 85 (by decide +kernel) rfl G0 ?_
  refine dq_S (.sipush 4400) 3 [] 88 _ [.int 4400, va_rf o0] (by decide +kernel) rfl ?_
  obtain ⟨h38, q39, hh⟩ := db hh
  refine dq_nI .int 0 90 ⟨Or.inl rfl, rfl⟩ (by decide +kernel) rfl q39 ?_
  obtain ⟨h40, q41, hh⟩ := db hh
  refine dq_put 42 13 [15] 93 (by decide +kernel) rfl q41 ?_
  refine dq_aln 0 94 (by decide +kernel) rfl G0 ?_
  refine dq_S (.sipush 4400) 3 [] 97 _ [.int 4400, va_rf o0] (by decide +kernel) rfl ?_
  obtain ⟨h42, q43, hh⟩ := db hh
  refine dq_nI .int 0 99 ⟨Or.inl rfl, rfl⟩ (by decide +kernel) rfl q43 ?_
  obtain ⟨h44, q45, hh⟩ := db hh
  refine dq_put 45 14 [15] 102 (by decide +kernel) rfl q45 ?_
  refine dq_aln 0 103 (by decide +kernel) rfl G0 ?_
  refine dq_S (.sipush 4400) 3 [] 106 _ [.int 4400, va_rf o0] (by decide +kernel) rfl ?_
  obtain ⟨h46, q47, hh⟩ := db hh
  refine dq_nI .int 0 108 ⟨Or.inl rfl, rfl⟩ (by decide +kernel) rfl q47 ?_
  obtain ⟨h48, q49, hh⟩ := db hh
  refine dq_put 48 15 [15] 111 (by decide +kernel) rfl q49 ?_
  refine dq_aln 0 112 (by decide +kernel) rfl G0 ?_
  refine dq_S (.sipush 4400) 3 [] 115 _ [.int 4400, va_rf o0] (by decide +kernel) rfl ?_
  obtain ⟨h50, q51, hh⟩ := db hh
  refine dq_nI .int 0 117 ⟨Or.inl rfl, rfl⟩ (by decide +kernel) rfl q51 ?_
  obtain ⟨h52, q53, hh⟩ := db hh
  refine dq_put 51 16 [15] 120 (by decide +kernel) rfl q53 ?_
  refine dq_aln 0 121 (by decide +kernel) rfl G0 ?_
  refine dq_S (.sipush 4400) 3 [] 124 _ [.int 4400, va_rf o0] (by decide +kernel) rfl ?_
  obtain ⟨h54, q55, hh⟩ := db hh
  refine dq_nI .int 0 126 ⟨Or.inl rfl, rfl⟩ (by decide +kernel) rfl q55 ?_
  obtain ⟨h56, q57, hh⟩ := db hh
  refine dq_put 54 17 [15] 129 (by decide +kernel) rfl q57 ?_
  refine dq_aln 0 130 (by decide +kernel) rfl G0 ?_
  refine dq_S (.sipush 4400) 3 [] 133 _ [.int 4400, va_rf o0] (by decide +kernel) rfl ?_
  obtain ⟨h58, q59, hh⟩ := db hh
  refine dq_nI .int 0 135 ⟨Or.inl rfl, rfl⟩ (by decide +kernel) rfl q59 ?_
  obtain ⟨h60, q61, hh⟩ := db hh
  refine dq_put 57 18 [15] 138 (by decide +kernel) rfl q61 ?_
  refine dq_aln 0 139 (by decide +kernel) rfl G0 ?_
  refine dq_S (.sipush 4400) 3 [] 142 _ [.int 4400, va_rf o0] (by decide +kernel) rfl ?_
  obtain ⟨h62, q63, hh⟩ := db hh
  refine dq_nI .int 0 144 ⟨Or.inl rfl, rfl⟩ (by decide +kernel) rfl q63 ?_
  obtain ⟨h64, q65, hh⟩ := db hh
  refine dq_put 60 19 [15] 147 (by decide +kernel) rfl q65 ?_
  refine dq_aln 0 148 (by decide +kernel) rfl G0 ?_
  refine dq_S (.sipush 4400) 3 [] 151 _ [.int 4400, va_rf o0] (by decide +kernel) rfl ?_
  obtain ⟨h66, q67, hh⟩ := db hh
  refine dq_nI .int 0 153 ⟨Or.inl rfl, rfl⟩ (by decide +kernel) rfl q67 ?_
  obtain ⟨h68, q69, hh⟩ := db hh
  refine dq_put 63 20 [15] 156 (by decide +kernel) rfl q69 ?_
  refine dq_aln 0 157 (by decide +kernel) rfl G0 ?_
  refine dq_S (.sipush 4400) 3 [] 160 _ [.int 4400, va_rf o0] (by decide +kernel) rfl ?_
  obtain ⟨h70, q71, hh⟩ := db hh
  refine dq_nI .int 0 162 ⟨Or.inl rfl, rfl⟩ (by decide +kernel) rfl q71 ?_
  obtain ⟨h72, q73, hh⟩ := db hh
  refine dq_put 66 21 [15] 165 (by decide +kernel) rfl q73 ?_
  refine dq_aln 0 166 (by decide +kernel) rfl G0 ?_
  refine dq_S (.sipush 4400) 3 [] 169 _ [.int 4400, va_rf o0] (by decide +kernel) rfl ?_
  obtain ⟨h74, q75, hh⟩ := db hh
  refine dq_nI .int 0 171 ⟨Or.inl rfl, rfl⟩ (by decide +kernel) rfl q75 ?_
  obtain ⟨h76, q77, hh⟩ := db hh
  refine dq_put 69 22 [15] 174 (by decide +kernel) rfl q77 ?_
  refine dq_aln 0 175 (by decide +kernel) rfl G0 ?_
  refine dq_S (.sipush 4400) 3 [] 178 _ [.int 4400, va_rf o0] (by decide +kernel) rfl ?_
  obtain ⟨h78, q79, hh⟩ := db hh
  refine dq_nJ 2 180 rfl (by decide +kernel) rfl q79 ?_
  obtain ⟨h80, q81, hh⟩ := db hh
  refine dq_put 72 23 [15] 183 (by decide +kernel) rfl q81 ?_
  refine dq_aln 0 184 (by decide +kernel) rfl G0 ?_
  refine dq_S (.sipush 2000) 3 [] 187 _ [.int 2000, va_rf o0] (by decide +kernel) rfl ?_
  obtain ⟨h82, q83, hh⟩ := db hh
  refine dq_nI .int 0 189 ⟨Or.inl rfl, rfl⟩ (by decide +kernel) rfl q83 ?_
  obtain ⟨h84, q85, hh⟩ := db hh
  refine dq_put 75 27 [15] 192 (by decide +kernel) rfl q85 ?_
  refine dq_aln 0 193 (by decide +kernel) rfl G0 ?_
  refine dq_S (.sipush 2000) 3 [] 196 _ [.int 2000, va_rf o0] (by decide +kernel) rfl ?_
  obtain ⟨h86, q87, hh⟩ := db hh
  refine dq_nI .int 0 198 ⟨Or.inl rfl, rfl⟩ (by decide +kernel) rfl q87 ?_
  obtain ⟨h88, q89, hh⟩ := db hh
  refine dq_put 78 28 [15] 201 (by decide +kernel) rfl q89 ?_
  refine dq_aln 0 202 (by decide +kernel) rfl G0 ?_
  refine dq_S (.sipush 2000) 3 [] 205 _ [.int 2000, va_rf o0] (by decide +kernel) rfl ?_
  obtain ⟨h90, q91, hh⟩ := db hh
  refine dq_nI .int 0 207 ⟨Or.inl rfl, rfl⟩ (by decide +kernel) rfl q91 ?_
  obtain ⟨h92, q93, hh⟩ := db hh
  refine dq_put 81 29 [15] 210 (by decide +kernel) rfl q93 ?_
  refine dq_aln 0 211 (by decide +kernel) rfl G0 ?_
  refine dq_S (.sipush 2000) 3 [] 214 _ [.int 2000, va_rf o0] (by decide +kernel) rfl ?_
  obtain ⟨h94, q95, hh⟩ := db hh
  refine dq_nI .int 0 216 ⟨Or.inl rfl, rfl⟩ (by decide +kernel) rfl q95 ?_
  obtain ⟨h96, q97, hh⟩ := db hh
  refine dq_put 84 30 [15] 219 (by decide +kernel) rfl q97 ?_
  refine dq_aln 0 220 (by decide +kernel) rfl G0 ?_
  refine dq_S (.sipush 2000) 3 [] 223 _ [.int 2000, va_rf o0] (by decide +kernel) rfl ?_
  obtain ⟨h98, q99, hh⟩ := db hh
  refine dq_nJ 2 225 rfl (by decide +kernel) rfl q99 ?_
  obtain ⟨h100, q101, hh⟩ := db hh
  refine dq_put 87 31 [15] 228 (by decide +kernel) rfl q101 ?_
  refine dq_aln 0 229 (by decide +kernel) rfl G0 ?_
  refine dq_S (.bipush 8) 2 [] 231 _ [.int 8, va_rf o0] (by decide +kernel) rfl ?_
  obtain ⟨h102, q103, hh⟩ := db hh
  refine dq_nJ 2 233 rfl (by decide +kernel) rfl q103 ?_
  obtain ⟨h104, q105, hh⟩ := db hh
  refine dq_put 90 33 [15] 236 (by decide +kernel) rfl q105 ?_
  refine dq_aln 0 237 (by decide +kernel) rfl G0 ?_
  refine dq_S (.bipush 8) 2 [] 239 _ [.int 8, va_rf o0] (by decide +kernel) rfl ?_
  obtain ⟨h106, q107, hh⟩ := db hh
  refine dq_nI .int 0 241 ⟨Or.inl rfl, rfl⟩ (by decide +kernel) rfl q107 ?_
  obtain ⟨h108, q109, hh⟩ := db hh
  refine dq_put 93 34 [15] 244 (by decide +kernel) rfl q109 ?_
  refine dq_aln 0 245 (by decide +kernel) rfl G0 ?_
  refine dq_S (.bipush 9) 2 [] 247 _ [.int 9, va_rf o0] (by decide +kernel) rfl ?_
  obtain ⟨h110, q111, hh⟩ := db hh
  refine dq_nI .int 0 249 ⟨Or.inl rfl, rfl⟩ (by decide +kernel) rfl q111 ?_
  obtain ⟨h112, q113, hh⟩ := db hh
  refine dq_put 96 35 [15] 252 (by decide +kernel) rfl q113 ?_
  refine dq_aln 0 253 (by decide +kernel) rfl G0 ?_
  refine dq_S (.bipush 9) 2 [] 255 _ [.int 9, va_rf o0] (by decide +kernel) rfl ?_
  obtain ⟨h114, q115, hh⟩ := db hh
  refine dq_nI .int 0 257 ⟨Or.inl rfl, rfl⟩ (by decide +kernel) rfl q115 ?_
  obtain ⟨h116, q117, hh⟩ := db hh
  refine dq_put 99 36 [15] 260 (by decide +kernel) rfl q117 ?_
  refine dq_aln 0 261 (by decide +kernel) rfl G0 ?_
  refine dq_S (.bipush 8) 2 [] 263 _ [.int 8, va_rf o0] (by decide +kernel) rfl ?_
  obtain ⟨h118, q119, hh⟩ := db hh
  refine dq_nI .boolean 3 265 ⟨Or.inr (Or.inr rfl), rfl⟩ (by decide +kernel) rfl q119 ?_
  obtain ⟨h120, q121, hh⟩ := db hh
  refine dq_put 102 37 [15] 268 (by decide +kernel) rfl q121 ?_
  refine dq_aln 0 269 (by decide +kernel) rfl G0 ?_
  refine dq_S (.bipush 64) 2 [] 271 _ [.int 64, va_rf o0] (by decide +kernel) rfl ?_
  obtain ⟨h122, q123, hh⟩ := db hh
  refine dq_nJ 2 273 rfl (by decide +kernel) rfl q123 ?_
  obtain ⟨h124, q125, hh⟩ := db hh
  refine dq_put 106 39 [15] 276 (by decide +kernel) rfl q125 ?_
  refine dq_aln 0 277 (by decide +kernel) rfl G0 ?_
  refine dq_S (.bipush 64) 2 [] 279 _ [.int 64, va_rf o0] (by decide +kernel) rfl ?_
  obtain ⟨h126, q127, hh⟩ := db hh
  refine dq_nI .int 0 281 ⟨Or.inl rfl, rfl⟩ (by decide +kernel) rfl q127 ?_
  obtain ⟨h128, q129, hh⟩ := db hh
  refine dq_put 109 40 [15] 284 (by decide +kernel) rfl q129 ?_
  refine dq_aln 0 285 (by decide +kernel) rfl G0 ?_
  refine dq_S (.bipush 64) 2 [] 287 _ [.int 64, va_rf o0] (by decide +kernel) rfl ?_
  obtain ⟨h130, q131, hh⟩ := db hh
  refine dq_nI .int 0 289 ⟨Or.inl rfl, rfl⟩ (by decide +kernel) rfl q131 ?_
  obtain ⟨h132, q133, hh⟩ := db hh
  refine dq_put 112 41 [15] 292 (by decide +kernel) rfl q133 ?_
  refine dq_aln 0 293 (by decide +kernel) rfl G0 ?_
  refine dq_S (.bipush 72) 2 [] 295 _ [.int 72, va_rf o0] (by decide +kernel) rfl ?_
  obtain ⟨h134, q135, hh⟩ := db hh
  refine dq_nI .int 0 297 ⟨Or.inl rfl, rfl⟩ (by decide +kernel) rfl q135 ?_
  obtain ⟨h136, q137, hh⟩ := db hh
  refine dq_put 115 43 [15] 300 (by decide +kernel) rfl q137 ?_
  refine dq_aln 0 301 (by decide +kernel) rfl G0 ?_
  refine dq_S (.bipush 72) 2 [] 303 _ [.int 72, va_rf o0] (by decide +kernel) rfl ?_
  obtain ⟨h138, q139, hh⟩ := db hh
  refine dq_nI .int 0 305 ⟨Or.inl rfl, rfl⟩ (by decide +kernel) rfl q139 ?_
  obtain ⟨h140, q141, hh⟩ := db hh
  refine dq_put 118 44 [15] 308 (by decide +kernel) rfl q141 ?_
  refine dq_aln 0 309 (by decide +kernel) rfl G0 ?_
  refine dq_S (.bipush 72) 2 [] 311 _ [.int 72, va_rf o0] (by decide +kernel) rfl ?_
  obtain ⟨h142, q143, hh⟩ := db hh
  refine dq_nI .int 0 313 ⟨Or.inl rfl, rfl⟩ (by decide +kernel) rfl q143 ?_
  obtain ⟨h144, q145, hh⟩ := db hh
  refine dq_put 121 45 [15] 316 (by decide +kernel) rfl q145 ?_
  refine dq_aln 0 317 (by decide +kernel) rfl G0 ?_
  refine dq_S (.bipush 72) 2 [] 319 _ [.int 72, va_rf o0] (by decide +kernel) rfl ?_
  obtain ⟨h146, q147, hh⟩ := db hh
  refine dq_nI .int 0 321 ⟨Or.inl rfl, rfl⟩ (by decide +kernel) rfl q147 ?_
  obtain ⟨h148, q149, hh⟩ := db hh
  refine dq_put 124 46 [15] 324 (by decide +kernel) rfl q149 ?_
  refine dq_aln 0 325 (by decide +kernel) rfl G0 ?_
  refine dq_S (.bipush 72) 2 [] 327 _ [.int 72, va_rf o0] (by decide +kernel) rfl ?_
  obtain ⟨h150, q151, hh⟩ := db hh
  refine dq_nI .int 0 329 ⟨Or.inl rfl, rfl⟩ (by decide +kernel) rfl q151 ?_
  obtain ⟨h152, q153, hh⟩ := db hh
  refine dq_put 127 47 [15] 332 (by decide +kernel) rfl q153 ?_
  refine dq_aln 0 333 (by decide +kernel) rfl G0 ?_
  refine dq_S (.bipush 72) 2 [] 335 _ [.int 72, va_rf o0] (by decide +kernel) rfl ?_
  obtain ⟨h154, q155, hh⟩ := db hh
  refine dq_nI .int 0 337 ⟨Or.inl rfl, rfl⟩ (by decide +kernel) rfl q155 ?_
  obtain ⟨h156, q157, hh⟩ := db hh
  refine dq_put 130 48 [15] 340 (by decide +kernel) rfl q157 ?_
  refine dq_aln 0 341 (by decide +kernel) rfl G0 ?_
  refine dq_S (.bipush 72) 2 [] 343 _ [.int 72, va_rf o0] (by decide +kernel) rfl ?_
  obtain ⟨h158, q159, hh⟩ := db hh
  refine dq_nI .int 0 345 ⟨Or.inl rfl, rfl⟩ (by decide +kernel) rfl q159 ?_
  obtain ⟨h160, q161, hh⟩ := db hh
  refine dq_put 133 49 [15] 348 (by decide +kernel) rfl q161 ?_
  refine dq_aln 0 349 (by decide +kernel) rfl G0 ?_
  refine dq_S (.bipush 73) 2 [] 351 _ [.int 73, va_rf o0] (by decide +kernel) rfl ?_
  obtain ⟨h162, q163, hh⟩ := db hh
  refine dq_nI .int 0 353 ⟨Or.inl rfl, rfl⟩ (by decide +kernel) rfl q163 ?_
  obtain ⟨h164, q165, hh⟩ := db hh
  refine dq_put 136 50 [15] 356 (by decide +kernel) rfl q165 ?_
  refine dq_aln 0 357 (by decide +kernel) rfl G0 ?_
  refine dq_S (.bipush 72) 2 [] 359 _ [.int 72, va_rf o0] (by decide +kernel) rfl ?_
  obtain ⟨h166, q167, hh⟩ := db hh
  refine dq_nJ 2 361 rfl (by decide +kernel) rfl q167 ?_
  obtain ⟨h168, q169, hh⟩ := db hh
  refine dq_put 139 51 [15] 364 (by decide +kernel) rfl q169 ?_
  refine dq_aln 0 365 (by decide +kernel) rfl G0 ?_
  refine dq_S (.sipush 440) 3 [] 368 _ [.int 440, va_rf o0] (by decide +kernel) rfl ?_
  obtain ⟨h170, q171, hh⟩ := db hh
  refine dq_nJ 2 370 rfl (by decide +kernel) rfl q171 ?_
  obtain ⟨h172, q173, hh⟩ := db hh
  refine dq_put 142 53 [15] 373 (by decide +kernel) rfl q173 ?_
  refine dq_aln 0 374 (by decide +kernel) rfl G0 ?_
  refine dq_S (.sipush 440) 3 [] 377 _ [.int 440, va_rf o0] (by decide +kernel) rfl ?_
  obtain ⟨h174, q175, hh⟩ := db hh
  refine dq_nI .int 0 379 ⟨Or.inl rfl, rfl⟩ (by decide +kernel) rfl q175 ?_
  obtain ⟨h176, q177, hh⟩ := db hh
  refine dq_put 145 54 [15] 382 (by decide +kernel) rfl q177 ?_
  refine dq_aln 0 383 (by decide +kernel) rfl G0 ?_
  refine dq_S (.sipush 440) 3 [] 386 _ [.int 440, va_rf o0] (by decide +kernel) rfl ?_
  obtain ⟨h178, q179, hh⟩ := db hh
  refine dq_nI .int 0 388 ⟨Or.inl rfl, rfl⟩ (by decide +kernel) rfl q179 ?_
  obtain ⟨h180, q181, hh⟩ := db hh
  refine dq_put 148 55 [15] 391 (by decide +kernel) rfl q181 ?_
  refine dq_aln 0 392 (by decide +kernel) rfl G0 ?_
  refine dq_S (.iconst (-1)) 1 [] 393 _ [.int (-1), va_rf o0] (by decide +kernel) rfl ?_
  obtain ⟨h182, q183, hh⟩ := db hh
  refine dq_put 151 58 [15] 396 (by decide +kernel) rfl q183 ?_
  refine dq_aln 0 397 (by decide +kernel) rfl G0 ?_
  refine dq_S (.bipush 16) 2 [] 399 _ [.int 16, va_rf o0] (by decide +kernel) rfl ?_
  obtain ⟨h184, q185, hh⟩ := db hh
  refine dq_nJ 2 401 rfl (by decide +kernel) rfl q185 ?_
  obtain ⟨h186, q187, hh⟩ := db hh
  refine dq_put 154 67 [15] 404 (by decide +kernel) rfl q187 ?_
  refine dq_aln 0 405 (by decide +kernel) rfl G0 ?_
  refine dq_S (.bipush 16) 2 [] 407 _ [.int 16, va_rf o0] (by decide +kernel) rfl ?_
  obtain ⟨h188, q189, hh⟩ := db hh
  refine dq_nI .int 0 409 ⟨Or.inl rfl, rfl⟩ (by decide +kernel) rfl q189 ?_
  obtain ⟨h190, q191, hh⟩ := db hh
  refine dq_put 157 68 [15] 412 (by decide +kernel) rfl q191 ?_
  refine dq_aln 0 413 (by decide +kernel) rfl G0 ?_
  refine dq_S (.bipush 16) 2 [] 415 _ [.int 16, va_rf o0] (by decide +kernel) rfl ?_
  obtain ⟨h192, q193, hh⟩ := db hh
  refine dq_nI .int 0 417 ⟨Or.inl rfl, rfl⟩ (by decide +kernel) rfl q193 ?_
  obtain ⟨h194, q195, hh⟩ := db hh
  refine dq_put 160 69 [15] 420 (by decide +kernel) rfl q195 ?_
  refine dq_aln 0 421 (by decide +kernel) rfl G0 ?_
  refine dq_S (.bipush 16) 2 [] 423 _ [.int 16, va_rf o0] (by decide +kernel) rfl ?_
  obtain ⟨h196, q197, hh⟩ := db hh
  refine dq_nI .int 0 425 ⟨Or.inl rfl, rfl⟩ (by decide +kernel) rfl q197 ?_
  obtain ⟨h198, q199, hh⟩ := db hh
  refine dq_put 163 70 [15] 428 (by decide +kernel) rfl q199 ?_
  refine dq_aln 0 429 (by decide +kernel) rfl G0 ?_
  refine dq_S (.sipush 4400) 3 [] 432 _ [.int 4400, va_rf o0] (by decide +kernel) rfl ?_
  obtain ⟨h200, q201, hh⟩ := db hh
  refine dq_nI .int 0 434 ⟨Or.inl rfl, rfl⟩ (by decide +kernel) rfl q201 ?_
  obtain ⟨h202, q203, hh⟩ := db hh
  refine dq_put 166 71 [15] 437 (by decide +kernel) rfl q203 ?_
  refine dq_aln 0 438 (by decide +kernel) rfl G0 ?_
  refine dq_S (.sipush 401) 3 [] 441 _ [.int 401, va_rf o0] (by decide +kernel) rfl ?_
  obtain ⟨h204, q205, hh⟩ := db hh
  refine dq_nI .int 0 443 ⟨Or.inl rfl, rfl⟩ (by decide +kernel) rfl q205 ?_
  obtain ⟨h206, q207, hh⟩ := db hh
  refine dq_put 169 85 [15] 446 (by decide +kernel) rfl q207 ?_
  refine dq_aln 0 447 (by decide +kernel) rfl G0 ?_
  refine dq_S (.sipush 401) 3 [] 450 _ [.int 401, va_rf o0] (by decide +kernel) rfl ?_
  obtain ⟨h208, q209, hh⟩ := db hh
  refine dq_nI .int 0 452 ⟨Or.inl rfl, rfl⟩ (by decide +kernel) rfl q209 ?_
  obtain ⟨h210, q211, hh⟩ := db hh
  refine dq_put 172 86 [15] 455 (by decide +kernel) rfl q211 ?_
  refine dq_aln 0 456 (by decide +kernel) rfl G0 ?_
  refine dq_S (.bipush 12) 2 [] 458 _ [.int 12, va_rf o0] (by decide +kernel) rfl ?_
  obtain ⟨h212, q213, hh⟩ := db hh
  refine dq_nI .int 0 460 ⟨Or.inl rfl, rfl⟩ (by decide +kernel) rfl q213 ?_
  obtain ⟨h214, q215, hh⟩ := db hh
  refine dq_put 175 88 [15] 463 (by decide +kernel) rfl q215 ?_
  refine dq_aln 0 464 (by decide +kernel) rfl G0 ?_
  refine dq_S (.bipush 12) 2 [] 466 _ [.int 12, va_rf o0] (by decide +kernel) rfl ?_
  obtain ⟨h216, q217, hh⟩ := db hh
  refine dq_nI .int 0 468 ⟨Or.inl rfl, rfl⟩ (by decide +kernel) rfl q217 ?_
  obtain ⟨h218, q219, hh⟩ := db hh
  refine dq_put 178 89 [15] 471 (by decide +kernel) rfl q219 ?_
  refine dq_aln 0 472 (by decide +kernel) rfl G0 ?_
  refine dq_S (.bipush 12) 2 [] 474 _ [.int 12, va_rf o0] (by decide +kernel) rfl ?_
  obtain ⟨h220, q221, hh⟩ := db hh
  refine dq_nI .int 0 476 ⟨Or.inl rfl, rfl⟩ (by decide +kernel) rfl q221 ?_
  obtain ⟨h222, q223, hh⟩ := db hh
  refine dq_put 181 90 [15] 479 (by decide +kernel) rfl q223 ?_
  refine dq_aln 0 480 (by decide +kernel) rfl G0 ?_
  refine dq_S (.bipush 12) 2 [] 482 _ [.int 12, va_rf o0] (by decide +kernel) rfl ?_
  obtain ⟨h224, q225, hh⟩ := db hh
  refine dq_nI .int 0 484 ⟨Or.inl rfl, rfl⟩ (by decide +kernel) rfl q225 ?_
  obtain ⟨h226, q227, hh⟩ := db hh
  refine dq_put 184 91 [15] 487 (by decide +kernel) rfl q227 ?_
  refine dq_aln 0 488 (by decide +kernel) rfl G0 ?_
  refine dq_S (.bipush 12) 2 [] 490 _ [.int 12, va_rf o0] (by decide +kernel) rfl ?_
  obtain ⟨h228, q229, hh⟩ := db hh
  refine dq_nI .int 0 492 ⟨Or.inl rfl, rfl⟩ (by decide +kernel) rfl q229 ?_
  obtain ⟨h230, q231, hh⟩ := db hh
  refine dq_put 187 92 [15] 495 (by decide +kernel) rfl q231 ?_
  refine dq_aln 0 496 (by decide +kernel) rfl G0 ?_
  refine dq_S (.bipush 12) 2 [] 498 _ [.int 12, va_rf o0] (by decide +kernel) rfl ?_
  obtain ⟨h232, q233, hh⟩ := db hh
  refine dq_nI .int 0 500 ⟨Or.inl rfl, rfl⟩ (by decide +kernel) rfl q233 ?_
  obtain ⟨h234, q235, hh⟩ := db hh
  refine dq_put 190 93 [15] 503 (by decide +kernel) rfl q235 ?_
  refine dq_aln 0 504 (by decide +kernel) rfl G0 ?_
  refine dq_S (.bipush 96) 2 [] 506 _ [.int 96, va_rf o0] (by decide +kernel) rfl ?_
  obtain ⟨h236, q237, hh⟩ := db hh
  refine dq_nJ 2 508 rfl (by decide +kernel) rfl q237 ?_
  obtain ⟨h238, q239, hh⟩ := db hh
  refine dq_put 193 94 [15] 511 (by decide +kernel) rfl q239 ?_
  refine dq_aln 0 512 (by decide +kernel) rfl G0 ?_
  refine dq_S (.sipush 4800) 3 [] 515 _ [.int 4800, va_rf o0] (by decide +kernel) rfl ?_
  obtain ⟨h240, q241, hh⟩ := db hh
  refine dq_nJ 2 517 rfl (by decide +kernel) rfl q241 ?_
  obtain ⟨h242, q243, hh⟩ := db hh
  refine dq_put 196 95 [15] 520 (by decide +kernel) rfl q243 ?_
  refine dq_aln 0 521 (by decide +kernel) rfl G0 ?_
  refine dq_S (.ldc 199) 2 [0, 121200] 523 _ [.int 121200, va_rf o0] (by decide +kernel) rfl ?_
  obtain ⟨h244, q245, hh⟩ := db hh
  refine dq_nJ 2 525 rfl (by decide +kernel) rfl q245 ?_
  obtain ⟨h246, q247, hh⟩ := db hh
  refine dq_put 200 96 [15] 528 (by decide +kernel) rfl q247 ?_
  refine dq_aln 0 529 (by decide +kernel) rfl G0 ?_
  refine dq_S (.bipush 120) 2 [] 531 _ [.int 120, va_rf o0] (by decide +kernel) rfl ?_
  obtain ⟨h248, q249, hh⟩ := db hh
  refine dq_nI .int 0 533 ⟨Or.inl rfl, rfl⟩ (by decide +kernel) rfl q249 ?_
  obtain ⟨h250, q251, hh⟩ := db hh
  refine dq_put 203 97 [15] 536 (by decide +kernel) rfl q251 ?_
  refine dq_aln 0 537 (by decide +kernel) rfl G0 ?_
  refine dq_S (.bipush 120) 2 [] 539 _ [.int 120, va_rf o0] (by decide +kernel) rfl ?_
  obtain ⟨h252, q253, hh⟩ := db hh
  refine dq_nI .int 0 541 ⟨Or.inl rfl, rfl⟩ (by decide +kernel) rfl q253 ?_
  obtain ⟨h254, q255, hh⟩ := db hh
  refine dq_put 206 98 [15] 544 (by decide +kernel) rfl q255 ?_
  refine dq_aln 0 545 (by decide +kernel) rfl G0 ?_
  refine dq_S (.bipush 120) 2 [] 547 _ [.int 120, va_rf o0] (by decide +kernel) rfl ?_
  obtain ⟨h256, q257, hh⟩ := db hh
  refine dq_nJ 2 549 rfl (by decide +kernel) rfl q257 ?_
  obtain ⟨h258, q259, hh⟩ := db hh
  refine dq_put 209 99 [15] 552 (by decide +kernel) rfl q259 ?_
  refine dq_aln 0 553 (by decide +kernel) rfl G0 ?_
  refine dq_S (.sipush 1920) 3 [] 556 _ [.int 1920, va_rf o0] (by decide +kernel) rfl ?_
  obtain ⟨h260, q261, hh⟩ := db hh
  refine dq_nJ 2 558 rfl (by decide +kernel) rfl q261 ?_
  obtain ⟨h262, q263, hh⟩ := db hh
  refine dq_put 212 100 [15] 561 (by decide +kernel) rfl q263 ?_
  refine dq_aln 0 562 (by decide +kernel) rfl G0 ?_
  refine dq_S (.bipush 72) 2 [] 564 _ [.int 72, va_rf o0] (by decide +kernel) rfl ?_
  obtain ⟨h264, q265, hh⟩ := db hh
  refine dq_nI .int 0 566 ⟨Or.inl rfl, rfl⟩ (by decide +kernel) rfl q265 ?_
  obtain ⟨h266, q267, hh⟩ := db hh
  refine dq_put 215 101 [15] 569 (by decide +kernel) rfl q267 ?_
  refine dq_aln 0 570 (by decide +kernel) rfl G0 ?_
  refine dq_S (.bipush 72) 2 [] 572 _ [.int 72, va_rf o0] (by decide +kernel) rfl ?_
  obtain ⟨h268, q269, hh⟩ := db hh
  refine dq_nI .int 0 574 ⟨Or.inl rfl, rfl⟩ (by decide +kernel) rfl q269 ?_
  obtain ⟨h270, q271, hh⟩ := db hh
  refine dq_put 218 102 [15] 577 (by decide +kernel) rfl q271 ?_
  refine dq_aln 0 578 (by decide +kernel) rfl G0 ?_
  refine dq_S (.bipush 72) 2 [] 580 _ [.int 72, va_rf o0] (by decide +kernel) rfl ?_
  obtain ⟨h272, q273, hh⟩ := db hh
  refine dq_nI .boolean 3 582 ⟨Or.inr (Or.inr rfl), rfl⟩ (by decide +kernel) rfl q273 ?_
  obtain ⟨h274, q275, hh⟩ := db hh
  refine dq_put 221 103 [15] 585 (by decide +kernel) rfl q275 ?_
  refine dq_aln 0 586 (by decide +kernel) rfl G0 ?_
  refine dq_S (.sipush 28872) 3 [] 589 _ [.int 28872, va_rf o0] (by decide +kernel) rfl ?_
  obtain ⟨h276, q277, hh⟩ := db hh
  refine dq_nI .boolean 3 591 ⟨Or.inr (Or.inr rfl), rfl⟩ (by decide +kernel) rfl q277 ?_
  obtain ⟨h278, q279, hh⟩ := db hh
  refine dq_put 224 104 [15] 594 (by decide +kernel) rfl q279 ?_
  refine dq_aln 0 595 (by decide +kernel) rfl G0 ?_
  refine dq_S (.sipush 432) 3 [] 598 _ [.int 432, va_rf o0] (by decide +kernel) rfl ?_
  obtain ⟨h280, q281, hh⟩ := db hh
  refine dq_nJ 2 600 rfl (by decide +kernel) rfl q281 ?_
  obtain ⟨h282, q283, hh⟩ := db hh
  refine dq_put 227 105 [15] 603 (by decide +kernel) rfl q283 ?_
  refine dq_aln 0 604 (by decide +kernel) rfl G0 ?_
  refine dq_S (.sipush 28800) 3 [] 607 _ [.int 28800, va_rf o0] (by decide +kernel) rfl ?_
  obtain ⟨h284, q285, hh⟩ := db hh
  refine dq_nJ 2 609 rfl (by decide +kernel) rfl q285 ?_
  obtain ⟨h286, q287, hh⟩ := db hh
  refine dq_put 230 106 [15] 612 (by decide +kernel) rfl q287 ?_
  refine dq_aln 0 613 (by decide +kernel) rfl G0 ?_
  refine dq_S (.sipush 200) 3 [] 616 _ [.int 200, va_rf o0] (by decide +kernel) rfl ?_
  obtain ⟨h288, q289, hh⟩ := db hh
  refine dq_nI .int 0 618 ⟨Or.inl rfl, rfl⟩ (by decide +kernel) rfl q289 ?_
  obtain ⟨h290, q291, hh⟩ := db hh
  refine dq_put 233 107 [15] 621 (by decide +kernel) rfl q291 ?_
  refine dq_aln 0 622 (by decide +kernel) rfl G0 ?_
  refine dq_S (.sipush 200) 3 [] 625 _ [.int 200, va_rf o0] (by decide +kernel) rfl ?_
  obtain ⟨h292, q293, hh⟩ := db hh
  refine dq_nI .int 0 627 ⟨Or.inl rfl, rfl⟩ (by decide +kernel) rfl q293 ?_
  obtain ⟨h294, q295, hh⟩ := db hh
  refine dq_put 236 108 [15] 630 (by decide +kernel) rfl q295 ?_
  refine dq_aln 0 631 (by decide +kernel) rfl G0 ?_
  refine dq_S (.sipush 401) 3 [] 634 _ [.int 401, va_rf o0] (by decide +kernel) rfl ?_
  obtain ⟨h296, q297, hh⟩ := db hh
  refine dq_nI .int 0 636 ⟨Or.inl rfl, rfl⟩ (by decide +kernel) rfl q297 ?_
  obtain ⟨h298, q299, hh⟩ := db hh
  refine dq_put 239 109 [15] 639 (by decide +kernel) rfl q299 ?_
  refine dq_aln 0 640 (by decide +kernel) rfl G0 ?_
  refine dq_S (.sipush 3000) 3 [] 643 _ [.int 3000, va_rf o0] (by decide +kernel) rfl ?_
  obtain ⟨h300, q301, hh⟩ := db hh
  refine dq_nI .int 0 645 ⟨Or.inl rfl, rfl⟩ (by decide +kernel) rfl q301 ?_
  obtain ⟨h302, q303, hh⟩ := db hh
  refine dq_put 242 110 [15] 648 (by decide +kernel) rfl q303 ?_
  refine dq_aln 0 649 (by decide +kernel) rfl G0 ?_
  refine dq_S (.sipush 401) 3 [] 652 _ [.int 401, va_rf o0] (by decide +kernel) rfl ?_
  obtain ⟨h304, q305, hh⟩ := db hh
  refine dq_nI .boolean 3 654 ⟨Or.inr (Or.inr rfl), rfl⟩ (by decide +kernel) rfl q305 ?_
  obtain ⟨h306, q307, hh⟩ := db hh
  refine dq_put 245 112 [15] 657 (by decide +kernel) rfl q307 ?_
  refine dq_aln 0 658 (by decide +kernel) rfl G0 ?_
  refine dq_S (.sipush 401) 3 [] 661 _ [.int 401, va_rf o0] (by decide +kernel) rfl ?_
  obtain ⟨h308, q309, hh⟩ := db hh
  refine dq_nI .int 0 663 ⟨Or.inl rfl, rfl⟩ (by decide +kernel) rfl q309 ?_
  obtain ⟨h310, q311, hh⟩ := db hh
  refine dq_put 248 113 [15] 666 (by decide +kernel) rfl q311 ?_
  refine dq_aln 0 667 (by decide +kernel) rfl G0 ?_
  refine dq_S (.sipush 401) 3 [] 670 _ [.int 401, va_rf o0] (by decide +kernel) rfl ?_
  obtain ⟨h312, q313, hh⟩ := db hh
  refine dq_nI .int 0 672 ⟨Or.inl rfl, rfl⟩ (by decide +kernel) rfl q313 ?_
  obtain ⟨h314, q315, hh⟩ := db hh
  refine dq_put 251 114 [15] 675 (by decide +kernel) rfl q315 ?_
  refine dq_S (.ldc 254) 2 [1, 13] 677 _ [va_rf (some 13)] (by decide +kernel) rfl ?_
  refine dq_asn 1 678 (by decide +kernel) (by decide +kernel) ?_
  have g316 := dg_ne (i := 1) (u := va_rf (some 13)) (by decide) (Or.inr (drc _)) G0
  have g317 := dg_eq (lv) 1 (va_rf (some 13))
  refine dq_S (.iconst 0) 1 [] 679 _ [.int 0] (by decide +kernel) rfl ?_
  refine dq_isn 2 680 (by decide +kernel) (by decide +kernel) ?_
  have g318 := dg_ne (i := 2) (u := .int 0) (by decide) (Or.inl (by decide)) g316
  have g319 := dg_ne (i := 2) (u := .int 0) (by decide) (Or.inr (drc _)) g317
  have g320 := dg_eq (rm_set1 (lv) 1 (va_rf (some 13))) 2 (.int 0)
  refine dq_S (.iconst 0) 1 [] 681 _ [.int 0] (by decide +kernel) rfl ?_
  refine dq_isn 3 682 (by decide +kernel) (by decide +kernel) ?_
  have g321 := dg_ne (i := 3) (u := .int 0) (by decide) (Or.inl (by decide)) g318
  have g322 := dg_ne (i := 3) (u := .int 0) (by decide) (Or.inl (by decide)) g319
  have g323 := dg_ne (i := 3) (u := .int 0) (by decide) (Or.inr rfl) g320
  have g324 := dg_eq (rm_set1 (rm_set1 (lv) 1 (va_rf (some 13))) 2 (.int 0)) 3 (.int 0)
  exact c288_682 hD hz _ _ _ _ _ _ _ _ g321 g322 g323 g324 hh
def f288 (L : Nat) (xs : Nat → Int32) (zf : Value) (D : dD) (w : Nat) (As : List Value) (h : rm_H) : Option dR := match As with
  | [v0] => (rm_rf v0).bind fun o0 => b288_0 L xs zf D w o0 h
  | _ => none
theorem d288 {L : Nat} {xs : Nat → Int32} {zf : Value} {D : dD} {w k : Nat} (hD : dO L xs zf D k) (hz : zf.category = 1) (As : List Value) (h : rm_H) (r : dR) (hh : f288 L xs zf D w As h = some r) : dq L xs zf ah_M288 0 (lv_args 0 As) [] h (k + 1) r := by
  unfold f288 at hh
  split at hh
  · obtain ⟨o0, e0, hb0⟩ := db hh
    have e0 := rm_rf_v _ _ e0
    subst e0
    refine c288_0 hD hz _ _ _ _ ?_ hb0
    all_goals (simp only [la_r, la_i, la_j]; rfl)
  · cases hh
