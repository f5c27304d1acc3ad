/-! METHODS AS FUNCTIONS, printed by wip/whole/gen_fun.py -/
def b308_12 (L : Nat) (xs : Nat → Int32) (zf : Value) (D : dD) (w : Nat) (h : rm_H) : Option dR :=
  some (none, h)
theorem c308_12 {L : Nat} {xs : Nat → Int32} {zf : Value} {D : dD} {w k : Nat} (hD : dO L xs zf D k) (hz : zf.category = 1) : ∀ (lv : rm_L) (h : rm_H) (r : dR), b308_12 L xs zf D w  h = some r → dq L xs zf ah_M308 12 lv [] h (k + 1) r := by
  intro lv h r hh
  unfold b308_12 at hh
  cases hh
  exact dq_ret0 (by decide +kernel) rfl
def b308_0 (L : Nat) (xs : Nat → Int32) (zf : Value) (D : dD) (w : Nat) (o0 : Option Nat) (i1 : Int32) (h : rm_H) : Option dR :=
  ((dcV L xs D 309 [15] o0 [.int i1] h).bind dxI).bind fun x1 =>
  if mx_f1 .ne x1.1 = true then
    b308_12 L xs zf D w x1.2
  else
    ((dcV L xs D 304 [15] o0 [] x1.2).bind dxV).bind fun h6 =>
    b308_12 L xs zf D w h6
theorem c308_0 {L : Nat} {xs : Nat → Int32} {zf : Value} {D : dD} {w k : Nat} (hD : dO L xs zf D k) (hz : zf.category = 1) : ∀ (o0 : Option Nat) (i1 : Int32) (lv : rm_L) (h : rm_H) (r : dR), rm_get lv 0 = some (va_rf o0) → rm_get lv 1 = some (.int i1) → b308_0 L xs zf D w  o0 i1 h = some r → dq L xs zf ah_M308 0 lv [] h (k + 1) r := by
  intro o0 i1 lv h r G0 G1 hh
  unfold b308_0 at hh
  refine dq_aln 0 1 (by decide +kernel) rfl G0 ?_
  refine dq_iln 1 2 (by decide +kernel) rfl G1 ?_
  obtain ⟨x1, q2, hh⟩ := db hh
  obtain ⟨a3, q4, q2⟩ := db q2
  rw [dq_xI q2] at q4
  refine dq_cvi hD 307 309 5 1 [15] o0 [.int i1] [] 5 [.int x1.1] (by decide +kernel) ap_309 ⟨⟨Nat.le_of_ble_eq_true rfl, by decide⟩, rfl, rfl⟩ (dq_ok8 [1, 1] [] (dc_r (dc_i dc_n)) dc_n (by decide +kernel)) (by decide +kernel) rfl q4 rfl ?_
  rcases di hh with ⟨q5, hh⟩ | ⟨q5, hh⟩
  · refine dq_1 .ne 7 true 12 q5 (by decide +kernel) ?_
    exact c308_12 hD hz  _ _ _  hh
  · refine dq_1 .ne 7 false 8 q5 (by decide +kernel) ?_
    refine dq_aln 0 9 (by decide +kernel) rfl G0 ?_
    obtain ⟨h6, q7, hh⟩ := db hh
    obtain ⟨a8, q9, q7⟩ := db q7
    rw [dq_xV q7] at q9
    refine dq_cvi hD 310 304 5 0 [15] o0 [] [] 12 [] (by decide +kernel) ap_304 ⟨⟨Nat.le_of_ble_eq_true rfl, by decide⟩, rfl, rfl⟩ (dq_ok8 [1] [] (dc_r dc_n) dc_n (by decide +kernel)) (by decide +kernel) rfl q9 rfl ?_
    exact c308_12 hD hz  _ _ _  hh
def f308 (L : Nat) (xs : Nat → Int32) (zf : Value) (D : dD) (w : Nat) (As : List Value) (h : rm_H) : Option dR := match As with
  | [v0, .int i1] => (rm_rf v0).bind fun o0 => b308_0 L xs zf D w o0 i1 h
  | _ => none
theorem d308 {L : Nat} {xs : Nat → Int32} {zf : Value} {D : dD} {w k : Nat} (hD : dO L xs zf D k) (hz : zf.category = 1) (As : List Value) (h : rm_H) (r : dR) (hh : f308 L xs zf D w As h = some r) : dq L xs zf ah_M308 0 (lv_args 0 As) [] h (k + 1) r := by
  unfold f308 at hh
  split at hh
  · obtain ⟨o0, e0, hb0⟩ := db hh
    have e0 := rm_rf_v _ _ e0
    subst e0
    refine c308_0 hD hz _ _ _ _ _ ?_ ?_ hb0
    all_goals (simp only [la_r, la_i, la_j]; rfl)
  · cases hh
def b309_0 (L : Nat) (xs : Nat → Int32) (zf : Value) (D : dD) (w : Nat) (o0 : Option Nat) (i1 : Int32) (h : rm_H) : Option dR :=
  ((dcV L xs D 310 [15] o0 [.int i1] h).bind dxI).bind fun x1 =>
  if mx_f1 .ne x1.1 = true then
    (dgI L xs x1.2 56 [15] o0).bind fun x6 =>
    (dpF x1.2 56 [15] o0 (.int (x6 + 1))).bind fun h8 =>
    drI (some .boolean) 1 h8
  else
    drI (some .boolean) 0 x1.2
theorem c309_0 {L : Nat} {xs : Nat → Int32} {zf : Value} {D : dD} {w k : Nat} (hD : dO L xs zf D k) (hz : zf.category = 1) : ∀ (o0 : Option Nat) (i1 : Int32) (lv : rm_L) (h : rm_H) (r : dR), rm_get lv 0 = some (va_rf o0) → rm_get lv 1 = some (.int i1) → b309_0 L xs zf D w  o0 i1 h = some r → dq L xs zf ah_M309 0 lv [] h (k + 1) r := by
  intro o0 i1 lv h r G0 G1 hh
  unfold b309_0 at hh
  refine dq_aln 0 1 (by decide +kernel) rfl G0 ?_
  refine dq_iln 1 2 (by decide +kernel) rfl G1 ?_
  obtain ⟨x1, q2, hh⟩ := db hh
  obtain ⟨a3, q4, q2⟩ := db q2
  rw [dq_xI q2] at q4
  refine dq_cvi hD 304 310 5 1 [15] o0 [.int i1] [] 5 [.int x1.1] (by decide +kernel) ap_310 ⟨⟨Nat.le_of_ble_eq_true rfl, by decide⟩, rfl, rfl⟩ (dq_ok8 [1, 1] [] (dc_r (dc_i dc_n)) dc_n (by decide +kernel)) (by decide +kernel) rfl q4 rfl ?_
  rcases di hh with ⟨q5, hh⟩ | ⟨q5, hh⟩
  · refine dq_1 .ne 5 true 10 q5 (by decide +kernel) ?_
    refine dq_aln 0 11 (by decide +kernel) rfl G0 ?_
    refine dq_dup 12 (by decide +kernel) rfl ?_
    obtain ⟨x6, q7, hh⟩ := db hh
    refine dq_gI 298 56 [15] 15 (by decide +kernel) rfl q7 ?_
    refine dq_S (.iconst 1) 1 [] 16 _ [.int 1, .int x6, va_rf o0] (by decide +kernel) rfl ?_
    refine dq_S (.iadd) 1 [] 17 _ [.int (x6 + 1), va_rf o0] (by decide +kernel) rfl ?_
    obtain ⟨h8, q9, hh⟩ := db hh
    refine dq_put 298 56 [15] 20 (by decide +kernel) rfl q9 ?_
    refine dq_S (.iconst 1) 1 [] 21 _ [.int 1] (by decide +kernel) rfl ?_
    exact dq_retI (some .boolean) (by decide +kernel) rfl hh
  · refine dq_1 .ne 5 false 8 q5 (by decide +kernel) ?_
    refine dq_S (.iconst 0) 1 [] 9 _ [.int 0] (by decide +kernel) rfl ?_
    exact dq_retI (some .boolean) (by decide +kernel) rfl hh
def f309 (L : Nat) (xs : Nat → Int32) (zf : Value) (D : dD) (w : Nat) (As : List Value) (h : rm_H) : Option dR := match As with
  | [v0, .int i1] => (rm_rf v0).bind fun o0 => b309_0 L xs zf D w o0 i1 h
  | _ => none
theorem d309 {L : Nat} {xs : Nat → Int32} {zf : Value} {D : dD} {w k : Nat} (hD : dO L xs zf D k) (hz : zf.category = 1) (As : List Value) (h : rm_H) (r : dR) (hh : f309 L xs zf D w As h = some r) : dq L xs zf ah_M309 0 (lv_args 0 As) [] h (k + 1) r := by
  unfold f309 at hh
  split at hh
  · obtain ⟨o0, e0, hb0⟩ := db hh
    have e0 := rm_rf_v _ _ e0
    subst e0
    refine c309_0 hD hz _ _ _ _ _ ?_ ?_ hb0
    all_goals (simp only [la_r, la_i, la_j]; rfl)
  · cases hh
def b310_38 (L : Nat) (xs : Nat → Int32) (zf : Value) (D : dD) (w : Nat) (s0 : Int32) (h : rm_H) : Option dR :=
  drI (some .boolean) s0 h
theorem c310_38 {L : Nat} {xs : Nat → Int32} {zf : Value} {D : dD} {w k : Nat} (hD : dO L xs zf D k) (hz : zf.category = 1) : ∀ (s0 : Int32) (lv : rm_L) (h : rm_H) (r : dR), b310_38 L xs zf D w  s0 h = some r → dq L xs zf ah_M310 38 lv [.int s0] h (k + 1) r := by
  intro s0 lv h r hh
  unfold b310_38 at hh
  exact dq_retI (some .boolean) (by decide +kernel) rfl hh
def b310_37 (L : Nat) (xs : Nat → Int32) (zf : Value) (D : dD) (w : Nat) (h : rm_H) : Option dR :=
  b310_38 L xs zf D w 0 h
theorem c310_37 {L : Nat} {xs : Nat → Int32} {zf : Value} {D : dD} {w k : Nat} (hD : dO L xs zf D k) (hz : zf.category = 1) : ∀ (lv : rm_L) (h : rm_H) (r : dR), b310_37 L xs zf D w  h = some r → dq L xs zf ah_M310 37 lv [] h (k + 1) r := by
  intro lv h r hh
  unfold b310_37 at hh
  refine dq_S (.iconst 0) 1 [] 38 _ [.int 0] (by decide +kernel) rfl ?_
  exact c310_38 hD hz _ _ _ _  hh
def b310_0 (L : Nat) (xs : Nat → Int32) (zf : Value) (D : dD) (w : Nat) (o0 : Option Nat) (i1 : Int32) (h : rm_H) : Option dR :=
  (dgI L xs h 57 [15] o0).bind fun x1 =>
  if mx_f1 .ne x1 = true then
    b310_37 L xs zf D w h
  else
    (dgR L xs h 6 [15] o0).bind fun p4 =>
    (dgI L xs h 56 [15] o0).bind fun x6 =>
    (daI L xs h p4 x6).bind fun x8 =>
    if mx_f2 .ne x8 5 = true then
      b310_37 L xs zf D w h
    else
      (dgR L xs h 8 [15] o0).bind fun p11 =>
      (dgI L xs h 56 [15] o0).bind fun x13 =>
      (daI L xs h p11 x13).bind fun x15 =>
      if mx_f2 .ne x15 i1 = true then
        b310_37 L xs zf D w h
      else
        b310_38 L xs zf D w 1 h
theorem c310_0 {L : Nat} {xs : Nat → Int32} {zf : Value} {D : dD} {w k : Nat} (hD : dO L xs zf D k) (hz : zf.category = 1) : ∀ (o0 : Option Nat) (i1 : Int32) (lv : rm_L) (h : rm_H) (r : dR), rm_get lv 0 = some (va_rf o0) → rm_get lv 1 = some (.int i1) → b310_0 L xs zf D w  o0 i1 h = some r → dq L xs zf ah_M310 0 lv [] h (k + 1) r := by
  intro o0 i1 lv h r G0 G1 hh
  unfold b310_0 at hh
  refine dq_aln 0 1 (by decide +kernel) rfl G0 ?_
  obtain ⟨x1, q2, hh⟩ := db hh
  refine dq_gI 295 57 [15] 4 (by decide +kernel) rfl q2 ?_
  rcases di hh with ⟨q3, hh⟩ | ⟨q3, hh⟩
  · refine dq_1 .ne 33 true 37 q3 (by decide +kernel) ?_
    exact c310_37 hD hz  _ _ _  hh
  · refine dq_1 .ne 33 false 7 q3 (by decide +kernel) ?_
    refine dq_aln 0 8 (by decide +kernel) rfl G0 ?_
    obtain ⟨p4, q5, hh⟩ := db hh
    refine dq_gR 24 6 [15] 11 (by decide +kernel) rfl q5 ?_
    refine dq_aln 0 12 (by decide +kernel) rfl G0 ?_
    obtain ⟨x6, q7, hh⟩ := db hh
    refine dq_gI 298 56 [15] 15 (by decide +kernel) rfl q7 ?_
    obtain ⟨x8, q9, hh⟩ := db hh
    refine dq_aI 16 (by decide +kernel) rfl q9 ?_
    refine dq_S (.iconst 5) 1 [] 17 _ [.int 5, .int x8] (by decide +kernel) rfl ?_
    rcases di hh with ⟨q10, hh⟩ | ⟨q10, hh⟩
    · refine dq_2 .ne 20 true 37 q10 (by decide +kernel) ?_
      exact c310_37 hD hz  _ _ _  hh
    · refine dq_2 .ne 20 false 20 q10 (by decide +kernel) ?_
      refine dq_aln 0 21 (by decide +kernel) rfl G0 ?_
      obtain ⟨p11, q12, hh⟩ := db hh
      refine dq_gR 30 8 [15] 24 (by decide +kernel) rfl q12 ?_
      refine dq_aln 0 25 (by decide +kernel) rfl G0 ?_
      obtain ⟨x13, q14, hh⟩ := db hh
      refine dq_gI 298 56 [15] 28 (by decide +kernel) rfl q14 ?_
      obtain ⟨x15, q16, hh⟩ := db hh
      refine dq_aI 29 (by decide +kernel) rfl q16 ?_
      refine dq_iln 1 30 (by decide +kernel) rfl G1 ?_
      rcases di hh with ⟨q17, hh⟩ | ⟨q17, hh⟩
      · refine dq_2 .ne 7 true 37 q17 (by decide +kernel) ?_
        exact c310_37 hD hz  _ _ _  hh
      · refine dq_2 .ne 7 false 33 q17 (by decide +kernel) ?_
        refine dq_S (.iconst 1) 1 [] 34 _ [.int 1] (by decide +kernel) rfl ?_
        refine dq_S (.goto 4) 3 [] 38 _ [.int 1] (by decide +kernel) rfl ?_
        exact c310_38 hD hz _ _ _ _  hh
def f310 (L : Nat) (xs : Nat → Int32) (zf : Value) (D : dD) (w : Nat) (As : List Value) (h : rm_H) : Option dR := match As with
  | [v0, .int i1] => (rm_rf v0).bind fun o0 => b310_0 L xs zf D w o0 i1 h
  | _ => none
theorem d310 {L : Nat} {xs : Nat → Int32} {zf : Value} {D : dD} {w k : Nat} (hD : dO L xs zf D k) (hz : zf.category = 1) (As : List Value) (h : rm_H) (r : dR) (hh : f310 L xs zf D w As h = some r) : dq L xs zf ah_M310 0 (lv_args 0 As) [] h (k + 1) r := by
  unfold f310 at hh
  split at hh
  · obtain ⟨o0, e0, hb0⟩ := db hh
    have e0 := rm_rf_v _ _ e0
    subst e0
    refine c310_0 hD hz _ _ _ _ _ ?_ ?_ hb0
    all_goals (simp only [la_r, la_i, la_j]; rfl)
  · cases hh
def b311_37 (L : Nat) (xs : Nat → Int32) (zf : Value) (D : dD) (w : Nat) (o0 : Option Nat) (i1 : Int32) (s0 : Int32) (h : rm_H) : Option dR :=
  ((dcV L xs D 308 [15] o0 [.int 59] h).bind dxV).bind fun h4 =>
  (dgR L xs h4 39 [15] o0).bind fun p8 =>
  (dgI L xs h4 38 [15] o0).bind fun x10 =>
  (dgR L xs h4 9 [15] o0).bind fun p12 =>
  (daJ L xs h4 p12 i1).bind fun y14 =>
  (dsJ h4 p8 x10 y14).bind fun h16 =>
  (dgR L xs h16 40 [15] o0).bind fun p18 =>
  (dgI L xs h16 38 [15] o0).bind fun x20 =>
  (dgR L xs h16 7 [15] o0).bind fun p22 =>
  (daI L xs h16 p22 i1).bind fun x24 =>
  (dsI h16 p18 x20 x24).bind fun h26 =>
  (dgR L xs h26 41 [15] o0).bind fun p28 =>
  (dgI L xs h26 38 [15] o0).bind fun x30 =>
  (dsI h26 p28 x30 s0).bind fun h32 =>
  (dgI L xs h32 38 [15] o0).bind fun x34 =>
  (dpF h32 38 [15] o0 (.int (x34 + 1))).bind fun h36 =>
  some (none, h36)
theorem c311_37 {L : Nat} {xs : Nat → Int32} {zf : Value} {D : dD} {w k : Nat} (hD : dO L xs zf D k) (hz : zf.category = 1) : ∀ (o0 : Option Nat) (i1 : Int32) (s0 : Int32) (lv : rm_L) (h : rm_H) (r : dR), rm_get lv 0 = some (va_rf o0) → rm_get lv 1 = some (.int i1) → b311_37 L xs zf D w  o0 i1 s0 h = some r → dq L xs zf ah_M311 37 lv [.int s0] h (k + 1) r := by
  intro o0 i1 s0 lv h r G0 G1 hh
  unfold b311_37 at hh
  refine dq_isn 2 38 (by decide +kernel) (by decide +kernel) ?_
  have g1 := dg_ne (i := 2) (u := .int s0) (by decide) (Or.inl (by decide)) G0
  have g2 := dg_ne (i := 2) (u := .int s0) (by decide) (Or.inr rfl) G1
  have g3 := dg_eq (lv) 2 (.int s0)
  refine dq_aln 0 39 (by decide +kernel) rfl g1 ?_
  refine dq_S (.bipush 59) 2 [] 41 _ [.int 59, va_rf o0] (by decide +kernel) rfl ?_
  obtain ⟨h4, q5, hh⟩ := db hh
  obtain ⟨a6, q7, q5⟩ := db q5
  rw [dq_xV q5] at q7
  refine dq_cvi hD 335 308 5 1 [15] o0 [.int 59] [] 44 [] (by decide +kernel) ap_308 ⟨⟨Nat.le_of_ble_eq_true rfl, by decide⟩, rfl, rfl⟩ (dq_ok8 [1, 1] [] (dc_r (dc_i dc_n)) dc_n (by decide +kernel)) (by decide +kernel) rfl q7 rfl ?_
  refine dq_aln 0 45 (by decide +kernel) rfl g1 ?_
  obtain ⟨p8, q9, hh⟩ := db hh
  refine dq_gR 106 39 [15] 48 (by decide +kernel) rfl q9 ?_
  refine dq_aln 0 49 (by decide +kernel) rfl g1 ?_
  obtain ⟨x10, q11, hh⟩ := db hh
  refine dq_gI 332 38 [15] 52 (by decide +kernel) rfl q11 ?_
  refine dq_aln 0 53 (by decide +kernel) rfl g1 ?_
  obtain ⟨p12, q13, hh⟩ := db hh
  refine dq_gR 33 9 [15] 56 (by decide +kernel) rfl q13 ?_
  refine dq_iln 1 57 (by decide +kernel) rfl g2 ?_
  obtain ⟨y14, q15, hh⟩ := db hh
  refine dq_aJ 58 (by decide +kernel) rfl q15 ?_
  obtain ⟨h16, q17, hh⟩ := db hh
  refine dq_sJ 59 (by decide +kernel) rfl q17 ?_
  refine dq_aln 0 60 (by decide +kernel) rfl g1 ?_
  obtain ⟨p18, q19, hh⟩ := db hh
  refine dq_gR 109 40 [15] 63 (by decide +kernel) rfl q19 ?_
  refine dq_aln 0 64 (by decide +kernel) rfl g1 ?_
  obtain ⟨x20, q21, hh⟩ := db hh
  refine dq_gI 332 38 [15] 67 (by decide +kernel) rfl q21 ?_
  refine dq_aln 0 68 (by decide +kernel) rfl g1 ?_
  obtain ⟨p22, q23, hh⟩ := db hh
  refine dq_gR 27 7 [15] 71 (by decide +kernel) rfl q23 ?_
  refine dq_iln 1 72 (by decide +kernel) rfl g2 ?_
  obtain ⟨x24, q25, hh⟩ := db hh
  refine dq_aI 73 (by decide +kernel) rfl q25 ?_
  obtain ⟨h26, q27, hh⟩ := db hh
  refine dq_sI 74 (by decide +kernel) rfl q27 ?_
  refine dq_aln 0 75 (by decide +kernel) rfl g1 ?_
  obtain ⟨p28, q29, hh⟩ := db hh
  refine dq_gR 112 41 [15] 78 (by decide +kernel) rfl q29 ?_
  refine dq_aln 0 79 (by decide +kernel) rfl g1 ?_
  obtain ⟨x30, q31, hh⟩ := db hh
  refine dq_gI 332 38 [15] 82 (by decide +kernel) rfl q31 ?_
  refine dq_iln 2 83 (by decide +kernel) rfl g3 ?_
  obtain ⟨h32, q33, hh⟩ := db hh
  refine dq_sI 84 (by decide +kernel) rfl q33 ?_
  refine dq_aln 0 85 (by decide +kernel) rfl g1 ?_
  refine dq_dup 86 (by decide +kernel) rfl ?_
  obtain ⟨x34, q35, hh⟩ := db hh
  refine dq_gI 332 38 [15] 89 (by decide +kernel) rfl q35 ?_
  refine dq_S (.iconst 1) 1 [] 90 _ [.int 1, .int x34, va_rf o0] (by decide +kernel) rfl ?_
  refine dq_S (.iadd) 1 [] 91 _ [.int (x34 + 1), va_rf o0] (by decide +kernel) rfl ?_
  obtain ⟨h36, q37, hh⟩ := db hh
  refine dq_put 332 38 [15] 94 (by decide +kernel) rfl q37 ?_
  cases hh
  exact dq_ret0 (by decide +kernel) rfl
def b311_0 (L : Nat) (xs : Nat → Int32) (zf : Value) (D : dD) (w : Nat) (o0 : Option Nat) (h : rm_H) : Option dR :=
  (dgI L xs h 56 [15] o0).bind fun x1 =>
  (dpF h 56 [15] o0 (.int (x1 + 1))).bind fun h3 =>
  ((dcV L xs D 307 [15] o0 [.int 1] h3).bind dxI).bind fun x5 =>
  ((dcV L xs D 308 [15] o0 [.int 58] x5.2).bind dxV).bind fun h11 =>
  (dgI L xs h11 57 [15] o0).bind fun x15 =>
  if mx_f1 .le x15 = true then
    ((dcV L xs D 312 [15] o0 [] h11).bind dxI).bind fun x18 =>
    b311_37 L xs zf D w o0 x5.1 x18.1 x18.2
  else
    b311_37 L xs zf D w o0 x5.1 0 h11
theorem c311_0 {L : Nat} {xs : Nat → Int32} {zf : Value} {D : dD} {w k : Nat} (hD : dO L xs zf D k) (hz : zf.category = 1) : ∀ (o0 : Option Nat) (lv : rm_L) (h : rm_H) (r : dR), rm_get lv 0 = some (va_rf o0) → b311_0 L xs zf D w  o0 h = some r → dq L xs zf ah_M311 0 lv [] h (k + 1) r := by
  intro o0 lv h r G0 hh
  unfold b311_0 at hh
  refine dq_aln 0 1 (by decide +kernel) rfl G0 ?_
  refine dq_dup 2 (by decide +kernel) rfl ?_
  obtain ⟨x1, q2, hh⟩ := db hh
  refine dq_gI 298 56 [15] 5 (by decide +kernel) rfl q2 ?_
  refine dq_S (.iconst 1) 1 [] 6 _ [.int 1, .int x1, va_rf o0] (by decide +kernel) rfl ?_
  refine dq_S (.iadd) 1 [] 7 _ [.int (x1 + 1), va_rf o0] (by decide +kernel) rfl ?_
  obtain ⟨h3, q4, hh⟩ := db hh
  refine dq_put 298 56 [15] 10 (by decide +kernel) rfl q4 ?_
  refine dq_aln 0 11 (by decide +kernel) rfl G0 ?_
  refine dq_S (.iconst 1) 1 [] 12 _ [.int 1, va_rf o0] (by decide +kernel) rfl ?_
  obtain ⟨x5, q6, hh⟩ := db hh
  obtain ⟨a7, q8, q6⟩ := db q6
  rw [dq_xI q6] at q8
  refine dq_cvi hD 323 307 5 1 [15] o0 [.int 1] [] 15 [.int x5.1] (by decide +kernel) ap_307 ⟨⟨Nat.le_of_ble_eq_true rfl, by decide⟩, rfl, rfl⟩ (dq_ok8 [1, 1] [] (dc_r (dc_i dc_n)) dc_n (by decide +kernel)) (by decide +kernel) rfl q8 rfl ?_
  refine dq_isn 1 16 (by decide +kernel) (by decide +kernel) ?_
  have g9 := dg_ne (i := 1) (u := .int x5.1) (by decide) (Or.inr (drc _)) G0
  have g10 := dg_eq (lv) 1 (.int x5.1)
  refine dq_aln 0 17 (by decide +kernel) rfl g9 ?_
  refine dq_S (.bipush 58) 2 [] 19 _ [.int 58, va_rf o0] (by decide +kernel) rfl ?_
  obtain ⟨h11, q12, hh⟩ := db hh
  obtain ⟨a13, q14, q12⟩ := db q12
  rw [dq_xV q12] at q14
  refine dq_cvi hD 335 308 5 1 [15] o0 [.int 58] [] 22 [] (by decide +kernel) ap_308 ⟨⟨Nat.le_of_ble_eq_true rfl, by decide⟩, rfl, rfl⟩ (dq_ok8 [1, 1] [] (dc_r (dc_i dc_n)) dc_n (by decide +kernel)) (by decide +kernel) rfl q14 rfl ?_
  refine dq_aln 0 23 (by decide +kernel) rfl g9 ?_
  obtain ⟨x15, q16, hh⟩ := db hh
  refine dq_gI 295 57 [15] 26 (by decide +kernel) rfl q16 ?_
  rcases di hh with ⟨q17, hh⟩ | ⟨q17, hh⟩
  · refine dq_1 .le 7 true 33 q17 (by decide +kernel) ?_
    refine dq_aln 0 34 (by decide +kernel) rfl g9 ?_
    obtain ⟨x18, q19, hh⟩ := db hh
    obtain ⟨a20, q21, q19⟩ := db q19
    rw [dq_xI q19] at q21
    refine dq_cvi hD 348 312 5 0 [15] o0 [] [] 37 [.int x18.1] (by decide +kernel) ap_312 ⟨⟨Nat.le_of_ble_eq_true rfl, by decide⟩, rfl, rfl⟩ (dq_ok8 [1] [] (dc_r dc_n) dc_n (by decide +kernel)) (by decide +kernel) rfl q21 rfl ?_
    exact c311_37 hD hz _ _ _ _ _ _ g9 g10 hh
  · refine dq_1 .le 7 false 29 q17 (by decide +kernel) ?_
    refine dq_S (.iconst 0) 1 [] 30 _ [.int 0] (by decide +kernel) rfl ?_
    refine dq_S (.goto 7) 3 [] 37 _ [.int 0] (by decide +kernel) rfl ?_
    exact c311_37 hD hz _ _ _ _ _ _ g9 g10 hh
def f311 (L : Nat) (xs : Nat → Int32) (zf : Value) (D : dD) (w : Nat) (As : List Value) (h : rm_H) : Option dR := match As with
  | [v0] => (rm_rf v0).bind fun o0 => b311_0 L xs zf D w o0 h
  | _ => none
theorem d311 {L : Nat} {xs : Nat → Int32} {zf : Value} {D : dD} {w k : Nat} (hD : dO L xs zf D k) (hz : zf.category = 1) (As : List Value) (h : rm_H) (r : dR) (hh : f311 L xs zf D w As h = some r) : dq L xs zf ah_M311 0 (lv_args 0 As) [] h (k + 1) r := by
  unfold f311 at hh
  split at hh
  · obtain ⟨o0, e0, hb0⟩ := db hh
    have e0 := rm_rf_v _ _ e0
    subst e0
    refine c311_0 hD hz _ _ _ _ ?_ hb0
    all_goals (simp only [la_r, la_i, la_j]; rfl)
  · cases hh
def b312_123 (L : Nat) (xs : Nat → Int32) (zf : Value) (D : dD) (w : Nat) (o0 : Option Nat) (i1 : Int32) (h : rm_H) : Option dR :=
  ((dcV L xs D 307 [15] o0 [.int 3] h).bind dxI).bind fun x1 =>
  (dgR L xs x1.2 29 [15] o0).bind fun p8 =>
  (dgR L xs x1.2 7 [15] o0).bind fun p10 =>
  (daI L xs x1.2 p10 x1.1).bind fun x12 =>
  (dsI x1.2 p8 i1 x12).bind fun h14 =>
  (dgR L xs h14 31 [15] o0).bind fun p16 =>
  (dgR L xs h14 9 [15] o0).bind fun p18 =>
  (daJ L xs h14 p18 x1.1).bind fun y20 =>
  (dsJ h14 p16 i1 y20).bind fun h22 =>
  drI (some .int) i1 h22
theorem c312_123 {L : Nat} {xs : Nat → Int32} {zf : Value} {D : dD} {w k : Nat} (hD : dO L xs zf D k) (hz : zf.category = 1) : ∀ (o0 : Option Nat) (i1 : Int32) (lv : rm_L) (h : rm_H) (r : dR), rm_get lv 0 = some (va_rf o0) → rm_get lv 1 = some (.int i1) → b312_123 L xs zf D w  o0 i1 h = some r → dq L xs zf ah_M312 123 lv [] h (k + 1) r := by
  intro o0 i1 lv h r G0 G1 hh
  unfold b312_123 at hh
  refine dq_aln 0 124 (by decide +kernel) rfl G0 ?_
  refine dq_S (.iconst 3) 1 [] 125 _ [.int 3, va_rf o0] (by decide +kernel) rfl ?_
  obtain ⟨x1, q2, hh⟩ := db hh
  obtain ⟨a3, q4, q2⟩ := db q2
  rw [dq_xI q2] at q4
  refine dq_cvi hD 323 307 5 1 [15] o0 [.int 3] [] 128 [.int x1.1] (by decide +kernel) ap_307 ⟨⟨Nat.le_of_ble_eq_true rfl, by decide⟩, rfl, rfl⟩ (dq_ok8 [1, 1] [] (dc_r (dc_i dc_n)) dc_n (by decide +kernel)) (by decide +kernel) rfl q4 rfl ?_
  refine dq_isn 2 129 (by decide +kernel) (by decide +kernel) ?_
  have g5 := dg_ne (i := 2) (u := .int x1.1) (by decide) (Or.inl (by decide)) G0
  have g6 := dg_ne (i := 2) (u := .int x1.1) (by decide) (Or.inr rfl) G1
  have g7 := dg_eq (lv) 2 (.int x1.1)
  refine dq_aln 0 130 (by decide +kernel) rfl g5 ?_
  obtain ⟨p8, q9, hh⟩ := db hh
  refine dq_gR 81 29 [15] 133 (by decide +kernel) rfl q9 ?_
  refine dq_iln 1 134 (by decide +kernel) rfl g6 ?_
  refine dq_aln 0 135 (by decide +kernel) rfl g5 ?_
  obtain ⟨p10, q11, hh⟩ := db hh
  refine dq_gR 27 7 [15] 138 (by decide +kernel) rfl q11 ?_
  refine dq_iln 2 139 (by decide +kernel) rfl g7 ?_
  obtain ⟨x12, q13, hh⟩ := db hh
  refine dq_aI 140 (by decide +kernel) rfl q13 ?_
  obtain ⟨h14, q15, hh⟩ := db hh
  refine dq_sI 141 (by decide +kernel) rfl q15 ?_
  refine dq_aln 0 142 (by decide +kernel) rfl g5 ?_
  obtain ⟨p16, q17, hh⟩ := db hh
  refine dq_gR 87 31 [15] 145 (by decide +kernel) rfl q17 ?_
  refine dq_iln 1 146 (by decide +kernel) rfl g6 ?_
  refine dq_aln 0 147 (by decide +kernel) rfl g5 ?_
  obtain ⟨p18, q19, hh⟩ := db hh
  refine dq_gR 33 9 [15] 150 (by decide +kernel) rfl q19 ?_
  refine dq_iln 2 151 (by decide +kernel) rfl g7 ?_
  obtain ⟨y20, q21, hh⟩ := db hh
  refine dq_aJ 152 (by decide +kernel) rfl q21 ?_
  obtain ⟨h22, q23, hh⟩ := db hh
  refine dq_sJ 153 (by decide +kernel) rfl q23 ?_
  refine dq_iln 1 154 (by decide +kernel) rfl g6 ?_
  exact dq_retI (some .int) (by decide +kernel) rfl hh
def b312_0 (L : Nat) (xs : Nat → Int32) (zf : Value) (D : dD) (w : Nat) (o0 : Option Nat) (h : rm_H) : Option dR :=
  (dgI L xs h 26 [15] o0).bind fun x1 =>
  (dgI L xs h 26 [15] o0).bind fun x5 =>
  (dpF h 26 [15] o0 (.int (x5 + 1))).bind fun h7 =>
  (dgR L xs h7 28 [15] o0).bind fun p9 =>
  (dgR L xs h7 7 [15] o0).bind fun p11 =>
  (dgI L xs h7 56 [15] o0).bind fun x13 =>
  (daI L xs h7 p11 x13).bind fun x15 =>
  (dsI h7 p9 x1 x15).bind fun h17 =>
  (dgR L xs h17 27 [15] o0).bind fun p19 =>
  (dsI h17 p19 x1 5).bind fun h21 =>
  (dgR L xs h21 31 [15] o0).bind fun p23 =>
  (dsJ h21 p23 x1 0).bind fun h25 =>
  ((dcV L xs D 303 [15] o0 [.int 23] h25).bind dxI).bind fun x27 =>
  if mx_f1 .eq x27.1 = true then
    ((dcV L xs D 313 [15] o0 [] x27.2).bind dxI).bind fun x32 =>
    if mx_f1 .eq x32.1 = true then
      b312_123 L xs zf D w o0 x1 x32.2
    else
      (dgR L xs x32.2 27 [15] o0).bind fun p37 =>
      (dgR L xs x32.2 8 [15] o0).bind fun p39 =>
      (dgI L xs x32.2 56 [15] o0).bind fun x41 =>
      (daI L xs x32.2 p39 x41).bind fun x43 =>
      (dsI x32.2 p37 x1 (x43 - 18)).bind fun h45 =>
      (dgI L xs h45 56 [15] o0).bind fun x47 =>
      (dpF h45 56 [15] o0 (.int (x47 + 1))).bind fun h49 =>
      b312_123 L xs zf D w o0 x1 h49
  else
    (dgR L xs x27.2 27 [15] o0).bind fun p51 =>
    (dsI x27.2 p51 x1 6).bind fun h53 =>
    (dgR L xs h53 29 [15] o0).bind fun p55 =>
    (dgR L xs h53 7 [15] o0).bind fun p57 =>
    (dgI L xs h53 56 [15] o0).bind fun x59 =>
    (daI L xs h53 p57 x59).bind fun x61 =>
    (dsI h53 p55 x1 x61).bind fun h63 =>
    (dgI L xs h63 56 [15] o0).bind fun x65 =>
    (dpF h63 56 [15] o0 (.int (x65 + 1))).bind fun h67 =>
    drI (some .int) x1 h67
theorem c312_0 {L : Nat} {xs : Nat → Int32} {zf : Value} {D : dD} {w k : Nat} (hD : dO L xs zf D k) (hz : zf.category = 1) : ∀ (o0 : Option Nat) (lv : rm_L) (h : rm_H) (r : dR), rm_get lv 0 = some (va_rf o0) → b312_0 L xs zf D w  o0 h = some r → dq L xs zf ah_M312 0 lv [] h (k + 1) r := by
  intro o0 lv h r G0 hh
  unfold b312_0 at hh
  refine dq_aln 0 1 (by decide +kernel) rfl G0 ?_
  obtain ⟨x1, q2, hh⟩ := db hh
  refine dq_gI 316 26 [15] 4 (by decide +kernel) rfl q2 ?_
  refine dq_isn 1 5 (by decide +kernel) (by decide +kernel) ?_
  have g3 := dg_ne (i := 1) (u := .int x1) (by decide) (Or.inr (drc _)) G0
  have g4 := dg_eq (lv) 1 (.int x1)
  refine dq_aln 0 6 (by decide +kernel) rfl g3 ?_
  refine dq_dup 7 (by decide +kernel) rfl ?_
  obtain ⟨x5, q6, hh⟩ := db hh
  refine dq_gI 316 26 [15] 10 (by decide +kernel) rfl q6 ?_
  refine dq_S (.iconst 1) 1 [] 11 _ [.int 1, .int x5, va_rf o0] (by decide +kernel) rfl ?_
  refine dq_S (.iadd) 1 [] 12 _ [.int (x5 + 1), va_rf o0] (by decide +kernel) rfl ?_
  obtain ⟨h7, q8, hh⟩ := db hh
  refine dq_put 316 26 [15] 15 (by decide +kernel) rfl q8 ?_
  refine dq_aln 0 16 (by decide +kernel) rfl g3 ?_
  obtain ⟨p9, q10, hh⟩ := db hh
  refine dq_gR 78 28 [15] 19 (by decide +kernel) rfl q10 ?_
  refine dq_iln 1 20 (by decide +kernel) rfl g4 ?_
  refine dq_aln 0 21 (by decide +kernel) rfl g3 ?_
  obtain ⟨p11, q12, hh⟩ := db hh
  refine dq_gR 27 7 [15] 24 (by decide +kernel) rfl q12 ?_
  refine dq_aln 0 25 (by decide +kernel) rfl g3 ?_
  obtain ⟨x13, q14, hh⟩ := db hh
  refine dq_gI 298 56 [15] 28 (by decide +kernel) rfl q14 ?_
  obtain ⟨x15, q16, hh⟩ := db hh
  refine dq_aI 29 (by decide +kernel) rfl q16 ?_
  obtain ⟨h17, q18, hh⟩ := db hh
  refine dq_sI 30 (by decide +kernel) rfl q18 ?_
  refine dq_aln 0 31 (by decide +kernel) rfl g3 ?_
  obtain ⟨p19, q20, hh⟩ := db hh
  refine dq_gR 75 27 [15] 34 (by decide +kernel) rfl q20 ?_
  refine dq_iln 1 35 (by decide +kernel) rfl g4 ?_
  refine dq_S (.iconst 5) 1 [] 36 _ [.int 5, .int x1, va_rf p19] (by decide +kernel) rfl ?_
  obtain ⟨h21, q22, hh⟩ := db hh
  refine dq_sI 37 (by decide +kernel) rfl q22 ?_
  refine dq_aln 0 38 (by decide +kernel) rfl g3 ?_
  obtain ⟨p23, q24, hh⟩ := db hh
  refine dq_gR 87 31 [15] 41 (by decide +kernel) rfl q24 ?_
  refine dq_iln 1 42 (by decide +kernel) rfl g4 ?_
  refine dq_S (.lconst 0) 1 [] 43 _ [.long 0, .int x1, va_rf p23] (by decide +kernel) rfl ?_
  obtain ⟨h25, q26, hh⟩ := db hh
  refine dq_sJ 44 (by decide +kernel) rfl q26 ?_
  refine dq_aln 0 45 (by decide +kernel) rfl g3 ?_
  refine dq_S (.bipush 23) 2 [] 47 _ [.int 23, va_rf o0] (by decide +kernel) rfl ?_
  obtain ⟨x27, q28, hh⟩ := db hh
  obtain ⟨a29, q30, q28⟩ := db q28
  rw [dq_xI q28] at q30
  refine dq_cvi hD 313 303 5 1 [15] o0 [.int 23] [] 50 [.int x27.1] (by decide +kernel) ap_303 ⟨⟨Nat.le_of_ble_eq_true rfl, by decide⟩, rfl, rfl⟩ (dq_ok8 [1, 1] [] (dc_r (dc_i dc_n)) dc_n (by decide +kernel)) (by decide +kernel) rfl q30 rfl ?_
  rcases di hh with ⟨q31, hh⟩ | ⟨q31, hh⟩
  · refine dq_1 .eq 38 true 88 q31 (by decide +kernel) ?_
    refine dq_aln 0 89 (by decide +kernel) rfl g3 ?_
    obtain ⟨x32, q33, hh⟩ := db hh
    obtain ⟨a34, q35, q33⟩ := db q33
    rw [dq_xI q33] at q35
    refine dq_cvi hD 319 313 5 0 [15] o0 [] [] 92 [.int x32.1] (by decide +kernel) ap_313 ⟨⟨Nat.le_of_ble_eq_true rfl, by decide⟩, rfl, rfl⟩ (dq_ok8 [1] [] (dc_r dc_n) dc_n (by decide +kernel)) (by decide +kernel) rfl q35 rfl ?_
    rcases di hh with ⟨q36, hh⟩ | ⟨q36, hh⟩
    · refine dq_1 .eq 31 true 123 q36 (by decide +kernel) ?_
      exact c312_123 hD hz _ _ _ _ _ g3 g4 hh
    · refine dq_1 .eq 31 false 95 q36 (by decide +kernel) ?_
      refine dq_aln 0 96 (by decide +kernel) rfl g3 ?_
      obtain ⟨p37, q38, hh⟩ := db hh
      refine dq_gR 75 27 [15] 99 (by decide +kernel) rfl q38 ?_
      refine dq_iln 1 100 (by decide +kernel) rfl g4 ?_
      refine dq_aln 0 101 (by decide +kernel) rfl g3 ?_
      obtain ⟨p39, q40, hh⟩ := db hh
      refine dq_gR 30 8 [15] 104 (by decide +kernel) rfl q40 ?_
      refine dq_aln 0 105 (by decide +kernel) rfl g3 ?_
      obtain ⟨x41, q42, hh⟩ := db hh
      refine dq_gI 298 56 [15] 108 (by decide +kernel) rfl q42 ?_
      obtain ⟨x43, q44, hh⟩ := db hh
      refine dq_aI 109 (by decide +kernel) rfl q44 ?_
      refine dq_S (.bipush 18) 2 [] 111 _ [.int 18, .int x43, .int x1, va_rf p37] (by decide +kernel) rfl ?_
      refine dq_S (.isub) 1 [] 112 _ [.int (x43 - 18), .int x1, va_rf p37] (by decide +kernel) rfl ?_
      obtain ⟨h45, q46, hh⟩ := db hh
      refine dq_sI 113 (by decide +kernel) rfl q46 ?_
      refine dq_aln 0 114 (by decide +kernel) rfl g3 ?_
      refine dq_dup 115 (by decide +kernel) rfl ?_
      obtain ⟨x47, q48, hh⟩ := db hh
      refine dq_gI 298 56 [15] 118 (by decide +kernel) rfl q48 ?_
      refine dq_S (.iconst 1) 1 [] 119 _ [.int 1, .int x47, va_rf o0] (by decide +kernel) rfl ?_
      refine dq_S (.iadd) 1 [] 120 _ [.int (x47 + 1), va_rf o0] (by decide +kernel) rfl ?_
      obtain ⟨h49, q50, hh⟩ := db hh
      refine dq_put 298 56 [15] 123 (by decide +kernel) rfl q50 ?_
      exact c312_123 hD hz _ _ _ _ _ g3 g4 hh
  · refine dq_1 .eq 38 false 53 q31 (by decide +kernel) ?_
    refine dq_aln 0 54 (by decide +kernel) rfl g3 ?_
    obtain ⟨p51, q52, hh⟩ := db hh
    refine dq_gR 75 27 [15] 57 (by decide +kernel) rfl q52 ?_
    refine dq_iln 1 58 (by decide +kernel) rfl g4 ?_
    refine dq_S (.bipush 6) 2 [] 60 _ [.int 6, .int x1, va_rf p51] (by decide +kernel) rfl ?_
    obtain ⟨h53, q54, hh⟩ := db hh
    refine dq_sI 61 (by decide +kernel) rfl q54 ?_
    refine dq_aln 0 62 (by decide +kernel) rfl g3 ?_
    obtain ⟨p55, q56, hh⟩ := db hh
    refine dq_gR 81 29 [15] 65 (by decide +kernel) rfl q56 ?_
    refine dq_iln 1 66 (by decide +kernel) rfl g4 ?_
    refine dq_aln 0 67 (by decide +kernel) rfl g3 ?_
    obtain ⟨p57, q58, hh⟩ := db hh
    refine dq_gR 27 7 [15] 70 (by decide +kernel) rfl q58 ?_
    refine dq_aln 0 71 (by decide +kernel) rfl g3 ?_
    obtain ⟨x59, q60, hh⟩ := db hh
    refine dq_gI 298 56 [15] 74 (by decide +kernel) rfl q60 ?_
    obtain ⟨x61, q62, hh⟩ := db hh
    refine dq_aI 75 (by decide +kernel) rfl q62 ?_
    obtain ⟨h63, q64, hh⟩ := db hh
    refine dq_sI 76 (by decide +kernel) rfl q64 ?_
    refine dq_aln 0 77 (by decide +kernel) rfl g3 ?_
    refine dq_dup 78 (by decide +kernel) rfl ?_
    obtain ⟨x65, q66, hh⟩ := db hh
    refine dq_gI 298 56 [15] 81 (by decide +kernel) rfl q66 ?_
    refine dq_S (.iconst 1) 1 [] 82 _ [.int 1, .int x65, va_rf o0] (by decide +kernel) rfl ?_
    refine dq_S (.iadd) 1 [] 83 _ [.int (x65 + 1), va_rf o0] (by decide +kernel) rfl ?_
    obtain ⟨h67, q68, hh⟩ := db hh
    refine dq_put 298 56 [15] 86 (by decide +kernel) rfl q68 ?_
    refine dq_iln 1 87 (by decide +kernel) rfl g4 ?_
    exact dq_retI (some .int) (by decide +kernel) rfl hh
def f312 (L : Nat) (xs : Nat → Int32) (zf : Value) (D : dD) (w : Nat) (As : List Value) (h : rm_H) : Option dR := match As with
  | [v0] => (rm_rf v0).bind fun o0 => b312_0 L xs zf D w o0 h
  | _ => none
theorem d312 {L : Nat} {xs : Nat → Int32} {zf : Value} {D : dD} {w k : Nat} (hD : dO L xs zf D k) (hz : zf.category = 1) (As : List Value) (h : rm_H) (r : dR) (hh : f312 L xs zf D w As h = some r) : dq L xs zf ah_M312 0 (lv_args 0 As) [] h (k + 1) r := by
  unfold f312 at hh
  split at hh
  · obtain ⟨o0, e0, hb0⟩ := db hh
    have e0 := rm_rf_v _ _ e0
    subst e0
    refine c312_0 hD hz _ _ _ _ ?_ hb0
    all_goals (simp only [la_r, la_i, la_j]; rfl)
  · cases hh
def b313_53 (L : Nat) (xs : Nat → Int32) (zf : Value) (D : dD) (w : Nat) (s0 : Int32) (h : rm_H) : Option dR :=
  drI (some .boolean) s0 h
theorem c313_53 {L : Nat} {xs : Nat → Int32} {zf : Value} {D : dD} {w k : Nat} (hD : dO L xs zf D k) (hz : zf.category = 1) : ∀ (s0 : Int32) (lv : rm_L) (h : rm_H) (r : dR), b313_53 L xs zf D w  s0 h = some r → dq L xs zf ah_M313 53 lv [.int s0] h (k + 1) r := by
  intro s0 lv h r hh
  unfold b313_53 at hh
  exact dq_retI (some .boolean) (by decide +kernel) rfl hh
def b313_52 (L : Nat) (xs : Nat → Int32) (zf : Value) (D : dD) (w : Nat) (h : rm_H) : Option dR :=
  b313_53 L xs zf D w 0 h
theorem c313_52 {L : Nat} {xs : Nat → Int32} {zf : Value} {D : dD} {w k : Nat} (hD : dO L xs zf D k) (hz : zf.category = 1) : ∀ (lv : rm_L) (h : rm_H) (r : dR), b313_52 L xs zf D w  h = some r → dq L xs zf ah_M313 52 lv [] h (k + 1) r := by
  intro lv h r hh
  unfold b313_52 at hh
  refine dq_S (.iconst 0) 1 [] 53 _ [.int 0] (by decide +kernel) rfl ?_
  exact c313_53 hD hz _ _ _ _  hh
def b313_0 (L : Nat) (xs : Nat → Int32) (zf : Value) (D : dD) (w : Nat) (o0 : Option Nat) (h : rm_H) : Option dR :=
  (dgI L xs h 57 [15] o0).bind fun x1 =>
  if mx_f1 .ne x1 = true then
    b313_52 L xs zf D w h
  else
    (dgR L xs h 6 [15] o0).bind fun p4 =>
    (dgI L xs h 56 [15] o0).bind fun x6 =>
    (daI L xs h p4 x6).bind fun x8 =>
    if mx_f2 .ne x8 2 = true then
      b313_52 L xs zf D w h
    else
      (dgR L xs h 8 [15] o0).bind fun p11 =>
      (dgI L xs h 56 [15] o0).bind fun x13 =>
      (daI L xs h p11 x13).bind fun x15 =>
      if mx_f2 .lt x15 18 = true then
        b313_52 L xs zf D w h
      else
        (dgR L xs h 8 [15] o0).bind fun p18 =>
        (dgI L xs h 56 [15] o0).bind fun x20 =>
        (daI L xs h p18 x20).bind fun x22 =>
        if mx_f2 .gt x22 22 = true then
          b313_52 L xs zf D w h
        else
          b313_53 L xs zf D w 1 h
theorem c313_0 {L : Nat} {xs : Nat → Int32} {zf : Value} {D : dD} {w k : Nat} (hD : dO L xs zf D k) (hz : zf.category = 1) : ∀ (o0 : Option Nat) (lv : rm_L) (h : rm_H) (r : dR), rm_get lv 0 = some (va_rf o0) → b313_0 L xs zf D w  o0 h = some r → dq L xs zf ah_M313 0 lv [] h (k + 1) r := by
  intro o0 lv h r G0 hh
  unfold b313_0 at hh
  refine dq_aln 0 1 (by decide +kernel) rfl G0 ?_
  obtain ⟨x1, q2, hh⟩ := db hh
  refine dq_gI 295 57 [15] 4 (by decide +kernel) rfl q2 ?_
  rcases di hh with ⟨q3, hh⟩ | ⟨q3, hh⟩
  · refine dq_1 .ne 48 true 52 q3 (by decide +kernel) ?_
    exact c313_52 hD hz  _ _ _  hh
  · refine dq_1 .ne 48 false 7 q3 (by decide +kernel) ?_
    refine dq_aln 0 8 (by decide +kernel) rfl G0 ?_
    obtain ⟨p4, q5, hh⟩ := db hh
    refine dq_gR 24 6 [15] 11 (by decide +kernel) rfl q5 ?_
    refine dq_aln 0 12 (by decide +kernel) rfl G0 ?_
    obtain ⟨x6, q7, hh⟩ := db hh
    refine dq_gI 298 56 [15] 15 (by decide +kernel) rfl q7 ?_
    obtain ⟨x8, q9, hh⟩ := db hh
    refine dq_aI 16 (by decide +kernel) rfl q9 ?_
    refine dq_S (.iconst 2) 1 [] 17 _ [.int 2, .int x8] (by decide +kernel) rfl ?_
    rcases di hh with ⟨q10, hh⟩ | ⟨q10, hh⟩
    · refine dq_2 .ne 35 true 52 q10 (by decide +kernel) ?_
      exact c313_52 hD hz  _ _ _  hh
    · refine dq_2 .ne 35 false 20 q10 (by decide +kernel) ?_
      refine dq_aln 0 21 (by decide +kernel) rfl G0 ?_
      obtain ⟨p11, q12, hh⟩ := db hh
      refine dq_gR 30 8 [15] 24 (by decide +kernel) rfl q12 ?_
      refine dq_aln 0 25 (by decide +kernel) rfl G0 ?_
      obtain ⟨x13, q14, hh⟩ := db hh
      refine dq_gI 298 56 [15] 28 (by decide +kernel) rfl q14 ?_
      obtain ⟨x15, q16, hh⟩ := db hh
      refine dq_aI 29 (by decide +kernel) rfl q16 ?_
      refine dq_S (.bipush 18) 2 [] 31 _ [.int 18, .int x15] (by decide +kernel) rfl ?_
      rcases di hh with ⟨q17, hh⟩ | ⟨q17, hh⟩
      · refine dq_2 .lt 21 true 52 q17 (by decide +kernel) ?_
        exact c313_52 hD hz  _ _ _  hh
      · refine dq_2 .lt 21 false 34 q17 (by decide +kernel) ?_
        refine dq_aln 0 35 (by decide +kernel) rfl G0 ?_
        obtain ⟨p18, q19, hh⟩ := db hh
        refine dq_gR 30 8 [15] 38 (by decide +kernel) rfl q19 ?_
        refine dq_aln 0 39 (by decide +kernel) rfl G0 ?_
        obtain ⟨x20, q21, hh⟩ := db hh
        refine dq_gI 298 56 [15] 42 (by decide +kernel) rfl q21 ?_
        obtain ⟨x22, q23, hh⟩ := db hh
        refine dq_aI 43 (by decide +kernel) rfl q23 ?_
        refine dq_S (.bipush 22) 2 [] 45 _ [.int 22, .int x22] (by decide +kernel) rfl ?_
        rcases di hh with ⟨q24, hh⟩ | ⟨q24, hh⟩
        · refine dq_2 .gt 7 true 52 q24 (by decide +kernel) ?_
          exact c313_52 hD hz  _ _ _  hh
        · refine dq_2 .gt 7 false 48 q24 (by decide +kernel) ?_
          refine dq_S (.iconst 1) 1 [] 49 _ [.int 1] (by decide +kernel) rfl ?_
          refine dq_S (.goto 4) 3 [] 53 _ [.int 1] (by decide +kernel) rfl ?_
          exact c313_53 hD hz _ _ _ _  hh
def f313 (L : Nat) (xs : Nat → Int32) (zf : Value) (D : dD) (w : Nat) (As : List Value) (h : rm_H) : Option dR := match As with
  | [v0] => (rm_rf v0).bind fun o0 => b313_0 L xs zf D w o0 h
  | _ => none
theorem d313 {L : Nat} {xs : Nat → Int32} {zf : Value} {D : dD} {w k : Nat} (hD : dO L xs zf D k) (hz : zf.category = 1) (As : List Value) (h : rm_H) (r : dR) (hh : f313 L xs zf D w As h = some r) : dq L xs zf ah_M313 0 (lv_args 0 As) [] h (k + 1) r := by
  unfold f313 at hh
  split at hh
  · obtain ⟨o0, e0, hb0⟩ := db hh
    have e0 := rm_rf_v _ _ e0
    subst e0
    refine c313_0 hD hz _ _ _ _ ?_ hb0
    all_goals (simp only [la_r, la_i, la_j]; rfl)
  · cases hh
def b314_228 (L : Nat) (xs : Nat → Int32) (zf : Value) (D : dD) (w : Nat) (o0 : Option Nat) (i3 : Int32) (h : rm_H) : Option dR :=
  (dgI L xs h 52 [15] o0).bind fun x1 =>
  (dgR L xs h 50 [15] o0).bind fun p3 =>
  (daI L xs h p3 i3).bind fun x5 =>
  (dpF h 59 [15] o0 (.int (x1 - x5))).bind fun h7 =>
  (dgR L xs h7 7 [15] o0).bind fun p9 =>
  (dgI L xs h7 56 [15] o0).bind fun x11 =>
  (daI L xs h7 p9 x11).bind fun x13 =>
  ((dcV L xs D 316 [15] o0 [.int 31, .int x13] h7).bind dxI).bind fun x15 =>
  (dgR L xs x15.2 12 [15] o0).bind fun p22 =>
  ((dcV L xs D 317 [15] o0 [.int 1] x15.2).bind dxI).bind fun x24 =>
  (dsI x24.2 p22 x15.1 x24.1).bind fun h28 =>
  (dgR L xs h28 16 [15] o0).bind fun p30 =>
  (dgR L xs h28 12 [15] o0).bind fun p32 =>
  (daI L xs h28 p32 x15.1).bind fun x34 =>
  (dsI h28 p30 x34 x15.1).bind fun h36 =>
  (dgR L xs h36 21 [15] o0).bind fun p38 =>
  (dsI h36 p38 x15.1 i3).bind fun h40 =>
  (dgR L xs h40 49 [15] o0).bind fun p42 =>
  (dsI h40 p42 i3 x15.1).bind fun h44 =>
  some (none, h44)
theorem c314_228 {L : Nat} {xs : Nat → Int32} {zf : Value} {D : dD} {w k : Nat} (hD : dO L xs zf D k) (hz : zf.category = 1) : ∀ (o0 : Option Nat) (i3 : Int32) (lv : rm_L) (h : rm_H) (r : dR), rm_get lv 0 = some (va_rf o0) → rm_get lv 3 = some (.int i3) → b314_228 L xs zf D w  o0 i3 h = some r → dq L xs zf ah_M314 228 lv [] h (k + 1) r := by
  intro o0 i3 lv h r G0 G3 hh
  unfold b314_228 at hh
  refine dq_aln 0 229 (by decide +kernel) rfl G0 ?_
  refine dq_aln 0 230 (by decide +kernel) rfl G0 ?_
  obtain ⟨x1, q2, hh⟩ := db hh
  refine dq_gI 351 52 [15] 233 (by decide +kernel) rfl q2 ?_
  refine dq_aln 0 234 (by decide +kernel) rfl G0 ?_
  obtain ⟨p3, q4, hh⟩ := db hh
  refine dq_gR 136 50 [15] 237 (by decide +kernel) rfl q4 ?_
  refine dq_iln 3 238 (by decide +kernel) rfl G3 ?_
  obtain ⟨x5, q6, hh⟩ := db hh
  refine dq_aI 239 (by decide +kernel) rfl q6 ?_
  refine dq_S (.isub) 1 [] 240 _ [.int (x1 - x5), va_rf o0] (by decide +kernel) rfl ?_
  obtain ⟨h7, q8, hh⟩ := db hh
  refine dq_put 357 59 [15] 243 (by decide +kernel) rfl q8 ?_
  refine dq_aln 0 244 (by decide +kernel) rfl G0 ?_
  refine dq_S (.bipush 31) 2 [] 246 _ [.int 31, va_rf o0] (by decide +kernel) rfl ?_
  refine dq_aln 0 247 (by decide +kernel) rfl G0 ?_
  obtain ⟨p9, q10, hh⟩ := db hh
  refine dq_gR 27 7 [15] 250 (by decide +kernel) rfl q10 ?_
  refine dq_aln 0 251 (by decide +kernel) rfl G0 ?_
  obtain ⟨x11, q12, hh⟩ := db hh
  refine dq_gI 298 56 [15] 254 (by decide +kernel) rfl q12 ?_
  obtain ⟨x13, q14, hh⟩ := db hh
  refine dq_aI 255 (by decide +kernel) rfl q14 ?_
  obtain ⟨x15, q16, hh⟩ := db hh
  obtain ⟨a17, q18, q16⟩ := db q16
  rw [dq_xI q16] at q18
  refine dq_cvi hD 360 316 5 2 [15] o0 [.int 31, .int x13] [] 258 [.int x15.1] (by decide +kernel) ap_316 ⟨⟨Nat.le_of_ble_eq_true rfl, by decide⟩, rfl, rfl⟩ (dq_ok8 [1, 1, 1] [] (dc_r (dc_i (dc_i dc_n))) dc_n (by decide +kernel)) (by decide +kernel) rfl q18 rfl ?_
  refine dq_is 4 260 (by decide +kernel) (by decide +kernel) ?_
  have g19 := dg_ne (i := 4) (u := .int x15.1) (by decide) (Or.inl (by decide)) G0
  have g20 := dg_ne (i := 4) (u := .int x15.1) (by decide) (Or.inr rfl) G3
  have g21 := dg_eq (lv) 4 (.int x15.1)
  refine dq_aln 0 261 (by decide +kernel) rfl g19 ?_
  obtain ⟨p22, q23, hh⟩ := db hh
  refine dq_gR 39 12 [15] 264 (by decide +kernel) rfl q23 ?_
  refine dq_il 4 266 (by decide +kernel) rfl g21 ?_
  refine dq_aln 0 267 (by decide +kernel) rfl g19 ?_
  refine dq_S (.iconst 1) 1 [] 268 _ [.int 1, va_rf o0, .int x15.1, va_rf p22] (by decide +kernel) rfl ?_
  obtain ⟨x24, q25, hh⟩ := db hh
  obtain ⟨a26, q27, q25⟩ := db q25
  rw [dq_xI q25] at q27
  refine dq_cvi hD 364 317 5 1 [15] o0 [.int 1] [.int x15.1, va_rf p22] 271 [.int x24.1, .int x15.1, va_rf p22] (by decide +kernel) ap_317 ⟨⟨Nat.le_of_ble_eq_true rfl, by decide⟩, rfl, rfl⟩ (dq_ok8 [1, 1] [1, 1] (dc_r (dc_i dc_n)) (dc_i (dc_r dc_n)) (by decide +kernel)) (by decide +kernel) rfl q27 rfl ?_
  obtain ⟨h28, q29, hh⟩ := db hh
  refine dq_sI 272 (by decide +kernel) rfl q29 ?_
  refine dq_aln 0 273 (by decide +kernel) rfl g19 ?_
  obtain ⟨p30, q31, hh⟩ := db hh
  refine dq_gR 51 16 [15] 276 (by decide +kernel) rfl q31 ?_
  refine dq_aln 0 277 (by decide +kernel) rfl g19 ?_
  obtain ⟨p32, q33, hh⟩ := db hh
  refine dq_gR 39 12 [15] 280 (by decide +kernel) rfl q33 ?_
  refine dq_il 4 282 (by decide +kernel) rfl g21 ?_
  obtain ⟨x34, q35, hh⟩ := db hh
  refine dq_aI 283 (by decide +kernel) rfl q35 ?_
  refine dq_il 4 285 (by decide +kernel) rfl g21 ?_
  obtain ⟨h36, q37, hh⟩ := db hh
  refine dq_sI 286 (by decide +kernel) rfl q37 ?_
  refine dq_aln 0 287 (by decide +kernel) rfl g19 ?_
  obtain ⟨p38, q39, hh⟩ := db hh
  refine dq_gR 66 21 [15] 290 (by decide +kernel) rfl q39 ?_
  refine dq_il 4 292 (by decide +kernel) rfl g21 ?_
  refine dq_iln 3 293 (by decide +kernel) rfl g20 ?_
  obtain ⟨h40, q41, hh⟩ := db hh
  refine dq_sI 294 (by decide +kernel) rfl q41 ?_
  refine dq_aln 0 295 (by decide +kernel) rfl g19 ?_
  obtain ⟨p42, q43, hh⟩ := db hh
  refine dq_gR 133 49 [15] 298 (by decide +kernel) rfl q43 ?_
  refine dq_iln 3 299 (by decide +kernel) rfl g20 ?_
  refine dq_il 4 301 (by decide +kernel) rfl g21 ?_
  obtain ⟨h44, q45, hh⟩ := db hh
  refine dq_sI 302 (by decide +kernel) rfl q45 ?_
  cases hh
  exact dq_ret0 (by decide +kernel) rfl
def b314_178 (L : Nat) (xs : Nat → Int32) (zf : Value) (D : dD) (w : Nat) (o0 : Option Nat) (i2 : Int32) (i3 : Int32) (h : rm_H) : Option dR :=
  (dgR L xs h 50 [15] o0).bind fun p1 =>
  (dgI L xs h 52 [15] o0).bind fun x3 =>
  (dsI h p1 i3 x3).bind fun h5 =>
  ((dcV L xs D 315 [15] o0 [] h5).bind dxV).bind fun h7 =>
  (dgR L xs h7 50 [15] o0).bind fun p11 =>
  (dgI L xs h7 52 [15] o0).bind fun x13 =>
  (dsI h7 p11 (i3 + 1) x13).bind fun h15 =>
  if mx_f2 .ne i2 1 = true then
    b314_228 L xs zf D w o0 i3 h15
  else
    ((dcV L xs D 309 [15] o0 [.int 58] h15).bind dxI).bind fun x18 =>
    if mx_f1 .eq x18.1 = true then
      b314_228 L xs zf D w o0 i3 x18.2
    else
      (dgR L xs x18.2 48 [15] o0).bind fun p23 =>
      ((dcV L xs D 312 [15] o0 [] x18.2).bind dxI).bind fun x25 =>
      (dsI x25.2 p23 i3 x25.1).bind fun h29 =>
      b314_228 L xs zf D w o0 i3 h29
theorem c314_178 {L : Nat} {xs : Nat → Int32} {zf : Value} {D : dD} {w k : Nat} (hD : dO L xs zf D k) (hz : zf.category = 1) : ∀ (o0 : Option Nat) (i2 : Int32) (i3 : Int32) (lv : rm_L) (h : rm_H) (r : dR), rm_get lv 0 = some (va_rf o0) → rm_get lv 2 = some (.int i2) → rm_get lv 3 = some (.int i3) → b314_178 L xs zf D w  o0 i2 i3 h = some r → dq L xs zf ah_M314 178 lv [] h (k + 1) r := by
  intro o0 i2 i3 lv h r G0 G2 G3 hh
  unfold b314_178 at hh
  refine dq_aln 0 179 (by decide +kernel) rfl G0 ?_
  obtain ⟨p1, q2, hh⟩ := db hh
  refine dq_gR 136 50 [15] 182 (by decide +kernel) rfl q2 ?_
  refine dq_iln 3 183 (by decide +kernel) rfl G3 ?_
  refine dq_aln 0 184 (by decide +kernel) rfl G0 ?_
  obtain ⟨x3, q4, hh⟩ := db hh
  refine dq_gI 351 52 [15] 187 (by decide +kernel) rfl q4 ?_
  obtain ⟨h5, q6, hh⟩ := db hh
  refine dq_sI 188 (by decide +kernel) rfl q6 ?_
  refine dq_aln 0 189 (by decide +kernel) rfl G0 ?_
  obtain ⟨h7, q8, hh⟩ := db hh
  obtain ⟨a9, q10, q8⟩ := db q8
  rw [dq_xV q8] at q10
  refine dq_cvi hD 354 315 5 0 [15] o0 [] [] 192 [] (by decide +kernel) ap_315 ⟨⟨Nat.le_of_ble_eq_true rfl, by decide⟩, rfl, rfl⟩ (dq_ok8 [1] [] (dc_r dc_n) dc_n (by decide +kernel)) (by decide +kernel) rfl q10 rfl ?_
  refine dq_aln 0 193 (by decide +kernel) rfl G0 ?_
  obtain ⟨p11, q12, hh⟩ := db hh
  refine dq_gR 136 50 [15] 196 (by decide +kernel) rfl q12 ?_
  refine dq_iln 3 197 (by decide +kernel) rfl G3 ?_
  refine dq_S (.iconst 1) 1 [] 198 _ [.int 1, .int i3, va_rf p11] (by decide +kernel) rfl ?_
  refine dq_S (.iadd) 1 [] 199 _ [.int (i3 + 1), va_rf p11] (by decide +kernel) rfl ?_
  refine dq_aln 0 200 (by decide +kernel) rfl G0 ?_
  obtain ⟨x13, q14, hh⟩ := db hh
  refine dq_gI 351 52 [15] 203 (by decide +kernel) rfl q14 ?_
  obtain ⟨h15, q16, hh⟩ := db hh
  refine dq_sI 204 (by decide +kernel) rfl q16 ?_
  refine dq_iln 2 205 (by decide +kernel) rfl G2 ?_
  refine dq_S (.iconst 1) 1 [] 206 _ [.int 1, .int i2] (by decide +kernel) rfl ?_
  rcases di hh with ⟨q17, hh⟩ | ⟨q17, hh⟩
  · refine dq_2 .ne 22 true 228 q17 (by decide +kernel) ?_
    exact c314_228 hD hz _ _ _ _ _ G0 G3 hh
  · refine dq_2 .ne 22 false 209 q17 (by decide +kernel) ?_
    refine dq_aln 0 210 (by decide +kernel) rfl G0 ?_
    refine dq_S (.bipush 58) 2 [] 212 _ [.int 58, va_rf o0] (by decide +kernel) rfl ?_
    obtain ⟨x18, q19, hh⟩ := db hh
    obtain ⟨a20, q21, q19⟩ := db q19
    rw [dq_xI q19] at q21
    refine dq_cvi hD 307 309 5 1 [15] o0 [.int 58] [] 215 [.int x18.1] (by decide +kernel) ap_309 ⟨⟨Nat.le_of_ble_eq_true rfl, by decide⟩, rfl, rfl⟩ (dq_ok8 [1, 1] [] (dc_r (dc_i dc_n)) dc_n (by decide +kernel)) (by decide +kernel) rfl q21 rfl ?_
    rcases di hh with ⟨q22, hh⟩ | ⟨q22, hh⟩
    · refine dq_1 .eq 13 true 228 q22 (by decide +kernel) ?_
      exact c314_228 hD hz _ _ _ _ _ G0 G3 hh
    · refine dq_1 .eq 13 false 218 q22 (by decide +kernel) ?_
      refine dq_aln 0 219 (by decide +kernel) rfl G0 ?_
      obtain ⟨p23, q24, hh⟩ := db hh
      refine dq_gR 130 48 [15] 222 (by decide +kernel) rfl q24 ?_
      refine dq_iln 3 223 (by decide +kernel) rfl G3 ?_
      refine dq_aln 0 224 (by decide +kernel) rfl G0 ?_
      obtain ⟨x25, q26, hh⟩ := db hh
      obtain ⟨a27, q28, q26⟩ := db q26
      rw [dq_xI q26] at q28
      refine dq_cvi hD 348 312 5 0 [15] o0 [] [.int i3, va_rf p23] 227 [.int x25.1, .int i3, va_rf p23] (by decide +kernel) ap_312 ⟨⟨Nat.le_of_ble_eq_true rfl, by decide⟩, rfl, rfl⟩ (dq_ok8 [1] [1, 1] (dc_r dc_n) (dc_i (dc_r dc_n)) (by decide +kernel)) (by decide +kernel) rfl q28 rfl ?_
      obtain ⟨h29, q30, hh⟩ := db hh
      refine dq_sI 228 (by decide +kernel) rfl q30 ?_
      exact c314_228 hD hz _ _ _ _ _ G0 G3 hh
def b314_141 (L : Nat) (xs : Nat → Int32) (zf : Value) (D : dD) (w : Nat) (o0 : Option Nat) (i2 : Int32) (i3 : Int32) (h : rm_H) : Option dR :=
  if mx_f1 .le i2 = true then
    b314_178 L xs zf D w o0 i2 i3 h
  else
    ((dcV L xs D 307 [15] o0 [.int 1] h).bind dxI).bind fun x2 =>
    (dgR L xs x2.2 51 [15] o0).bind fun p10 =>
    (dgR L xs x2.2 9 [15] o0).bind fun p12 =>
    (daJ L xs x2.2 p12 x2.1).bind fun y14 =>
    (dsJ x2.2 p10 i3 y14).bind fun h16 =>
    (dgR L xs h16 47 [15] o0).bind fun p18 =>
    (dgR L xs h16 7 [15] o0).bind fun p20 =>
    (daI L xs h16 p20 x2.1).bind fun x22 =>
    (dsI h16 p18 i3 x22).bind fun h24 =>
    b314_178 L xs zf D w o0 i2 i3 h24
theorem c314_141 {L : Nat} {xs : Nat → Int32} {zf : Value} {D : dD} {w k : Nat} (hD : dO L xs zf D k) (hz : zf.category = 1) : ∀ (o0 : Option Nat) (i2 : Int32) (i3 : Int32) (lv : rm_L) (h : rm_H) (r : dR), rm_get lv 0 = some (va_rf o0) → rm_get lv 2 = some (.int i2) → rm_get lv 3 = some (.int i3) → b314_141 L xs zf D w  o0 i2 i3 h = some r → dq L xs zf ah_M314 141 lv [] h (k + 1) r := by
  intro o0 i2 i3 lv h r G0 G2 G3 hh
  unfold b314_141 at hh
  refine dq_iln 2 142 (by decide +kernel) rfl G2 ?_
  rcases di hh with ⟨q1, hh⟩ | ⟨q1, hh⟩
  · refine dq_1 .le 36 true 178 q1 (by decide +kernel) ?_
    exact c314_178 hD hz _ _ _ _ _ _ G0 G2 G3 hh
  · refine dq_1 .le 36 false 145 q1 (by decide +kernel) ?_
    refine dq_aln 0 146 (by decide +kernel) rfl G0 ?_
    refine dq_S (.iconst 1) 1 [] 147 _ [.int 1, va_rf o0] (by decide +kernel) rfl ?_
    obtain ⟨x2, q3, hh⟩ := db hh
    obtain ⟨a4, q5, q3⟩ := db q3
    rw [dq_xI q3] at q5
    refine dq_cvi hD 323 307 5 1 [15] o0 [.int 1] [] 150 [.int x2.1] (by decide +kernel) ap_307 ⟨⟨Nat.le_of_ble_eq_true rfl, by decide⟩, rfl, rfl⟩ (dq_ok8 [1, 1] [] (dc_r (dc_i dc_n)) dc_n (by decide +kernel)) (by decide +kernel) rfl q5 rfl ?_
    refine dq_is 4 152 (by decide +kernel) (by decide +kernel) ?_
    have g6 := dg_ne (i := 4) (u := .int x2.1) (by decide) (Or.inl (by decide)) G0
    have g7 := dg_ne (i := 4) (u := .int x2.1) (by decide) (Or.inl (by decide)) G2
    have g8 := dg_ne (i := 4) (u := .int x2.1) (by decide) (Or.inr rfl) G3
    have g9 := dg_eq (lv) 4 (.int x2.1)
    refine dq_aln 0 153 (by decide +kernel) rfl g6 ?_
    obtain ⟨p10, q11, hh⟩ := db hh
    refine dq_gR 139 51 [15] 156 (by decide +kernel) rfl q11 ?_
    refine dq_iln 3 157 (by decide +kernel) rfl g8 ?_
    refine dq_aln 0 158 (by decide +kernel) rfl g6 ?_
    obtain ⟨p12, q13, hh⟩ := db hh
    refine dq_gR 33 9 [15] 161 (by decide +kernel) rfl q13 ?_
    refine dq_il 4 163 (by decide +kernel) rfl g9 ?_
    obtain ⟨y14, q15, hh⟩ := db hh
    refine dq_aJ 164 (by decide +kernel) rfl q15 ?_
    obtain ⟨h16, q17, hh⟩ := db hh
    refine dq_sJ 165 (by decide +kernel) rfl q17 ?_
    refine dq_aln 0 166 (by decide +kernel) rfl g6 ?_
    obtain ⟨p18, q19, hh⟩ := db hh
    refine dq_gR 127 47 [15] 169 (by decide +kernel) rfl q19 ?_
    refine dq_iln 3 170 (by decide +kernel) rfl g8 ?_
    refine dq_aln 0 171 (by decide +kernel) rfl g6 ?_
    obtain ⟨p20, q21, hh⟩ := db hh
    refine dq_gR 27 7 [15] 174 (by decide +kernel) rfl q21 ?_
    refine dq_il 4 176 (by decide +kernel) rfl g9 ?_
    obtain ⟨x22, q23, hh⟩ := db hh
    refine dq_aI 177 (by decide +kernel) rfl q23 ?_
    obtain ⟨h24, q25, hh⟩ := db hh
    refine dq_sI 178 (by decide +kernel) rfl q25 ?_
    exact c314_178 hD hz _ _ _ _ _ _ g6 g7 g8 hh
def b314_91 (L : Nat) (xs : Nat → Int32) (zf : Value) (D : dD) (w : Nat) (o0 : Option Nat) (i2 : Int32) (i3 : Int32) (h : rm_H) : Option dR :=
  (dgR L xs h 45 [15] o0).bind fun p1 =>
  (dgR L xs h 8 [15] o0).bind fun p3 =>
  (dgI L xs h 56 [15] o0).bind fun x5 =>
  (daI L xs h p3 x5).bind fun x7 =>
  (dsI h p1 i3 (x7 - 18)).bind fun h9 =>
  (dgR L xs h9 46 [15] o0).bind fun p11 =>
  (dgR L xs h9 7 [15] o0).bind fun p13 =>
  (dgI L xs h9 56 [15] o0).bind fun x15 =>
  (daI L xs h9 p13 x15).bind fun x17 =>
  (dsI h9 p11 i3 x17).bind fun h19 =>
  (dgI L xs h19 57 [15] o0).bind fun x21 =>
  if mx_f1 .ne x21 = true then
    b314_141 L xs zf D w o0 i2 i3 h19
  else
    (dgI L xs h19 56 [15] o0).bind fun x24 =>
    (dpF h19 56 [15] o0 (.int (x24 + 1))).bind fun h26 =>
    b314_141 L xs zf D w o0 i2 i3 h26
theorem c314_91 {L : Nat} {xs : Nat → Int32} {zf : Value} {D : dD} {w k : Nat} (hD : dO L xs zf D k) (hz : zf.category = 1) : ∀ (o0 : Option Nat) (i2 : Int32) (i3 : Int32) (lv : rm_L) (h : rm_H) (r : dR), rm_get lv 0 = some (va_rf o0) → rm_get lv 2 = some (.int i2) → rm_get lv 3 = some (.int i3) → b314_91 L xs zf D w  o0 i2 i3 h = some r → dq L xs zf ah_M314 91 lv [] h (k + 1) r := by
  intro o0 i2 i3 lv h r G0 G2 G3 hh
  unfold b314_91 at hh
  refine dq_aln 0 92 (by decide +kernel) rfl G0 ?_
  obtain ⟨p1, q2, hh⟩ := db hh
  refine dq_gR 121 45 [15] 95 (by decide +kernel) rfl q2 ?_
  refine dq_iln 3 96 (by decide +kernel) rfl G3 ?_
  refine dq_aln 0 97 (by decide +kernel) rfl G0 ?_
  obtain ⟨p3, q4, hh⟩ := db hh
  refine dq_gR 30 8 [15] 100 (by decide +kernel) rfl q4 ?_
  refine dq_aln 0 101 (by decide +kernel) rfl G0 ?_
  obtain ⟨x5, q6, hh⟩ := db hh
  refine dq_gI 298 56 [15] 104 (by decide +kernel) rfl q6 ?_
  obtain ⟨x7, q8, hh⟩ := db hh
  refine dq_aI 105 (by decide +kernel) rfl q8 ?_
  refine dq_S (.bipush 18) 2 [] 107 _ [.int 18, .int x7, .int i3, va_rf p1] (by decide +kernel) rfl ?_
  refine dq_S (.isub) 1 [] 108 _ [.int (x7 - 18), .int i3, va_rf p1] (by decide +kernel) rfl ?_
  obtain ⟨h9, q10, hh⟩ := db hh
  refine dq_sI 109 (by decide +kernel) rfl q10 ?_
  refine dq_aln 0 110 (by decide +kernel) rfl G0 ?_
  obtain ⟨p11, q12, hh⟩ := db hh
  refine dq_gR 124 46 [15] 113 (by decide +kernel) rfl q12 ?_
  refine dq_iln 3 114 (by decide +kernel) rfl G3 ?_
  refine dq_aln 0 115 (by decide +kernel) rfl G0 ?_
  obtain ⟨p13, q14, hh⟩ := db hh
  refine dq_gR 27 7 [15] 118 (by decide +kernel) rfl q14 ?_
  refine dq_aln 0 119 (by decide +kernel) rfl G0 ?_
  obtain ⟨x15, q16, hh⟩ := db hh
  refine dq_gI 298 56 [15] 122 (by decide +kernel) rfl q16 ?_
  obtain ⟨x17, q18, hh⟩ := db hh
  refine dq_aI 123 (by decide +kernel) rfl q18 ?_
  obtain ⟨h19, q20, hh⟩ := db hh
  refine dq_sI 124 (by decide +kernel) rfl q20 ?_
  refine dq_aln 0 125 (by decide +kernel) rfl G0 ?_
  obtain ⟨x21, q22, hh⟩ := db hh
  refine dq_gI 295 57 [15] 128 (by decide +kernel) rfl q22 ?_
  rcases di hh with ⟨q23, hh⟩ | ⟨q23, hh⟩
  · refine dq_1 .ne 13 true 141 q23 (by decide +kernel) ?_
    exact c314_141 hD hz _ _ _ _ _ _ G0 G2 G3 hh
  · refine dq_1 .ne 13 false 131 q23 (by decide +kernel) ?_
    refine dq_aln 0 132 (by decide +kernel) rfl G0 ?_
    refine dq_dup 133 (by decide +kernel) rfl ?_
    obtain ⟨x24, q25, hh⟩ := db hh
    refine dq_gI 298 56 [15] 136 (by decide +kernel) rfl q25 ?_
    refine dq_S (.iconst 1) 1 [] 137 _ [.int 1, .int x24, va_rf o0] (by decide +kernel) rfl ?_
    refine dq_S (.iadd) 1 [] 138 _ [.int (x24 + 1), va_rf o0] (by decide +kernel) rfl ?_
    obtain ⟨h26, q27, hh⟩ := db hh
    refine dq_put 298 56 [15] 141 (by decide +kernel) rfl q27 ?_
    exact c314_141 hD hz _ _ _ _ _ _ G0 G2 G3 hh
def b314_0 (L : Nat) (xs : Nat → Int32) (zf : Value) (D : dD) (w : Nat) (o0 : Option Nat) (i1 : Int32) (i2 : Int32) (h : rm_H) : Option dR :=
  (dgI L xs h 42 [15] o0).bind fun x1 =>
  (dgI L xs h 42 [15] o0).bind fun x7 =>
  (dpF h 42 [15] o0 (.int (x7 + 1))).bind fun h9 =>
  (dgR L xs h9 43 [15] o0).bind fun p11 =>
  (dsI h9 p11 x1 i2).bind fun h13 =>
  (dgR L xs h13 44 [15] o0).bind fun p15 =>
  (dsI h13 p15 x1 i1).bind fun h17 =>
  (dgR L xs h17 45 [15] o0).bind fun p19 =>
  (dsI h17 p19 x1 (-1)).bind fun h21 =>
  (dgR L xs h21 48 [15] o0).bind fun p23 =>
  (dsI h21 p23 x1 (-1)).bind fun h25 =>
  (dgR L xs h25 51 [15] o0).bind fun p27 =>
  (dsJ h25 p27 x1 0).bind fun h29 =>
  (dgR L xs h29 47 [15] o0).bind fun p31 =>
  (dgR L xs h29 7 [15] o0).bind fun p33 =>
  (dgI L xs h29 56 [15] o0).bind fun x35 =>
  (daI L xs h29 p33 x35).bind fun x37 =>
  (dsI h29 p31 x1 x37).bind fun h39 =>
  (dgI L xs h39 56 [15] o0).bind fun x41 =>
  (dpF h39 56 [15] o0 (.int (x41 + 1))).bind fun h43 =>
  if mx_f2 .ne i2 1 = true then
    b314_141 L xs zf D w o0 i2 x1 h43
  else
    ((dcV L xs D 313 [15] o0 [] h43).bind dxI).bind fun x46 =>
    if mx_f1 .ne x46.1 = true then
      b314_91 L xs zf D w o0 i2 x1 x46.2
    else
      ((dcV L xs D 304 [15] o0 [] x46.2).bind dxV).bind fun h51 =>
      b314_91 L xs zf D w o0 i2 x1 h51
theorem c314_0 {L : Nat} {xs : Nat → Int32} {zf : Value} {D : dD} {w k : Nat} (hD : dO L xs zf D k) (hz : zf.category = 1) : ∀ (o0 : Option Nat) (i1 : Int32) (i2 : Int32) (lv : rm_L) (h : rm_H) (r : dR), rm_get lv 0 = some (va_rf o0) → rm_get lv 1 = some (.int i1) → rm_get lv 2 = some (.int i2) → b314_0 L xs zf D w  o0 i1 i2 h = some r → dq L xs zf ah_M314 0 lv [] h (k + 1) r := by
  intro o0 i1 i2 lv h r G0 G1 G2 hh
  unfold b314_0 at hh
  refine dq_aln 0 1 (by decide +kernel) rfl G0 ?_
  obtain ⟨x1, q2, hh⟩ := db hh
  refine dq_gI 342 42 [15] 4 (by decide +kernel) rfl q2 ?_
  refine dq_isn 3 5 (by decide +kernel) (by decide +kernel) ?_
  have g3 := dg_ne (i := 3) (u := .int x1) (by decide) (Or.inl (by decide)) G0
  have g4 := dg_ne (i := 3) (u := .int x1) (by decide) (Or.inl (by decide)) G1
  have g5 := dg_ne (i := 3) (u := .int x1) (by decide) (Or.inr rfl) G2
  have g6 := dg_eq (lv) 3 (.int x1)
  refine dq_aln 0 6 (by decide +kernel) rfl g3 ?_
  refine dq_dup 7 (by decide +kernel) rfl ?_
  obtain ⟨x7, q8, hh⟩ := db hh
  refine dq_gI 342 42 [15] 10 (by decide +kernel) rfl q8 ?_
  refine dq_S (.iconst 1) 1 [] 11 _ [.int 1, .int x7, va_rf o0] (by decide +kernel) rfl ?_
  refine dq_S (.iadd) 1 [] 12 _ [.int (x7 + 1), va_rf o0] (by decide +kernel) rfl ?_
  obtain ⟨h9, q10, hh⟩ := db hh
  refine dq_put 342 42 [15] 15 (by decide +kernel) rfl q10 ?_
  refine dq_aln 0 16 (by decide +kernel) rfl g3 ?_
  obtain ⟨p11, q12, hh⟩ := db hh
  refine dq_gR 115 43 [15] 19 (by decide +kernel) rfl q12 ?_
  refine dq_iln 3 20 (by decide +kernel) rfl g6 ?_
  refine dq_iln 2 21 (by decide +kernel) rfl g5 ?_
  obtain ⟨h13, q14, hh⟩ := db hh
  refine dq_sI 22 (by decide +kernel) rfl q14 ?_
  refine dq_aln 0 23 (by decide +kernel) rfl g3 ?_
  obtain ⟨p15, q16, hh⟩ := db hh
  refine dq_gR 118 44 [15] 26 (by decide +kernel) rfl q16 ?_
  refine dq_iln 3 27 (by decide +kernel) rfl g6 ?_
  refine dq_iln 1 28 (by decide +kernel) rfl g4 ?_
  obtain ⟨h17, q18, hh⟩ := db hh
  refine dq_sI 29 (by decide +kernel) rfl q18 ?_
  refine dq_aln 0 30 (by decide +kernel) rfl g3 ?_
  obtain ⟨p19, q20, hh⟩ := db hh
  refine dq_gR 121 45 [15] 33 (by decide +kernel) rfl q20 ?_
  refine dq_iln 3 34 (by decide +kernel) rfl g6 ?_
  refine dq_S (.iconst (-1)) 1 [] 35 _ [.int (-1), .int x1, va_rf p19] (by decide +kernel) rfl ?_
  obtain ⟨h21, q22, hh⟩ := db hh
  refine dq_sI 36 (by decide +kernel) rfl q22 ?_
  refine dq_aln 0 37 (by decide +kernel) rfl g3 ?_
  obtain ⟨p23, q24, hh⟩ := db hh
  refine dq_gR 130 48 [15] 40 (by decide +kernel) rfl q24 ?_
  refine dq_iln 3 41 (by decide +kernel) rfl g6 ?_
  refine dq_S (.iconst (-1)) 1 [] 42 _ [.int (-1), .int x1, va_rf p23] (by decide +kernel) rfl ?_
  obtain ⟨h25, q26, hh⟩ := db hh
  refine dq_sI 43 (by decide +kernel) rfl q26 ?_
  refine dq_aln 0 44 (by decide +kernel) rfl g3 ?_
  obtain ⟨p27, q28, hh⟩ := db hh
  refine dq_gR 139 51 [15] 47 (by decide +kernel) rfl q28 ?_
  refine dq_iln 3 48 (by decide +kernel) rfl g6 ?_
  refine dq_S (.lconst 0) 1 [] 49 _ [.long 0, .int x1, va_rf p27] (by decide +kernel) rfl ?_
  obtain ⟨h29, q30, hh⟩ := db hh
  refine dq_sJ 50 (by decide +kernel) rfl q30 ?_
  refine dq_aln 0 51 (by decide +kernel) rfl g3 ?_
  obtain ⟨p31, q32, hh⟩ := db hh
  refine dq_gR 127 47 [15] 54 (by decide +kernel) rfl q32 ?_
  refine dq_iln 3 55 (by decide +kernel) rfl g6 ?_
  refine dq_aln 0 56 (by decide +kernel) rfl g3 ?_
  obtain ⟨p33, q34, hh⟩ := db hh
  refine dq_gR 27 7 [15] 59 (by decide +kernel) rfl q34 ?_
  refine dq_aln 0 60 (by decide +kernel) rfl g3 ?_
  obtain ⟨x35, q36, hh⟩ := db hh
  refine dq_gI 298 56 [15] 63 (by decide +kernel) rfl q36 ?_
  obtain ⟨x37, q38, hh⟩ := db hh
  refine dq_aI 64 (by decide +kernel) rfl q38 ?_
  obtain ⟨h39, q40, hh⟩ := db hh
  refine dq_sI 65 (by decide +kernel) rfl q40 ?_
  refine dq_aln 0 66 (by decide +kernel) rfl g3 ?_
  refine dq_dup 67 (by decide +kernel) rfl ?_
  obtain ⟨x41, q42, hh⟩ := db hh
  refine dq_gI 298 56 [15] 70 (by decide +kernel) rfl q42 ?_
  refine dq_S (.iconst 1) 1 [] 71 _ [.int 1, .int x41, va_rf o0] (by decide +kernel) rfl ?_
  refine dq_S (.iadd) 1 [] 72 _ [.int (x41 + 1), va_rf o0] (by decide +kernel) rfl ?_
  obtain ⟨h43, q44, hh⟩ := db hh
  refine dq_put 298 56 [15] 75 (by decide +kernel) rfl q44 ?_
  refine dq_iln 2 76 (by decide +kernel) rfl g5 ?_
  refine dq_S (.iconst 1) 1 [] 77 _ [.int 1, .int i2] (by decide +kernel) rfl ?_
  rcases di hh with ⟨q45, hh⟩ | ⟨q45, hh⟩
  · refine dq_2 .ne 64 true 141 q45 (by decide +kernel) ?_
    exact c314_141 hD hz _ _ _ _ _ _ g3 g5 g6 hh
  · refine dq_2 .ne 64 false 80 q45 (by decide +kernel) ?_
    refine dq_aln 0 81 (by decide +kernel) rfl g3 ?_
    obtain ⟨x46, q47, hh⟩ := db hh
    obtain ⟨a48, q49, q47⟩ := db q47
    rw [dq_xI q47] at q49
    refine dq_cvi hD 319 313 5 0 [15] o0 [] [] 84 [.int x46.1] (by decide +kernel) ap_313 ⟨⟨Nat.le_of_ble_eq_true rfl, by decide⟩, rfl, rfl⟩ (dq_ok8 [1] [] (dc_r dc_n) dc_n (by decide +kernel)) (by decide +kernel) rfl q49 rfl ?_
    rcases di hh with ⟨q50, hh⟩ | ⟨q50, hh⟩
    · refine dq_1 .ne 7 true 91 q50 (by decide +kernel) ?_
      exact c314_91 hD hz _ _ _ _ _ _ g3 g5 g6 hh
    · refine dq_1 .ne 7 false 87 q50 (by decide +kernel) ?_
      refine dq_aln 0 88 (by decide +kernel) rfl g3 ?_
      obtain ⟨h51, q52, hh⟩ := db hh
      obtain ⟨a53, q54, q52⟩ := db q52
      rw [dq_xV q52] at q54
      refine dq_cvi hD 310 304 5 0 [15] o0 [] [] 91 [] (by decide +kernel) ap_304 ⟨⟨Nat.le_of_ble_eq_true rfl, by decide⟩, rfl, rfl⟩ (dq_ok8 [1] [] (dc_r dc_n) dc_n (by decide +kernel)) (by decide +kernel) rfl q54 rfl ?_
      exact c314_91 hD hz _ _ _ _ _ _ g3 g5 g6 hh
def f314 (L : Nat) (xs : Nat → Int32) (zf : Value) (D : dD) (w : Nat) (As : List Value) (h : rm_H) : Option dR := match As with
  | [v0, .int i1, .int i2] => (rm_rf v0).bind fun o0 => b314_0 L xs zf D w o0 i1 i2 h
  | _ => none
theorem d314 {L : Nat} {xs : Nat → Int32} {zf : Value} {D : dD} {w k : Nat} (hD : dO L xs zf D k) (hz : zf.category = 1) (As : List Value) (h : rm_H) (r : dR) (hh : f314 L xs zf D w As h = some r) : dq L xs zf ah_M314 0 (lv_args 0 As) [] h (k + 1) r := by
  unfold f314 at hh
  split at hh
  · obtain ⟨o0, e0, hb0⟩ := db hh
    have e0 := rm_rf_v _ _ e0
    subst e0
    refine c314_0 hD hz _ _ _ _ _ _ ?_ ?_ ?_ hb0
    all_goals (simp only [la_r, la_i, la_j]; rfl)
  · cases hh
def b315_52 (L : Nat) (xs : Nat → Int32) (zf : Value) (D : dD) (w : Nat) (K33 : Option Nat → Int32 → Int32 → rm_H → Option dR) (o0 : Option Nat) (i2 : Int32) (h : rm_H) : Option dR :=
  ((dcV L xs D 307 [15] o0 [.int 1] h).bind dxI).bind fun x1 =>
  ((dcV L xs D 308 [15] o0 [.int 58] x1.2).bind dxV).bind fun h8 =>
  (dgI L xs h8 57 [15] o0).bind fun x12 =>
  if mx_f1 .le x12 = true then
    (dgR L xs h8 53 [15] o0).bind fun p15 =>
    (dgI L xs h8 52 [15] o0).bind fun x17 =>
    (dgR L xs h8 9 [15] o0).bind fun p19 =>
    (daJ L xs h8 p19 x1.1).bind fun y21 =>
    (dsJ h8 p15 x17 y21).bind fun h23 =>
    (dgR L xs h23 54 [15] o0).bind fun p25 =>
    (dgI L xs h23 52 [15] o0).bind fun x27 =>
    (dgR L xs h23 7 [15] o0).bind fun p29 =>
    (daI L xs h23 p29 x1.1).bind fun x31 =>
    (dsI h23 p25 x27 x31).bind fun h33 =>
    (dgR L xs h33 55 [15] o0).bind fun p35 =>
    (dgI L xs h33 52 [15] o0).bind fun x37 =>
    ((dcV L xs D 312 [15] o0 [] h33).bind dxI).bind fun x39 =>
    (dsI x39.2 p35 x37 x39.1).bind fun h43 =>
    (dgI L xs h43 52 [15] o0).bind fun x45 =>
    (dpF h43 52 [15] o0 (.int (x45 + 1))).bind fun h47 =>
    ((dcV L xs D 309 [15] o0 [.int 44] h47).bind dxI).bind fun x49 =>
    K33 o0 x49.1 i2 x49.2
  else
    some (none, h8)
theorem c315_52 {L : Nat} {xs : Nat → Int32} {zf : Value} {D : dD} {w k : Nat} {K33 : Option Nat → Int32 → Int32 → rm_H → Option dR} (hD : dO L xs zf D k) (hz : zf.category = 1) (hK33 : ∀ (o0 : Option Nat) (i1 : Int32) (i2 : Int32) (lv : rm_L) (h : rm_H) (r : dR), rm_get lv 0 = some (va_rf o0) → rm_get lv 1 = some (.int i1) → rm_get lv 2 = some (.int i2) → K33 o0 i1 i2 h = some r → dq L xs zf ah_M315 33 lv [] h (k + 1) r) : ∀ (o0 : Option Nat) (i2 : Int32) (lv : rm_L) (h : rm_H) (r : dR), rm_get lv 0 = some (va_rf o0) → rm_get lv 2 = some (.int i2) → b315_52 L xs zf D w K33  o0 i2 h = some r → dq L xs zf ah_M315 52 lv [] h (k + 1) r := by
  intro o0 i2 lv h r G0 G2 hh
  unfold b315_52 at hh
  refine dq_aln 0 53 (by decide +kernel) rfl G0 ?_
  refine dq_S (.iconst 1) 1 [] 54 _ [.int 1, va_rf o0] (by decide +kernel) rfl ?_
  obtain ⟨x1, q2, hh⟩ := db hh
  obtain ⟨a3, q4, q2⟩ := db q2
  rw [dq_xI q2] at q4
  refine dq_cvi hD 323 307 5 1 [15] o0 [.int 1] [] 57 [.int x1.1] (by decide +kernel) ap_307 ⟨⟨Nat.le_of_ble_eq_true rfl, by decide⟩, rfl, rfl⟩ (dq_ok8 [1, 1] [] (dc_r (dc_i dc_n)) dc_n (by decide +kernel)) (by decide +kernel) rfl q4 rfl ?_
  refine dq_isn 3 58 (by decide +kernel) (by decide +kernel) ?_
  have g5 := dg_ne (i := 3) (u := .int x1.1) (by decide) (Or.inl (by decide)) G0
  have g6 := dg_ne (i := 3) (u := .int x1.1) (by decide) (Or.inr rfl) G2
  have g7 := dg_eq (lv) 3 (.int x1.1)
  refine dq_aln 0 59 (by decide +kernel) rfl g5 ?_
  refine dq_S (.bipush 58) 2 [] 61 _ [.int 58, va_rf o0] (by decide +kernel) rfl ?_
  obtain ⟨h8, q9, hh⟩ := db hh
  obtain ⟨a10, q11, q9⟩ := db q9
  rw [dq_xV q9] at q11
  refine dq_cvi hD 335 308 5 1 [15] o0 [.int 58] [] 64 [] (by decide +kernel) ap_308 ⟨⟨Nat.le_of_ble_eq_true rfl, by decide⟩, rfl, rfl⟩ (dq_ok8 [1, 1] [] (dc_r (dc_i dc_n)) dc_n (by decide +kernel)) (by decide +kernel) rfl q11 rfl ?_
  refine dq_aln 0 65 (by decide +kernel) rfl g5 ?_
  obtain ⟨x12, q13, hh⟩ := db hh
  refine dq_gI 295 57 [15] 68 (by decide +kernel) rfl q13 ?_
  rcases di hh with ⟨q14, hh⟩ | ⟨q14, hh⟩
  · refine dq_1 .le 4 true 72 q14 (by decide +kernel) ?_
    refine dq_aln 0 73 (by decide +kernel) rfl g5 ?_
    obtain ⟨p15, q16, hh⟩ := db hh
    refine dq_gR 142 53 [15] 76 (by decide +kernel) rfl q16 ?_
    refine dq_aln 0 77 (by decide +kernel) rfl g5 ?_
    obtain ⟨x17, q18, hh⟩ := db hh
    refine dq_gI 351 52 [15] 80 (by decide +kernel) rfl q18 ?_
    refine dq_aln 0 81 (by decide +kernel) rfl g5 ?_
    obtain ⟨p19, q20, hh⟩ := db hh
    refine dq_gR 33 9 [15] 84 (by decide +kernel) rfl q20 ?_
    refine dq_iln 3 85 (by decide +kernel) rfl g7 ?_
    obtain ⟨y21, q22, hh⟩ := db hh
    refine dq_aJ 86 (by decide +kernel) rfl q22 ?_
    obtain ⟨h23, q24, hh⟩ := db hh
    refine dq_sJ 87 (by decide +kernel) rfl q24 ?_
    refine dq_aln 0 88 (by decide +kernel) rfl g5 ?_
    obtain ⟨p25, q26, hh⟩ := db hh
    refine dq_gR 145 54 [15] 91 (by decide +kernel) rfl q26 ?_
    refine dq_aln 0 92 (by decide +kernel) rfl g5 ?_
    obtain ⟨x27, q28, hh⟩ := db hh
    refine dq_gI 351 52 [15] 95 (by decide +kernel) rfl q28 ?_
    refine dq_aln 0 96 (by decide +kernel) rfl g5 ?_
    obtain ⟨p29, q30, hh⟩ := db hh
    refine dq_gR 27 7 [15] 99 (by decide +kernel) rfl q30 ?_
    refine dq_iln 3 100 (by decide +kernel) rfl g7 ?_
    obtain ⟨x31, q32, hh⟩ := db hh
    refine dq_aI 101 (by decide +kernel) rfl q32 ?_
    obtain ⟨h33, q34, hh⟩ := db hh
    refine dq_sI 102 (by decide +kernel) rfl q34 ?_
    refine dq_aln 0 103 (by decide +kernel) rfl g5 ?_
    obtain ⟨p35, q36, hh⟩ := db hh
    refine dq_gR 148 55 [15] 106 (by decide +kernel) rfl q36 ?_
    refine dq_aln 0 107 (by decide +kernel) rfl g5 ?_
    obtain ⟨x37, q38, hh⟩ := db hh
    refine dq_gI 351 52 [15] 110 (by decide +kernel) rfl q38 ?_
    refine dq_aln 0 111 (by decide +kernel) rfl g5 ?_
    obtain ⟨x39, q40, hh⟩ := db hh
    obtain ⟨a41, q42, q40⟩ := db q40
    rw [dq_xI q40] at q42
    refine dq_cvi hD 348 312 5 0 [15] o0 [] [.int x37, va_rf p35] 114 [.int x39.1, .int x37, va_rf p35] (by decide +kernel) ap_312 ⟨⟨Nat.le_of_ble_eq_true rfl, by decide⟩, rfl, rfl⟩ (dq_ok8 [1] [1, 1] (dc_r dc_n) (dc_i (dc_r dc_n)) (by decide +kernel)) (by decide +kernel) rfl q42 rfl ?_
    obtain ⟨h43, q44, hh⟩ := db hh
    refine dq_sI 115 (by decide +kernel) rfl q44 ?_
    refine dq_aln 0 116 (by decide +kernel) rfl g5 ?_
    refine dq_dup 117 (by decide +kernel) rfl ?_
    obtain ⟨x45, q46, hh⟩ := db hh
    refine dq_gI 351 52 [15] 120 (by decide +kernel) rfl q46 ?_
    refine dq_S (.iconst 1) 1 [] 121 _ [.int 1, .int x45, va_rf o0] (by decide +kernel) rfl ?_
    refine dq_S (.iadd) 1 [] 122 _ [.int (x45 + 1), va_rf o0] (by decide +kernel) rfl ?_
    obtain ⟨h47, q48, hh⟩ := db hh
    refine dq_put 351 52 [15] 125 (by decide +kernel) rfl q48 ?_
    refine dq_aln 0 126 (by decide +kernel) rfl g5 ?_
    refine dq_S (.bipush 44) 2 [] 128 _ [.int 44, va_rf o0] (by decide +kernel) rfl ?_
    obtain ⟨x49, q50, hh⟩ := db hh
    obtain ⟨a51, q52, q50⟩ := db q50
    rw [dq_xI q50] at q52
    refine dq_cvi hD 307 309 5 1 [15] o0 [.int 44] [] 131 [.int x49.1] (by decide +kernel) ap_309 ⟨⟨Nat.le_of_ble_eq_true rfl, by decide⟩, rfl, rfl⟩ (dq_ok8 [1, 1] [] (dc_r (dc_i dc_n)) dc_n (by decide +kernel)) (by decide +kernel) rfl q52 rfl ?_
    refine dq_isn 1 132 (by decide +kernel) (by decide +kernel) ?_
    have g53 := dg_ne (i := 1) (u := .int x49.1) (by decide) (Or.inr (drc _)) g5
    have g54 := dg_ne (i := 1) (u := .int x49.1) (by decide) (Or.inl (by decide)) g6
    have g55 := dg_ne (i := 1) (u := .int x49.1) (by decide) (Or.inl (by decide)) g7
    have g56 := dg_eq (rm_set1 (lv) 3 (.int x1.1)) 1 (.int x49.1)
    refine dq_S (.goto (-99)) 3 [] 33 _ [] (by decide +kernel) rfl ?_
    exact hK33 _ _ _ _ _ _ g53 g56 g54 hh
  · refine dq_1 .le 4 false 71 q14 (by decide +kernel) ?_
    cases hh
    exact dq_ret0 (by decide +kernel) rfl
def b315_33 (L : Nat) (xs : Nat → Int32) (zf : Value) (D : dD) (w : Nat) : Nat → Option Nat → Int32 → Int32 → rm_H → Option dR
  | 0, _, _, _, _ => none
  | n + 1, o0, i1, i2, h =>
    if mx_f1 .eq i1 = true then
      ((dcV L xs D 308 [15] o0 [.int 41] h).bind dxV).bind fun h2 =>
      some (none, h2)
    else
      (dgI L xs h 52 [15] o0).bind fun x6 =>
      if mx_f2 .ne (x6 - i2) 6 = true then
        b315_52 L xs zf D w (b315_33 L xs zf D w n) o0 i2 h
      else
        ((dcV L xs D 304 [15] o0 [] h).bind dxV).bind fun h9 =>
        b315_52 L xs zf D w (b315_33 L xs zf D w n) o0 i2 h9
theorem c315_33 {L : Nat} {xs : Nat → Int32} {zf : Value} {D : dD} {w k : Nat} (hD : dO L xs zf D k) (hz : zf.category = 1) : ∀ (n : Nat) (o0 : Option Nat) (i1 : Int32) (i2 : Int32) (lv : rm_L) (h : rm_H) (r : dR), rm_get lv 0 = some (va_rf o0) → rm_get lv 1 = some (.int i1) → rm_get lv 2 = some (.int i2) → b315_33 L xs zf D w n  o0 i1 i2 h = some r → dq L xs zf ah_M315 33 lv [] h (k + 1) r := by
  intro n
  induction n with
  | zero =>
    intro o0 i1 i2 lv h r G0 G1 G2 hh
    cases hh
  | succ n ih =>
    intro o0 i1 i2 lv h r G0 G1 G2 hh
    rw [b315_33] at hh
    refine dq_iln 1 34 (by decide +kernel) rfl G1 ?_
    rcases di hh with ⟨q1, hh⟩ | ⟨q1, hh⟩
    · refine dq_1 .eq 101 true 135 q1 (by decide +kernel) ?_
      refine dq_aln 0 136 (by decide +kernel) rfl G0 ?_
      refine dq_S (.bipush 41) 2 [] 138 _ [.int 41, va_rf o0] (by decide +kernel) rfl ?_
      obtain ⟨h2, q3, hh⟩ := db hh
      obtain ⟨a4, q5, q3⟩ := db q3
      rw [dq_xV q3] at q5
      refine dq_cvi hD 335 308 5 1 [15] o0 [.int 41] [] 141 [] (by decide +kernel) ap_308 ⟨⟨Nat.le_of_ble_eq_true rfl, by decide⟩, rfl, rfl⟩ (dq_ok8 [1, 1] [] (dc_r (dc_i dc_n)) dc_n (by decide +kernel)) (by decide +kernel) rfl q5 rfl ?_
      cases hh
      exact dq_ret0 (by decide +kernel) rfl
    · refine dq_1 .eq 101 false 37 q1 (by decide +kernel) ?_
      refine dq_aln 0 38 (by decide +kernel) rfl G0 ?_
      obtain ⟨x6, q7, hh⟩ := db hh
      refine dq_gI 351 52 [15] 41 (by decide +kernel) rfl q7 ?_
      refine dq_iln 2 42 (by decide +kernel) rfl G2 ?_
      refine dq_S (.isub) 1 [] 43 _ [.int (x6 - i2)] (by decide +kernel) rfl ?_
      refine dq_S (.bipush 6) 2 [] 45 _ [.int 6, .int (x6 - i2)] (by decide +kernel) rfl ?_
      rcases di hh with ⟨q8, hh⟩ | ⟨q8, hh⟩
      · refine dq_2 .ne 7 true 52 q8 (by decide +kernel) ?_
        exact c315_52 hD hz ih _ _ _ _ _ G0 G2 hh
      · refine dq_2 .ne 7 false 48 q8 (by decide +kernel) ?_
        refine dq_aln 0 49 (by decide +kernel) rfl G0 ?_
        obtain ⟨h9, q10, hh⟩ := db hh
        obtain ⟨a11, q12, q10⟩ := db q10
        rw [dq_xV q10] at q12
        refine dq_cvi hD 310 304 5 0 [15] o0 [] [] 52 [] (by decide +kernel) ap_304 ⟨⟨Nat.le_of_ble_eq_true rfl, by decide⟩, rfl, rfl⟩ (dq_ok8 [1] [] (dc_r dc_n) dc_n (by decide +kernel)) (by decide +kernel) rfl q12 rfl ?_
        exact c315_52 hD hz ih _ _ _ _ _ G0 G2 hh
def b315_27 (L : Nat) (xs : Nat → Int32) (zf : Value) (D : dD) (w : Nat) (o0 : Option Nat) (s0 : Int32) (h : rm_H) : Option dR :=
  (dgI L xs h 52 [15] o0).bind fun x3 =>
  b315_33 L xs zf D w w o0 s0 x3 h
theorem c315_27 {L : Nat} {xs : Nat → Int32} {zf : Value} {D : dD} {w k : Nat} (hD : dO L xs zf D k) (hz : zf.category = 1) : ∀ (o0 : Option Nat) (s0 : Int32) (lv : rm_L) (h : rm_H) (r : dR), rm_get lv 0 = some (va_rf o0) → b315_27 L xs zf D w  o0 s0 h = some r → dq L xs zf ah_M315 27 lv [.int s0] h (k + 1) r := by
  intro o0 s0 lv h r G0 hh
  unfold b315_27 at hh
  refine dq_isn 1 28 (by decide +kernel) (by decide +kernel) ?_
  have g1 := dg_ne (i := 1) (u := .int s0) (by decide) (Or.inr (drc _)) G0
  have g2 := dg_eq (lv) 1 (.int s0)
  refine dq_aln 0 29 (by decide +kernel) rfl g1 ?_
  obtain ⟨x3, q4, hh⟩ := db hh
  refine dq_gI 351 52 [15] 32 (by decide +kernel) rfl q4 ?_
  refine dq_isn 2 33 (by decide +kernel) (by decide +kernel) ?_
  have g5 := dg_ne (i := 2) (u := .int x3) (by decide) (Or.inl (by decide)) g1
  have g6 := dg_ne (i := 2) (u := .int x3) (by decide) (Or.inr rfl) g2
  have g7 := dg_eq (rm_set1 (lv) 1 (.int s0)) 2 (.int x3)
  exact c315_33 hD hz _ _ _ _ _ _ _ g5 g6 g7 hh
def b315_26 (L : Nat) (xs : Nat → Int32) (zf : Value) (D : dD) (w : Nat) (o0 : Option Nat) (h : rm_H) : Option dR :=
  b315_27 L xs zf D w o0 0 h
theorem c315_26 {L : Nat} {xs : Nat → Int32} {zf : Value} {D : dD} {w k : Nat} (hD : dO L xs zf D k) (hz : zf.category = 1) : ∀ (o0 : Option Nat) (lv : rm_L) (h : rm_H) (r : dR), rm_get lv 0 = some (va_rf o0) → b315_26 L xs zf D w  o0 h = some r → dq L xs zf ah_M315 26 lv [] h (k + 1) r := by
  intro o0 lv h r G0 hh
  unfold b315_26 at hh
  refine dq_S (.iconst 0) 1 [] 27 _ [.int 0] (by decide +kernel) rfl ?_
  exact c315_27 hD hz _ _ _ _ _ G0 hh
def b315_0 (L : Nat) (xs : Nat → Int32) (zf : Value) (D : dD) (w : Nat) (o0 : Option Nat) (h : rm_H) : Option dR :=
  ((dcV L xs D 308 [15] o0 [.int 40] h).bind dxV).bind fun h1 =>
  (dgI L xs h1 57 [15] o0).bind fun x5 =>
  if mx_f1 .ne x5 = true then
    b315_26 L xs zf D w o0 h1
  else
    ((dcV L xs D 310 [15] o0 [.int 41] h1).bind dxI).bind fun x8 =>
    if mx_f1 .ne x8.1 = true then
      b315_26 L xs zf D w o0 x8.2
    else
      b315_27 L xs zf D w o0 1 x8.2
theorem c315_0 {L : Nat} {xs : Nat → Int32} {zf : Value} {D : dD} {w k : Nat} (hD : dO L xs zf D k) (hz : zf.category = 1) : ∀ (o0 : Option Nat) (lv : rm_L) (h : rm_H) (r : dR), rm_get lv 0 = some (va_rf o0) → b315_0 L xs zf D w  o0 h = some r → dq L xs zf ah_M315 0 lv [] h (k + 1) r := by
  intro o0 lv h r G0 hh
  unfold b315_0 at hh
  refine dq_aln 0 1 (by decide +kernel) rfl G0 ?_
  refine dq_S (.bipush 40) 2 [] 3 _ [.int 40, va_rf o0] (by decide +kernel) rfl ?_
  obtain ⟨h1, q2, hh⟩ := db hh
  obtain ⟨a3, q4, q2⟩ := db q2
  rw [dq_xV q2] at q4
  refine dq_cvi hD 335 308 5 1 [15] o0 [.int 40] [] 6 [] (by decide +kernel) ap_308 ⟨⟨Nat.le_of_ble_eq_true rfl, by decide⟩, rfl, rfl⟩ (dq_ok8 [1, 1] [] (dc_r (dc_i dc_n)) dc_n (by decide +kernel)) (by decide +kernel) rfl q4 rfl ?_
  refine dq_aln 0 7 (by decide +kernel) rfl G0 ?_
  obtain ⟨x5, q6, hh⟩ := db hh
  refine dq_gI 295 57 [15] 10 (by decide +kernel) rfl q6 ?_
  rcases di hh with ⟨q7, hh⟩ | ⟨q7, hh⟩
  · refine dq_1 .ne 16 true 26 q7 (by decide +kernel) ?_
    exact c315_26 hD hz _ _ _ _ G0 hh
  · refine dq_1 .ne 16 false 13 q7 (by decide +kernel) ?_
    refine dq_aln 0 14 (by decide +kernel) rfl G0 ?_
    refine dq_S (.bipush 41) 2 [] 16 _ [.int 41, va_rf o0] (by decide +kernel) rfl ?_
    obtain ⟨x8, q9, hh⟩ := db hh
    obtain ⟨a10, q11, q9⟩ := db q9
    rw [dq_xI q9] at q11
    refine dq_cvi hD 304 310 5 1 [15] o0 [.int 41] [] 19 [.int x8.1] (by decide +kernel) ap_310 ⟨⟨Nat.le_of_ble_eq_true rfl, by decide⟩, rfl, rfl⟩ (dq_ok8 [1, 1] [] (dc_r (dc_i dc_n)) dc_n (by decide +kernel)) (by decide +kernel) rfl q11 rfl ?_
    rcases di hh with ⟨q12, hh⟩ | ⟨q12, hh⟩
    · refine dq_1 .ne 7 true 26 q12 (by decide +kernel) ?_
      exact c315_26 hD hz _ _ _ _ G0 hh
    · refine dq_1 .ne 7 false 22 q12 (by decide +kernel) ?_
      refine dq_S (.iconst 1) 1 [] 23 _ [.int 1] (by decide +kernel) rfl ?_
      refine dq_S (.goto 4) 3 [] 27 _ [.int 1] (by decide +kernel) rfl ?_
      exact c315_27 hD hz _ _ _ _ _ G0 hh
def f315 (L : Nat) (xs : Nat → Int32) (zf : Value) (D : dD) (w : Nat) (As : List Value) (h : rm_H) : Option dR := match As with
  | [v0] => (rm_rf v0).bind fun o0 => b315_0 L xs zf D w o0 h
  | _ => none
theorem d315 {L : Nat} {xs : Nat → Int32} {zf : Value} {D : dD} {w k : Nat} (hD : dO L xs zf D k) (hz : zf.category = 1) (As : List Value) (h : rm_H) (r : dR) (hh : f315 L xs zf D w As h = some r) : dq L xs zf ah_M315 0 (lv_args 0 As) [] h (k + 1) r := by
  unfold f315 at hh
  split at hh
  · obtain ⟨o0, e0, hb0⟩ := db hh
    have e0 := rm_rf_v _ _ e0
    subst e0
    refine c315_0 hD hz _ _ _ _ ?_ hb0
    all_goals (simp only [la_r, la_i, la_j]; rfl)
  · cases hh
def b316_0 (L : Nat) (xs : Nat → Int32) (zf : Value) (D : dD) (w : Nat) (o0 : Option Nat) (i1 : Int32) (i2 : Int32) (h : rm_H) : Option dR :=
  (dgI L xs h 10 [15] o0).bind fun x1 =>
  (dgI L xs h 10 [15] o0).bind fun x7 =>
  (dpF h 10 [15] o0 (.int (x7 + 1))).bind fun h9 =>
  (dgR L xs h9 11 [15] o0).bind fun p11 =>
  (dsI h9 p11 x1 i1).bind fun h13 =>
  (dgR L xs h13 12 [15] o0).bind fun p15 =>
  (dsI h13 p15 x1 0).bind fun h17 =>
  (dgR L xs h17 13 [15] o0).bind fun p19 =>
  (dsI h17 p19 x1 0).bind fun h21 =>
  (dgR L xs h21 14 [15] o0).bind fun p23 =>
  (dsI h21 p23 x1 0).bind fun h25 =>
  (dgR L xs h25 15 [15] o0).bind fun p27 =>
  (dsI h25 p27 x1 0).bind fun h29 =>
  (dgR L xs h29 16 [15] o0).bind fun p31 =>
  (dsI h29 p31 x1 0).bind fun h33 =>
  (dgR L xs h33 17 [15] o0).bind fun p35 =>
  (dsI h33 p35 x1 i2).bind fun h37 =>
  (dgR L xs h37 18 [15] o0).bind fun p39 =>
  (dsI h37 p39 x1 i2).bind fun h41 =>
  (dgR L xs h41 19 [15] o0).bind fun p43 =>
  (dsI h41 p43 x1 0).bind fun h45 =>
  (dgR L xs h45 20 [15] o0).bind fun p47 =>
  (dsI h45 p47 x1 0).bind fun h49 =>
  (dgR L xs h49 21 [15] o0).bind fun p51 =>
  (dsI h49 p51 x1 (-1)).bind fun h53 =>
  (dgR L xs h53 22 [15] o0).bind fun p55 =>
  (dsI h53 p55 x1 0).bind fun h57 =>
  (dgR L xs h57 23 [15] o0).bind fun p59 =>
  (dsJ h57 p59 x1 0).bind fun h61 =>
  drI (some .int) x1 h61
theorem c316_0 {L : Nat} {xs : Nat → Int32} {zf : Value} {D : dD} {w k : Nat} (hD : dO L xs zf D k) (hz : zf.category = 1) : ∀ (o0 : Option Nat) (i1 : Int32) (i2 : Int32) (lv : rm_L) (h : rm_H) (r : dR), rm_get lv 0 = some (va_rf o0) → rm_get lv 1 = some (.int i1) → rm_get lv 2 = some (.int i2) → b316_0 L xs zf D w  o0 i1 i2 h = some r → dq L xs zf ah_M316 0 lv [] h (k + 1) r := by
  intro o0 i1 i2 lv h r G0 G1 G2 hh
  unfold b316_0 at hh
  refine dq_aln 0 1 (by decide +kernel) rfl G0 ?_
  obtain ⟨x1, q2, hh⟩ := db hh
  refine dq_gI 292 10 [15] 4 (by decide +kernel) rfl q2 ?_
  refine dq_isn 3 5 (by decide +kernel) (by decide +kernel) ?_
  have g3 := dg_ne (i := 3) (u := .int x1) (by decide) (Or.inl (by decide)) G0
  have g4 := dg_ne (i := 3) (u := .int x1) (by decide) (Or.inl (by decide)) G1
  have g5 := dg_ne (i := 3) (u := .int x1) (by decide) (Or.inr rfl) G2
  have g6 := dg_eq (lv) 3 (.int x1)
  refine dq_aln 0 6 (by decide +kernel) rfl g3 ?_
  refine dq_dup 7 (by decide +kernel) rfl ?_
  obtain ⟨x7, q8, hh⟩ := db hh
  refine dq_gI 292 10 [15] 10 (by decide +kernel) rfl q8 ?_
  refine dq_S (.iconst 1) 1 [] 11 _ [.int 1, .int x7, va_rf o0] (by decide +kernel) rfl ?_
  refine dq_S (.iadd) 1 [] 12 _ [.int (x7 + 1), va_rf o0] (by decide +kernel) rfl ?_
  obtain ⟨h9, q10, hh⟩ := db hh
  refine dq_put 292 10 [15] 15 (by decide +kernel) rfl q10 ?_
  refine dq_aln 0 16 (by decide +kernel) rfl g3 ?_
  obtain ⟨p11, q12, hh⟩ := db hh
  refine dq_gR 36 11 [15] 19 (by decide +kernel) rfl q12 ?_
  refine dq_iln 3 20 (by decide +kernel) rfl g6 ?_
  refine dq_iln 1 21 (by decide +kernel) rfl g4 ?_
  obtain ⟨h13, q14, hh⟩ := db hh
  refine dq_sI 22 (by decide +kernel) rfl q14 ?_
  refine dq_aln 0 23 (by decide +kernel) rfl g3 ?_
  obtain ⟨p15, q16, hh⟩ := db hh
  refine dq_gR 39 12 [15] 26 (by decide +kernel) rfl q16 ?_
  refine dq_iln 3 27 (by decide +kernel) rfl g6 ?_
  refine dq_S (.iconst 0) 1 [] 28 _ [.int 0, .int x1, va_rf p15] (by decide +kernel) rfl ?_
  obtain ⟨h17, q18, hh⟩ := db hh
  refine dq_sI 29 (by decide +kernel) rfl q18 ?_
  refine dq_aln 0 30 (by decide +kernel) rfl g3 ?_
  obtain ⟨p19, q20, hh⟩ := db hh
  refine dq_gR 42 13 [15] 33 (by decide +kernel) rfl q20 ?_
  refine dq_iln 3 34 (by decide +kernel) rfl g6 ?_
  refine dq_S (.iconst 0) 1 [] 35 _ [.int 0, .int x1, va_rf p19] (by decide +kernel) rfl ?_
  obtain ⟨h21, q22, hh⟩ := db hh
  refine dq_sI 36 (by decide +kernel) rfl q22 ?_
  refine dq_aln 0 37 (by decide +kernel) rfl g3 ?_
  obtain ⟨p23, q24, hh⟩ := db hh
  refine dq_gR 45 14 [15] 40 (by decide +kernel) rfl q24 ?_
  refine dq_iln 3 41 (by decide +kernel) rfl g6 ?_
  refine dq_S (.iconst 0) 1 [] 42 _ [.int 0, .int x1, va_rf p23] (by decide +kernel) rfl ?_
  obtain ⟨h25, q26, hh⟩ := db hh
  refine dq_sI 43 (by decide +kernel) rfl q26 ?_
  refine dq_aln 0 44 (by decide +kernel) rfl g3 ?_
  obtain ⟨p27, q28, hh⟩ := db hh
  refine dq_gR 48 15 [15] 47 (by decide +kernel) rfl q28 ?_
  refine dq_iln 3 48 (by decide +kernel) rfl g6 ?_
  refine dq_S (.iconst 0) 1 [] 49 _ [.int 0, .int x1, va_rf p27] (by decide +kernel) rfl ?_
  obtain ⟨h29, q30, hh⟩ := db hh
  refine dq_sI 50 (by decide +kernel) rfl q30 ?_
  refine dq_aln 0 51 (by decide +kernel) rfl g3 ?_
  obtain ⟨p31, q32, hh⟩ := db hh
  refine dq_gR 51 16 [15] 54 (by decide +kernel) rfl q32 ?_
  refine dq_iln 3 55 (by decide +kernel) rfl g6 ?_
  refine dq_S (.iconst 0) 1 [] 56 _ [.int 0, .int x1, va_rf p31] (by decide +kernel) rfl ?_
  obtain ⟨h33, q34, hh⟩ := db hh
  refine dq_sI 57 (by decide +kernel) rfl q34 ?_
  refine dq_aln 0 58 (by decide +kernel) rfl g3 ?_
  obtain ⟨p35, q36, hh⟩ := db hh
  refine dq_gR 54 17 [15] 61 (by decide +kernel) rfl q36 ?_
  refine dq_iln 3 62 (by decide +kernel) rfl g6 ?_
  refine dq_iln 2 63 (by decide +kernel) rfl g5 ?_
  obtain ⟨h37, q38, hh⟩ := db hh
  refine dq_sI 64 (by decide +kernel) rfl q38 ?_
  refine dq_aln 0 65 (by decide +kernel) rfl g3 ?_
  obtain ⟨p39, q40, hh⟩ := db hh
  refine dq_gR 57 18 [15] 68 (by decide +kernel) rfl q40 ?_
  refine dq_iln 3 69 (by decide +kernel) rfl g6 ?_
  refine dq_iln 2 70 (by decide +kernel) rfl g5 ?_
  obtain ⟨h41, q42, hh⟩ := db hh
  refine dq_sI 71 (by decide +kernel) rfl q42 ?_
  refine dq_aln 0 72 (by decide +kernel) rfl g3 ?_
  obtain ⟨p43, q44, hh⟩ := db hh
  refine dq_gR 60 19 [15] 75 (by decide +kernel) rfl q44 ?_
  refine dq_iln 3 76 (by decide +kernel) rfl g6 ?_
  refine dq_S (.iconst 0) 1 [] 77 _ [.int 0, .int x1, va_rf p43] (by decide +kernel) rfl ?_
  obtain ⟨h45, q46, hh⟩ := db hh
  refine dq_sI 78 (by decide +kernel) rfl q46 ?_
  refine dq_aln 0 79 (by decide +kernel) rfl g3 ?_
  obtain ⟨p47, q48, hh⟩ := db hh
  refine dq_gR 63 20 [15] 82 (by decide +kernel) rfl q48 ?_
  refine dq_iln 3 83 (by decide +kernel) rfl g6 ?_
  refine dq_S (.iconst 0) 1 [] 84 _ [.int 0, .int x1, va_rf p47] (by decide +kernel) rfl ?_
  obtain ⟨h49, q50, hh⟩ := db hh
  refine dq_sI 85 (by decide +kernel) rfl q50 ?_
  refine dq_aln 0 86 (by decide +kernel) rfl g3 ?_
  obtain ⟨p51, q52, hh⟩ := db hh
  refine dq_gR 66 21 [15] 89 (by decide +kernel) rfl q52 ?_
  refine dq_iln 3 90 (by decide +kernel) rfl g6 ?_
  refine dq_S (.iconst (-1)) 1 [] 91 _ [.int (-1), .int x1, va_rf p51] (by decide +kernel) rfl ?_
  obtain ⟨h53, q54, hh⟩ := db hh
  refine dq_sI 92 (by decide +kernel) rfl q54 ?_
  refine dq_aln 0 93 (by decide +kernel) rfl g3 ?_
  obtain ⟨p55, q56, hh⟩ := db hh
  refine dq_gR 69 22 [15] 96 (by decide +kernel) rfl q56 ?_
  refine dq_iln 3 97 (by decide +kernel) rfl g6 ?_
  refine dq_S (.iconst 0) 1 [] 98 _ [.int 0, .int x1, va_rf p55] (by decide +kernel) rfl ?_
  obtain ⟨h57, q58, hh⟩ := db hh
  refine dq_sI 99 (by decide +kernel) rfl q58 ?_
  refine dq_aln 0 100 (by decide +kernel) rfl g3 ?_
  obtain ⟨p59, q60, hh⟩ := db hh
  refine dq_gR 72 23 [15] 103 (by decide +kernel) rfl q60 ?_
  refine dq_iln 3 104 (by decide +kernel) rfl g6 ?_
  refine dq_S (.lconst 0) 1 [] 105 _ [.long 0, .int x1, va_rf p59] (by decide +kernel) rfl ?_
  obtain ⟨h61, q62, hh⟩ := db hh
  refine dq_sJ 106 (by decide +kernel) rfl q62 ?_
  refine dq_iln 3 107 (by decide +kernel) rfl g6 ?_
  exact dq_retI (some .int) (by decide +kernel) rfl hh
def f316 (L : Nat) (xs : Nat → Int32) (zf : Value) (D : dD) (w : Nat) (As : List Value) (h : rm_H) : Option dR := match As with
  | [v0, .int i1, .int i2] => (rm_rf v0).bind fun o0 => b316_0 L xs zf D w o0 i1 i2 h
  | _ => none
theorem d316 {L : Nat} {xs : Nat → Int32} {zf : Value} {D : dD} {w k : Nat} (hD : dO L xs zf D k) (hz : zf.category = 1) (As : List Value) (h : rm_H) (r : dR) (hh : f316 L xs zf D w As h = some r) : dq L xs zf ah_M316 0 (lv_args 0 As) [] h (k + 1) r := by
  unfold f316 at hh
  split at hh
  · obtain ⟨o0, e0, hb0⟩ := db hh
    have e0 := rm_rf_v _ _ e0
    subst e0
    refine c316_0 hD hz _ _ _ _ _ _ ?_ ?_ ?_ hb0
    all_goals (simp only [la_r, la_i, la_j]; rfl)
  · cases hh
def b317_22 (L : Nat) (xs : Nat → Int32) (zf : Value) (D : dD) (w : Nat) (o0 : Option Nat) (h : rm_H) : Option dR :=
  ((dcV L xs D 304 [15] o0 [] h).bind dxV).bind fun h1 =>
  drI (some .int) 0 h1
theorem c317_22 {L : Nat} {xs : Nat → Int32} {zf : Value} {D : dD} {w k : Nat} (hD : dO L xs zf D k) (hz : zf.category = 1) : ∀ (o0 : Option Nat) (lv : rm_L) (h : rm_H) (r : dR), rm_get lv 0 = some (va_rf o0) → b317_22 L xs zf D w  o0 h = some r → dq L xs zf ah_M317 22 lv [] h (k + 1) r := by
  intro o0 lv h r G0 hh
  unfold b317_22 at hh
  refine dq_aln 0 23 (by decide +kernel) rfl G0 ?_
  obtain ⟨h1, q2, hh⟩ := db hh
  obtain ⟨a3, q4, q2⟩ := db q2
  rw [dq_xV q2] at q4
  refine dq_cvi hD 310 304 5 0 [15] o0 [] [] 26 [] (by decide +kernel) ap_304 ⟨⟨Nat.le_of_ble_eq_true rfl, by decide⟩, rfl, rfl⟩ (dq_ok8 [1] [] (dc_r dc_n) dc_n (by decide +kernel)) (by decide +kernel) rfl q4 rfl ?_
  refine dq_S (.iconst 0) 1 [] 27 _ [.int 0] (by decide +kernel) rfl ?_
  exact dq_retI (some .int) (by decide +kernel) rfl hh
def b317_110 (L : Nat) (xs : Nat → Int32) (zf : Value) (D : dD) (w : Nat) (K56 : Option Nat → Int32 → Int32 → Int32 → rm_H → Option dR) (o0 : Option Nat) (i1 : Int32) (i2 : Int32) (i4 : Int32) (h : rm_H) : Option dR :=
  K56 o0 i1 i2 i4 h
theorem c317_110 {L : Nat} {xs : Nat → Int32} {zf : Value} {D : dD} {w k : Nat} {K56 : Option Nat → Int32 → Int32 → Int32 → rm_H → Option dR} (hD : dO L xs zf D k) (hz : zf.category = 1) (hK56 : ∀ (o0 : Option Nat) (i1 : Int32) (i2 : Int32) (i3 : Int32) (lv : rm_L) (h : rm_H) (r : dR), rm_get lv 0 = some (va_rf o0) → rm_get lv 1 = some (.int i1) → rm_get lv 2 = some (.int i2) → rm_get lv 3 = some (.int i3) → K56 o0 i1 i2 i3 h = some r → dq L xs zf ah_M317 56 lv [] h (k + 1) r) : ∀ (o0 : Option Nat) (i1 : Int32) (i2 : Int32) (i4 : Int32) (lv : rm_L) (h : rm_H) (r : dR), rm_get lv 0 = some (va_rf o0) → rm_get lv 1 = some (.int i1) → rm_get lv 2 = some (.int i2) → rm_get lv 4 = some (.int i4) → b317_110 L xs zf D w K56  o0 i1 i2 i4 h = some r → dq L xs zf ah_M317 110 lv [] h (k + 1) r := by
  intro o0 i1 i2 i4 lv h r G0 G1 G2 G4 hh
  unfold b317_110 at hh
  refine dq_il 4 112 (by decide +kernel) rfl G4 ?_
  refine dq_isn 3 113 (by decide +kernel) (by decide +kernel) ?_
  have g1 := dg_ne (i := 3) (u := .int i4) (by decide) (Or.inl (by decide)) G0
  have g2 := dg_ne (i := 3) (u := .int i4) (by decide) (Or.inl (by decide)) G1
  have g3 := dg_ne (i := 3) (u := .int i4) (by decide) (Or.inr rfl) G2
  have g4 := dg_ne (i := 3) (u := .int i4) (by decide) (Or.inl (by decide)) G4
  have g5 := dg_eq (lv) 3 (.int i4)
  refine dq_S (.goto (-57)) 3 [] 56 _ [] (by decide +kernel) rfl ?_
  exact hK56 _ _ _ _ _ _ _ g1 g2 g3 g5 hh
def b317_116 (L : Nat) (xs : Nat → Int32) (zf : Value) (D : dD) (w : Nat) (o0 : Option Nat) (i2 : Int32) (h : rm_H) : Option dR :=
  (dgR L xs h 22 [15] o0).bind fun p1 =>
  (dgR L xs h 7 [15] o0).bind fun p3 =>
  (dgI L xs h 56 [15] o0).bind fun x5 =>
  (daI L xs h p3 x5).bind fun x7 =>
  (dsI h p1 i2 x7).bind fun h9 =>
  ((dcV L xs D 308 [15] o0 [.int 125] h9).bind dxV).bind fun h11 =>
  drI (some .int) i2 h11
theorem c317_116 {L : Nat} {xs : Nat → Int32} {zf : Value} {D : dD} {w k : Nat} (hD : dO L xs zf D k) (hz : zf.category = 1) : ∀ (o0 : Option Nat) (i2 : Int32) (lv : rm_L) (h : rm_H) (r : dR), rm_get lv 0 = some (va_rf o0) → rm_get lv 2 = some (.int i2) → b317_116 L xs zf D w  o0 i2 h = some r → dq L xs zf ah_M317 116 lv [] h (k + 1) r := by
  intro o0 i2 lv h r G0 G2 hh
  unfold b317_116 at hh
  refine dq_aln 0 117 (by decide +kernel) rfl G0 ?_
  obtain ⟨p1, q2, hh⟩ := db hh
  refine dq_gR 69 22 [15] 120 (by decide +kernel) rfl q2 ?_
  refine dq_iln 2 121 (by decide +kernel) rfl G2 ?_
  refine dq_aln 0 122 (by decide +kernel) rfl G0 ?_
  obtain ⟨p3, q4, hh⟩ := db hh
  refine dq_gR 27 7 [15] 125 (by decide +kernel) rfl q4 ?_
  refine dq_aln 0 126 (by decide +kernel) rfl G0 ?_
  obtain ⟨x5, q6, hh⟩ := db hh
  refine dq_gI 298 56 [15] 129 (by decide +kernel) rfl q6 ?_
  obtain ⟨x7, q8, hh⟩ := db hh
  refine dq_aI 130 (by decide +kernel) rfl q8 ?_
  obtain ⟨h9, q10, hh⟩ := db hh
  refine dq_sI 131 (by decide +kernel) rfl q10 ?_
  refine dq_aln 0 132 (by decide +kernel) rfl G0 ?_
  refine dq_S (.bipush 125) 2 [] 134 _ [.int 125, va_rf o0] (by decide +kernel) rfl ?_
  obtain ⟨h11, q12, hh⟩ := db hh
  obtain ⟨a13, q14, q12⟩ := db q12
  rw [dq_xV q12] at q14
  refine dq_cvi hD 335 308 5 1 [15] o0 [.int 125] [] 137 [] (by decide +kernel) ap_308 ⟨⟨Nat.le_of_ble_eq_true rfl, by decide⟩, rfl, rfl⟩ (dq_ok8 [1, 1] [] (dc_r (dc_i dc_n)) dc_n (by decide +kernel)) (by decide +kernel) rfl q14 rfl ?_
  refine dq_iln 2 138 (by decide +kernel) rfl G2 ?_
  exact dq_retI (some .int) (by decide +kernel) rfl hh
def b317_56 (L : Nat) (xs : Nat → Int32) (zf : Value) (D : dD) (w : Nat) : Nat → Option Nat → Int32 → Int32 → Int32 → rm_H → Option dR
  | 0, _, _, _, _, _ => none
  | n + 1, o0, i1, i2, i3, h =>
    (dgI L xs h 57 [15] o0).bind fun x1 =>
    if mx_f1 .ne x1 = true then
      b317_116 L xs zf D w o0 i2 h
    else
      ((dcV L xs D 310 [15] o0 [.int 125] h).bind dxI).bind fun x4 =>
      if mx_f1 .ne x4.1 = true then
        b317_116 L xs zf D w o0 i2 x4.2
      else
        ((dcV L xs D 318 [15] o0 [.int i1] x4.2).bind dxI).bind fun x9 =>
        (dgR L xs x9.2 16 [15] o0).bind fun p18 =>
        (dsI x9.2 p18 x9.1 i2).bind fun h20 =>
        if mx_f1 .ne i3 = true then
          (dgR L xs h20 15 [15] o0).bind fun p23 =>
          (dsI h20 p23 i3 x9.1).bind fun h25 =>
          b317_110 L xs zf D w (b317_56 L xs zf D w n) o0 i1 i2 x9.1 h25
        else
          (dgR L xs h20 12 [15] o0).bind fun p27 =>
          (dsI h20 p27 i2 x9.1).bind fun h29 =>
          b317_110 L xs zf D w (b317_56 L xs zf D w n) o0 i1 i2 x9.1 h29
theorem c317_56 {L : Nat} {xs : Nat → Int32} {zf : Value} {D : dD} {w k : Nat} (hD : dO L xs zf D k) (hz : zf.category = 1) : ∀ (n : Nat) (o0 : Option Nat) (i1 : Int32) (i2 : Int32) (i3 : Int32) (lv : rm_L) (h : rm_H) (r : dR), rm_get lv 0 = some (va_rf o0) → rm_get lv 1 = some (.int i1) → rm_get lv 2 = some (.int i2) → rm_get lv 3 = some (.int i3) → b317_56 L xs zf D w n  o0 i1 i2 i3 h = some r → dq L xs zf ah_M317 56 lv [] h (k + 1) r := by
  intro n
  induction n with
  | zero =>
    intro o0 i1 i2 i3 lv h r G0 G1 G2 G3 hh
    cases hh
  | succ n ih =>
    intro o0 i1 i2 i3 lv h r G0 G1 G2 G3 hh
    rw [b317_56] at hh
    refine dq_aln 0 57 (by decide +kernel) rfl G0 ?_
    obtain ⟨x1, q2, hh⟩ := db hh
    refine dq_gI 295 57 [15] 60 (by decide +kernel) rfl q2 ?_
    rcases di hh with ⟨q3, hh⟩ | ⟨q3, hh⟩
    · refine dq_1 .ne 56 true 116 q3 (by decide +kernel) ?_
      exact c317_116 hD hz _ _ _ _ _ G0 G2 hh
    · refine dq_1 .ne 56 false 63 q3 (by decide +kernel) ?_
      refine dq_aln 0 64 (by decide +kernel) rfl G0 ?_
      refine dq_S (.bipush 125) 2 [] 66 _ [.int 125, va_rf o0] (by decide +kernel) rfl ?_
      obtain ⟨x4, q5, hh⟩ := db hh
      obtain ⟨a6, q7, q5⟩ := db q5
      rw [dq_xI q5] at q7
      refine dq_cvi hD 304 310 5 1 [15] o0 [.int 125] [] 69 [.int x4.1] (by decide +kernel) ap_310 ⟨⟨Nat.le_of_ble_eq_true rfl, by decide⟩, rfl, rfl⟩ (dq_ok8 [1, 1] [] (dc_r (dc_i dc_n)) dc_n (by decide +kernel)) (by decide +kernel) rfl q7 rfl ?_
      rcases di hh with ⟨q8, hh⟩ | ⟨q8, hh⟩
      · refine dq_1 .ne 47 true 116 q8 (by decide +kernel) ?_
        exact c317_116 hD hz _ _ _ _ _ G0 G2 hh
      · refine dq_1 .ne 47 false 72 q8 (by decide +kernel) ?_
        refine dq_aln 0 73 (by decide +kernel) rfl G0 ?_
        refine dq_iln 1 74 (by decide +kernel) rfl G1 ?_
        obtain ⟨x9, q10, hh⟩ := db hh
        obtain ⟨a11, q12, q10⟩ := db q10
        rw [dq_xI q10] at q12
        refine dq_cvi hD 367 318 5 1 [15] o0 [.int i1] [] 77 [.int x9.1] (by decide +kernel) ap_318 ⟨⟨Nat.le_of_ble_eq_true rfl, by decide⟩, rfl, rfl⟩ (dq_ok8 [1, 1] [] (dc_r (dc_i dc_n)) dc_n (by decide +kernel)) (by decide +kernel) rfl q12 rfl ?_
        refine dq_is 4 79 (by decide +kernel) (by decide +kernel) ?_
        have g13 := dg_ne (i := 4) (u := .int x9.1) (by decide) (Or.inl (by decide)) G0
        have g14 := dg_ne (i := 4) (u := .int x9.1) (by decide) (Or.inl (by decide)) G1
        have g15 := dg_ne (i := 4) (u := .int x9.1) (by decide) (Or.inl (by decide)) G2
        have g16 := dg_ne (i := 4) (u := .int x9.1) (by decide) (Or.inr rfl) G3
        have g17 := dg_eq (lv) 4 (.int x9.1)
        refine dq_aln 0 80 (by decide +kernel) rfl g13 ?_
        obtain ⟨p18, q19, hh⟩ := db hh
        refine dq_gR 51 16 [15] 83 (by decide +kernel) rfl q19 ?_
        refine dq_il 4 85 (by decide +kernel) rfl g17 ?_
        refine dq_iln 2 86 (by decide +kernel) rfl g15 ?_
        obtain ⟨h20, q21, hh⟩ := db hh
        refine dq_sI 87 (by decide +kernel) rfl q21 ?_
        refine dq_iln 3 88 (by decide +kernel) rfl g16 ?_
        rcases di hh with ⟨q22, hh⟩ | ⟨q22, hh⟩
        · refine dq_1 .ne 14 true 102 q22 (by decide +kernel) ?_
          refine dq_aln 0 103 (by decide +kernel) rfl g13 ?_
          obtain ⟨p23, q24, hh⟩ := db hh
          refine dq_gR 48 15 [15] 106 (by decide +kernel) rfl q24 ?_
          refine dq_iln 3 107 (by decide +kernel) rfl g16 ?_
          refine dq_il 4 109 (by decide +kernel) rfl g17 ?_
          obtain ⟨h25, q26, hh⟩ := db hh
          refine dq_sI 110 (by decide +kernel) rfl q26 ?_
          exact c317_110 hD hz ih _ _ _ _ _ _ _ g13 g14 g15 g17 hh
        · refine dq_1 .ne 14 false 91 q22 (by decide +kernel) ?_
          refine dq_aln 0 92 (by decide +kernel) rfl g13 ?_
          obtain ⟨p27, q28, hh⟩ := db hh
          refine dq_gR 39 12 [15] 95 (by decide +kernel) rfl q28 ?_
          refine dq_iln 2 96 (by decide +kernel) rfl g15 ?_
          refine dq_il 4 98 (by decide +kernel) rfl g17 ?_
          obtain ⟨h29, q30, hh⟩ := db hh
          refine dq_sI 99 (by decide +kernel) rfl q30 ?_
          refine dq_S (.goto 11) 3 [] 110 _ [] (by decide +kernel) rfl ?_
          exact c317_110 hD hz ih _ _ _ _ _ _ _ g13 g14 g15 g17 hh
def b317_0 (L : Nat) (xs : Nat → Int32) (zf : Value) (D : dD) (w : Nat) (o0 : Option Nat) (i1 : Int32) (h : rm_H) : Option dR :=
  (dgI L xs h 57 [15] o0).bind fun x1 =>
  if mx_f1 .gt x1 = true then
    b317_22 L xs zf D w o0 h
  else
    ((dcV L xs D 310 [15] o0 [.int 123] h).bind dxI).bind fun x4 =>
    if mx_f1 .eq x4.1 = true then
      b317_22 L xs zf D w o0 x4.2
    else
      if mx_f2 .le i1 24 = true then
        (dgR L xs x4.2 7 [15] o0).bind fun p10 =>
        (dgI L xs x4.2 56 [15] o0).bind fun x12 =>
        (daI L xs x4.2 p10 x12).bind fun x14 =>
        ((dcV L xs D 316 [15] o0 [.int 30, .int x14] x4.2).bind dxI).bind fun x16 =>
        (dgI L xs x16.2 56 [15] o0).bind fun x23 =>
        (dpF x16.2 56 [15] o0 (.int (x23 + 1))).bind fun h25 =>
        b317_56 L xs zf D w w o0 i1 x16.1 0 h25
      else
        b317_22 L xs zf D w o0 x4.2
theorem c317_0 {L : Nat} {xs : Nat → Int32} {zf : Value} {D : dD} {w k : Nat} (hD : dO L xs zf D k) (hz : zf.category = 1) : ∀ (o0 : Option Nat) (i1 : Int32) (lv : rm_L) (h : rm_H) (r : dR), rm_get lv 0 = some (va_rf o0) → rm_get lv 1 = some (.int i1) → b317_0 L xs zf D w  o0 i1 h = some r → dq L xs zf ah_M317 0 lv [] h (k + 1) r := by
  intro o0 i1 lv h r G0 G1 hh
  unfold b317_0 at hh
  refine dq_aln 0 1 (by decide +kernel) rfl G0 ?_
  obtain ⟨x1, q2, hh⟩ := db hh
  refine dq_gI 295 57 [15] 4 (by decide +kernel) rfl q2 ?_
  rcases di hh with ⟨q3, hh⟩ | ⟨q3, hh⟩
  · refine dq_1 .gt 18 true 22 q3 (by decide +kernel) ?_
    exact c317_22 hD hz _ _ _ _ G0 hh
  · refine dq_1 .gt 18 false 7 q3 (by decide +kernel) ?_
    refine dq_aln 0 8 (by decide +kernel) rfl G0 ?_
    refine dq_S (.bipush 123) 2 [] 10 _ [.int 123, va_rf o0] (by decide +kernel) rfl ?_
    obtain ⟨x4, q5, hh⟩ := db hh
    obtain ⟨a6, q7, q5⟩ := db q5
    rw [dq_xI q5] at q7
    refine dq_cvi hD 304 310 5 1 [15] o0 [.int 123] [] 13 [.int x4.1] (by decide +kernel) ap_310 ⟨⟨Nat.le_of_ble_eq_true rfl, by decide⟩, rfl, rfl⟩ (dq_ok8 [1, 1] [] (dc_r (dc_i dc_n)) dc_n (by decide +kernel)) (by decide +kernel) rfl q7 rfl ?_
    rcases di hh with ⟨q8, hh⟩ | ⟨q8, hh⟩
    · refine dq_1 .eq 9 true 22 q8 (by decide +kernel) ?_
      exact c317_22 hD hz _ _ _ _ G0 hh
    · refine dq_1 .eq 9 false 16 q8 (by decide +kernel) ?_
      refine dq_iln 1 17 (by decide +kernel) rfl G1 ?_
      refine dq_S (.bipush 24) 2 [] 19 _ [.int 24, .int i1] (by decide +kernel) rfl ?_
      rcases di hh with ⟨q9, hh⟩ | ⟨q9, hh⟩
      · refine dq_2 .le 9 true 28 q9 (by decide +kernel) ?_
        refine dq_aln 0 29 (by decide +kernel) rfl G0 ?_
        refine dq_S (.bipush 30) 2 [] 31 _ [.int 30, va_rf o0] (by decide +kernel) rfl ?_
        refine dq_aln 0 32 (by decide +kernel) rfl G0 ?_
        obtain ⟨p10, q11, hh⟩ := db hh
        refine dq_gR 27 7 [15] 35 (by decide +kernel) rfl q11 ?_
        refine dq_aln 0 36 (by decide +kernel) rfl G0 ?_
        obtain ⟨x12, q13, hh⟩ := db hh
        refine dq_gI 298 56 [15] 39 (by decide +kernel) rfl q13 ?_
        obtain ⟨x14, q15, hh⟩ := db hh
        refine dq_aI 40 (by decide +kernel) rfl q15 ?_
        obtain ⟨x16, q17, hh⟩ := db hh
        obtain ⟨a18, q19, q17⟩ := db q17
        rw [dq_xI q17] at q19
        refine dq_cvi hD 360 316 5 2 [15] o0 [.int 30, .int x14] [] 43 [.int x16.1] (by decide +kernel) ap_316 ⟨⟨Nat.le_of_ble_eq_true rfl, by decide⟩, rfl, rfl⟩ (dq_ok8 [1, 1, 1] [] (dc_r (dc_i (dc_i dc_n))) dc_n (by decide +kernel)) (by decide +kernel) rfl q19 rfl ?_
        refine dq_isn 2 44 (by decide +kernel) (by decide +kernel) ?_
        have g20 := dg_ne (i := 2) (u := .int x16.1) (by decide) (Or.inl (by decide)) G0
        have g21 := dg_ne (i := 2) (u := .int x16.1) (by decide) (Or.inr rfl) G1
        have g22 := dg_eq (lv) 2 (.int x16.1)
        refine dq_aln 0 45 (by decide +kernel) rfl g20 ?_
        refine dq_dup 46 (by decide +kernel) rfl ?_
        obtain ⟨x23, q24, hh⟩ := db hh
        refine dq_gI 298 56 [15] 49 (by decide +kernel) rfl q24 ?_
        refine dq_S (.iconst 1) 1 [] 50 _ [.int 1, .int x23, va_rf o0] (by decide +kernel) rfl ?_
        refine dq_S (.iadd) 1 [] 51 _ [.int (x23 + 1), va_rf o0] (by decide +kernel) rfl ?_
        obtain ⟨h25, q26, hh⟩ := db hh
        refine dq_put 298 56 [15] 54 (by decide +kernel) rfl q26 ?_
        refine dq_S (.iconst 0) 1 [] 55 _ [.int 0] (by decide +kernel) rfl ?_
        refine dq_isn 3 56 (by decide +kernel) (by decide +kernel) ?_
        have g27 := dg_ne (i := 3) (u := .int 0) (by decide) (Or.inl (by decide)) g20
        have g28 := dg_ne (i := 3) (u := .int 0) (by decide) (Or.inl (by decide)) g21
        have g29 := dg_ne (i := 3) (u := .int 0) (by decide) (Or.inr rfl) g22
        have g30 := dg_eq (rm_set1 (lv) 2 (.int x16.1)) 3 (.int 0)
        exact c317_56 hD hz _ _ _ _ _ _ _ _ g27 g28 g29 g30 hh
      · refine dq_2 .le 9 false 22 q9 (by decide +kernel) ?_
        exact c317_22 hD hz _ _ _ _ G0 hh
def f317 (L : Nat) (xs : Nat → Int32) (zf : Value) (D : dD) (w : Nat) (As : List Value) (h : rm_H) : Option dR := match As with
  | [v0, .int i1] => (rm_rf v0).bind fun o0 => b317_0 L xs zf D w o0 i1 h
  | _ => none
theorem d317 {L : Nat} {xs : Nat → Int32} {zf : Value} {D : dD} {w k : Nat} (hD : dO L xs zf D k) (hz : zf.category = 1) (As : List Value) (h : rm_H) (r : dR) (hh : f317 L xs zf D w As h = some r) : dq L xs zf ah_M317 0 (lv_args 0 As) [] h (k + 1) r := by
  unfold f317 at hh
  split at hh
  · obtain ⟨o0, e0, hb0⟩ := db hh
    have e0 := rm_rf_v _ _ e0
    subst e0
    refine c317_0 hD hz _ _ _ _ _ ?_ ?_ hb0
    all_goals (simp only [la_r, la_i, la_j]; rfl)
  · cases hh
def b318_145 (L : Nat) (xs : Nat → Int32) (zf : Value) (D : dD) (w : Nat) (i4 : Int32) (h : rm_H) : Option dR :=
  drI (some .int) i4 h
theorem c318_145 {L : Nat} {xs : Nat → Int32} {zf : Value} {D : dD} {w k : Nat} (hD : dO L xs zf D k) (hz : zf.category = 1) : ∀ (i4 : Int32) (lv : rm_L) (h : rm_H) (r : dR), rm_get lv 4 = some (.int i4) → b318_145 L xs zf D w  i4 h = some r → dq L xs zf ah_M318 145 lv [] h (k + 1) r := by
  intro i4 lv h r G4 hh
  unfold b318_145 at hh
  refine dq_il 4 147 (by decide +kernel) rfl G4 ?_
  exact dq_retI (some .int) (by decide +kernel) rfl hh
def b318_84 (L : Nat) (xs : Nat → Int32) (zf : Value) (D : dD) (w : Nat) (o0 : Option Nat) (i1 : Int32) (i2 : Int32) (i3 : Int32) (s0 : Int32) (s1 : Option Nat) (h : rm_H) : Option dR :=
  ((dcV L xs D 316 [15] s1 [.int s0, .int i2] h).bind dxI).bind fun x1 =>
  (dgR L xs x1.2 12 [15] o0).bind fun p10 =>
  ((dcV L xs D 320 [15] o0 [.int (i1 + 1)] x1.2).bind dxI).bind fun x12 =>
  ((dcV L xs D 323 [15] o0 [.int x1.1, .int x12.1] x12.2).bind dxI).bind fun x16 =>
  (dsI x16.2 p10 x1.1 x16.1).bind fun h20 =>
  (dgR L xs h20 13 [15] o0).bind fun p22 =>
  ((dcV L xs D 317 [15] o0 [.int (i1 + 1)] h20).bind dxI).bind fun x24 =>
  ((dcV L xs D 323 [15] o0 [.int x1.1, .int x24.1] x24.2).bind dxI).bind fun x28 =>
  (dsI x28.2 p22 x1.1 x28.1).bind fun h32 =>
  if mx_f2 .eq i3 8 = true then
    b318_145 L xs zf D w x1.1 h32
  else
    ((dcV L xs D 303 [15] o0 [.int 7] h32).bind dxI).bind fun x35 =>
    if mx_f1 .ne x35.1 = true then
      (dgI L xs x35.2 56 [15] o0).bind fun x40 =>
      (dpF x35.2 56 [15] o0 (.int (x40 + 1))).bind fun h42 =>
      (dgR L xs h42 14 [15] o0).bind fun p44 =>
      ((dcV L xs D 317 [15] o0 [.int (i1 + 1)] h42).bind dxI).bind fun x46 =>
      ((dcV L xs D 323 [15] o0 [.int x1.1, .int x46.1] x46.2).bind dxI).bind fun x50 =>
      (dsI x50.2 p44 x1.1 x50.1).bind fun h54 =>
      drI (some .int) x1.1 h54
    else
      b318_145 L xs zf D w x1.1 x35.2
theorem c318_84 {L : Nat} {xs : Nat → Int32} {zf : Value} {D : dD} {w k : Nat} (hD : dO L xs zf D k) (hz : zf.category = 1) : ∀ (o0 : Option Nat) (i1 : Int32) (i2 : Int32) (i3 : Int32) (s0 : Int32) (s1 : Option Nat) (lv : rm_L) (h : rm_H) (r : dR), rm_get lv 0 = some (va_rf o0) → rm_get lv 1 = some (.int i1) → rm_get lv 2 = some (.int i2) → rm_get lv 3 = some (.int i3) → b318_84 L xs zf D w  o0 i1 i2 i3 s0 s1 h = some r → dq L xs zf ah_M318 84 lv [.int s0, va_rf s1] h (k + 1) r := by
  intro o0 i1 i2 i3 s0 s1 lv h r G0 G1 G2 G3 hh
  unfold b318_84 at hh
  refine dq_iln 2 85 (by decide +kernel) rfl G2 ?_
  obtain ⟨x1, q2, hh⟩ := db hh
  obtain ⟨a3, q4, q2⟩ := db q2
  rw [dq_xI q2] at q4
  refine dq_cvi hD 360 316 5 2 [15] s1 [.int s0, .int i2] [] 88 [.int x1.1] (by decide +kernel) ap_316 ⟨⟨Nat.le_of_ble_eq_true rfl, by decide⟩, rfl, rfl⟩ (dq_ok8 [1, 1, 1] [] (dc_r (dc_i (dc_i dc_n))) dc_n (by decide +kernel)) (by decide +kernel) rfl q4 rfl ?_
  refine dq_is 4 90 (by decide +kernel) (by decide +kernel) ?_
  have g5 := dg_ne (i := 4) (u := .int x1.1) (by decide) (Or.inl (by decide)) G0
  have g6 := dg_ne (i := 4) (u := .int x1.1) (by decide) (Or.inl (by decide)) G1
  have g7 := dg_ne (i := 4) (u := .int x1.1) (by decide) (Or.inl (by decide)) G2
  have g8 := dg_ne (i := 4) (u := .int x1.1) (by decide) (Or.inr rfl) G3
  have g9 := dg_eq (lv) 4 (.int x1.1)
  refine dq_aln 0 91 (by decide +kernel) rfl g5 ?_
  obtain ⟨p10, q11, hh⟩ := db hh
  refine dq_gR 39 12 [15] 94 (by decide +kernel) rfl q11 ?_
  refine dq_il 4 96 (by decide +kernel) rfl g9 ?_
  refine dq_aln 0 97 (by decide +kernel) rfl g5 ?_
  refine dq_il 4 99 (by decide +kernel) rfl g9 ?_
  refine dq_aln 0 100 (by decide +kernel) rfl g5 ?_
  refine dq_iln 1 101 (by decide +kernel) rfl g6 ?_
  refine dq_S (.iconst 1) 1 [] 102 _ [.int 1, .int i1, va_rf o0, .int x1.1, va_rf o0, .int x1.1, va_rf p10] (by decide +kernel) rfl ?_
  refine dq_S (.iadd) 1 [] 103 _ [.int (i1 + 1), va_rf o0, .int x1.1, va_rf o0, .int x1.1, va_rf p10] (by decide +kernel) rfl ?_
  obtain ⟨x12, q13, hh⟩ := db hh
  obtain ⟨a14, q15, q13⟩ := db q13
  rw [dq_xI q13] at q15
  refine dq_cvi hD 373 320 5 1 [15] o0 [.int (i1 + 1)] [.int x1.1, va_rf o0, .int x1.1, va_rf p10] 106 [.int x12.1, .int x1.1, va_rf o0, .int x1.1, va_rf p10] (by decide +kernel) ap_320 ⟨⟨Nat.le_of_ble_eq_true rfl, by decide⟩, rfl, rfl⟩ (dq_ok8 [1, 1] [1, 1, 1, 1] (dc_r (dc_i dc_n)) (dc_i (dc_r (dc_i (dc_r dc_n)))) (by decide +kernel)) (by decide +kernel) rfl q15 rfl ?_
  obtain ⟨x16, q17, hh⟩ := db hh
  obtain ⟨a18, q19, q17⟩ := db q17
  rw [dq_xI q17] at q19
  refine dq_cvi hD 376 323 5 2 [15] o0 [.int x1.1, .int x12.1] [.int x1.1, va_rf p10] 109 [.int x16.1, .int x1.1, va_rf p10] (by decide +kernel) ap_323 ⟨⟨Nat.le_of_ble_eq_true rfl, by decide⟩, rfl, rfl⟩ (dq_ok8 [1, 1, 1] [1, 1] (dc_r (dc_i (dc_i dc_n))) (dc_i (dc_r dc_n)) (by decide +kernel)) (by decide +kernel) rfl q19 rfl ?_
  obtain ⟨h20, q21, hh⟩ := db hh
  refine dq_sI 110 (by decide +kernel) rfl q21 ?_
  refine dq_aln 0 111 (by decide +kernel) rfl g5 ?_
  obtain ⟨p22, q23, hh⟩ := db hh
  refine dq_gR 42 13 [15] 114 (by decide +kernel) rfl q23 ?_
  refine dq_il 4 116 (by decide +kernel) rfl g9 ?_
  refine dq_aln 0 117 (by decide +kernel) rfl g5 ?_
  refine dq_il 4 119 (by decide +kernel) rfl g9 ?_
  refine dq_aln 0 120 (by decide +kernel) rfl g5 ?_
  refine dq_iln 1 121 (by decide +kernel) rfl g6 ?_
  refine dq_S (.iconst 1) 1 [] 122 _ [.int 1, .int i1, va_rf o0, .int x1.1, va_rf o0, .int x1.1, va_rf p22] (by decide +kernel) rfl ?_
  refine dq_S (.iadd) 1 [] 123 _ [.int (i1 + 1), va_rf o0, .int x1.1, va_rf o0, .int x1.1, va_rf p22] (by decide +kernel) rfl ?_
  obtain ⟨x24, q25, hh⟩ := db hh
  obtain ⟨a26, q27, q25⟩ := db q25
  rw [dq_xI q25] at q27
  refine dq_cvi hD 364 317 5 1 [15] o0 [.int (i1 + 1)] [.int x1.1, va_rf o0, .int x1.1, va_rf p22] 126 [.int x24.1, .int x1.1, va_rf o0, .int x1.1, va_rf p22] (by decide +kernel) ap_317 ⟨⟨Nat.le_of_ble_eq_true rfl, by decide⟩, rfl, rfl⟩ (dq_ok8 [1, 1] [1, 1, 1, 1] (dc_r (dc_i dc_n)) (dc_i (dc_r (dc_i (dc_r dc_n)))) (by decide +kernel)) (by decide +kernel) rfl q27 rfl ?_
  obtain ⟨x28, q29, hh⟩ := db hh
  obtain ⟨a30, q31, q29⟩ := db q29
  rw [dq_xI q29] at q31
  refine dq_cvi hD 376 323 5 2 [15] o0 [.int x1.1, .int x24.1] [.int x1.1, va_rf p22] 129 [.int x28.1, .int x1.1, va_rf p22] (by decide +kernel) ap_323 ⟨⟨Nat.le_of_ble_eq_true rfl, by decide⟩, rfl, rfl⟩ (dq_ok8 [1, 1, 1] [1, 1] (dc_r (dc_i (dc_i dc_n))) (dc_i (dc_r dc_n)) (by decide +kernel)) (by decide +kernel) rfl q31 rfl ?_
  obtain ⟨h32, q33, hh⟩ := db hh
  refine dq_sI 130 (by decide +kernel) rfl q33 ?_
  refine dq_iln 3 131 (by decide +kernel) rfl g8 ?_
  refine dq_S (.bipush 8) 2 [] 133 _ [.int 8, .int i3] (by decide +kernel) rfl ?_
  rcases di hh with ⟨q34, hh⟩ | ⟨q34, hh⟩
  · refine dq_2 .eq 12 true 145 q34 (by decide +kernel) ?_
    exact c318_145 hD hz _ _ _ _ g9 hh
  · refine dq_2 .eq 12 false 136 q34 (by decide +kernel) ?_
    refine dq_aln 0 137 (by decide +kernel) rfl g5 ?_
    refine dq_S (.bipush 7) 2 [] 139 _ [.int 7, va_rf o0] (by decide +kernel) rfl ?_
    obtain ⟨x35, q36, hh⟩ := db hh
    obtain ⟨a37, q38, q36⟩ := db q36
    rw [dq_xI q36] at q38
    refine dq_cvi hD 313 303 5 1 [15] o0 [.int 7] [] 142 [.int x35.1] (by decide +kernel) ap_303 ⟨⟨Nat.le_of_ble_eq_true rfl, by decide⟩, rfl, rfl⟩ (dq_ok8 [1, 1] [] (dc_r (dc_i dc_n)) dc_n (by decide +kernel)) (by decide +kernel) rfl q38 rfl ?_
    rcases di hh with ⟨q39, hh⟩ | ⟨q39, hh⟩
    · refine dq_1 .ne 6 true 148 q39 (by decide +kernel) ?_
      refine dq_aln 0 149 (by decide +kernel) rfl g5 ?_
      refine dq_dup 150 (by decide +kernel) rfl ?_
      obtain ⟨x40, q41, hh⟩ := db hh
      refine dq_gI 298 56 [15] 153 (by decide +kernel) rfl q41 ?_
      refine dq_S (.iconst 1) 1 [] 154 _ [.int 1, .int x40, va_rf o0] (by decide +kernel) rfl ?_
      refine dq_S (.iadd) 1 [] 155 _ [.int (x40 + 1), va_rf o0] (by decide +kernel) rfl ?_
      obtain ⟨h42, q43, hh⟩ := db hh
      refine dq_put 298 56 [15] 158 (by decide +kernel) rfl q43 ?_
      refine dq_aln 0 159 (by decide +kernel) rfl g5 ?_
      obtain ⟨p44, q45, hh⟩ := db hh
      refine dq_gR 45 14 [15] 162 (by decide +kernel) rfl q45 ?_
      refine dq_il 4 164 (by decide +kernel) rfl g9 ?_
      refine dq_aln 0 165 (by decide +kernel) rfl g5 ?_
      refine dq_il 4 167 (by decide +kernel) rfl g9 ?_
      refine dq_aln 0 168 (by decide +kernel) rfl g5 ?_
      refine dq_iln 1 169 (by decide +kernel) rfl g6 ?_
      refine dq_S (.iconst 1) 1 [] 170 _ [.int 1, .int i1, va_rf o0, .int x1.1, va_rf o0, .int x1.1, va_rf p44] (by decide +kernel) rfl ?_
      refine dq_S (.iadd) 1 [] 171 _ [.int (i1 + 1), va_rf o0, .int x1.1, va_rf o0, .int x1.1, va_rf p44] (by decide +kernel) rfl ?_
      obtain ⟨x46, q47, hh⟩ := db hh
      obtain ⟨a48, q49, q47⟩ := db q47
      rw [dq_xI q47] at q49
      refine dq_cvi hD 364 317 5 1 [15] o0 [.int (i1 + 1)] [.int x1.1, va_rf o0, .int x1.1, va_rf p44] 174 [.int x46.1, .int x1.1, va_rf o0, .int x1.1, va_rf p44] (by decide +kernel) ap_317 ⟨⟨Nat.le_of_ble_eq_true rfl, by decide⟩, rfl, rfl⟩ (dq_ok8 [1, 1] [1, 1, 1, 1] (dc_r (dc_i dc_n)) (dc_i (dc_r (dc_i (dc_r dc_n)))) (by decide +kernel)) (by decide +kernel) rfl q49 rfl ?_
      obtain ⟨x50, q51, hh⟩ := db hh
      obtain ⟨a52, q53, q51⟩ := db q51
      rw [dq_xI q51] at q53
      refine dq_cvi hD 376 323 5 2 [15] o0 [.int x1.1, .int x46.1] [.int x1.1, va_rf p44] 177 [.int x50.1, .int x1.1, va_rf p44] (by decide +kernel) ap_323 ⟨⟨Nat.le_of_ble_eq_true rfl, by decide⟩, rfl, rfl⟩ (dq_ok8 [1, 1, 1] [1, 1] (dc_r (dc_i (dc_i dc_n))) (dc_i (dc_r dc_n)) (by decide +kernel)) (by decide +kernel) rfl q53 rfl ?_
      obtain ⟨h54, q55, hh⟩ := db hh
      refine dq_sI 178 (by decide +kernel) rfl q55 ?_
      refine dq_il 4 180 (by decide +kernel) rfl g9 ?_
      exact dq_retI (some .int) (by decide +kernel) rfl hh
    · refine dq_1 .ne 6 false 145 q39 (by decide +kernel) ?_
      exact c318_145 hD hz _ _ _ _ g9 hh
def b318_60 (L : Nat) (xs : Nat → Int32) (zf : Value) (D : dD) (w : Nat) (o0 : Option Nat) (i1 : Int32) (i2 : Int32) (i3 : Int32) (h : rm_H) : Option dR :=
  (dgI L xs h 56 [15] o0).bind fun x1 =>
  (dpF h 56 [15] o0 (.int (x1 + 1))).bind fun h3 =>
  if mx_f2 .ne i3 6 = true then
    b318_84 L xs zf D w o0 i1 i2 i3 22 o0 h3
  else
    b318_84 L xs zf D w o0 i1 i2 i3 21 o0 h3
theorem c318_60 {L : Nat} {xs : Nat → Int32} {zf : Value} {D : dD} {w k : Nat} (hD : dO L xs zf D k) (hz : zf.category = 1) : ∀ (o0 : Option Nat) (i1 : Int32) (i2 : Int32) (i3 : Int32) (lv : rm_L) (h : rm_H) (r : dR), rm_get lv 0 = some (va_rf o0) → rm_get lv 1 = some (.int i1) → rm_get lv 2 = some (.int i2) → rm_get lv 3 = some (.int i3) → b318_60 L xs zf D w  o0 i1 i2 i3 h = some r → dq L xs zf ah_M318 60 lv [] h (k + 1) r := by
  intro o0 i1 i2 i3 lv h r G0 G1 G2 G3 hh
  unfold b318_60 at hh
  refine dq_aln 0 61 (by decide +kernel) rfl G0 ?_
  refine dq_dup 62 (by decide +kernel) rfl ?_
  obtain ⟨x1, q2, hh⟩ := db hh
  refine dq_gI 298 56 [15] 65 (by decide +kernel) rfl q2 ?_
  refine dq_S (.iconst 1) 1 [] 66 _ [.int 1, .int x1, va_rf o0] (by decide +kernel) rfl ?_
  refine dq_S (.iadd) 1 [] 67 _ [.int (x1 + 1), va_rf o0] (by decide +kernel) rfl ?_
  obtain ⟨h3, q4, hh⟩ := db hh
  refine dq_put 298 56 [15] 70 (by decide +kernel) rfl q4 ?_
  refine dq_aln 0 71 (by decide +kernel) rfl G0 ?_
  refine dq_iln 3 72 (by decide +kernel) rfl G3 ?_
  refine dq_S (.bipush 6) 2 [] 74 _ [.int 6, .int i3, va_rf o0] (by decide +kernel) rfl ?_
  rcases di hh with ⟨q5, hh⟩ | ⟨q5, hh⟩
  · refine dq_2 .ne 8 true 82 q5 (by decide +kernel) ?_
    refine dq_S (.bipush 22) 2 [] 84 _ [.int 22, va_rf o0] (by decide +kernel) rfl ?_
    exact c318_84 hD hz _ _ _ _ _ _ _ _ _ G0 G1 G2 G3 hh
  · refine dq_2 .ne 8 false 77 q5 (by decide +kernel) ?_
    refine dq_S (.bipush 21) 2 [] 79 _ [.int 21, va_rf o0] (by decide +kernel) rfl ?_
    refine dq_S (.goto 5) 3 [] 84 _ [.int 21, va_rf o0] (by decide +kernel) rfl ?_
    exact c318_84 hD hz _ _ _ _ _ _ _ _ _ G0 G1 G2 G3 hh
def b318_234 (L : Nat) (xs : Nat → Int32) (zf : Value) (D : dD) (w : Nat) (o0 : Option Nat) (i1 : Int32) (i2 : Int32) (s0 : Int32) (s1 : Option Nat) (h : rm_H) : Option dR :=
  ((dcV L xs D 316 [15] s1 [.int s0, .int i2] h).bind dxI).bind fun x1 =>
  (dgR L xs x1.2 12 [15] o0).bind fun p9 =>
  ((dcV L xs D 320 [15] o0 [.int (i1 + 1)] x1.2).bind dxI).bind fun x11 =>
  ((dcV L xs D 323 [15] o0 [.int x1.1, .int x11.1] x11.2).bind dxI).bind fun x15 =>
  (dsI x15.2 p9 x1.1 x15.1).bind fun h19 =>
  ((dcV L xs D 308 [15] o0 [.int 59] h19).bind dxV).bind fun h21 =>
  drI (some .int) x1.1 h21
theorem c318_234 {L : Nat} {xs : Nat → Int32} {zf : Value} {D : dD} {w k : Nat} (hD : dO L xs zf D k) (hz : zf.category = 1) : ∀ (o0 : Option Nat) (i1 : Int32) (i2 : Int32) (s0 : Int32) (s1 : Option Nat) (lv : rm_L) (h : rm_H) (r : dR), rm_get lv 0 = some (va_rf o0) → rm_get lv 1 = some (.int i1) → rm_get lv 2 = some (.int i2) → b318_234 L xs zf D w  o0 i1 i2 s0 s1 h = some r → dq L xs zf ah_M318 234 lv [.int s0, va_rf s1] h (k + 1) r := by
  intro o0 i1 i2 s0 s1 lv h r G0 G1 G2 hh
  unfold b318_234 at hh
  refine dq_iln 2 235 (by decide +kernel) rfl G2 ?_
  obtain ⟨x1, q2, hh⟩ := db hh
  obtain ⟨a3, q4, q2⟩ := db q2
  rw [dq_xI q2] at q4
  refine dq_cvi hD 360 316 5 2 [15] s1 [.int s0, .int i2] [] 238 [.int x1.1] (by decide +kernel) ap_316 ⟨⟨Nat.le_of_ble_eq_true rfl, by decide⟩, rfl, rfl⟩ (dq_ok8 [1, 1, 1] [] (dc_r (dc_i (dc_i dc_n))) dc_n (by decide +kernel)) (by decide +kernel) rfl q4 rfl ?_
  refine dq_is 4 240 (by decide +kernel) (by decide +kernel) ?_
  have g5 := dg_ne (i := 4) (u := .int x1.1) (by decide) (Or.inl (by decide)) G0
  have g6 := dg_ne (i := 4) (u := .int x1.1) (by decide) (Or.inl (by decide)) G1
  have g7 := dg_ne (i := 4) (u := .int x1.1) (by decide) (Or.inl (by decide)) G2
  have g8 := dg_eq (lv) 4 (.int x1.1)
  refine dq_aln 0 241 (by decide +kernel) rfl g5 ?_
  obtain ⟨p9, q10, hh⟩ := db hh
  refine dq_gR 39 12 [15] 244 (by decide +kernel) rfl q10 ?_
  refine dq_il 4 246 (by decide +kernel) rfl g8 ?_
  refine dq_aln 0 247 (by decide +kernel) rfl g5 ?_
  refine dq_il 4 249 (by decide +kernel) rfl g8 ?_
  refine dq_aln 0 250 (by decide +kernel) rfl g5 ?_
  refine dq_iln 1 251 (by decide +kernel) rfl g6 ?_
  refine dq_S (.iconst 1) 1 [] 252 _ [.int 1, .int i1, va_rf o0, .int x1.1, va_rf o0, .int x1.1, va_rf p9] (by decide +kernel) rfl ?_
  refine dq_S (.iadd) 1 [] 253 _ [.int (i1 + 1), va_rf o0, .int x1.1, va_rf o0, .int x1.1, va_rf p9] (by decide +kernel) rfl ?_
  obtain ⟨x11, q12, hh⟩ := db hh
  obtain ⟨a13, q14, q12⟩ := db q12
  rw [dq_xI q12] at q14
  refine dq_cvi hD 373 320 5 1 [15] o0 [.int (i1 + 1)] [.int x1.1, va_rf o0, .int x1.1, va_rf p9] 256 [.int x11.1, .int x1.1, va_rf o0, .int x1.1, va_rf p9] (by decide +kernel) ap_320 ⟨⟨Nat.le_of_ble_eq_true rfl, by decide⟩, rfl, rfl⟩ (dq_ok8 [1, 1] [1, 1, 1, 1] (dc_r (dc_i dc_n)) (dc_i (dc_r (dc_i (dc_r dc_n)))) (by decide +kernel)) (by decide +kernel) rfl q14 rfl ?_
  obtain ⟨x15, q16, hh⟩ := db hh
  obtain ⟨a17, q18, q16⟩ := db q16
  rw [dq_xI q16] at q18
  refine dq_cvi hD 376 323 5 2 [15] o0 [.int x1.1, .int x11.1] [.int x1.1, va_rf p9] 259 [.int x15.1, .int x1.1, va_rf p9] (by decide +kernel) ap_323 ⟨⟨Nat.le_of_ble_eq_true rfl, by decide⟩, rfl, rfl⟩ (dq_ok8 [1, 1, 1] [1, 1] (dc_r (dc_i (dc_i dc_n))) (dc_i (dc_r dc_n)) (by decide +kernel)) (by decide +kernel) rfl q18 rfl ?_
  obtain ⟨h19, q20, hh⟩ := db hh
  refine dq_sI 260 (by decide +kernel) rfl q20 ?_
  refine dq_aln 0 261 (by decide +kernel) rfl g5 ?_
  refine dq_S (.bipush 59) 2 [] 263 _ [.int 59, va_rf o0] (by decide +kernel) rfl ?_
  obtain ⟨h21, q22, hh⟩ := db hh
  obtain ⟨a23, q24, q22⟩ := db q22
  rw [dq_xV q22] at q24
  refine dq_cvi hD 335 308 5 1 [15] o0 [.int 59] [] 266 [] (by decide +kernel) ap_308 ⟨⟨Nat.le_of_ble_eq_true rfl, by decide⟩, rfl, rfl⟩ (dq_ok8 [1, 1] [] (dc_r (dc_i dc_n)) dc_n (by decide +kernel)) (by decide +kernel) rfl q24 rfl ?_
  refine dq_il 4 268 (by decide +kernel) rfl g8 ?_
  exact dq_retI (some .int) (by decide +kernel) rfl hh
def b318_199 (L : Nat) (xs : Nat → Int32) (zf : Value) (D : dD) (w : Nat) (o0 : Option Nat) (i1 : Int32) (i2 : Int32) (i3 : Int32) (h : rm_H) : Option dR :=
  (dgI L xs h 56 [15] o0).bind fun x1 =>
  (dpF h 56 [15] o0 (.int (x1 + 1))).bind fun h3 =>
  if mx_f2 .ne i3 9 = true then
    if mx_f2 .ne i3 10 = true then
      b318_234 L xs zf D w o0 i1 i2 25 o0 h3
    else
      b318_234 L xs zf D w o0 i1 i2 24 o0 h3
  else
    b318_234 L xs zf D w o0 i1 i2 23 o0 h3
theorem c318_199 {L : Nat} {xs : Nat → Int32} {zf : Value} {D : dD} {w k : Nat} (hD : dO L xs zf D k) (hz : zf.category = 1) : ∀ (o0 : Option Nat) (i1 : Int32) (i2 : Int32) (i3 : Int32) (lv : rm_L) (h : rm_H) (r : dR), rm_get lv 0 = some (va_rf o0) → rm_get lv 1 = some (.int i1) → rm_get lv 2 = some (.int i2) → rm_get lv 3 = some (.int i3) → b318_199 L xs zf D w  o0 i1 i2 i3 h = some r → dq L xs zf ah_M318 199 lv [] h (k + 1) r := by
  intro o0 i1 i2 i3 lv h r G0 G1 G2 G3 hh
  unfold b318_199 at hh
  refine dq_aln 0 200 (by decide +kernel) rfl G0 ?_
  refine dq_dup 201 (by decide +kernel) rfl ?_
  obtain ⟨x1, q2, hh⟩ := db hh
  refine dq_gI 298 56 [15] 204 (by decide +kernel) rfl q2 ?_
  refine dq_S (.iconst 1) 1 [] 205 _ [.int 1, .int x1, va_rf o0] (by decide +kernel) rfl ?_
  refine dq_S (.iadd) 1 [] 206 _ [.int (x1 + 1), va_rf o0] (by decide +kernel) rfl ?_
  obtain ⟨h3, q4, hh⟩ := db hh
  refine dq_put 298 56 [15] 209 (by decide +kernel) rfl q4 ?_
  refine dq_aln 0 210 (by decide +kernel) rfl G0 ?_
  refine dq_iln 3 211 (by decide +kernel) rfl G3 ?_
  refine dq_S (.bipush 9) 2 [] 213 _ [.int 9, .int i3, va_rf o0] (by decide +kernel) rfl ?_
  rcases di hh with ⟨q5, hh⟩ | ⟨q5, hh⟩
  · refine dq_2 .ne 8 true 221 q5 (by decide +kernel) ?_
    refine dq_iln 3 222 (by decide +kernel) rfl G3 ?_
    refine dq_S (.bipush 10) 2 [] 224 _ [.int 10, .int i3, va_rf o0] (by decide +kernel) rfl ?_
    rcases di hh with ⟨q6, hh⟩ | ⟨q6, hh⟩
    · refine dq_2 .ne 8 true 232 q6 (by decide +kernel) ?_
      refine dq_S (.bipush 25) 2 [] 234 _ [.int 25, va_rf o0] (by decide +kernel) rfl ?_
      exact c318_234 hD hz _ _ _ _ _ _ _ _ G0 G1 G2 hh
    · refine dq_2 .ne 8 false 227 q6 (by decide +kernel) ?_
      refine dq_S (.bipush 24) 2 [] 229 _ [.int 24, va_rf o0] (by decide +kernel) rfl ?_
      refine dq_S (.goto 5) 3 [] 234 _ [.int 24, va_rf o0] (by decide +kernel) rfl ?_
      exact c318_234 hD hz _ _ _ _ _ _ _ _ G0 G1 G2 hh
  · refine dq_2 .ne 8 false 216 q5 (by decide +kernel) ?_
    refine dq_S (.bipush 23) 2 [] 218 _ [.int 23, va_rf o0] (by decide +kernel) rfl ?_
    refine dq_S (.goto 16) 3 [] 234 _ [.int 23, va_rf o0] (by decide +kernel) rfl ?_
    exact c318_234 hD hz _ _ _ _ _ _ _ _ G0 G1 G2 hh
def b318_325 (L : Nat) (xs : Nat → Int32) (zf : Value) (D : dD) (w : Nat) (o0 : Option Nat) (i4 : Int32) (i5 : Int32) (h : rm_H) : Option dR :=
  (dgR L xs h 12 [15] o0).bind fun p1 =>
  ((dcV L xs D 323 [15] o0 [.int i5, .int i4] h).bind dxI).bind fun x3 =>
  (dsI x3.2 p1 i5 x3.1).bind fun h7 =>
  ((dcV L xs D 308 [15] o0 [.int 59] h7).bind dxV).bind fun h9 =>
  drI (some .int) i5 h9
theorem c318_325 {L : Nat} {xs : Nat → Int32} {zf : Value} {D : dD} {w k : Nat} (hD : dO L xs zf D k) (hz : zf.category = 1) : ∀ (o0 : Option Nat) (i4 : Int32) (i5 : Int32) (lv : rm_L) (h : rm_H) (r : dR), rm_get lv 0 = some (va_rf o0) → rm_get lv 4 = some (.int i4) → rm_get lv 5 = some (.int i5) → b318_325 L xs zf D w  o0 i4 i5 h = some r → dq L xs zf ah_M318 325 lv [] h (k + 1) r := by
  intro o0 i4 i5 lv h r G0 G4 G5 hh
  unfold b318_325 at hh
  refine dq_aln 0 326 (by decide +kernel) rfl G0 ?_
  obtain ⟨p1, q2, hh⟩ := db hh
  refine dq_gR 39 12 [15] 329 (by decide +kernel) rfl q2 ?_
  refine dq_il 5 331 (by decide +kernel) rfl G5 ?_
  refine dq_aln 0 332 (by decide +kernel) rfl G0 ?_
  refine dq_il 5 334 (by decide +kernel) rfl G5 ?_
  refine dq_il 4 336 (by decide +kernel) rfl G4 ?_
  obtain ⟨x3, q4, hh⟩ := db hh
  obtain ⟨a5, q6, q4⟩ := db q4
  rw [dq_xI q4] at q6
  refine dq_cvi hD 376 323 5 2 [15] o0 [.int i5, .int i4] [.int i5, va_rf p1] 339 [.int x3.1, .int i5, va_rf p1] (by decide +kernel) ap_323 ⟨⟨Nat.le_of_ble_eq_true rfl, by decide⟩, rfl, rfl⟩ (dq_ok8 [1, 1, 1] [1, 1] (dc_r (dc_i (dc_i dc_n))) (dc_i (dc_r dc_n)) (by decide +kernel)) (by decide +kernel) rfl q6 rfl ?_
  obtain ⟨h7, q8, hh⟩ := db hh
  refine dq_sI 340 (by decide +kernel) rfl q8 ?_
  refine dq_aln 0 341 (by decide +kernel) rfl G0 ?_
  refine dq_S (.bipush 59) 2 [] 343 _ [.int 59, va_rf o0] (by decide +kernel) rfl ?_
  obtain ⟨h9, q10, hh⟩ := db hh
  obtain ⟨a11, q12, q10⟩ := db q10
  rw [dq_xV q10] at q12
  refine dq_cvi hD 335 308 5 1 [15] o0 [.int 59] [] 346 [] (by decide +kernel) ap_308 ⟨⟨Nat.le_of_ble_eq_true rfl, by decide⟩, rfl, rfl⟩ (dq_ok8 [1, 1] [] (dc_r (dc_i dc_n)) dc_n (by decide +kernel)) (by decide +kernel) rfl q12 rfl ?_
  refine dq_il 5 348 (by decide +kernel) rfl G5 ?_
  exact dq_retI (some .int) (by decide +kernel) rfl hh
def b318_36 (L : Nat) (xs : Nat → Int32) (zf : Value) (D : dD) (w : Nat) (o0 : Option Nat) (i1 : Int32) (i2 : Int32) (s0 : Int32) (h : rm_H) : Option dR :=
  if mx_f2 .ne s0 5 = true then
    if mx_f2 .eq s0 6 = true then
      b318_60 L xs zf D w o0 i1 i2 s0 h
    else
      if mx_f2 .ne s0 8 = true then
        if mx_f2 .eq s0 9 = true then
          b318_199 L xs zf D w o0 i1 i2 s0 h
        else
          if mx_f2 .eq s0 10 = true then
            b318_199 L xs zf D w o0 i1 i2 s0 h
          else
            if mx_f2 .ne s0 11 = true then
              ((dcV L xs D 320 [15] o0 [.int (i1 + 1)] h).bind dxI).bind fun x11 =>
              ((dcV L xs D 316 [15] o0 [.int 27, .int i2] x11.2).bind dxI).bind fun x20 =>
              ((dcV L xs D 309 [15] o0 [.int 61] x20.2).bind dxI).bind fun x30 =>
              if mx_f1 .eq x30.1 = true then
                b318_325 L xs zf D w o0 x11.1 x20.1 x30.2
              else
                (dgR L xs x30.2 11 [15] o0).bind fun p35 =>
                (dsI x30.2 p35 x20.1 26).bind fun h37 =>
                (dgR L xs h37 13 [15] o0).bind fun p39 =>
                ((dcV L xs D 320 [15] o0 [.int (i1 + 1)] h37).bind dxI).bind fun x41 =>
                ((dcV L xs D 323 [15] o0 [.int x20.1, .int x41.1] x41.2).bind dxI).bind fun x45 =>
                (dsI x45.2 p39 x20.1 x45.1).bind fun h49 =>
                b318_325 L xs zf D w o0 x11.1 x20.1 h49
            else
              b318_199 L xs zf D w o0 i1 i2 s0 h
      else
        b318_60 L xs zf D w o0 i1 i2 s0 h
  else
    ((dcV L xs D 319 [15] o0 [.int i1] h).bind dxI).bind fun x51 =>
    drI (some .int) x51.1 x51.2
theorem c318_36 {L : Nat} {xs : Nat → Int32} {zf : Value} {D : dD} {w k : Nat} (hD : dO L xs zf D k) (hz : zf.category = 1) : ∀ (o0 : Option Nat) (i1 : Int32) (i2 : Int32) (s0 : Int32) (lv : rm_L) (h : rm_H) (r : dR), rm_get lv 0 = some (va_rf o0) → rm_get lv 1 = some (.int i1) → rm_get lv 2 = some (.int i2) → b318_36 L xs zf D w  o0 i1 i2 s0 h = some r → dq L xs zf ah_M318 36 lv [.int s0] h (k + 1) r := by
  intro o0 i1 i2 s0 lv h r G0 G1 G2 hh
  unfold b318_36 at hh
  refine dq_isn 3 37 (by decide +kernel) (by decide +kernel) ?_
  have g1 := dg_ne (i := 3) (u := .int s0) (by decide) (Or.inl (by decide)) G0
  have g2 := dg_ne (i := 3) (u := .int s0) (by decide) (Or.inl (by decide)) G1
  have g3 := dg_ne (i := 3) (u := .int s0) (by decide) (Or.inr rfl) G2
  have g4 := dg_eq (lv) 3 (.int s0)
  refine dq_iln 3 38 (by decide +kernel) rfl g4 ?_
  refine dq_S (.iconst 5) 1 [] 39 _ [.int 5, .int s0] (by decide +kernel) rfl ?_
  rcases di hh with ⟨q5, hh⟩ | ⟨q5, hh⟩
  · refine dq_2 .ne 9 true 48 q5 (by decide +kernel) ?_
    refine dq_iln 3 49 (by decide +kernel) rfl g4 ?_
    refine dq_S (.bipush 6) 2 [] 51 _ [.int 6, .int s0] (by decide +kernel) rfl ?_
    rcases di hh with ⟨q6, hh⟩ | ⟨q6, hh⟩
    · refine dq_2 .eq 9 true 60 q6 (by decide +kernel) ?_
      exact c318_60 hD hz _ _ _ _ _ _ _ g1 g2 g3 g4 hh
    · refine dq_2 .eq 9 false 54 q6 (by decide +kernel) ?_
      refine dq_iln 3 55 (by decide +kernel) rfl g4 ?_
      refine dq_S (.bipush 8) 2 [] 57 _ [.int 8, .int s0] (by decide +kernel) rfl ?_
      rcases di hh with ⟨q7, hh⟩ | ⟨q7, hh⟩
      · refine dq_2 .ne 124 true 181 q7 (by decide +kernel) ?_
        refine dq_iln 3 182 (by decide +kernel) rfl g4 ?_
        refine dq_S (.bipush 9) 2 [] 184 _ [.int 9, .int s0] (by decide +kernel) rfl ?_
        rcases di hh with ⟨q8, hh⟩ | ⟨q8, hh⟩
        · refine dq_2 .eq 15 true 199 q8 (by decide +kernel) ?_
          exact c318_199 hD hz _ _ _ _ _ _ _ g1 g2 g3 g4 hh
        · refine dq_2 .eq 15 false 187 q8 (by decide +kernel) ?_
          refine dq_iln 3 188 (by decide +kernel) rfl g4 ?_
          refine dq_S (.bipush 10) 2 [] 190 _ [.int 10, .int s0] (by decide +kernel) rfl ?_
          rcases di hh with ⟨q9, hh⟩ | ⟨q9, hh⟩
          · refine dq_2 .eq 9 true 199 q9 (by decide +kernel) ?_
            exact c318_199 hD hz _ _ _ _ _ _ _ g1 g2 g3 g4 hh
          · refine dq_2 .eq 9 false 193 q9 (by decide +kernel) ?_
            refine dq_iln 3 194 (by decide +kernel) rfl g4 ?_
            refine dq_S (.bipush 11) 2 [] 196 _ [.int 11, .int s0] (by decide +kernel) rfl ?_
            rcases di hh with ⟨q10, hh⟩ | ⟨q10, hh⟩
            · refine dq_2 .ne 73 true 269 q10 (by decide +kernel) ?_
              refine dq_aln 0 270 (by decide +kernel) rfl g1 ?_
              refine dq_iln 1 271 (by decide +kernel) rfl g2 ?_
              refine dq_S (.iconst 1) 1 [] 272 _ [.int 1, .int i1, va_rf o0] (by decide +kernel) rfl ?_
              refine dq_S (.iadd) 1 [] 273 _ [.int (i1 + 1), va_rf o0] (by decide +kernel) rfl ?_
              obtain ⟨x11, q12, hh⟩ := db hh
              obtain ⟨a13, q14, q12⟩ := db q12
              rw [dq_xI q12] at q14
              refine dq_cvi hD 373 320 5 1 [15] o0 [.int (i1 + 1)] [] 276 [.int x11.1] (by decide +kernel) ap_320 ⟨⟨Nat.le_of_ble_eq_true rfl, by decide⟩, rfl, rfl⟩ (dq_ok8 [1, 1] [] (dc_r (dc_i dc_n)) dc_n (by decide +kernel)) (by decide +kernel) rfl q14 rfl ?_
              refine dq_is 4 278 (by decide +kernel) (by decide +kernel) ?_
              have g15 := dg_ne (i := 4) (u := .int x11.1) (by decide) (Or.inl (by decide)) g1
              have g16 := dg_ne (i := 4) (u := .int x11.1) (by decide) (Or.inl (by decide)) g2
              have g17 := dg_ne (i := 4) (u := .int x11.1) (by decide) (Or.inl (by decide)) g3
              have g18 := dg_ne (i := 4) (u := .int x11.1) (by decide) (Or.inr rfl) g4
              have g19 := dg_eq (rm_set1 (lv) 3 (.int s0)) 4 (.int x11.1)
              refine dq_aln 0 279 (by decide +kernel) rfl g15 ?_
              refine dq_S (.bipush 27) 2 [] 281 _ [.int 27, va_rf o0] (by decide +kernel) rfl ?_
              refine dq_iln 2 282 (by decide +kernel) rfl g17 ?_
              obtain ⟨x20, q21, hh⟩ := db hh
              obtain ⟨a22, q23, q21⟩ := db q21
              rw [dq_xI q21] at q23
              refine dq_cvi hD 360 316 5 2 [15] o0 [.int 27, .int i2] [] 285 [.int x20.1] (by decide +kernel) ap_316 ⟨⟨Nat.le_of_ble_eq_true rfl, by decide⟩, rfl, rfl⟩ (dq_ok8 [1, 1, 1] [] (dc_r (dc_i (dc_i dc_n))) dc_n (by decide +kernel)) (by decide +kernel) rfl q23 rfl ?_
              refine dq_is 5 287 (by decide +kernel) (by decide +kernel) ?_
              have g24 := dg_ne (i := 5) (u := .int x20.1) (by decide) (Or.inl (by decide)) g15
              have g25 := dg_ne (i := 5) (u := .int x20.1) (by decide) (Or.inl (by decide)) g16
              have g26 := dg_ne (i := 5) (u := .int x20.1) (by decide) (Or.inl (by decide)) g17
              have g27 := dg_ne (i := 5) (u := .int x20.1) (by decide) (Or.inl (by decide)) g18
              have g28 := dg_ne (i := 5) (u := .int x20.1) (by decide) (Or.inr rfl) g19
              have g29 := dg_eq (rm_set1 (rm_set1 (lv) 3 (.int s0)) 4 (.int x11.1)) 5 (.int x20.1)
              refine dq_aln 0 288 (by decide +kernel) rfl g24 ?_
              refine dq_S (.bipush 61) 2 [] 290 _ [.int 61, va_rf o0] (by decide +kernel) rfl ?_
              obtain ⟨x30, q31, hh⟩ := db hh
              obtain ⟨a32, q33, q31⟩ := db q31
              rw [dq_xI q31] at q33
              refine dq_cvi hD 307 309 5 1 [15] o0 [.int 61] [] 293 [.int x30.1] (by decide +kernel) ap_309 ⟨⟨Nat.le_of_ble_eq_true rfl, by decide⟩, rfl, rfl⟩ (dq_ok8 [1, 1] [] (dc_r (dc_i dc_n)) dc_n (by decide +kernel)) (by decide +kernel) rfl q33 rfl ?_
              rcases di hh with ⟨q34, hh⟩ | ⟨q34, hh⟩
              · refine dq_1 .eq 32 true 325 q34 (by decide +kernel) ?_
                exact c318_325 hD hz _ _ _ _ _ _ g24 g28 g29 hh
              · refine dq_1 .eq 32 false 296 q34 (by decide +kernel) ?_
                refine dq_aln 0 297 (by decide +kernel) rfl g24 ?_
                obtain ⟨p35, q36, hh⟩ := db hh
                refine dq_gR 36 11 [15] 300 (by decide +kernel) rfl q36 ?_
                refine dq_il 5 302 (by decide +kernel) rfl g29 ?_
                refine dq_S (.bipush 26) 2 [] 304 _ [.int 26, .int x20.1, va_rf p35] (by decide +kernel) rfl ?_
                obtain ⟨h37, q38, hh⟩ := db hh
                refine dq_sI 305 (by decide +kernel) rfl q38 ?_
                refine dq_aln 0 306 (by decide +kernel) rfl g24 ?_
                obtain ⟨p39, q40, hh⟩ := db hh
                refine dq_gR 42 13 [15] 309 (by decide +kernel) rfl q40 ?_
                refine dq_il 5 311 (by decide +kernel) rfl g29 ?_
                refine dq_aln 0 312 (by decide +kernel) rfl g24 ?_
                refine dq_il 5 314 (by decide +kernel) rfl g29 ?_
                refine dq_aln 0 315 (by decide +kernel) rfl g24 ?_
                refine dq_iln 1 316 (by decide +kernel) rfl g25 ?_
                refine dq_S (.iconst 1) 1 [] 317 _ [.int 1, .int i1, va_rf o0, .int x20.1, va_rf o0, .int x20.1, va_rf p39] (by decide +kernel) rfl ?_
                refine dq_S (.iadd) 1 [] 318 _ [.int (i1 + 1), va_rf o0, .int x20.1, va_rf o0, .int x20.1, va_rf p39] (by decide +kernel) rfl ?_
                obtain ⟨x41, q42, hh⟩ := db hh
                obtain ⟨a43, q44, q42⟩ := db q42
                rw [dq_xI q42] at q44
                refine dq_cvi hD 373 320 5 1 [15] o0 [.int (i1 + 1)] [.int x20.1, va_rf o0, .int x20.1, va_rf p39] 321 [.int x41.1, .int x20.1, va_rf o0, .int x20.1, va_rf p39] (by decide +kernel) ap_320 ⟨⟨Nat.le_of_ble_eq_true rfl, by decide⟩, rfl, rfl⟩ (dq_ok8 [1, 1] [1, 1, 1, 1] (dc_r (dc_i dc_n)) (dc_i (dc_r (dc_i (dc_r dc_n)))) (by decide +kernel)) (by decide +kernel) rfl q44 rfl ?_
                obtain ⟨x45, q46, hh⟩ := db hh
                obtain ⟨a47, q48, q46⟩ := db q46
                rw [dq_xI q46] at q48
                refine dq_cvi hD 376 323 5 2 [15] o0 [.int x20.1, .int x41.1] [.int x20.1, va_rf p39] 324 [.int x45.1, .int x20.1, va_rf p39] (by decide +kernel) ap_323 ⟨⟨Nat.le_of_ble_eq_true rfl, by decide⟩, rfl, rfl⟩ (dq_ok8 [1, 1, 1] [1, 1] (dc_r (dc_i (dc_i dc_n))) (dc_i (dc_r dc_n)) (by decide +kernel)) (by decide +kernel) rfl q48 rfl ?_
                obtain ⟨h49, q50, hh⟩ := db hh
                refine dq_sI 325 (by decide +kernel) rfl q50 ?_
                exact c318_325 hD hz _ _ _ _ _ _ g24 g28 g29 hh
            · refine dq_2 .ne 73 false 199 q10 (by decide +kernel) ?_
              exact c318_199 hD hz _ _ _ _ _ _ _ g1 g2 g3 g4 hh
      · refine dq_2 .ne 124 false 60 q7 (by decide +kernel) ?_
        exact c318_60 hD hz _ _ _ _ _ _ _ g1 g2 g3 g4 hh
  · refine dq_2 .ne 9 false 42 q5 (by decide +kernel) ?_
    refine dq_aln 0 43 (by decide +kernel) rfl g1 ?_
    refine dq_iln 1 44 (by decide +kernel) rfl g2 ?_
    obtain ⟨x51, q52, hh⟩ := db hh
    obtain ⟨a53, q54, q52⟩ := db q52
    rw [dq_xI q52] at q54
    refine dq_cvi hD 370 319 5 1 [15] o0 [.int i1] [] 47 [.int x51.1] (by decide +kernel) ap_319 ⟨⟨Nat.le_of_ble_eq_true rfl, by decide⟩, rfl, rfl⟩ (dq_ok8 [1, 1] [] (dc_r (dc_i dc_n)) dc_n (by decide +kernel)) (by decide +kernel) rfl q54 rfl ?_
    exact dq_retI (some .int) (by decide +kernel) rfl hh
def b318_0 (L : Nat) (xs : Nat → Int32) (zf : Value) (D : dD) (w : Nat) (o0 : Option Nat) (i1 : Int32) (h : rm_H) : Option dR :=
  (dgR L xs h 7 [15] o0).bind fun p1 =>
  (dgI L xs h 56 [15] o0).bind fun x3 =>
  (daI L xs h p1 x3).bind fun x5 =>
  (dgR L xs h 6 [15] o0).bind fun p10 =>
  (dgI L xs h 56 [15] o0).bind fun x12 =>
  (daI L xs h p10 x12).bind fun x14 =>
  if mx_f2 .ne x14 2 = true then
    b318_36 L xs zf D w o0 i1 x5 (-1) h
  else
    (dgR L xs h 8 [15] o0).bind fun p17 =>
    (dgI L xs h 56 [15] o0).bind fun x19 =>
    (daI L xs h p17 x19).bind fun x21 =>
    b318_36 L xs zf D w o0 i1 x5 x21 h
theorem c318_0 {L : Nat} {xs : Nat → Int32} {zf : Value} {D : dD} {w k : Nat} (hD : dO L xs zf D k) (hz : zf.category = 1) : ∀ (o0 : Option Nat) (i1 : Int32) (lv : rm_L) (h : rm_H) (r : dR), rm_get lv 0 = some (va_rf o0) → rm_get lv 1 = some (.int i1) → b318_0 L xs zf D w  o0 i1 h = some r → dq L xs zf ah_M318 0 lv [] h (k + 1) r := by
  intro o0 i1 lv h r G0 G1 hh
  unfold b318_0 at hh
  refine dq_aln 0 1 (by decide +kernel) rfl G0 ?_
  obtain ⟨p1, q2, hh⟩ := db hh
  refine dq_gR 27 7 [15] 4 (by decide +kernel) rfl q2 ?_
  refine dq_aln 0 5 (by decide +kernel) rfl G0 ?_
  obtain ⟨x3, q4, hh⟩ := db hh
  refine dq_gI 298 56 [15] 8 (by decide +kernel) rfl q4 ?_
  obtain ⟨x5, q6, hh⟩ := db hh
  refine dq_aI 9 (by decide +kernel) rfl q6 ?_
  refine dq_isn 2 10 (by decide +kernel) (by decide +kernel) ?_
  have g7 := dg_ne (i := 2) (u := .int x5) (by decide) (Or.inl (by decide)) G0
  have g8 := dg_ne (i := 2) (u := .int x5) (by decide) (Or.inr rfl) G1
  have g9 := dg_eq (lv) 2 (.int x5)
  refine dq_aln 0 11 (by decide +kernel) rfl g7 ?_
  obtain ⟨p10, q11, hh⟩ := db hh
  refine dq_gR 24 6 [15] 14 (by decide +kernel) rfl q11 ?_
  refine dq_aln 0 15 (by decide +kernel) rfl g7 ?_
  obtain ⟨x12, q13, hh⟩ := db hh
  refine dq_gI 298 56 [15] 18 (by decide +kernel) rfl q13 ?_
  obtain ⟨x14, q15, hh⟩ := db hh
  refine dq_aI 19 (by decide +kernel) rfl q15 ?_
  refine dq_S (.iconst 2) 1 [] 20 _ [.int 2, .int x14] (by decide +kernel) rfl ?_
  rcases di hh with ⟨q16, hh⟩ | ⟨q16, hh⟩
  · refine dq_2 .ne 15 true 35 q16 (by decide +kernel) ?_
    refine dq_S (.iconst (-1)) 1 [] 36 _ [.int (-1)] (by decide +kernel) rfl ?_
    exact c318_36 hD hz _ _ _ _ _ _ _ g7 g8 g9 hh
  · refine dq_2 .ne 15 false 23 q16 (by decide +kernel) ?_
    refine dq_aln 0 24 (by decide +kernel) rfl g7 ?_
    obtain ⟨p17, q18, hh⟩ := db hh
    refine dq_gR 30 8 [15] 27 (by decide +kernel) rfl q18 ?_
    refine dq_aln 0 28 (by decide +kernel) rfl g7 ?_
    obtain ⟨x19, q20, hh⟩ := db hh
    refine dq_gI 298 56 [15] 31 (by decide +kernel) rfl q20 ?_
    obtain ⟨x21, q22, hh⟩ := db hh
    refine dq_aI 32 (by decide +kernel) rfl q22 ?_
    refine dq_S (.goto 4) 3 [] 36 _ [.int x21] (by decide +kernel) rfl ?_
    exact c318_36 hD hz _ _ _ _ _ _ _ g7 g8 g9 hh
def f318 (L : Nat) (xs : Nat → Int32) (zf : Value) (D : dD) (w : Nat) (As : List Value) (h : rm_H) : Option dR := match As with
  | [v0, .int i1] => (rm_rf v0).bind fun o0 => b318_0 L xs zf D w o0 i1 h
  | _ => none
theorem d318 {L : Nat} {xs : Nat → Int32} {zf : Value} {D : dD} {w k : Nat} (hD : dO L xs zf D k) (hz : zf.category = 1) (As : List Value) (h : rm_H) (r : dR) (hh : f318 L xs zf D w As h = some r) : dq L xs zf ah_M318 0 (lv_args 0 As) [] h (k + 1) r := by
  unfold f318 at hh
  split at hh
  · obtain ⟨o0, e0, hb0⟩ := db hh
    have e0 := rm_rf_v _ _ e0
    subst e0
    refine c318_0 hD hz _ _ _ _ _ ?_ ?_ hb0
    all_goals (simp only [la_r, la_i, la_j]; rfl)
  · cases hh
def b319_138 (L : Nat) (xs : Nat → Int32) (zf : Value) (D : dD) (w : Nat) (o0 : Option Nat) (i1 : Int32) (i2 : Int32) (s0 : Int32) (s1 : Int32) (s2 : Option Nat) (h : rm_H) : Option dR :=
  (dsI h s2 s1 s0).bind fun h1 =>
  ((dcV L xs D 308 [15] o0 [.int 61] h1).bind dxV).bind fun h3 =>
  (dgR L xs h3 12 [15] o0).bind fun p7 =>
  ((dcV L xs D 320 [15] o0 [.int (i1 + 1)] h3).bind dxI).bind fun x9 =>
  ((dcV L xs D 323 [15] o0 [.int i2, .int x9.1] x9.2).bind dxI).bind fun x13 =>
  (dsI x13.2 p7 i2 x13.1).bind fun h17 =>
  ((dcV L xs D 308 [15] o0 [.int 59] h17).bind dxV).bind fun h19 =>
  drI (some .int) i2 h19
theorem c319_138 {L : Nat} {xs : Nat → Int32} {zf : Value} {D : dD} {w k : Nat} (hD : dO L xs zf D k) (hz : zf.category = 1) : ∀ (o0 : Option Nat) (i1 : Int32) (i2 : Int32) (s0 : Int32) (s1 : Int32) (s2 : Option Nat) (lv : rm_L) (h : rm_H) (r : dR), rm_get lv 0 = some (va_rf o0) → rm_get lv 1 = some (.int i1) → rm_get lv 2 = some (.int i2) → b319_138 L xs zf D w  o0 i1 i2 s0 s1 s2 h = some r → dq L xs zf ah_M319 138 lv [.int s0, .int s1, va_rf s2] h (k + 1) r := by
  intro o0 i1 i2 s0 s1 s2 lv h r G0 G1 G2 hh
  unfold b319_138 at hh
  obtain ⟨h1, q2, hh⟩ := db hh
  refine dq_sI 139 (by decide +kernel) rfl q2 ?_
  refine dq_aln 0 140 (by decide +kernel) rfl G0 ?_
  refine dq_S (.bipush 61) 2 [] 142 _ [.int 61, va_rf o0] (by decide +kernel) rfl ?_
  obtain ⟨h3, q4, hh⟩ := db hh
  obtain ⟨a5, q6, q4⟩ := db q4
  rw [dq_xV q4] at q6
  refine dq_cvi hD 335 308 5 1 [15] o0 [.int 61] [] 145 [] (by decide +kernel) ap_308 ⟨⟨Nat.le_of_ble_eq_true rfl, by decide⟩, rfl, rfl⟩ (dq_ok8 [1, 1] [] (dc_r (dc_i dc_n)) dc_n (by decide +kernel)) (by decide +kernel) rfl q6 rfl ?_
  refine dq_aln 0 146 (by decide +kernel) rfl G0 ?_
  obtain ⟨p7, q8, hh⟩ := db hh
  refine dq_gR 39 12 [15] 149 (by decide +kernel) rfl q8 ?_
  refine dq_iln 2 150 (by decide +kernel) rfl G2 ?_
  refine dq_aln 0 151 (by decide +kernel) rfl G0 ?_
  refine dq_iln 2 152 (by decide +kernel) rfl G2 ?_
  refine dq_aln 0 153 (by decide +kernel) rfl G0 ?_
  refine dq_iln 1 154 (by decide +kernel) rfl G1 ?_
  refine dq_S (.iconst 1) 1 [] 155 _ [.int 1, .int i1, va_rf o0, .int i2, va_rf o0, .int i2, va_rf p7] (by decide +kernel) rfl ?_
  refine dq_S (.iadd) 1 [] 156 _ [.int (i1 + 1), va_rf o0, .int i2, va_rf o0, .int i2, va_rf p7] (by decide +kernel) rfl ?_
  obtain ⟨x9, q10, hh⟩ := db hh
  obtain ⟨a11, q12, q10⟩ := db q10
  rw [dq_xI q10] at q12
  refine dq_cvi hD 373 320 5 1 [15] o0 [.int (i1 + 1)] [.int i2, va_rf o0, .int i2, va_rf p7] 159 [.int x9.1, .int i2, va_rf o0, .int i2, va_rf p7] (by decide +kernel) ap_320 ⟨⟨Nat.le_of_ble_eq_true rfl, by decide⟩, rfl, rfl⟩ (dq_ok8 [1, 1] [1, 1, 1, 1] (dc_r (dc_i dc_n)) (dc_i (dc_r (dc_i (dc_r dc_n)))) (by decide +kernel)) (by decide +kernel) rfl q12 rfl ?_
  obtain ⟨x13, q14, hh⟩ := db hh
  obtain ⟨a15, q16, q14⟩ := db q14
  rw [dq_xI q14] at q16
  refine dq_cvi hD 376 323 5 2 [15] o0 [.int i2, .int x9.1] [.int i2, va_rf p7] 162 [.int x13.1, .int i2, va_rf p7] (by decide +kernel) ap_323 ⟨⟨Nat.le_of_ble_eq_true rfl, by decide⟩, rfl, rfl⟩ (dq_ok8 [1, 1, 1] [1, 1] (dc_r (dc_i (dc_i dc_n))) (dc_i (dc_r dc_n)) (by decide +kernel)) (by decide +kernel) rfl q16 rfl ?_
  obtain ⟨h17, q18, hh⟩ := db hh
  refine dq_sI 163 (by decide +kernel) rfl q18 ?_
  refine dq_aln 0 164 (by decide +kernel) rfl G0 ?_
  refine dq_S (.bipush 59) 2 [] 166 _ [.int 59, va_rf o0] (by decide +kernel) rfl ?_
  obtain ⟨h19, q20, hh⟩ := db hh
  obtain ⟨a21, q22, q20⟩ := db q20
  rw [dq_xV q20] at q22
  refine dq_cvi hD 335 308 5 1 [15] o0 [.int 59] [] 169 [] (by decide +kernel) ap_308 ⟨⟨Nat.le_of_ble_eq_true rfl, by decide⟩, rfl, rfl⟩ (dq_ok8 [1, 1] [] (dc_r (dc_i dc_n)) dc_n (by decide +kernel)) (by decide +kernel) rfl q22 rfl ?_
  refine dq_iln 2 170 (by decide +kernel) rfl G2 ?_
  exact dq_retI (some .int) (by decide +kernel) rfl hh
def b319_52 (L : Nat) (xs : Nat → Int32) (zf : Value) (D : dD) (w : Nat) (o0 : Option Nat) (i1 : Int32) (i2 : Int32) (h : rm_H) : Option dR :=
  ((dcV L xs D 307 [15] o0 [.int 1] h).bind dxI).bind fun x1 =>
  (dgR L xs x1.2 20 [15] o0).bind fun p9 =>
  (dgI L xs x1.2 59 [15] o0).bind fun x11 =>
  (dsI x1.2 p9 i2 x11).bind fun h13 =>
  (dgI L xs h13 59 [15] o0).bind fun x15 =>
  (dpF h13 59 [15] o0 (.int (x15 + 1))).bind fun h17 =>
  (dgI L xs h17 25 [15] o0).bind fun x19 =>
  (dpF h17 25 [15] o0 (.int (x19 + 1))).bind fun h21 =>
  (dgR L xs h21 23 [15] o0).bind fun p23 =>
  (dgR L xs h21 9 [15] o0).bind fun p25 =>
  (daJ L xs h21 p25 x1.1).bind fun y27 =>
  (dsJ h21 p23 i2 y27).bind fun h29 =>
  (dgR L xs h29 18 [15] o0).bind fun p31 =>
  (dgR L xs h29 7 [15] o0).bind fun p33 =>
  (daI L xs h29 p33 x1.1).bind fun x35 =>
  (dsI h29 p31 i2 x35).bind fun h37 =>
  ((dcV L xs D 308 [15] o0 [.int 58] h37).bind dxV).bind fun h39 =>
  (dgR L xs h39 21 [15] o0).bind fun p43 =>
  (dgI L xs h39 57 [15] o0).bind fun x45 =>
  if mx_f1 .le x45 = true then
    ((dcV L xs D 312 [15] o0 [] h39).bind dxI).bind fun x48 =>
    b319_138 L xs zf D w o0 i1 i2 x48.1 i2 p43 x48.2
  else
    b319_138 L xs zf D w o0 i1 i2 0 i2 p43 h39
theorem c319_52 {L : Nat} {xs : Nat → Int32} {zf : Value} {D : dD} {w k : Nat} (hD : dO L xs zf D k) (hz : zf.category = 1) : ∀ (o0 : Option Nat) (i1 : Int32) (i2 : Int32) (lv : rm_L) (h : rm_H) (r : dR), rm_get lv 0 = some (va_rf o0) → rm_get lv 1 = some (.int i1) → rm_get lv 2 = some (.int i2) → b319_52 L xs zf D w  o0 i1 i2 h = some r → dq L xs zf ah_M319 52 lv [] h (k + 1) r := by
  intro o0 i1 i2 lv h r G0 G1 G2 hh
  unfold b319_52 at hh
  refine dq_aln 0 53 (by decide +kernel) rfl G0 ?_
  refine dq_S (.iconst 1) 1 [] 54 _ [.int 1, va_rf o0] (by decide +kernel) rfl ?_
  obtain ⟨x1, q2, hh⟩ := db hh
  obtain ⟨a3, q4, q2⟩ := db q2
  rw [dq_xI q2] at q4
  refine dq_cvi hD 323 307 5 1 [15] o0 [.int 1] [] 57 [.int x1.1] (by decide +kernel) ap_307 ⟨⟨Nat.le_of_ble_eq_true rfl, by decide⟩, rfl, rfl⟩ (dq_ok8 [1, 1] [] (dc_r (dc_i dc_n)) dc_n (by decide +kernel)) (by decide +kernel) rfl q4 rfl ?_
  refine dq_isn 3 58 (by decide +kernel) (by decide +kernel) ?_
  have g5 := dg_ne (i := 3) (u := .int x1.1) (by decide) (Or.inl (by decide)) G0
  have g6 := dg_ne (i := 3) (u := .int x1.1) (by decide) (Or.inl (by decide)) G1
  have g7 := dg_ne (i := 3) (u := .int x1.1) (by decide) (Or.inr rfl) G2
  have g8 := dg_eq (lv) 3 (.int x1.1)
  refine dq_aln 0 59 (by decide +kernel) rfl g5 ?_
  obtain ⟨p9, q10, hh⟩ := db hh
  refine dq_gR 63 20 [15] 62 (by decide +kernel) rfl q10 ?_
  refine dq_iln 2 63 (by decide +kernel) rfl g7 ?_
  refine dq_aln 0 64 (by decide +kernel) rfl g5 ?_
  obtain ⟨x11, q12, hh⟩ := db hh
  refine dq_gI 357 59 [15] 67 (by decide +kernel) rfl q12 ?_
  obtain ⟨h13, q14, hh⟩ := db hh
  refine dq_sI 68 (by decide +kernel) rfl q14 ?_
  refine dq_aln 0 69 (by decide +kernel) rfl g5 ?_
  refine dq_dup 70 (by decide +kernel) rfl ?_
  obtain ⟨x15, q16, hh⟩ := db hh
  refine dq_gI 357 59 [15] 73 (by decide +kernel) rfl q16 ?_
  refine dq_S (.iconst 1) 1 [] 74 _ [.int 1, .int x15, va_rf o0] (by decide +kernel) rfl ?_
  refine dq_S (.iadd) 1 [] 75 _ [.int (x15 + 1), va_rf o0] (by decide +kernel) rfl ?_
  obtain ⟨h17, q18, hh⟩ := db hh
  refine dq_put 357 59 [15] 78 (by decide +kernel) rfl q18 ?_
  refine dq_aln 0 79 (by decide +kernel) rfl g5 ?_
  refine dq_dup 80 (by decide +kernel) rfl ?_
  obtain ⟨x19, q20, hh⟩ := db hh
  refine dq_gI 379 25 [15] 83 (by decide +kernel) rfl q20 ?_
  refine dq_S (.iconst 1) 1 [] 84 _ [.int 1, .int x19, va_rf o0] (by decide +kernel) rfl ?_
  refine dq_S (.iadd) 1 [] 85 _ [.int (x19 + 1), va_rf o0] (by decide +kernel) rfl ?_
  obtain ⟨h21, q22, hh⟩ := db hh
  refine dq_put 379 25 [15] 88 (by decide +kernel) rfl q22 ?_
  refine dq_aln 0 89 (by decide +kernel) rfl g5 ?_
  obtain ⟨p23, q24, hh⟩ := db hh
  refine dq_gR 72 23 [15] 92 (by decide +kernel) rfl q24 ?_
  refine dq_iln 2 93 (by decide +kernel) rfl g7 ?_
  refine dq_aln 0 94 (by decide +kernel) rfl g5 ?_
  obtain ⟨p25, q26, hh⟩ := db hh
  refine dq_gR 33 9 [15] 97 (by decide +kernel) rfl q26 ?_
  refine dq_iln 3 98 (by decide +kernel) rfl g8 ?_
  obtain ⟨y27, q28, hh⟩ := db hh
  refine dq_aJ 99 (by decide +kernel) rfl q28 ?_
  obtain ⟨h29, q30, hh⟩ := db hh
  refine dq_sJ 100 (by decide +kernel) rfl q30 ?_
  refine dq_aln 0 101 (by decide +kernel) rfl g5 ?_
  obtain ⟨p31, q32, hh⟩ := db hh
  refine dq_gR 57 18 [15] 104 (by decide +kernel) rfl q32 ?_
  refine dq_iln 2 105 (by decide +kernel) rfl g7 ?_
  refine dq_aln 0 106 (by decide +kernel) rfl g5 ?_
  obtain ⟨p33, q34, hh⟩ := db hh
  refine dq_gR 27 7 [15] 109 (by decide +kernel) rfl q34 ?_
  refine dq_iln 3 110 (by decide +kernel) rfl g8 ?_
  obtain ⟨x35, q36, hh⟩ := db hh
  refine dq_aI 111 (by decide +kernel) rfl q36 ?_
  obtain ⟨h37, q38, hh⟩ := db hh
  refine dq_sI 112 (by decide +kernel) rfl q38 ?_
  refine dq_aln 0 113 (by decide +kernel) rfl g5 ?_
  refine dq_S (.bipush 58) 2 [] 115 _ [.int 58, va_rf o0] (by decide +kernel) rfl ?_
  obtain ⟨h39, q40, hh⟩ := db hh
  obtain ⟨a41, q42, q40⟩ := db q40
  rw [dq_xV q40] at q42
  refine dq_cvi hD 335 308 5 1 [15] o0 [.int 58] [] 118 [] (by decide +kernel) ap_308 ⟨⟨Nat.le_of_ble_eq_true rfl, by decide⟩, rfl, rfl⟩ (dq_ok8 [1, 1] [] (dc_r (dc_i dc_n)) dc_n (by decide +kernel)) (by decide +kernel) rfl q42 rfl ?_
  refine dq_aln 0 119 (by decide +kernel) rfl g5 ?_
  obtain ⟨p43, q44, hh⟩ := db hh
  refine dq_gR 66 21 [15] 122 (by decide +kernel) rfl q44 ?_
  refine dq_iln 2 123 (by decide +kernel) rfl g7 ?_
  refine dq_aln 0 124 (by decide +kernel) rfl g5 ?_
  obtain ⟨x45, q46, hh⟩ := db hh
  refine dq_gI 295 57 [15] 127 (by decide +kernel) rfl q46 ?_
  rcases di hh with ⟨q47, hh⟩ | ⟨q47, hh⟩
  · refine dq_1 .le 7 true 134 q47 (by decide +kernel) ?_
    refine dq_aln 0 135 (by decide +kernel) rfl g5 ?_
    obtain ⟨x48, q49, hh⟩ := db hh
    obtain ⟨a50, q51, q49⟩ := db q49
    rw [dq_xI q49] at q51
    refine dq_cvi hD 348 312 5 0 [15] o0 [] [.int i2, va_rf p43] 138 [.int x48.1, .int i2, va_rf p43] (by decide +kernel) ap_312 ⟨⟨Nat.le_of_ble_eq_true rfl, by decide⟩, rfl, rfl⟩ (dq_ok8 [1] [1, 1] (dc_r dc_n) (dc_i (dc_r dc_n)) (by decide +kernel)) (by decide +kernel) rfl q51 rfl ?_
    exact c319_138 hD hz _ _ _ _ _ _ _ _ _ g5 g6 g7 hh
  · refine dq_1 .le 7 false 130 q47 (by decide +kernel) ?_
    refine dq_S (.iconst 0) 1 [] 131 _ [.int 0, .int i2, va_rf p43] (by decide +kernel) rfl ?_
    refine dq_S (.goto 7) 3 [] 138 _ [.int 0, .int i2, va_rf p43] (by decide +kernel) rfl ?_
    exact c319_138 hD hz _ _ _ _ _ _ _ _ _ g5 g6 g7 hh
def b319_0 (L : Nat) (xs : Nat → Int32) (zf : Value) (D : dD) (w : Nat) (o0 : Option Nat) (i1 : Int32) (h : rm_H) : Option dR :=
  (dgR L xs h 7 [15] o0).bind fun p1 =>
  (dgI L xs h 56 [15] o0).bind fun x3 =>
  (daI L xs h p1 x3).bind fun x5 =>
  ((dcV L xs D 316 [15] o0 [.int 20, .int x5] h).bind dxI).bind fun x7 =>
  (dgI L xs x7.2 56 [15] o0).bind fun x14 =>
  (dpF x7.2 56 [15] o0 (.int (x14 + 1))).bind fun h16 =>
  (dgR L xs h16 6 [15] o0).bind fun p18 =>
  (dgI L xs h16 56 [15] o0).bind fun x20 =>
  (daI L xs h16 p18 x20).bind fun x22 =>
  if mx_f2 .ne x22 1 = true then
    b319_52 L xs zf D w o0 i1 x7.1 h16
  else
    (dgI L xs h16 59 [15] o0).bind fun x25 =>
    if mx_f2 .ne x25 16 = true then
      b319_52 L xs zf D w o0 i1 x7.1 h16
    else
      ((dcV L xs D 304 [15] o0 [] h16).bind dxV).bind fun h28 =>
      b319_52 L xs zf D w o0 i1 x7.1 h28
theorem c319_0 {L : Nat} {xs : Nat → Int32} {zf : Value} {D : dD} {w k : Nat} (hD : dO L xs zf D k) (hz : zf.category = 1) : ∀ (o0 : Option Nat) (i1 : Int32) (lv : rm_L) (h : rm_H) (r : dR), rm_get lv 0 = some (va_rf o0) → rm_get lv 1 = some (.int i1) → b319_0 L xs zf D w  o0 i1 h = some r → dq L xs zf ah_M319 0 lv [] h (k + 1) r := by
  intro o0 i1 lv h r G0 G1 hh
  unfold b319_0 at hh
  refine dq_aln 0 1 (by decide +kernel) rfl G0 ?_
  refine dq_S (.bipush 20) 2 [] 3 _ [.int 20, va_rf o0] (by decide +kernel) rfl ?_
  refine dq_aln 0 4 (by decide +kernel) rfl G0 ?_
  obtain ⟨p1, q2, hh⟩ := db hh
  refine dq_gR 27 7 [15] 7 (by decide +kernel) rfl q2 ?_
  refine dq_aln 0 8 (by decide +kernel) rfl G0 ?_
  obtain ⟨x3, q4, hh⟩ := db hh
  refine dq_gI 298 56 [15] 11 (by decide +kernel) rfl q4 ?_
  obtain ⟨x5, q6, hh⟩ := db hh
  refine dq_aI 12 (by decide +kernel) rfl q6 ?_
  obtain ⟨x7, q8, hh⟩ := db hh
  obtain ⟨a9, q10, q8⟩ := db q8
  rw [dq_xI q8] at q10
  refine dq_cvi hD 360 316 5 2 [15] o0 [.int 20, .int x5] [] 15 [.int x7.1] (by decide +kernel) ap_316 ⟨⟨Nat.le_of_ble_eq_true rfl, by decide⟩, rfl, rfl⟩ (dq_ok8 [1, 1, 1] [] (dc_r (dc_i (dc_i dc_n))) dc_n (by decide +kernel)) (by decide +kernel) rfl q10 rfl ?_
  refine dq_isn 2 16 (by decide +kernel) (by decide +kernel) ?_
  have g11 := dg_ne (i := 2) (u := .int x7.1) (by decide) (Or.inl (by decide)) G0
  have g12 := dg_ne (i := 2) (u := .int x7.1) (by decide) (Or.inr rfl) G1
  have g13 := dg_eq (lv) 2 (.int x7.1)
  refine dq_aln 0 17 (by decide +kernel) rfl g11 ?_
  refine dq_dup 18 (by decide +kernel) rfl ?_
  obtain ⟨x14, q15, hh⟩ := db hh
  refine dq_gI 298 56 [15] 21 (by decide +kernel) rfl q15 ?_
  refine dq_S (.iconst 1) 1 [] 22 _ [.int 1, .int x14, va_rf o0] (by decide +kernel) rfl ?_
  refine dq_S (.iadd) 1 [] 23 _ [.int (x14 + 1), va_rf o0] (by decide +kernel) rfl ?_
  obtain ⟨h16, q17, hh⟩ := db hh
  refine dq_put 298 56 [15] 26 (by decide +kernel) rfl q17 ?_
  refine dq_aln 0 27 (by decide +kernel) rfl g11 ?_
  obtain ⟨p18, q19, hh⟩ := db hh
  refine dq_gR 24 6 [15] 30 (by decide +kernel) rfl q19 ?_
  refine dq_aln 0 31 (by decide +kernel) rfl g11 ?_
  obtain ⟨x20, q21, hh⟩ := db hh
  refine dq_gI 298 56 [15] 34 (by decide +kernel) rfl q21 ?_
  obtain ⟨x22, q23, hh⟩ := db hh
  refine dq_aI 35 (by decide +kernel) rfl q23 ?_
  refine dq_S (.iconst 1) 1 [] 36 _ [.int 1, .int x22] (by decide +kernel) rfl ?_
  rcases di hh with ⟨q24, hh⟩ | ⟨q24, hh⟩
  · refine dq_2 .ne 16 true 52 q24 (by decide +kernel) ?_
    exact c319_52 hD hz _ _ _ _ _ _ g11 g12 g13 hh
  · refine dq_2 .ne 16 false 39 q24 (by decide +kernel) ?_
    refine dq_aln 0 40 (by decide +kernel) rfl g11 ?_
    obtain ⟨x25, q26, hh⟩ := db hh
    refine dq_gI 357 59 [15] 43 (by decide +kernel) rfl q26 ?_
    refine dq_S (.bipush 16) 2 [] 45 _ [.int 16, .int x25] (by decide +kernel) rfl ?_
    rcases di hh with ⟨q27, hh⟩ | ⟨q27, hh⟩
    · refine dq_2 .ne 7 true 52 q27 (by decide +kernel) ?_
      exact c319_52 hD hz _ _ _ _ _ _ g11 g12 g13 hh
    · refine dq_2 .ne 7 false 48 q27 (by decide +kernel) ?_
      refine dq_aln 0 49 (by decide +kernel) rfl g11 ?_
      obtain ⟨h28, q29, hh⟩ := db hh
      obtain ⟨a30, q31, q29⟩ := db q29
      rw [dq_xV q29] at q31
      refine dq_cvi hD 310 304 5 0 [15] o0 [] [] 52 [] (by decide +kernel) ap_304 ⟨⟨Nat.le_of_ble_eq_true rfl, by decide⟩, rfl, rfl⟩ (dq_ok8 [1] [] (dc_r dc_n) dc_n (by decide +kernel)) (by decide +kernel) rfl q31 rfl ?_
      exact c319_52 hD hz _ _ _ _ _ _ g11 g12 g13 hh
def f319 (L : Nat) (xs : Nat → Int32) (zf : Value) (D : dD) (w : Nat) (As : List Value) (h : rm_H) : Option dR := match As with
  | [v0, .int i1] => (rm_rf v0).bind fun o0 => b319_0 L xs zf D w o0 i1 h
  | _ => none
theorem d319 {L : Nat} {xs : Nat → Int32} {zf : Value} {D : dD} {w k : Nat} (hD : dO L xs zf D k) (hz : zf.category = 1) (As : List Value) (h : rm_H) (r : dR) (hh : f319 L xs zf D w As h = some r) : dq L xs zf ah_M319 0 (lv_args 0 As) [] h (k + 1) r := by
  unfold f319 at hh
  split at hh
  · obtain ⟨o0, e0, hb0⟩ := db hh
    have e0 := rm_rf_v _ _ e0
    subst e0
    refine c319_0 hD hz _ _ _ _ _ ?_ ?_ hb0
    all_goals (simp only [la_r, la_i, la_j]; rfl)
  · cases hh
def b320_16 (L : Nat) (xs : Nat → Int32) (zf : Value) (D : dD) (w : Nat) : Nat → Option Nat → Int32 → Int32 → rm_H → Option dR
  | 0, _, _, _, _ => none
  | n + 1, o0, i1, i2, h =>
    ((dcV L xs D 325 [15] o0 [] h).bind dxI).bind fun x1 =>
    if mx_f1 .eq x1.1 = true then
      drI (some .int) i2 x1.2
    else
      (dgR L xs x1.2 17 [15] o0).bind fun p6 =>
      (daI L xs x1.2 p6 i2).bind fun x8 =>
      ((dcV L xs D 316 [15] o0 [.int 13, .int x8] x1.2).bind dxI).bind fun x10 =>
      (dgR L xs x10.2 21 [15] o0).bind fun p18 =>
      (dgR L xs x10.2 8 [15] o0).bind fun p20 =>
      (dgI L xs x10.2 56 [15] o0).bind fun x22 =>
      (daI L xs x10.2 p20 x22).bind fun x24 =>
      (dsI x10.2 p18 x10.1 x24).bind fun h26 =>
      (dgI L xs h26 56 [15] o0).bind fun x28 =>
      (dpF h26 56 [15] o0 (.int (x28 + 1))).bind fun h30 =>
      (dgI L xs h30 24 [15] o0).bind fun x32 =>
      (dpF h30 24 [15] o0 (.int (x32 + 1))).bind fun h34 =>
      (dgR L xs h34 12 [15] o0).bind fun p36 =>
      ((dcV L xs D 323 [15] o0 [.int x10.1, .int i2] h34).bind dxI).bind fun x38 =>
      (dsI x38.2 p36 x10.1 x38.1).bind fun h42 =>
      (dgR L xs h42 13 [15] o0).bind fun p44 =>
      ((dcV L xs D 321 [15] o0 [.int i1] h42).bind dxI).bind fun x46 =>
      ((dcV L xs D 323 [15] o0 [.int x10.1, .int x46.1] x46.2).bind dxI).bind fun x50 =>
      (dsI x50.2 p44 x10.1 x50.1).bind fun h54 =>
      b320_16 L xs zf D w n o0 i1 x10.1 h54
theorem c320_16 {L : Nat} {xs : Nat → Int32} {zf : Value} {D : dD} {w k : Nat} (hD : dO L xs zf D k) (hz : zf.category = 1) : ∀ (n : Nat) (o0 : Option Nat) (i1 : Int32) (i2 : Int32) (lv : rm_L) (h : rm_H) (r : dR), rm_get lv 0 = some (va_rf o0) → rm_get lv 1 = some (.int i1) → rm_get lv 2 = some (.int i2) → b320_16 L xs zf D w n  o0 i1 i2 h = some r → dq L xs zf ah_M320 16 lv [] h (k + 1) r := by
  intro n
  induction n with
  | zero =>
    intro o0 i1 i2 lv h r G0 G1 G2 hh
    cases hh
  | succ n ih =>
    intro o0 i1 i2 lv h r G0 G1 G2 hh
    rw [b320_16] at hh
    refine dq_aln 0 17 (by decide +kernel) rfl G0 ?_
    obtain ⟨x1, q2, hh⟩ := db hh
    obtain ⟨a3, q4, q2⟩ := db q2
    rw [dq_xI q2] at q4
    refine dq_cvi hD 385 325 5 0 [15] o0 [] [] 20 [.int x1.1] (by decide +kernel) ap_325 ⟨⟨Nat.le_of_ble_eq_true rfl, by decide⟩, rfl, rfl⟩ (dq_ok8 [1] [] (dc_r dc_n) dc_n (by decide +kernel)) (by decide +kernel) rfl q4 rfl ?_
    rcases di hh with ⟨q5, hh⟩ | ⟨q5, hh⟩
    · refine dq_1 .eq 84 true 104 q5 (by decide +kernel) ?_
      refine dq_iln 2 105 (by decide +kernel) rfl G2 ?_
      exact dq_retI (some .int) (by decide +kernel) rfl hh
    · refine dq_1 .eq 84 false 23 q5 (by decide +kernel) ?_
      refine dq_aln 0 24 (by decide +kernel) rfl G0 ?_
      refine dq_S (.bipush 13) 2 [] 26 _ [.int 13, va_rf o0] (by decide +kernel) rfl ?_
      refine dq_aln 0 27 (by decide +kernel) rfl G0 ?_
      obtain ⟨p6, q7, hh⟩ := db hh
      refine dq_gR 54 17 [15] 30 (by decide +kernel) rfl q7 ?_
      refine dq_iln 2 31 (by decide +kernel) rfl G2 ?_
      obtain ⟨x8, q9, hh⟩ := db hh
      refine dq_aI 32 (by decide +kernel) rfl q9 ?_
      obtain ⟨x10, q11, hh⟩ := db hh
      obtain ⟨a12, q13, q11⟩ := db q11
      rw [dq_xI q11] at q13
      refine dq_cvi hD 360 316 5 2 [15] o0 [.int 13, .int x8] [] 35 [.int x10.1] (by decide +kernel) ap_316 ⟨⟨Nat.le_of_ble_eq_true rfl, by decide⟩, rfl, rfl⟩ (dq_ok8 [1, 1, 1] [] (dc_r (dc_i (dc_i dc_n))) dc_n (by decide +kernel)) (by decide +kernel) rfl q13 rfl ?_
      refine dq_isn 3 36 (by decide +kernel) (by decide +kernel) ?_
      have g14 := dg_ne (i := 3) (u := .int x10.1) (by decide) (Or.inl (by decide)) G0
      have g15 := dg_ne (i := 3) (u := .int x10.1) (by decide) (Or.inl (by decide)) G1
      have g16 := dg_ne (i := 3) (u := .int x10.1) (by decide) (Or.inr rfl) G2
      have g17 := dg_eq (lv) 3 (.int x10.1)
      refine dq_aln 0 37 (by decide +kernel) rfl g14 ?_
      obtain ⟨p18, q19, hh⟩ := db hh
      refine dq_gR 66 21 [15] 40 (by decide +kernel) rfl q19 ?_
      refine dq_iln 3 41 (by decide +kernel) rfl g17 ?_
      refine dq_aln 0 42 (by decide +kernel) rfl g14 ?_
      obtain ⟨p20, q21, hh⟩ := db hh
      refine dq_gR 30 8 [15] 45 (by decide +kernel) rfl q21 ?_
      refine dq_aln 0 46 (by decide +kernel) rfl g14 ?_
      obtain ⟨x22, q23, hh⟩ := db hh
      refine dq_gI 298 56 [15] 49 (by decide +kernel) rfl q23 ?_
      obtain ⟨x24, q25, hh⟩ := db hh
      refine dq_aI 50 (by decide +kernel) rfl q25 ?_
      obtain ⟨h26, q27, hh⟩ := db hh
      refine dq_sI 51 (by decide +kernel) rfl q27 ?_
      refine dq_aln 0 52 (by decide +kernel) rfl g14 ?_
      refine dq_dup 53 (by decide +kernel) rfl ?_
      obtain ⟨x28, q29, hh⟩ := db hh
      refine dq_gI 298 56 [15] 56 (by decide +kernel) rfl q29 ?_
      refine dq_S (.iconst 1) 1 [] 57 _ [.int 1, .int x28, va_rf o0] (by decide +kernel) rfl ?_
      refine dq_S (.iadd) 1 [] 58 _ [.int (x28 + 1), va_rf o0] (by decide +kernel) rfl ?_
      obtain ⟨h30, q31, hh⟩ := db hh
      refine dq_put 298 56 [15] 61 (by decide +kernel) rfl q31 ?_
      refine dq_aln 0 62 (by decide +kernel) rfl g14 ?_
      refine dq_dup 63 (by decide +kernel) rfl ?_
      obtain ⟨x32, q33, hh⟩ := db hh
      refine dq_gI 388 24 [15] 66 (by decide +kernel) rfl q33 ?_
      refine dq_S (.iconst 1) 1 [] 67 _ [.int 1, .int x32, va_rf o0] (by decide +kernel) rfl ?_
      refine dq_S (.iadd) 1 [] 68 _ [.int (x32 + 1), va_rf o0] (by decide +kernel) rfl ?_
      obtain ⟨h34, q35, hh⟩ := db hh
      refine dq_put 388 24 [15] 71 (by decide +kernel) rfl q35 ?_
      refine dq_aln 0 72 (by decide +kernel) rfl g14 ?_
      obtain ⟨p36, q37, hh⟩ := db hh
      refine dq_gR 39 12 [15] 75 (by decide +kernel) rfl q37 ?_
      refine dq_iln 3 76 (by decide +kernel) rfl g17 ?_
      refine dq_aln 0 77 (by decide +kernel) rfl g14 ?_
      refine dq_iln 3 78 (by decide +kernel) rfl g17 ?_
      refine dq_iln 2 79 (by decide +kernel) rfl g16 ?_
      obtain ⟨x38, q39, hh⟩ := db hh
      obtain ⟨a40, q41, q39⟩ := db q39
      rw [dq_xI q39] at q41
      refine dq_cvi hD 376 323 5 2 [15] o0 [.int x10.1, .int i2] [.int x10.1, va_rf p36] 82 [.int x38.1, .int x10.1, va_rf p36] (by decide +kernel) ap_323 ⟨⟨Nat.le_of_ble_eq_true rfl, by decide⟩, rfl, rfl⟩ (dq_ok8 [1, 1, 1] [1, 1] (dc_r (dc_i (dc_i dc_n))) (dc_i (dc_r dc_n)) (by decide +kernel)) (by decide +kernel) rfl q41 rfl ?_
      obtain ⟨h42, q43, hh⟩ := db hh
      refine dq_sI 83 (by decide +kernel) rfl q43 ?_
      refine dq_aln 0 84 (by decide +kernel) rfl g14 ?_
      obtain ⟨p44, q45, hh⟩ := db hh
      refine dq_gR 42 13 [15] 87 (by decide +kernel) rfl q45 ?_
      refine dq_iln 3 88 (by decide +kernel) rfl g17 ?_
      refine dq_aln 0 89 (by decide +kernel) rfl g14 ?_
      refine dq_iln 3 90 (by decide +kernel) rfl g17 ?_
      refine dq_aln 0 91 (by decide +kernel) rfl g14 ?_
      refine dq_iln 1 92 (by decide +kernel) rfl g15 ?_
      obtain ⟨x46, q47, hh⟩ := db hh
      obtain ⟨a48, q49, q47⟩ := db q47
      rw [dq_xI q47] at q49
      refine dq_cvi hD 382 321 5 1 [15] o0 [.int i1] [.int x10.1, va_rf o0, .int x10.1, va_rf p44] 95 [.int x46.1, .int x10.1, va_rf o0, .int x10.1, va_rf p44] (by decide +kernel) ap_321 ⟨⟨Nat.le_of_ble_eq_true rfl, by decide⟩, rfl, rfl⟩ (dq_ok8 [1, 1] [1, 1, 1, 1] (dc_r (dc_i dc_n)) (dc_i (dc_r (dc_i (dc_r dc_n)))) (by decide +kernel)) (by decide +kernel) rfl q49 rfl ?_
      obtain ⟨x50, q51, hh⟩ := db hh
      obtain ⟨a52, q53, q51⟩ := db q51
      rw [dq_xI q51] at q53
      refine dq_cvi hD 376 323 5 2 [15] o0 [.int x10.1, .int x46.1] [.int x10.1, va_rf p44] 98 [.int x50.1, .int x10.1, va_rf p44] (by decide +kernel) ap_323 ⟨⟨Nat.le_of_ble_eq_true rfl, by decide⟩, rfl, rfl⟩ (dq_ok8 [1, 1, 1] [1, 1] (dc_r (dc_i (dc_i dc_n))) (dc_i (dc_r dc_n)) (by decide +kernel)) (by decide +kernel) rfl q53 rfl ?_
      obtain ⟨h54, q55, hh⟩ := db hh
      refine dq_sI 99 (by decide +kernel) rfl q55 ?_
      refine dq_iln 3 100 (by decide +kernel) rfl g17 ?_
      refine dq_isn 2 101 (by decide +kernel) (by decide +kernel) ?_
      have g56 := dg_ne (i := 2) (u := .int x10.1) (by decide) (Or.inl (by decide)) g14
      have g57 := dg_ne (i := 2) (u := .int x10.1) (by decide) (Or.inr rfl) g15
      have g58 := dg_ne (i := 2) (u := .int x10.1) (by decide) (Or.inl (by decide)) g17
      have g59 := dg_eq (rm_set1 (lv) 3 (.int x10.1)) 2 (.int x10.1)
      refine dq_S (.goto (-85)) 3 [] 16 _ [] (by decide +kernel) rfl ?_
      exact ih _ _ _ _ _ _ g56 g57 g59 hh
def b320_10 (L : Nat) (xs : Nat → Int32) (zf : Value) (D : dD) (w : Nat) (o0 : Option Nat) (i1 : Int32) (h : rm_H) : Option dR :=
  ((dcV L xs D 321 [15] o0 [.int i1] h).bind dxI).bind fun x1 =>
  b320_16 L xs zf D w w o0 i1 x1.1 x1.2
theorem c320_10 {L : Nat} {xs : Nat → Int32} {zf : Value} {D : dD} {w k : Nat} (hD : dO L xs zf D k) (hz : zf.category = 1) : ∀ (o0 : Option Nat) (i1 : Int32) (lv : rm_L) (h : rm_H) (r : dR), rm_get lv 0 = some (va_rf o0) → rm_get lv 1 = some (.int i1) → b320_10 L xs zf D w  o0 i1 h = some r → dq L xs zf ah_M320 10 lv [] h (k + 1) r := by
  intro o0 i1 lv h r G0 G1 hh
  unfold b320_10 at hh
  refine dq_aln 0 11 (by decide +kernel) rfl G0 ?_
  refine dq_iln 1 12 (by decide +kernel) rfl G1 ?_
  obtain ⟨x1, q2, hh⟩ := db hh
  obtain ⟨a3, q4, q2⟩ := db q2
  rw [dq_xI q2] at q4
  refine dq_cvi hD 382 321 5 1 [15] o0 [.int i1] [] 15 [.int x1.1] (by decide +kernel) ap_321 ⟨⟨Nat.le_of_ble_eq_true rfl, by decide⟩, rfl, rfl⟩ (dq_ok8 [1, 1] [] (dc_r (dc_i dc_n)) dc_n (by decide +kernel)) (by decide +kernel) rfl q4 rfl ?_
  refine dq_isn 2 16 (by decide +kernel) (by decide +kernel) ?_
  have g5 := dg_ne (i := 2) (u := .int x1.1) (by decide) (Or.inl (by decide)) G0
  have g6 := dg_ne (i := 2) (u := .int x1.1) (by decide) (Or.inr rfl) G1
  have g7 := dg_eq (lv) 2 (.int x1.1)
  exact c320_16 hD hz _ _ _ _ _ _ _ g5 g6 g7 hh
def b320_0 (L : Nat) (xs : Nat → Int32) (zf : Value) (D : dD) (w : Nat) (o0 : Option Nat) (i1 : Int32) (h : rm_H) : Option dR :=
  if mx_f2 .le i1 24 = true then
    b320_10 L xs zf D w o0 i1 h
  else
    ((dcV L xs D 304 [15] o0 [] h).bind dxV).bind fun h2 =>
    b320_10 L xs zf D w o0 i1 h2
theorem c320_0 {L : Nat} {xs : Nat → Int32} {zf : Value} {D : dD} {w k : Nat} (hD : dO L xs zf D k) (hz : zf.category = 1) : ∀ (o0 : Option Nat) (i1 : Int32) (lv : rm_L) (h : rm_H) (r : dR), rm_get lv 0 = some (va_rf o0) → rm_get lv 1 = some (.int i1) → b320_0 L xs zf D w  o0 i1 h = some r → dq L xs zf ah_M320 0 lv [] h (k + 1) r := by
  intro o0 i1 lv h r G0 G1 hh
  unfold b320_0 at hh
  refine dq_iln 1 1 (by decide +kernel) rfl G1 ?_
  refine dq_S (.bipush 24) 2 [] 3 _ [.int 24, .int i1] (by decide +kernel) rfl ?_
  rcases di hh with ⟨q1, hh⟩ | ⟨q1, hh⟩
  · refine dq_2 .le 7 true 10 q1 (by decide +kernel) ?_
    exact c320_10 hD hz _ _ _ _ _ G0 G1 hh
  · refine dq_2 .le 7 false 6 q1 (by decide +kernel) ?_
    refine dq_aln 0 7 (by decide +kernel) rfl G0 ?_
    obtain ⟨h2, q3, hh⟩ := db hh
    obtain ⟨a4, q5, q3⟩ := db q3
    rw [dq_xV q3] at q5
    refine dq_cvi hD 310 304 5 0 [15] o0 [] [] 10 [] (by decide +kernel) ap_304 ⟨⟨Nat.le_of_ble_eq_true rfl, by decide⟩, rfl, rfl⟩ (dq_ok8 [1] [] (dc_r dc_n) dc_n (by decide +kernel)) (by decide +kernel) rfl q5 rfl ?_
    exact c320_10 hD hz _ _ _ _ _ G0 G1 hh
def f320 (L : Nat) (xs : Nat → Int32) (zf : Value) (D : dD) (w : Nat) (As : List Value) (h : rm_H) : Option dR := match As with
  | [v0, .int i1] => (rm_rf v0).bind fun o0 => b320_0 L xs zf D w o0 i1 h
  | _ => none
theorem d320 {L : Nat} {xs : Nat → Int32} {zf : Value} {D : dD} {w k : Nat} (hD : dO L xs zf D k) (hz : zf.category = 1) (As : List Value) (h : rm_H) (r : dR) (hh : f320 L xs zf D w As h = some r) : dq L xs zf ah_M320 0 (lv_args 0 As) [] h (k + 1) r := by
  unfold f320 at hh
  split at hh
  · obtain ⟨o0, e0, hb0⟩ := db hh
    have e0 := rm_rf_v _ _ e0
    subst e0
    refine c320_0 hD hz _ _ _ _ _ ?_ ?_ hb0
    all_goals (simp only [la_r, la_i, la_j]; rfl)
  · cases hh
def b321_182 (L : Nat) (xs : Nat → Int32) (zf : Value) (D : dD) (w : Nat) (K6 : Option Nat → Int32 → Int32 → rm_H → Option dR) (o0 : Option Nat) (i1 : Int32) (i6 : Int32) (h : rm_H) : Option dR :=
  K6 o0 i1 i6 h
theorem c321_182 {L : Nat} {xs : Nat → Int32} {zf : Value} {D : dD} {w k : Nat} {K6 : Option Nat → Int32 → Int32 → rm_H → Option dR} (hD : dO L xs zf D k) (hz : zf.category = 1) (hK6 : ∀ (o0 : Option Nat) (i1 : Int32) (i2 : Int32) (lv : rm_L) (h : rm_H) (r : dR), rm_get lv 0 = some (va_rf o0) → rm_get lv 1 = some (.int i1) → rm_get lv 2 = some (.int i2) → K6 o0 i1 i2 h = some r → dq L xs zf ah_M321 6 lv [] h (k + 1) r) : ∀ (o0 : Option Nat) (i1 : Int32) (i6 : Int32) (lv : rm_L) (h : rm_H) (r : dR), rm_get lv 0 = some (va_rf o0) → rm_get lv 1 = some (.int i1) → rm_get lv 6 = some (.int i6) → b321_182 L xs zf D w K6  o0 i1 i6 h = some r → dq L xs zf ah_M321 182 lv [] h (k + 1) r := by
  intro o0 i1 i6 lv h r G0 G1 G6 hh
  unfold b321_182 at hh
  refine dq_il 6 184 (by decide +kernel) rfl G6 ?_
  refine dq_isn 2 185 (by decide +kernel) (by decide +kernel) ?_
  have g1 := dg_ne (i := 2) (u := .int i6) (by decide) (Or.inl (by decide)) G0
  have g2 := dg_ne (i := 2) (u := .int i6) (by decide) (Or.inr rfl) G1
  have g3 := dg_ne (i := 2) (u := .int i6) (by decide) (Or.inl (by decide)) G6
  have g4 := dg_eq (lv) 2 (.int i6)
  refine dq_S (.goto (-179)) 3 [] 6 _ [] (by decide +kernel) rfl ?_
  exact hK6 _ _ _ _ _ _ g1 g2 g4 hh
def b321_90 (L : Nat) (xs : Nat → Int32) (zf : Value) (D : dD) (w : Nat) (K6 : Option Nat → Int32 → Int32 → rm_H → Option dR) (o0 : Option Nat) (i1 : Int32) (i2 : Int32) (i4 : Int32) (i5 : Int32) (s0 : Int32) (s1 : Option Nat) (h : rm_H) : Option dR :=
  (dgR L xs h 17 [15] o0).bind fun p1 =>
  (daI L xs h p1 i2).bind fun x3 =>
  ((dcV L xs D 316 [15] s1 [.int s0, .int x3] h).bind dxI).bind fun x5 =>
  (dgI L xs x5.2 24 [15] o0).bind fun x15 =>
  (dpF x5.2 24 [15] o0 (.int (x15 + 1))).bind fun h17 =>
  (dgR L xs h17 23 [15] o0).bind fun p19 =>
  (dgR L xs h17 9 [15] o0).bind fun p21 =>
  (daJ L xs h17 p21 i4).bind fun y23 =>
  (dsJ h17 p19 x5.1 y23).bind fun h25 =>
  (dgR L xs h25 18 [15] o0).bind fun p27 =>
  (dgR L xs h25 7 [15] o0).bind fun p29 =>
  (daI L xs h25 p29 i4).bind fun x31 =>
  (dsI h25 p27 x5.1 x31).bind fun h33 =>
  if mx_f1 .eq i5 = true then
    (dgR L xs h33 12 [15] o0).bind fun p36 =>
    ((dcV L xs D 323 [15] o0 [.int x5.1, .int i2] h33).bind dxI).bind fun x38 =>
    (dsI x38.2 p36 x5.1 x38.1).bind fun h42 =>
    b321_182 L xs zf D w K6 o0 i1 x5.1 h42
  else
    (dgR L xs h33 13 [15] o0).bind fun p44 =>
    ((dcV L xs D 323 [15] o0 [.int x5.1, .int i2] h33).bind dxI).bind fun x46 =>
    (dsI x46.2 p44 x5.1 x46.1).bind fun h50 =>
    ((dcV L xs D 324 [15] o0 [.int x5.1, .int i1] h50).bind dxV).bind fun h52 =>
    b321_182 L xs zf D w K6 o0 i1 x5.1 h52
theorem c321_90 {L : Nat} {xs : Nat → Int32} {zf : Value} {D : dD} {w k : Nat} {K6 : Option Nat → Int32 → Int32 → rm_H → Option dR} (hD : dO L xs zf D k) (hz : zf.category = 1) (hK6 : ∀ (o0 : Option Nat) (i1 : Int32) (i2 : Int32) (lv : rm_L) (h : rm_H) (r : dR), rm_get lv 0 = some (va_rf o0) → rm_get lv 1 = some (.int i1) → rm_get lv 2 = some (.int i2) → K6 o0 i1 i2 h = some r → dq L xs zf ah_M321 6 lv [] h (k + 1) r) : ∀ (o0 : Option Nat) (i1 : Int32) (i2 : Int32) (i4 : Int32) (i5 : Int32) (s0 : Int32) (s1 : Option Nat) (lv : rm_L) (h : rm_H) (r : dR), rm_get lv 0 = some (va_rf o0) → rm_get lv 1 = some (.int i1) → rm_get lv 2 = some (.int i2) → rm_get lv 4 = some (.int i4) → rm_get lv 5 = some (.int i5) → b321_90 L xs zf D w K6  o0 i1 i2 i4 i5 s0 s1 h = some r → dq L xs zf ah_M321 90 lv [.int s0, va_rf s1] h (k + 1) r := by
  intro o0 i1 i2 i4 i5 s0 s1 lv h r G0 G1 G2 G4 G5 hh
  unfold b321_90 at hh
  refine dq_aln 0 91 (by decide +kernel) rfl G0 ?_
  obtain ⟨p1, q2, hh⟩ := db hh
  refine dq_gR 54 17 [15] 94 (by decide +kernel) rfl q2 ?_
  refine dq_iln 2 95 (by decide +kernel) rfl G2 ?_
  obtain ⟨x3, q4, hh⟩ := db hh
  refine dq_aI 96 (by decide +kernel) rfl q4 ?_
  obtain ⟨x5, q6, hh⟩ := db hh
  obtain ⟨a7, q8, q6⟩ := db q6
  rw [dq_xI q6] at q8
  refine dq_cvi hD 360 316 5 2 [15] s1 [.int s0, .int x3] [] 99 [.int x5.1] (by decide +kernel) ap_316 ⟨⟨Nat.le_of_ble_eq_true rfl, by decide⟩, rfl, rfl⟩ (dq_ok8 [1, 1, 1] [] (dc_r (dc_i (dc_i dc_n))) dc_n (by decide +kernel)) (by decide +kernel) rfl q8 rfl ?_
  refine dq_is 6 101 (by decide +kernel) (by decide +kernel) ?_
  have g9 := dg_ne (i := 6) (u := .int x5.1) (by decide) (Or.inl (by decide)) G0
  have g10 := dg_ne (i := 6) (u := .int x5.1) (by decide) (Or.inl (by decide)) G1
  have g11 := dg_ne (i := 6) (u := .int x5.1) (by decide) (Or.inl (by decide)) G2
  have g12 := dg_ne (i := 6) (u := .int x5.1) (by decide) (Or.inl (by decide)) G4
  have g13 := dg_ne (i := 6) (u := .int x5.1) (by decide) (Or.inr rfl) G5
  have g14 := dg_eq (lv) 6 (.int x5.1)
  refine dq_aln 0 102 (by decide +kernel) rfl g9 ?_
  refine dq_dup 103 (by decide +kernel) rfl ?_
  obtain ⟨x15, q16, hh⟩ := db hh
  refine dq_gI 388 24 [15] 106 (by decide +kernel) rfl q16 ?_
  refine dq_S (.iconst 1) 1 [] 107 _ [.int 1, .int x15, va_rf o0] (by decide +kernel) rfl ?_
  refine dq_S (.iadd) 1 [] 108 _ [.int (x15 + 1), va_rf o0] (by decide +kernel) rfl ?_
  obtain ⟨h17, q18, hh⟩ := db hh
  refine dq_put 388 24 [15] 111 (by decide +kernel) rfl q18 ?_
  refine dq_aln 0 112 (by decide +kernel) rfl g9 ?_
  obtain ⟨p19, q20, hh⟩ := db hh
  refine dq_gR 72 23 [15] 115 (by decide +kernel) rfl q20 ?_
  refine dq_il 6 117 (by decide +kernel) rfl g14 ?_
  refine dq_aln 0 118 (by decide +kernel) rfl g9 ?_
  obtain ⟨p21, q22, hh⟩ := db hh
  refine dq_gR 33 9 [15] 121 (by decide +kernel) rfl q22 ?_
  refine dq_il 4 123 (by decide +kernel) rfl g12 ?_
  obtain ⟨y23, q24, hh⟩ := db hh
  refine dq_aJ 124 (by decide +kernel) rfl q24 ?_
  obtain ⟨h25, q26, hh⟩ := db hh
  refine dq_sJ 125 (by decide +kernel) rfl q26 ?_
  refine dq_aln 0 126 (by decide +kernel) rfl g9 ?_
  obtain ⟨p27, q28, hh⟩ := db hh
  refine dq_gR 57 18 [15] 129 (by decide +kernel) rfl q28 ?_
  refine dq_il 6 131 (by decide +kernel) rfl g14 ?_
  refine dq_aln 0 132 (by decide +kernel) rfl g9 ?_
  obtain ⟨p29, q30, hh⟩ := db hh
  refine dq_gR 27 7 [15] 135 (by decide +kernel) rfl q30 ?_
  refine dq_il 4 137 (by decide +kernel) rfl g12 ?_
  obtain ⟨x31, q32, hh⟩ := db hh
  refine dq_aI 138 (by decide +kernel) rfl q32 ?_
  obtain ⟨h33, q34, hh⟩ := db hh
  refine dq_sI 139 (by decide +kernel) rfl q34 ?_
  refine dq_il 5 141 (by decide +kernel) rfl g13 ?_
  rcases di hh with ⟨q35, hh⟩ | ⟨q35, hh⟩
  · refine dq_1 .eq 27 true 168 q35 (by decide +kernel) ?_
    refine dq_aln 0 169 (by decide +kernel) rfl g9 ?_
    obtain ⟨p36, q37, hh⟩ := db hh
    refine dq_gR 39 12 [15] 172 (by decide +kernel) rfl q37 ?_
    refine dq_il 6 174 (by decide +kernel) rfl g14 ?_
    refine dq_aln 0 175 (by decide +kernel) rfl g9 ?_
    refine dq_il 6 177 (by decide +kernel) rfl g14 ?_
    refine dq_iln 2 178 (by decide +kernel) rfl g11 ?_
    obtain ⟨x38, q39, hh⟩ := db hh
    obtain ⟨a40, q41, q39⟩ := db q39
    rw [dq_xI q39] at q41
    refine dq_cvi hD 376 323 5 2 [15] o0 [.int x5.1, .int i2] [.int x5.1, va_rf p36] 181 [.int x38.1, .int x5.1, va_rf p36] (by decide +kernel) ap_323 ⟨⟨Nat.le_of_ble_eq_true rfl, by decide⟩, rfl, rfl⟩ (dq_ok8 [1, 1, 1] [1, 1] (dc_r (dc_i (dc_i dc_n))) (dc_i (dc_r dc_n)) (by decide +kernel)) (by decide +kernel) rfl q41 rfl ?_
    obtain ⟨h42, q43, hh⟩ := db hh
    refine dq_sI 182 (by decide +kernel) rfl q43 ?_
    exact c321_182 hD hz hK6 _ _ _ _ _ _ g9 g10 g14 hh
  · refine dq_1 .eq 27 false 144 q35 (by decide +kernel) ?_
    refine dq_aln 0 145 (by decide +kernel) rfl g9 ?_
    obtain ⟨p44, q45, hh⟩ := db hh
    refine dq_gR 42 13 [15] 148 (by decide +kernel) rfl q45 ?_
    refine dq_il 6 150 (by decide +kernel) rfl g14 ?_
    refine dq_aln 0 151 (by decide +kernel) rfl g9 ?_
    refine dq_il 6 153 (by decide +kernel) rfl g14 ?_
    refine dq_iln 2 154 (by decide +kernel) rfl g11 ?_
    obtain ⟨x46, q47, hh⟩ := db hh
    obtain ⟨a48, q49, q47⟩ := db q47
    rw [dq_xI q47] at q49
    refine dq_cvi hD 376 323 5 2 [15] o0 [.int x5.1, .int i2] [.int x5.1, va_rf p44] 157 [.int x46.1, .int x5.1, va_rf p44] (by decide +kernel) ap_323 ⟨⟨Nat.le_of_ble_eq_true rfl, by decide⟩, rfl, rfl⟩ (dq_ok8 [1, 1, 1] [1, 1] (dc_r (dc_i (dc_i dc_n))) (dc_i (dc_r dc_n)) (by decide +kernel)) (by decide +kernel) rfl q49 rfl ?_
    obtain ⟨h50, q51, hh⟩ := db hh
    refine dq_sI 158 (by decide +kernel) rfl q51 ?_
    refine dq_aln 0 159 (by decide +kernel) rfl g9 ?_
    refine dq_il 6 161 (by decide +kernel) rfl g14 ?_
    refine dq_iln 1 162 (by decide +kernel) rfl g10 ?_
    obtain ⟨h52, q53, hh⟩ := db hh
    obtain ⟨a54, q55, q53⟩ := db q53
    rw [dq_xV q53] at q55
    refine dq_cvi hD 394 324 5 2 [15] o0 [.int x5.1, .int i1] [] 165 [] (by decide +kernel) ap_324 ⟨⟨Nat.le_of_ble_eq_true rfl, by decide⟩, rfl, rfl⟩ (dq_ok8 [1, 1, 1] [] (dc_r (dc_i (dc_i dc_n))) dc_n (by decide +kernel)) (by decide +kernel) rfl q55 rfl ?_
    refine dq_S (.goto 17) 3 [] 182 _ [] (by decide +kernel) rfl ?_
    exact c321_182 hD hz hK6 _ _ _ _ _ _ g9 g10 g14 hh
def b321_66 (L : Nat) (xs : Nat → Int32) (zf : Value) (D : dD) (w : Nat) (K6 : Option Nat → Int32 → Int32 → rm_H → Option dR) (o0 : Option Nat) (i1 : Int32) (i2 : Int32) (i3 : Int32) (i4 : Int32) (s0 : Int32) (h : rm_H) : Option dR :=
  if mx_f1 .eq i3 = true then
    if mx_f1 .eq s0 = true then
      b321_90 L xs zf D w K6 o0 i1 i2 i4 s0 10 o0 h
    else
      b321_90 L xs zf D w K6 o0 i1 i2 i4 s0 11 o0 h
  else
    b321_90 L xs zf D w K6 o0 i1 i2 i4 s0 12 o0 h
theorem c321_66 {L : Nat} {xs : Nat → Int32} {zf : Value} {D : dD} {w k : Nat} {K6 : Option Nat → Int32 → Int32 → rm_H → Option dR} (hD : dO L xs zf D k) (hz : zf.category = 1) (hK6 : ∀ (o0 : Option Nat) (i1 : Int32) (i2 : Int32) (lv : rm_L) (h : rm_H) (r : dR), rm_get lv 0 = some (va_rf o0) → rm_get lv 1 = some (.int i1) → rm_get lv 2 = some (.int i2) → K6 o0 i1 i2 h = some r → dq L xs zf ah_M321 6 lv [] h (k + 1) r) : ∀ (o0 : Option Nat) (i1 : Int32) (i2 : Int32) (i3 : Int32) (i4 : Int32) (s0 : Int32) (lv : rm_L) (h : rm_H) (r : dR), rm_get lv 0 = some (va_rf o0) → rm_get lv 1 = some (.int i1) → rm_get lv 2 = some (.int i2) → rm_get lv 3 = some (.int i3) → rm_get lv 4 = some (.int i4) → b321_66 L xs zf D w K6  o0 i1 i2 i3 i4 s0 h = some r → dq L xs zf ah_M321 66 lv [.int s0] h (k + 1) r := by
  intro o0 i1 i2 i3 i4 s0 lv h r G0 G1 G2 G3 G4 hh
  unfold b321_66 at hh
  refine dq_is 5 68 (by decide +kernel) (by decide +kernel) ?_
  have g1 := dg_ne (i := 5) (u := .int s0) (by decide) (Or.inl (by decide)) G0
  have g2 := dg_ne (i := 5) (u := .int s0) (by decide) (Or.inl (by decide)) G1
  have g3 := dg_ne (i := 5) (u := .int s0) (by decide) (Or.inl (by decide)) G2
  have g4 := dg_ne (i := 5) (u := .int s0) (by decide) (Or.inl (by decide)) G3
  have g5 := dg_ne (i := 5) (u := .int s0) (by decide) (Or.inr rfl) G4
  have g6 := dg_eq (lv) 5 (.int s0)
  refine dq_aln 0 69 (by decide +kernel) rfl g1 ?_
  refine dq_iln 3 70 (by decide +kernel) rfl g4 ?_
  rcases di hh with ⟨q7, hh⟩ | ⟨q7, hh⟩
  · refine dq_1 .eq 8 true 78 q7 (by decide +kernel) ?_
    refine dq_il 5 80 (by decide +kernel) rfl g6 ?_
    rcases di hh with ⟨q8, hh⟩ | ⟨q8, hh⟩
    · refine dq_1 .eq 8 true 88 q8 (by decide +kernel) ?_
      refine dq_S (.bipush 10) 2 [] 90 _ [.int 10, va_rf o0] (by decide +kernel) rfl ?_
      exact c321_90 hD hz hK6 _ _ _ _ _ _ _ _ _ _ g1 g2 g3 g5 g6 hh
    · refine dq_1 .eq 8 false 83 q8 (by decide +kernel) ?_
      refine dq_S (.bipush 11) 2 [] 85 _ [.int 11, va_rf o0] (by decide +kernel) rfl ?_
      refine dq_S (.goto 5) 3 [] 90 _ [.int 11, va_rf o0] (by decide +kernel) rfl ?_
      exact c321_90 hD hz hK6 _ _ _ _ _ _ _ _ _ _ g1 g2 g3 g5 g6 hh
  · refine dq_1 .eq 8 false 73 q7 (by decide +kernel) ?_
    refine dq_S (.bipush 12) 2 [] 75 _ [.int 12, va_rf o0] (by decide +kernel) rfl ?_
    refine dq_S (.goto 15) 3 [] 90 _ [.int 12, va_rf o0] (by decide +kernel) rfl ?_
    exact c321_90 hD hz hK6 _ _ _ _ _ _ _ _ _ _ g1 g2 g3 g5 g6 hh
def b321_61 (L : Nat) (xs : Nat → Int32) (zf : Value) (D : dD) (w : Nat) (K6 : Option Nat → Int32 → Int32 → rm_H → Option dR) (o0 : Option Nat) (i1 : Int32) (i2 : Int32) (i3 : Int32) (i4 : Int32) (h : rm_H) : Option dR :=
  b321_66 L xs zf D w K6 o0 i1 i2 i3 i4 1 h
theorem c321_61 {L : Nat} {xs : Nat → Int32} {zf : Value} {D : dD} {w k : Nat} {K6 : Option Nat → Int32 → Int32 → rm_H → Option dR} (hD : dO L xs zf D k) (hz : zf.category = 1) (hK6 : ∀ (o0 : Option Nat) (i1 : Int32) (i2 : Int32) (lv : rm_L) (h : rm_H) (r : dR), rm_get lv 0 = some (va_rf o0) → rm_get lv 1 = some (.int i1) → rm_get lv 2 = some (.int i2) → K6 o0 i1 i2 h = some r → dq L xs zf ah_M321 6 lv [] h (k + 1) r) : ∀ (o0 : Option Nat) (i1 : Int32) (i2 : Int32) (i3 : Int32) (i4 : Int32) (lv : rm_L) (h : rm_H) (r : dR), rm_get lv 0 = some (va_rf o0) → rm_get lv 1 = some (.int i1) → rm_get lv 2 = some (.int i2) → rm_get lv 3 = some (.int i3) → rm_get lv 4 = some (.int i4) → b321_61 L xs zf D w K6  o0 i1 i2 i3 i4 h = some r → dq L xs zf ah_M321 61 lv [] h (k + 1) r := by
  intro o0 i1 i2 i3 i4 lv h r G0 G1 G2 G3 G4 hh
  unfold b321_61 at hh
  refine dq_S (.iconst 1) 1 [] 62 _ [.int 1] (by decide +kernel) rfl ?_
  refine dq_S (.goto 4) 3 [] 66 _ [.int 1] (by decide +kernel) rfl ?_
  exact c321_66 hD hz hK6 _ _ _ _ _ _ _ _ _ G0 G1 G2 G3 G4 hh
def b321_24 (L : Nat) (xs : Nat → Int32) (zf : Value) (D : dD) (w : Nat) (K6 : Option Nat → Int32 → Int32 → rm_H → Option dR) (o0 : Option Nat) (i1 : Int32) (i2 : Int32) (h : rm_H) : Option dR :=
  ((dcV L xs D 310 [15] o0 [.int 33] h).bind dxI).bind fun x1 =>
  (dgI L xs x1.2 56 [15] o0).bind fun x9 =>
  (dpF x1.2 56 [15] o0 (.int (x9 + 1))).bind fun h11 =>
  ((dcV L xs D 307 [15] o0 [.int 1] h11).bind dxI).bind fun x13 =>
  if mx_f1 .ne x1.1 = true then
    b321_61 L xs zf D w K6 o0 i1 i2 x1.1 x13.1 x13.2
  else
    ((dcV L xs D 310 [15] o0 [.int 40] x13.2).bind dxI).bind fun x23 =>
    if mx_f1 .eq x23.1 = true then
      b321_66 L xs zf D w K6 o0 i1 i2 x1.1 x13.1 0 x23.2
    else
      b321_61 L xs zf D w K6 o0 i1 i2 x1.1 x13.1 x23.2
theorem c321_24 {L : Nat} {xs : Nat → Int32} {zf : Value} {D : dD} {w k : Nat} {K6 : Option Nat → Int32 → Int32 → rm_H → Option dR} (hD : dO L xs zf D k) (hz : zf.category = 1) (hK6 : ∀ (o0 : Option Nat) (i1 : Int32) (i2 : Int32) (lv : rm_L) (h : rm_H) (r : dR), rm_get lv 0 = some (va_rf o0) → rm_get lv 1 = some (.int i1) → rm_get lv 2 = some (.int i2) → K6 o0 i1 i2 h = some r → dq L xs zf ah_M321 6 lv [] h (k + 1) r) : ∀ (o0 : Option Nat) (i1 : Int32) (i2 : Int32) (lv : rm_L) (h : rm_H) (r : dR), rm_get lv 0 = some (va_rf o0) → rm_get lv 1 = some (.int i1) → rm_get lv 2 = some (.int i2) → b321_24 L xs zf D w K6  o0 i1 i2 h = some r → dq L xs zf ah_M321 24 lv [] h (k + 1) r := by
  intro o0 i1 i2 lv h r G0 G1 G2 hh
  unfold b321_24 at hh
  refine dq_aln 0 25 (by decide +kernel) rfl G0 ?_
  refine dq_S (.bipush 33) 2 [] 27 _ [.int 33, va_rf o0] (by decide +kernel) rfl ?_
  obtain ⟨x1, q2, hh⟩ := db hh
  obtain ⟨a3, q4, q2⟩ := db q2
  rw [dq_xI q2] at q4
  refine dq_cvi hD 304 310 5 1 [15] o0 [.int 33] [] 30 [.int x1.1] (by decide +kernel) ap_310 ⟨⟨Nat.le_of_ble_eq_true rfl, by decide⟩, rfl, rfl⟩ (dq_ok8 [1, 1] [] (dc_r (dc_i dc_n)) dc_n (by decide +kernel)) (by decide +kernel) rfl q4 rfl ?_
  refine dq_isn 3 31 (by decide +kernel) (by decide +kernel) ?_
  have g5 := dg_ne (i := 3) (u := .int x1.1) (by decide) (Or.inl (by decide)) G0
  have g6 := dg_ne (i := 3) (u := .int x1.1) (by decide) (Or.inl (by decide)) G1
  have g7 := dg_ne (i := 3) (u := .int x1.1) (by decide) (Or.inr rfl) G2
  have g8 := dg_eq (lv) 3 (.int x1.1)
  refine dq_aln 0 32 (by decide +kernel) rfl g5 ?_
  refine dq_dup 33 (by decide +kernel) rfl ?_
  obtain ⟨x9, q10, hh⟩ := db hh
  refine dq_gI 298 56 [15] 36 (by decide +kernel) rfl q10 ?_
  refine dq_S (.iconst 1) 1 [] 37 _ [.int 1, .int x9, va_rf o0] (by decide +kernel) rfl ?_
  refine dq_S (.iadd) 1 [] 38 _ [.int (x9 + 1), va_rf o0] (by decide +kernel) rfl ?_
  obtain ⟨h11, q12, hh⟩ := db hh
  refine dq_put 298 56 [15] 41 (by decide +kernel) rfl q12 ?_
  refine dq_aln 0 42 (by decide +kernel) rfl g5 ?_
  refine dq_S (.iconst 1) 1 [] 43 _ [.int 1, va_rf o0] (by decide +kernel) rfl ?_
  obtain ⟨x13, q14, hh⟩ := db hh
  obtain ⟨a15, q16, q14⟩ := db q14
  rw [dq_xI q14] at q16
  refine dq_cvi hD 323 307 5 1 [15] o0 [.int 1] [] 46 [.int x13.1] (by decide +kernel) ap_307 ⟨⟨Nat.le_of_ble_eq_true rfl, by decide⟩, rfl, rfl⟩ (dq_ok8 [1, 1] [] (dc_r (dc_i dc_n)) dc_n (by decide +kernel)) (by decide +kernel) rfl q16 rfl ?_
  refine dq_is 4 48 (by decide +kernel) (by decide +kernel) ?_
  have g17 := dg_ne (i := 4) (u := .int x13.1) (by decide) (Or.inl (by decide)) g5
  have g18 := dg_ne (i := 4) (u := .int x13.1) (by decide) (Or.inl (by decide)) g6
  have g19 := dg_ne (i := 4) (u := .int x13.1) (by decide) (Or.inl (by decide)) g7
  have g20 := dg_ne (i := 4) (u := .int x13.1) (by decide) (Or.inr rfl) g8
  have g21 := dg_eq (rm_set1 (lv) 3 (.int x1.1)) 4 (.int x13.1)
  refine dq_iln 3 49 (by decide +kernel) rfl g20 ?_
  rcases di hh with ⟨q22, hh⟩ | ⟨q22, hh⟩
  · refine dq_1 .ne 12 true 61 q22 (by decide +kernel) ?_
    exact c321_61 hD hz hK6 _ _ _ _ _ _ _ _ g17 g18 g19 g20 g21 hh
  · refine dq_1 .ne 12 false 52 q22 (by decide +kernel) ?_
    refine dq_aln 0 53 (by decide +kernel) rfl g17 ?_
    refine dq_S (.bipush 40) 2 [] 55 _ [.int 40, va_rf o0] (by decide +kernel) rfl ?_
    obtain ⟨x23, q24, hh⟩ := db hh
    obtain ⟨a25, q26, q24⟩ := db q24
    rw [dq_xI q24] at q26
    refine dq_cvi hD 304 310 5 1 [15] o0 [.int 40] [] 58 [.int x23.1] (by decide +kernel) ap_310 ⟨⟨Nat.le_of_ble_eq_true rfl, by decide⟩, rfl, rfl⟩ (dq_ok8 [1, 1] [] (dc_r (dc_i dc_n)) dc_n (by decide +kernel)) (by decide +kernel) rfl q26 rfl ?_
    rcases di hh with ⟨q27, hh⟩ | ⟨q27, hh⟩
    · refine dq_1 .eq 7 true 65 q27 (by decide +kernel) ?_
      refine dq_S (.iconst 0) 1 [] 66 _ [.int 0] (by decide +kernel) rfl ?_
      exact c321_66 hD hz hK6 _ _ _ _ _ _ _ _ _ g17 g18 g19 g20 g21 hh
    · refine dq_1 .eq 7 false 61 q27 (by decide +kernel) ?_
      exact c321_61 hD hz hK6 _ _ _ _ _ _ _ _ g17 g18 g19 g20 g21 hh
def b321_6 (L : Nat) (xs : Nat → Int32) (zf : Value) (D : dD) (w : Nat) : Nat → Option Nat → Int32 → Int32 → rm_H → Option dR
  | 0, _, _, _, _ => none
  | n + 1, o0, i1, i2, h =>
    ((dcV L xs D 310 [15] o0 [.int 46] h).bind dxI).bind fun x1 =>
    if mx_f1 .ne x1.1 = true then
      b321_24 L xs zf D w (b321_6 L xs zf D w n) o0 i1 i2 x1.2
    else
      ((dcV L xs D 310 [15] o0 [.int 33] x1.2).bind dxI).bind fun x6 =>
      if mx_f1 .eq x6.1 = true then
        drI (some .int) i2 x6.2
      else
        b321_24 L xs zf D w (b321_6 L xs zf D w n) o0 i1 i2 x6.2
theorem c321_6 {L : Nat} {xs : Nat → Int32} {zf : Value} {D : dD} {w k : Nat} (hD : dO L xs zf D k) (hz : zf.category = 1) : ∀ (n : Nat) (o0 : Option Nat) (i1 : Int32) (i2 : Int32) (lv : rm_L) (h : rm_H) (r : dR), rm_get lv 0 = some (va_rf o0) → rm_get lv 1 = some (.int i1) → rm_get lv 2 = some (.int i2) → b321_6 L xs zf D w n  o0 i1 i2 h = some r → dq L xs zf ah_M321 6 lv [] h (k + 1) r := by
  intro n
  induction n with
  | zero =>
    intro o0 i1 i2 lv h r G0 G1 G2 hh
    cases hh
  | succ n ih =>
    intro o0 i1 i2 lv h r G0 G1 G2 hh
    rw [b321_6] at hh
    refine dq_aln 0 7 (by decide +kernel) rfl G0 ?_
    refine dq_S (.bipush 46) 2 [] 9 _ [.int 46, va_rf o0] (by decide +kernel) rfl ?_
    obtain ⟨x1, q2, hh⟩ := db hh
    obtain ⟨a3, q4, q2⟩ := db q2
    rw [dq_xI q2] at q4
    refine dq_cvi hD 304 310 5 1 [15] o0 [.int 46] [] 12 [.int x1.1] (by decide +kernel) ap_310 ⟨⟨Nat.le_of_ble_eq_true rfl, by decide⟩, rfl, rfl⟩ (dq_ok8 [1, 1] [] (dc_r (dc_i dc_n)) dc_n (by decide +kernel)) (by decide +kernel) rfl q4 rfl ?_
    rcases di hh with ⟨q5, hh⟩ | ⟨q5, hh⟩
    · refine dq_1 .ne 12 true 24 q5 (by decide +kernel) ?_
      exact c321_24 hD hz ih _ _ _ _ _ _ G0 G1 G2 hh
    · refine dq_1 .ne 12 false 15 q5 (by decide +kernel) ?_
      refine dq_aln 0 16 (by decide +kernel) rfl G0 ?_
      refine dq_S (.bipush 33) 2 [] 18 _ [.int 33, va_rf o0] (by decide +kernel) rfl ?_
      obtain ⟨x6, q7, hh⟩ := db hh
      obtain ⟨a8, q9, q7⟩ := db q7
      rw [dq_xI q7] at q9
      refine dq_cvi hD 304 310 5 1 [15] o0 [.int 33] [] 21 [.int x6.1] (by decide +kernel) ap_310 ⟨⟨Nat.le_of_ble_eq_true rfl, by decide⟩, rfl, rfl⟩ (dq_ok8 [1, 1] [] (dc_r (dc_i dc_n)) dc_n (by decide +kernel)) (by decide +kernel) rfl q9 rfl ?_
      rcases di hh with ⟨q10, hh⟩ | ⟨q10, hh⟩
      · refine dq_1 .eq 167 true 188 q10 (by decide +kernel) ?_
        refine dq_iln 2 189 (by decide +kernel) rfl G2 ?_
        exact dq_retI (some .int) (by decide +kernel) rfl hh
      · refine dq_1 .eq 167 false 24 q10 (by decide +kernel) ?_
        exact c321_24 hD hz ih _ _ _ _ _ _ G0 G1 G2 hh
def b321_0 (L : Nat) (xs : Nat → Int32) (zf : Value) (D : dD) (w : Nat) (o0 : Option Nat) (i1 : Int32) (h : rm_H) : Option dR :=
  ((dcV L xs D 322 [15] o0 [.int i1] h).bind dxI).bind fun x1 =>
  b321_6 L xs zf D w w o0 i1 x1.1 x1.2
theorem c321_0 {L : Nat} {xs : Nat → Int32} {zf : Value} {D : dD} {w k : Nat} (hD : dO L xs zf D k) (hz : zf.category = 1) : ∀ (o0 : Option Nat) (i1 : Int32) (lv : rm_L) (h : rm_H) (r : dR), rm_get lv 0 = some (va_rf o0) → rm_get lv 1 = some (.int i1) → b321_0 L xs zf D w  o0 i1 h = some r → dq L xs zf ah_M321 0 lv [] h (k + 1) r := by
  intro o0 i1 lv h r G0 G1 hh
  unfold b321_0 at hh
  refine dq_aln 0 1 (by decide +kernel) rfl G0 ?_
  refine dq_iln 1 2 (by decide +kernel) rfl G1 ?_
  obtain ⟨x1, q2, hh⟩ := db hh
  obtain ⟨a3, q4, q2⟩ := db q2
  rw [dq_xI q2] at q4
  refine dq_cvi hD 391 322 5 1 [15] o0 [.int i1] [] 5 [.int x1.1] (by decide +kernel) ap_322 ⟨⟨Nat.le_of_ble_eq_true rfl, by decide⟩, rfl, rfl⟩ (dq_ok8 [1, 1] [] (dc_r (dc_i dc_n)) dc_n (by decide +kernel)) (by decide +kernel) rfl q4 rfl ?_
  refine dq_isn 2 6 (by decide +kernel) (by decide +kernel) ?_
  have g5 := dg_ne (i := 2) (u := .int x1.1) (by decide) (Or.inl (by decide)) G0
  have g6 := dg_ne (i := 2) (u := .int x1.1) (by decide) (Or.inr rfl) G1
  have g7 := dg_eq (lv) 2 (.int x1.1)
  exact c321_6 hD hz _ _ _ _ _ _ _ g5 g6 g7 hh
def f321 (L : Nat) (xs : Nat → Int32) (zf : Value) (D : dD) (w : Nat) (As : List Value) (h : rm_H) : Option dR := match As with
  | [v0, .int i1] => (rm_rf v0).bind fun o0 => b321_0 L xs zf D w o0 i1 h
  | _ => none
theorem d321 {L : Nat} {xs : Nat → Int32} {zf : Value} {D : dD} {w k : Nat} (hD : dO L xs zf D k) (hz : zf.category = 1) (As : List Value) (h : rm_H) (r : dR) (hh : f321 L xs zf D w As h = some r) : dq L xs zf ah_M321 0 (lv_args 0 As) [] h (k + 1) r := by
  unfold f321 at hh
  split at hh
  · obtain ⟨o0, e0, hb0⟩ := db hh
    have e0 := rm_rf_v _ _ e0
    subst e0
    refine c321_0 hD hz _ _ _ _ _ ?_ ?_ hb0
    all_goals (simp only [la_r, la_i, la_j]; rfl)
  · cases hh
def b322_548 (L : Nat) (xs : Nat → Int32) (zf : Value) (D : dD) (w : Nat) (i5 : Int32) (h : rm_H) : Option dR :=
  drI (some .int) i5 h
theorem c322_548 {L : Nat} {xs : Nat → Int32} {zf : Value} {D : dD} {w k : Nat} (hD : dO L xs zf D k) (hz : zf.category = 1) : ∀ (i5 : Int32) (lv : rm_L) (h : rm_H) (r : dR), rm_get lv 5 = some (.int i5) → b322_548 L xs zf D w  i5 h = some r → dq L xs zf ah_M322 548 lv [] h (k + 1) r := by
  intro i5 lv h r G5 hh
  unfold b322_548 at hh
  refine dq_il 5 550 (by decide +kernel) rfl G5 ?_
  exact dq_retI (some .int) (by decide +kernel) rfl hh
def b322_506 (L : Nat) (xs : Nat → Int32) (zf : Value) (D : dD) (w : Nat) (o0 : Option Nat) (i1 : Int32) (i5 : Int32) (h : rm_H) : Option dR :=
  ((dcV L xs D 307 [15] o0 [.int 3] h).bind dxI).bind fun x1 =>
  (dgR L xs x1.2 23 [15] o0).bind fun p9 =>
  (dgR L xs x1.2 9 [15] o0).bind fun p11 =>
  (daJ L xs x1.2 p11 x1.1).bind fun y13 =>
  (dsJ x1.2 p9 i5 y13).bind fun h15 =>
  (dgR L xs h15 18 [15] o0).bind fun p17 =>
  (dgR L xs h15 7 [15] o0).bind fun p19 =>
  (daI L xs h15 p19 x1.1).bind fun x21 =>
  (dsI h15 p17 i5 x21).bind fun h23 =>
  ((dcV L xs D 324 [15] o0 [.int i5, .int i1] h23).bind dxV).bind fun h25 =>
  b322_548 L xs zf D w i5 h25
theorem c322_506 {L : Nat} {xs : Nat → Int32} {zf : Value} {D : dD} {w k : Nat} (hD : dO L xs zf D k) (hz : zf.category = 1) : ∀ (o0 : Option Nat) (i1 : Int32) (i5 : Int32) (lv : rm_L) (h : rm_H) (r : dR), rm_get lv 0 = some (va_rf o0) → rm_get lv 1 = some (.int i1) → rm_get lv 5 = some (.int i5) → b322_506 L xs zf D w  o0 i1 i5 h = some r → dq L xs zf ah_M322 506 lv [] h (k + 1) r := by
  intro o0 i1 i5 lv h r G0 G1 G5 hh
  unfold b322_506 at hh
  refine dq_aln 0 507 (by decide +kernel) rfl G0 ?_
  refine dq_S (.iconst 3) 1 [] 508 _ [.int 3, va_rf o0] (by decide +kernel) rfl ?_
  obtain ⟨x1, q2, hh⟩ := db hh
  obtain ⟨a3, q4, q2⟩ := db q2
  rw [dq_xI q2] at q4
  refine dq_cvi hD 323 307 5 1 [15] o0 [.int 3] [] 511 [.int x1.1] (by decide +kernel) ap_307 ⟨⟨Nat.le_of_ble_eq_true rfl, by decide⟩, rfl, rfl⟩ (dq_ok8 [1, 1] [] (dc_r (dc_i dc_n)) dc_n (by decide +kernel)) (by decide +kernel) rfl q4 rfl ?_
  refine dq_is 6 513 (by decide +kernel) (by decide +kernel) ?_
  have g5 := dg_ne (i := 6) (u := .int x1.1) (by decide) (Or.inl (by decide)) G0
  have g6 := dg_ne (i := 6) (u := .int x1.1) (by decide) (Or.inl (by decide)) G1
  have g7 := dg_ne (i := 6) (u := .int x1.1) (by decide) (Or.inr rfl) G5
  have g8 := dg_eq (lv) 6 (.int x1.1)
  refine dq_aln 0 514 (by decide +kernel) rfl g5 ?_
  obtain ⟨p9, q10, hh⟩ := db hh
  refine dq_gR 72 23 [15] 517 (by decide +kernel) rfl q10 ?_
  refine dq_il 5 519 (by decide +kernel) rfl g7 ?_
  refine dq_aln 0 520 (by decide +kernel) rfl g5 ?_
  obtain ⟨p11, q12, hh⟩ := db hh
  refine dq_gR 33 9 [15] 523 (by decide +kernel) rfl q12 ?_
  refine dq_il 6 525 (by decide +kernel) rfl g8 ?_
  obtain ⟨y13, q14, hh⟩ := db hh
  refine dq_aJ 526 (by decide +kernel) rfl q14 ?_
  obtain ⟨h15, q16, hh⟩ := db hh
  refine dq_sJ 527 (by decide +kernel) rfl q16 ?_
  refine dq_aln 0 528 (by decide +kernel) rfl g5 ?_
  obtain ⟨p17, q18, hh⟩ := db hh
  refine dq_gR 57 18 [15] 531 (by decide +kernel) rfl q18 ?_
  refine dq_il 5 533 (by decide +kernel) rfl g7 ?_
  refine dq_aln 0 534 (by decide +kernel) rfl g5 ?_
  obtain ⟨p19, q20, hh⟩ := db hh
  refine dq_gR 27 7 [15] 537 (by decide +kernel) rfl q20 ?_
  refine dq_il 6 539 (by decide +kernel) rfl g8 ?_
  obtain ⟨x21, q22, hh⟩ := db hh
  refine dq_aI 540 (by decide +kernel) rfl q22 ?_
  obtain ⟨h23, q24, hh⟩ := db hh
  refine dq_sI 541 (by decide +kernel) rfl q24 ?_
  refine dq_aln 0 542 (by decide +kernel) rfl g5 ?_
  refine dq_il 5 544 (by decide +kernel) rfl g7 ?_
  refine dq_iln 1 545 (by decide +kernel) rfl g6 ?_
  obtain ⟨h25, q26, hh⟩ := db hh
  obtain ⟨a27, q28, q26⟩ := db q26
  rw [dq_xV q26] at q28
  refine dq_cvi hD 394 324 5 2 [15] o0 [.int i5, .int i1] [] 548 [] (by decide +kernel) ap_324 ⟨⟨Nat.le_of_ble_eq_true rfl, by decide⟩, rfl, rfl⟩ (dq_ok8 [1, 1, 1] [] (dc_r (dc_i (dc_i dc_n))) dc_n (by decide +kernel)) (by decide +kernel) rfl q28 rfl ?_
  exact c322_548 hD hz _ _ _ _ g7 hh
def b322_181 (L : Nat) (xs : Nat → Int32) (zf : Value) (D : dD) (w : Nat) (o0 : Option Nat) (i1 : Int32) (i2 : Int32) (s0 : Int32) (h : rm_H) : Option dR :=
  if mx_f1 .ne s0 = true then
    ((dcV L xs D 316 [15] o0 [.int s0, .int i2] h).bind dxI).bind fun x6 =>
    (dgI L xs x6.2 24 [15] o0).bind fun x15 =>
    (dpF x6.2 24 [15] o0 (.int (x15 + 1))).bind fun h17 =>
    (dgR L xs h17 21 [15] o0).bind fun p19 =>
    (dgR L xs h17 8 [15] o0).bind fun p21 =>
    (dgI L xs h17 56 [15] o0).bind fun x23 =>
    (daI L xs h17 p21 x23).bind fun x25 =>
    (dsI h17 p19 x6.1 x25).bind fun h27 =>
    (dgR L xs h27 23 [15] o0).bind fun p29 =>
    (dgR L xs h27 9 [15] o0).bind fun p31 =>
    (dgI L xs h27 56 [15] o0).bind fun x33 =>
    (daJ L xs h27 p31 x33).bind fun y35 =>
    (dsJ h27 p29 x6.1 y35).bind fun h37 =>
    (dgI L xs h37 56 [15] o0).bind fun x39 =>
    (dpF h37 56 [15] o0 (.int (x39 + 1))).bind fun h41 =>
    if mx_f2 .ne s0 5 = true then
      if mx_f2 .ne s0 6 = true then
        if mx_f2 .ne s0 7 = true then
          if mx_f2 .ne s0 9 = true then
            if mx_f2 .ne s0 8 = true then
              b322_548 L xs zf D w x6.1 h41
            else
              (dgR L xs h41 21 [15] o0).bind fun p48 =>
              (dsI h41 p48 x6.1 (-1)).bind fun h50 =>
              (dgR L xs h50 22 [15] o0).bind fun p52 =>
              (dgR L xs h50 7 [15] o0).bind fun p54 =>
              (dgI L xs h50 56 [15] o0).bind fun x56 =>
              (daI L xs h50 p54 x56).bind fun x58 =>
              (dsI h50 p52 x6.1 x58).bind fun h60 =>
              ((dcV L xs D 313 [15] o0 [] h60).bind dxI).bind fun x62 =>
              if mx_f1 .eq x62.1 = true then
                b322_506 L xs zf D w o0 i1 x6.1 x62.2
              else
                (dgR L xs x62.2 21 [15] o0).bind fun p67 =>
                (dgR L xs x62.2 8 [15] o0).bind fun p69 =>
                (dgI L xs x62.2 56 [15] o0).bind fun x71 =>
                (daI L xs x62.2 p69 x71).bind fun x73 =>
                (dsI x62.2 p67 x6.1 (x73 - 18)).bind fun h75 =>
                (dgI L xs h75 56 [15] o0).bind fun x77 =>
                (dpF h75 56 [15] o0 (.int (x77 + 1))).bind fun h79 =>
                b322_506 L xs zf D w o0 i1 x6.1 h79
          else
            (dgR L xs h41 12 [15] o0).bind fun p81 =>
            ((dcV L xs D 317 [15] o0 [.int (i1 + 1)] h41).bind dxI).bind fun x83 =>
            ((dcV L xs D 323 [15] o0 [.int x6.1, .int x83.1] x83.2).bind dxI).bind fun x87 =>
            (dsI x87.2 p81 x6.1 x87.1).bind fun h91 =>
            b322_548 L xs zf D w x6.1 h91
        else
          ((dcV L xs D 308 [15] o0 [.int 40] h41).bind dxV).bind fun h93 =>
          (dgR L xs h93 12 [15] o0).bind fun p97 =>
          ((dcV L xs D 320 [15] o0 [.int (i1 + 1)] h93).bind dxI).bind fun x99 =>
          ((dcV L xs D 323 [15] o0 [.int x6.1, .int x99.1] x99.2).bind dxI).bind fun x103 =>
          (dsI x103.2 p97 x6.1 x103.1).bind fun h107 =>
          ((dcV L xs D 308 [15] o0 [.int 44] h107).bind dxV).bind fun h109 =>
          (dgR L xs h109 13 [15] o0).bind fun p113 =>
          ((dcV L xs D 320 [15] o0 [.int (i1 + 1)] h109).bind dxI).bind fun x115 =>
          ((dcV L xs D 323 [15] o0 [.int x6.1, .int x115.1] x115.2).bind dxI).bind fun x119 =>
          (dsI x119.2 p113 x6.1 x119.1).bind fun h123 =>
          ((dcV L xs D 308 [15] o0 [.int 41] h123).bind dxV).bind fun h125 =>
          b322_548 L xs zf D w x6.1 h125
      else
        ((dcV L xs D 308 [15] o0 [.int 40] h41).bind dxV).bind fun h129 =>
        (dgR L xs h129 12 [15] o0).bind fun p133 =>
        ((dcV L xs D 320 [15] o0 [.int (i1 + 1)] h129).bind dxI).bind fun x135 =>
        ((dcV L xs D 323 [15] o0 [.int x6.1, .int x135.1] x135.2).bind dxI).bind fun x139 =>
        (dsI x139.2 p133 x6.1 x139.1).bind fun h143 =>
        ((dcV L xs D 308 [15] o0 [.int 41] h143).bind dxV).bind fun h145 =>
        b322_548 L xs zf D w x6.1 h145
    else
      ((dcV L xs D 307 [15] o0 [.int 1] h41).bind dxI).bind fun x149 =>
      (dgR L xs x149.2 23 [15] o0).bind fun p159 =>
      (dgR L xs x149.2 9 [15] o0).bind fun p161 =>
      (daJ L xs x149.2 p161 x149.1).bind fun y163 =>
      (dsJ x149.2 p159 x6.1 y163).bind fun h165 =>
      (dgR L xs h165 18 [15] o0).bind fun p167 =>
      (dgR L xs h165 7 [15] o0).bind fun p169 =>
      (daI L xs h165 p169 x149.1).bind fun x171 =>
      (dsI h165 p167 x6.1 x171).bind fun h173 =>
      b322_548 L xs zf D w x6.1 h173
  else
    ((dcV L xs D 304 [15] o0 [] h).bind dxV).bind fun h175 =>
    drI (some .int) 0 h175
theorem c322_181 {L : Nat} {xs : Nat → Int32} {zf : Value} {D : dD} {w k : Nat} (hD : dO L xs zf D k) (hz : zf.category = 1) : ∀ (o0 : Option Nat) (i1 : Int32) (i2 : Int32) (s0 : Int32) (lv : rm_L) (h : rm_H) (r : dR), rm_get lv 0 = some (va_rf o0) → rm_get lv 1 = some (.int i1) → rm_get lv 2 = some (.int i2) → b322_181 L xs zf D w  o0 i1 i2 s0 h = some r → dq L xs zf ah_M322 181 lv [.int s0] h (k + 1) r := by
  intro o0 i1 i2 s0 lv h r G0 G1 G2 hh
  unfold b322_181 at hh
  refine dq_is 4 183 (by decide +kernel) (by decide +kernel) ?_
  have g1 := dg_ne (i := 4) (u := .int s0) (by decide) (Or.inl (by decide)) G0
  have g2 := dg_ne (i := 4) (u := .int s0) (by decide) (Or.inl (by decide)) G1
  have g3 := dg_ne (i := 4) (u := .int s0) (by decide) (Or.inl (by decide)) G2
  have g4 := dg_eq (lv) 4 (.int s0)
  refine dq_il 4 185 (by decide +kernel) rfl g4 ?_
  rcases di hh with ⟨q5, hh⟩ | ⟨q5, hh⟩
  · refine dq_1 .ne 9 true 194 q5 (by decide +kernel) ?_
    refine dq_aln 0 195 (by decide +kernel) rfl g1 ?_
    refine dq_il 4 197 (by decide +kernel) rfl g4 ?_
    refine dq_iln 2 198 (by decide +kernel) rfl g3 ?_
    obtain ⟨x6, q7, hh⟩ := db hh
    obtain ⟨a8, q9, q7⟩ := db q7
    rw [dq_xI q7] at q9
    refine dq_cvi hD 360 316 5 2 [15] o0 [.int s0, .int i2] [] 201 [.int x6.1] (by decide +kernel) ap_316 ⟨⟨Nat.le_of_ble_eq_true rfl, by decide⟩, rfl, rfl⟩ (dq_ok8 [1, 1, 1] [] (dc_r (dc_i (dc_i dc_n))) dc_n (by decide +kernel)) (by decide +kernel) rfl q9 rfl ?_
    refine dq_is 5 203 (by decide +kernel) (by decide +kernel) ?_
    have g10 := dg_ne (i := 5) (u := .int x6.1) (by decide) (Or.inl (by decide)) g1
    have g11 := dg_ne (i := 5) (u := .int x6.1) (by decide) (Or.inl (by decide)) g2
    have g12 := dg_ne (i := 5) (u := .int x6.1) (by decide) (Or.inl (by decide)) g3
    have g13 := dg_ne (i := 5) (u := .int x6.1) (by decide) (Or.inr rfl) g4
    have g14 := dg_eq (rm_set1 (lv) 4 (.int s0)) 5 (.int x6.1)
    refine dq_aln 0 204 (by decide +kernel) rfl g10 ?_
    refine dq_dup 205 (by decide +kernel) rfl ?_
    obtain ⟨x15, q16, hh⟩ := db hh
    refine dq_gI 388 24 [15] 208 (by decide +kernel) rfl q16 ?_
    refine dq_S (.iconst 1) 1 [] 209 _ [.int 1, .int x15, va_rf o0] (by decide +kernel) rfl ?_
    refine dq_S (.iadd) 1 [] 210 _ [.int (x15 + 1), va_rf o0] (by decide +kernel) rfl ?_
    obtain ⟨h17, q18, hh⟩ := db hh
    refine dq_put 388 24 [15] 213 (by decide +kernel) rfl q18 ?_
    refine dq_aln 0 214 (by decide +kernel) rfl g10 ?_
    obtain ⟨p19, q20, hh⟩ := db hh
    refine dq_gR 66 21 [15] 217 (by decide +kernel) rfl q20 ?_
    refine dq_il 5 219 (by decide +kernel) rfl g14 ?_
    refine dq_aln 0 220 (by decide +kernel) rfl g10 ?_
    obtain ⟨p21, q22, hh⟩ := db hh
    refine dq_gR 30 8 [15] 223 (by decide +kernel) rfl q22 ?_
    refine dq_aln 0 224 (by decide +kernel) rfl g10 ?_
    obtain ⟨x23, q24, hh⟩ := db hh
    refine dq_gI 298 56 [15] 227 (by decide +kernel) rfl q24 ?_
    obtain ⟨x25, q26, hh⟩ := db hh
    refine dq_aI 228 (by decide +kernel) rfl q26 ?_
    obtain ⟨h27, q28, hh⟩ := db hh
    refine dq_sI 229 (by decide +kernel) rfl q28 ?_
    refine dq_aln 0 230 (by decide +kernel) rfl g10 ?_
    obtain ⟨p29, q30, hh⟩ := db hh
    refine dq_gR 72 23 [15] 233 (by decide +kernel) rfl q30 ?_
    refine dq_il 5 235 (by decide +kernel) rfl g14 ?_
    refine dq_aln 0 236 (by decide +kernel) rfl g10 ?_
    obtain ⟨p31, q32, hh⟩ := db hh
    refine dq_gR 33 9 [15] 239 (by decide +kernel) rfl q32 ?_
    refine dq_aln 0 240 (by decide +kernel) rfl g10 ?_
    obtain ⟨x33, q34, hh⟩ := db hh
    refine dq_gI 298 56 [15] 243 (by decide +kernel) rfl q34 ?_
    obtain ⟨y35, q36, hh⟩ := db hh
    refine dq_aJ 244 (by decide +kernel) rfl q36 ?_
    obtain ⟨h37, q38, hh⟩ := db hh
    refine dq_sJ 245 (by decide +kernel) rfl q38 ?_
    refine dq_aln 0 246 (by decide +kernel) rfl g10 ?_
    refine dq_dup 247 (by decide +kernel) rfl ?_
    obtain ⟨x39, q40, hh⟩ := db hh
    refine dq_gI 298 56 [15] 250 (by decide +kernel) rfl q40 ?_
    refine dq_S (.iconst 1) 1 [] 251 _ [.int 1, .int x39, va_rf o0] (by decide +kernel) rfl ?_
    refine dq_S (.iadd) 1 [] 252 _ [.int (x39 + 1), va_rf o0] (by decide +kernel) rfl ?_
    obtain ⟨h41, q42, hh⟩ := db hh
    refine dq_put 298 56 [15] 255 (by decide +kernel) rfl q42 ?_
    refine dq_il 4 257 (by decide +kernel) rfl g13 ?_
    refine dq_S (.iconst 5) 1 [] 258 _ [.int 5, .int s0] (by decide +kernel) rfl ?_
    rcases di hh with ⟨q43, hh⟩ | ⟨q43, hh⟩
    · refine dq_2 .ne 41 true 299 q43 (by decide +kernel) ?_
      refine dq_il 4 301 (by decide +kernel) rfl g13 ?_
      refine dq_S (.bipush 6) 2 [] 303 _ [.int 6, .int s0] (by decide +kernel) rfl ?_
      rcases di hh with ⟨q44, hh⟩ | ⟨q44, hh⟩
      · refine dq_2 .ne 38 true 341 q44 (by decide +kernel) ?_
        refine dq_il 4 343 (by decide +kernel) rfl g13 ?_
        refine dq_S (.bipush 7) 2 [] 345 _ [.int 7, .int s0] (by decide +kernel) rfl ?_
        rcases di hh with ⟨q45, hh⟩ | ⟨q45, hh⟩
        · refine dq_2 .ne 64 true 409 q45 (by decide +kernel) ?_
          refine dq_il 4 411 (by decide +kernel) rfl g13 ?_
          refine dq_S (.bipush 9) 2 [] 413 _ [.int 9, .int s0] (by decide +kernel) rfl ?_
          rcases di hh with ⟨q46, hh⟩ | ⟨q46, hh⟩
          · refine dq_2 .ne 26 true 439 q46 (by decide +kernel) ?_
            refine dq_il 4 441 (by decide +kernel) rfl g13 ?_
            refine dq_S (.bipush 8) 2 [] 443 _ [.int 8, .int s0] (by decide +kernel) rfl ?_
            rcases di hh with ⟨q47, hh⟩ | ⟨q47, hh⟩
            · refine dq_2 .ne 105 true 548 q47 (by decide +kernel) ?_
              exact c322_548 hD hz _ _ _ _ g14 hh
            · refine dq_2 .ne 105 false 446 q47 (by decide +kernel) ?_
              refine dq_aln 0 447 (by decide +kernel) rfl g10 ?_
              obtain ⟨p48, q49, hh⟩ := db hh
              refine dq_gR 66 21 [15] 450 (by decide +kernel) rfl q49 ?_
              refine dq_il 5 452 (by decide +kernel) rfl g14 ?_
              refine dq_S (.iconst (-1)) 1 [] 453 _ [.int (-1), .int x6.1, va_rf p48] (by decide +kernel) rfl ?_
              obtain ⟨h50, q51, hh⟩ := db hh
              refine dq_sI 454 (by decide +kernel) rfl q51 ?_
              refine dq_aln 0 455 (by decide +kernel) rfl g10 ?_
              obtain ⟨p52, q53, hh⟩ := db hh
              refine dq_gR 69 22 [15] 458 (by decide +kernel) rfl q53 ?_
              refine dq_il 5 460 (by decide +kernel) rfl g14 ?_
              refine dq_aln 0 461 (by decide +kernel) rfl g10 ?_
              obtain ⟨p54, q55, hh⟩ := db hh
              refine dq_gR 27 7 [15] 464 (by decide +kernel) rfl q55 ?_
              refine dq_aln 0 465 (by decide +kernel) rfl g10 ?_
              obtain ⟨x56, q57, hh⟩ := db hh
              refine dq_gI 298 56 [15] 468 (by decide +kernel) rfl q57 ?_
              obtain ⟨x58, q59, hh⟩ := db hh
              refine dq_aI 469 (by decide +kernel) rfl q59 ?_
              obtain ⟨h60, q61, hh⟩ := db hh
              refine dq_sI 470 (by decide +kernel) rfl q61 ?_
              refine dq_aln 0 471 (by decide +kernel) rfl g10 ?_
              obtain ⟨x62, q63, hh⟩ := db hh
              obtain ⟨a64, q65, q63⟩ := db q63
              rw [dq_xI q63] at q65
              refine dq_cvi hD 319 313 5 0 [15] o0 [] [] 474 [.int x62.1] (by decide +kernel) ap_313 ⟨⟨Nat.le_of_ble_eq_true rfl, by decide⟩, rfl, rfl⟩ (dq_ok8 [1] [] (dc_r dc_n) dc_n (by decide +kernel)) (by decide +kernel) rfl q65 rfl ?_
              rcases di hh with ⟨q66, hh⟩ | ⟨q66, hh⟩
              · refine dq_1 .eq 32 true 506 q66 (by decide +kernel) ?_
                exact c322_506 hD hz _ _ _ _ _ _ g10 g11 g14 hh
              · refine dq_1 .eq 32 false 477 q66 (by decide +kernel) ?_
                refine dq_aln 0 478 (by decide +kernel) rfl g10 ?_
                obtain ⟨p67, q68, hh⟩ := db hh
                refine dq_gR 66 21 [15] 481 (by decide +kernel) rfl q68 ?_
                refine dq_il 5 483 (by decide +kernel) rfl g14 ?_
                refine dq_aln 0 484 (by decide +kernel) rfl g10 ?_
                obtain ⟨p69, q70, hh⟩ := db hh
                refine dq_gR 30 8 [15] 487 (by decide +kernel) rfl q70 ?_
                refine dq_aln 0 488 (by decide +kernel) rfl g10 ?_
                obtain ⟨x71, q72, hh⟩ := db hh
                refine dq_gI 298 56 [15] 491 (by decide +kernel) rfl q72 ?_
                obtain ⟨x73, q74, hh⟩ := db hh
                refine dq_aI 492 (by decide +kernel) rfl q74 ?_
                refine dq_S (.bipush 18) 2 [] 494 _ [.int 18, .int x73, .int x6.1, va_rf p67] (by decide +kernel) rfl ?_
                refine dq_S (.isub) 1 [] 495 _ [.int (x73 - 18), .int x6.1, va_rf p67] (by decide +kernel) rfl ?_
                obtain ⟨h75, q76, hh⟩ := db hh
                refine dq_sI 496 (by decide +kernel) rfl q76 ?_
                refine dq_aln 0 497 (by decide +kernel) rfl g10 ?_
                refine dq_dup 498 (by decide +kernel) rfl ?_
                obtain ⟨x77, q78, hh⟩ := db hh
                refine dq_gI 298 56 [15] 501 (by decide +kernel) rfl q78 ?_
                refine dq_S (.iconst 1) 1 [] 502 _ [.int 1, .int x77, va_rf o0] (by decide +kernel) rfl ?_
                refine dq_S (.iadd) 1 [] 503 _ [.int (x77 + 1), va_rf o0] (by decide +kernel) rfl ?_
                obtain ⟨h79, q80, hh⟩ := db hh
                refine dq_put 298 56 [15] 506 (by decide +kernel) rfl q80 ?_
                exact c322_506 hD hz _ _ _ _ _ _ g10 g11 g14 hh
          · refine dq_2 .ne 26 false 416 q46 (by decide +kernel) ?_
            refine dq_aln 0 417 (by decide +kernel) rfl g10 ?_
            obtain ⟨p81, q82, hh⟩ := db hh
            refine dq_gR 39 12 [15] 420 (by decide +kernel) rfl q82 ?_
            refine dq_il 5 422 (by decide +kernel) rfl g14 ?_
            refine dq_aln 0 423 (by decide +kernel) rfl g10 ?_
            refine dq_il 5 425 (by decide +kernel) rfl g14 ?_
            refine dq_aln 0 426 (by decide +kernel) rfl g10 ?_
            refine dq_iln 1 427 (by decide +kernel) rfl g11 ?_
            refine dq_S (.iconst 1) 1 [] 428 _ [.int 1, .int i1, va_rf o0, .int x6.1, va_rf o0, .int x6.1, va_rf p81] (by decide +kernel) rfl ?_
            refine dq_S (.iadd) 1 [] 429 _ [.int (i1 + 1), va_rf o0, .int x6.1, va_rf o0, .int x6.1, va_rf p81] (by decide +kernel) rfl ?_
            obtain ⟨x83, q84, hh⟩ := db hh
            obtain ⟨a85, q86, q84⟩ := db q84
            rw [dq_xI q84] at q86
            refine dq_cvi hD 364 317 5 1 [15] o0 [.int (i1 + 1)] [.int x6.1, va_rf o0, .int x6.1, va_rf p81] 432 [.int x83.1, .int x6.1, va_rf o0, .int x6.1, va_rf p81] (by decide +kernel) ap_317 ⟨⟨Nat.le_of_ble_eq_true rfl, by decide⟩, rfl, rfl⟩ (dq_ok8 [1, 1] [1, 1, 1, 1] (dc_r (dc_i dc_n)) (dc_i (dc_r (dc_i (dc_r dc_n)))) (by decide +kernel)) (by decide +kernel) rfl q86 rfl ?_
            obtain ⟨x87, q88, hh⟩ := db hh
            obtain ⟨a89, q90, q88⟩ := db q88
            rw [dq_xI q88] at q90
            refine dq_cvi hD 376 323 5 2 [15] o0 [.int x6.1, .int x83.1] [.int x6.1, va_rf p81] 435 [.int x87.1, .int x6.1, va_rf p81] (by decide +kernel) ap_323 ⟨⟨Nat.le_of_ble_eq_true rfl, by decide⟩, rfl, rfl⟩ (dq_ok8 [1, 1, 1] [1, 1] (dc_r (dc_i (dc_i dc_n))) (dc_i (dc_r dc_n)) (by decide +kernel)) (by decide +kernel) rfl q90 rfl ?_
            obtain ⟨h91, q92, hh⟩ := db hh
            refine dq_sI 436 (by decide +kernel) rfl q92 ?_
            refine dq_S (.goto 112) 3 [] 548 _ [] (by decide +kernel) rfl ?_
            exact c322_548 hD hz _ _ _ _ g14 hh
        · refine dq_2 .ne 64 false 348 q45 (by decide +kernel) ?_
          refine dq_aln 0 349 (by decide +kernel) rfl g10 ?_
          refine dq_S (.bipush 40) 2 [] 351 _ [.int 40, va_rf o0] (by decide +kernel) rfl ?_
          obtain ⟨h93, q94, hh⟩ := db hh
          obtain ⟨a95, q96, q94⟩ := db q94
          rw [dq_xV q94] at q96
          refine dq_cvi hD 335 308 5 1 [15] o0 [.int 40] [] 354 [] (by decide +kernel) ap_308 ⟨⟨Nat.le_of_ble_eq_true rfl, by decide⟩, rfl, rfl⟩ (dq_ok8 [1, 1] [] (dc_r (dc_i dc_n)) dc_n (by decide +kernel)) (by decide +kernel) rfl q96 rfl ?_
          refine dq_aln 0 355 (by decide +kernel) rfl g10 ?_
          obtain ⟨p97, q98, hh⟩ := db hh
          refine dq_gR 39 12 [15] 358 (by decide +kernel) rfl q98 ?_
          refine dq_il 5 360 (by decide +kernel) rfl g14 ?_
          refine dq_aln 0 361 (by decide +kernel) rfl g10 ?_
          refine dq_il 5 363 (by decide +kernel) rfl g14 ?_
          refine dq_aln 0 364 (by decide +kernel) rfl g10 ?_
          refine dq_iln 1 365 (by decide +kernel) rfl g11 ?_
          refine dq_S (.iconst 1) 1 [] 366 _ [.int 1, .int i1, va_rf o0, .int x6.1, va_rf o0, .int x6.1, va_rf p97] (by decide +kernel) rfl ?_
          refine dq_S (.iadd) 1 [] 367 _ [.int (i1 + 1), va_rf o0, .int x6.1, va_rf o0, .int x6.1, va_rf p97] (by decide +kernel) rfl ?_
          obtain ⟨x99, q100, hh⟩ := db hh
          obtain ⟨a101, q102, q100⟩ := db q100
          rw [dq_xI q100] at q102
          refine dq_cvi hD 373 320 5 1 [15] o0 [.int (i1 + 1)] [.int x6.1, va_rf o0, .int x6.1, va_rf p97] 370 [.int x99.1, .int x6.1, va_rf o0, .int x6.1, va_rf p97] (by decide +kernel) ap_320 ⟨⟨Nat.le_of_ble_eq_true rfl, by decide⟩, rfl, rfl⟩ (dq_ok8 [1, 1] [1, 1, 1, 1] (dc_r (dc_i dc_n)) (dc_i (dc_r (dc_i (dc_r dc_n)))) (by decide +kernel)) (by decide +kernel) rfl q102 rfl ?_
          obtain ⟨x103, q104, hh⟩ := db hh
          obtain ⟨a105, q106, q104⟩ := db q104
          rw [dq_xI q104] at q106
          refine dq_cvi hD 376 323 5 2 [15] o0 [.int x6.1, .int x99.1] [.int x6.1, va_rf p97] 373 [.int x103.1, .int x6.1, va_rf p97] (by decide +kernel) ap_323 ⟨⟨Nat.le_of_ble_eq_true rfl, by decide⟩, rfl, rfl⟩ (dq_ok8 [1, 1, 1] [1, 1] (dc_r (dc_i (dc_i dc_n))) (dc_i (dc_r dc_n)) (by decide +kernel)) (by decide +kernel) rfl q106 rfl ?_
          obtain ⟨h107, q108, hh⟩ := db hh
          refine dq_sI 374 (by decide +kernel) rfl q108 ?_
          refine dq_aln 0 375 (by decide +kernel) rfl g10 ?_
          refine dq_S (.bipush 44) 2 [] 377 _ [.int 44, va_rf o0] (by decide +kernel) rfl ?_
          obtain ⟨h109, q110, hh⟩ := db hh
          obtain ⟨a111, q112, q110⟩ := db q110
          rw [dq_xV q110] at q112
          refine dq_cvi hD 335 308 5 1 [15] o0 [.int 44] [] 380 [] (by decide +kernel) ap_308 ⟨⟨Nat.le_of_ble_eq_true rfl, by decide⟩, rfl, rfl⟩ (dq_ok8 [1, 1] [] (dc_r (dc_i dc_n)) dc_n (by decide +kernel)) (by decide +kernel) rfl q112 rfl ?_
          refine dq_aln 0 381 (by decide +kernel) rfl g10 ?_
          obtain ⟨p113, q114, hh⟩ := db hh
          refine dq_gR 42 13 [15] 384 (by decide +kernel) rfl q114 ?_
          refine dq_il 5 386 (by decide +kernel) rfl g14 ?_
          refine dq_aln 0 387 (by decide +kernel) rfl g10 ?_
          refine dq_il 5 389 (by decide +kernel) rfl g14 ?_
          refine dq_aln 0 390 (by decide +kernel) rfl g10 ?_
          refine dq_iln 1 391 (by decide +kernel) rfl g11 ?_
          refine dq_S (.iconst 1) 1 [] 392 _ [.int 1, .int i1, va_rf o0, .int x6.1, va_rf o0, .int x6.1, va_rf p113] (by decide +kernel) rfl ?_
          refine dq_S (.iadd) 1 [] 393 _ [.int (i1 + 1), va_rf o0, .int x6.1, va_rf o0, .int x6.1, va_rf p113] (by decide +kernel) rfl ?_
          obtain ⟨x115, q116, hh⟩ := db hh
          obtain ⟨a117, q118, q116⟩ := db q116
          rw [dq_xI q116] at q118
          refine dq_cvi hD 373 320 5 1 [15] o0 [.int (i1 + 1)] [.int x6.1, va_rf o0, .int x6.1, va_rf p113] 396 [.int x115.1, .int x6.1, va_rf o0, .int x6.1, va_rf p113] (by decide +kernel) ap_320 ⟨⟨Nat.le_of_ble_eq_true rfl, by decide⟩, rfl, rfl⟩ (dq_ok8 [1, 1] [1, 1, 1, 1] (dc_r (dc_i dc_n)) (dc_i (dc_r (dc_i (dc_r dc_n)))) (by decide +kernel)) (by decide +kernel) rfl q118 rfl ?_
          obtain ⟨x119, q120, hh⟩ := db hh
          obtain ⟨a121, q122, q120⟩ := db q120
          rw [dq_xI q120] at q122
          refine dq_cvi hD 376 323 5 2 [15] o0 [.int x6.1, .int x115.1] [.int x6.1, va_rf p113] 399 [.int x119.1, .int x6.1, va_rf p113] (by decide +kernel) ap_323 ⟨⟨Nat.le_of_ble_eq_true rfl, by decide⟩, rfl, rfl⟩ (dq_ok8 [1, 1, 1] [1, 1] (dc_r (dc_i (dc_i dc_n))) (dc_i (dc_r dc_n)) (by decide +kernel)) (by decide +kernel) rfl q122 rfl ?_
          obtain ⟨h123, q124, hh⟩ := db hh
          refine dq_sI 400 (by decide +kernel) rfl q124 ?_
          refine dq_aln 0 401 (by decide +kernel) rfl g10 ?_
          refine dq_S (.bipush 41) 2 [] 403 _ [.int 41, va_rf o0] (by decide +kernel) rfl ?_
          obtain ⟨h125, q126, hh⟩ := db hh
          obtain ⟨a127, q128, q126⟩ := db q126
          rw [dq_xV q126] at q128
          refine dq_cvi hD 335 308 5 1 [15] o0 [.int 41] [] 406 [] (by decide +kernel) ap_308 ⟨⟨Nat.le_of_ble_eq_true rfl, by decide⟩, rfl, rfl⟩ (dq_ok8 [1, 1] [] (dc_r (dc_i dc_n)) dc_n (by decide +kernel)) (by decide +kernel) rfl q128 rfl ?_
          refine dq_S (.goto 142) 3 [] 548 _ [] (by decide +kernel) rfl ?_
          exact c322_548 hD hz _ _ _ _ g14 hh
      · refine dq_2 .ne 38 false 306 q44 (by decide +kernel) ?_
        refine dq_aln 0 307 (by decide +kernel) rfl g10 ?_
        refine dq_S (.bipush 40) 2 [] 309 _ [.int 40, va_rf o0] (by decide +kernel) rfl ?_
        obtain ⟨h129, q130, hh⟩ := db hh
        obtain ⟨a131, q132, q130⟩ := db q130
        rw [dq_xV q130] at q132
        refine dq_cvi hD 335 308 5 1 [15] o0 [.int 40] [] 312 [] (by decide +kernel) ap_308 ⟨⟨Nat.le_of_ble_eq_true rfl, by decide⟩, rfl, rfl⟩ (dq_ok8 [1, 1] [] (dc_r (dc_i dc_n)) dc_n (by decide +kernel)) (by decide +kernel) rfl q132 rfl ?_
        refine dq_aln 0 313 (by decide +kernel) rfl g10 ?_
        obtain ⟨p133, q134, hh⟩ := db hh
        refine dq_gR 39 12 [15] 316 (by decide +kernel) rfl q134 ?_
        refine dq_il 5 318 (by decide +kernel) rfl g14 ?_
        refine dq_aln 0 319 (by decide +kernel) rfl g10 ?_
        refine dq_il 5 321 (by decide +kernel) rfl g14 ?_
        refine dq_aln 0 322 (by decide +kernel) rfl g10 ?_
        refine dq_iln 1 323 (by decide +kernel) rfl g11 ?_
        refine dq_S (.iconst 1) 1 [] 324 _ [.int 1, .int i1, va_rf o0, .int x6.1, va_rf o0, .int x6.1, va_rf p133] (by decide +kernel) rfl ?_
        refine dq_S (.iadd) 1 [] 325 _ [.int (i1 + 1), va_rf o0, .int x6.1, va_rf o0, .int x6.1, va_rf p133] (by decide +kernel) rfl ?_
        obtain ⟨x135, q136, hh⟩ := db hh
        obtain ⟨a137, q138, q136⟩ := db q136
        rw [dq_xI q136] at q138
        refine dq_cvi hD 373 320 5 1 [15] o0 [.int (i1 + 1)] [.int x6.1, va_rf o0, .int x6.1, va_rf p133] 328 [.int x135.1, .int x6.1, va_rf o0, .int x6.1, va_rf p133] (by decide +kernel) ap_320 ⟨⟨Nat.le_of_ble_eq_true rfl, by decide⟩, rfl, rfl⟩ (dq_ok8 [1, 1] [1, 1, 1, 1] (dc_r (dc_i dc_n)) (dc_i (dc_r (dc_i (dc_r dc_n)))) (by decide +kernel)) (by decide +kernel) rfl q138 rfl ?_
        obtain ⟨x139, q140, hh⟩ := db hh
        obtain ⟨a141, q142, q140⟩ := db q140
        rw [dq_xI q140] at q142
        refine dq_cvi hD 376 323 5 2 [15] o0 [.int x6.1, .int x135.1] [.int x6.1, va_rf p133] 331 [.int x139.1, .int x6.1, va_rf p133] (by decide +kernel) ap_323 ⟨⟨Nat.le_of_ble_eq_true rfl, by decide⟩, rfl, rfl⟩ (dq_ok8 [1, 1, 1] [1, 1] (dc_r (dc_i (dc_i dc_n))) (dc_i (dc_r dc_n)) (by decide +kernel)) (by decide +kernel) rfl q142 rfl ?_
        obtain ⟨h143, q144, hh⟩ := db hh
        refine dq_sI 332 (by decide +kernel) rfl q144 ?_
        refine dq_aln 0 333 (by decide +kernel) rfl g10 ?_
        refine dq_S (.bipush 41) 2 [] 335 _ [.int 41, va_rf o0] (by decide +kernel) rfl ?_
        obtain ⟨h145, q146, hh⟩ := db hh
        obtain ⟨a147, q148, q146⟩ := db q146
        rw [dq_xV q146] at q148
        refine dq_cvi hD 335 308 5 1 [15] o0 [.int 41] [] 338 [] (by decide +kernel) ap_308 ⟨⟨Nat.le_of_ble_eq_true rfl, by decide⟩, rfl, rfl⟩ (dq_ok8 [1, 1] [] (dc_r (dc_i dc_n)) dc_n (by decide +kernel)) (by decide +kernel) rfl q148 rfl ?_
        refine dq_S (.goto 210) 3 [] 548 _ [] (by decide +kernel) rfl ?_
        exact c322_548 hD hz _ _ _ _ g14 hh
    · refine dq_2 .ne 41 false 261 q43 (by decide +kernel) ?_
      refine dq_aln 0 262 (by decide +kernel) rfl g10 ?_
      refine dq_S (.iconst 1) 1 [] 263 _ [.int 1, va_rf o0] (by decide +kernel) rfl ?_
      obtain ⟨x149, q150, hh⟩ := db hh
      obtain ⟨a151, q152, q150⟩ := db q150
      rw [dq_xI q150] at q152
      refine dq_cvi hD 323 307 5 1 [15] o0 [.int 1] [] 266 [.int x149.1] (by decide +kernel) ap_307 ⟨⟨Nat.le_of_ble_eq_true rfl, by decide⟩, rfl, rfl⟩ (dq_ok8 [1, 1] [] (dc_r (dc_i dc_n)) dc_n (by decide +kernel)) (by decide +kernel) rfl q152 rfl ?_
      refine dq_is 6 268 (by decide +kernel) (by decide +kernel) ?_
      have g153 := dg_ne (i := 6) (u := .int x149.1) (by decide) (Or.inl (by decide)) g10
      have g154 := dg_ne (i := 6) (u := .int x149.1) (by decide) (Or.inl (by decide)) g11
      have g155 := dg_ne (i := 6) (u := .int x149.1) (by decide) (Or.inl (by decide)) g12
      have g156 := dg_ne (i := 6) (u := .int x149.1) (by decide) (Or.inl (by decide)) g13
      have g157 := dg_ne (i := 6) (u := .int x149.1) (by decide) (Or.inr rfl) g14
      have g158 := dg_eq (rm_set1 (rm_set1 (lv) 4 (.int s0)) 5 (.int x6.1)) 6 (.int x149.1)
      refine dq_aln 0 269 (by decide +kernel) rfl g153 ?_
      obtain ⟨p159, q160, hh⟩ := db hh
      refine dq_gR 72 23 [15] 272 (by decide +kernel) rfl q160 ?_
      refine dq_il 5 274 (by decide +kernel) rfl g157 ?_
      refine dq_aln 0 275 (by decide +kernel) rfl g153 ?_
      obtain ⟨p161, q162, hh⟩ := db hh
      refine dq_gR 33 9 [15] 278 (by decide +kernel) rfl q162 ?_
      refine dq_il 6 280 (by decide +kernel) rfl g158 ?_
      obtain ⟨y163, q164, hh⟩ := db hh
      refine dq_aJ 281 (by decide +kernel) rfl q164 ?_
      obtain ⟨h165, q166, hh⟩ := db hh
      refine dq_sJ 282 (by decide +kernel) rfl q166 ?_
      refine dq_aln 0 283 (by decide +kernel) rfl g153 ?_
      obtain ⟨p167, q168, hh⟩ := db hh
      refine dq_gR 57 18 [15] 286 (by decide +kernel) rfl q168 ?_
      refine dq_il 5 288 (by decide +kernel) rfl g157 ?_
      refine dq_aln 0 289 (by decide +kernel) rfl g153 ?_
      obtain ⟨p169, q170, hh⟩ := db hh
      refine dq_gR 27 7 [15] 292 (by decide +kernel) rfl q170 ?_
      refine dq_il 6 294 (by decide +kernel) rfl g158 ?_
      obtain ⟨x171, q172, hh⟩ := db hh
      refine dq_aI 295 (by decide +kernel) rfl q172 ?_
      obtain ⟨h173, q174, hh⟩ := db hh
      refine dq_sI 296 (by decide +kernel) rfl q174 ?_
      refine dq_S (.goto 252) 3 [] 548 _ [] (by decide +kernel) rfl ?_
      exact c322_548 hD hz _ _ _ _ g157 hh
  · refine dq_1 .ne 9 false 188 q5 (by decide +kernel) ?_
    refine dq_aln 0 189 (by decide +kernel) rfl g1 ?_
    obtain ⟨h175, q176, hh⟩ := db hh
    obtain ⟨a177, q178, q176⟩ := db q176
    rw [dq_xV q176] at q178
    refine dq_cvi hD 310 304 5 0 [15] o0 [] [] 192 [] (by decide +kernel) ap_304 ⟨⟨Nat.le_of_ble_eq_true rfl, by decide⟩, rfl, rfl⟩ (dq_ok8 [1] [] (dc_r dc_n) dc_n (by decide +kernel)) (by decide +kernel) rfl q178 rfl ?_
    refine dq_S (.iconst 0) 1 [] 193 _ [.int 0] (by decide +kernel) rfl ?_
    exact dq_retI (some .int) (by decide +kernel) rfl hh
def b322_45 (L : Nat) (xs : Nat → Int32) (zf : Value) (D : dD) (w : Nat) (o0 : Option Nat) (i1 : Int32) (i2 : Int32) (s0 : Int32) (h : rm_H) : Option dR :=
  ((dcV L xs D 309 [15] o0 [.int 40] h).bind dxI).bind fun x5 =>
  if mx_f1 .eq x5.1 = true then
    (dgR L xs x5.2 6 [15] o0).bind fun p10 =>
    (dgI L xs x5.2 56 [15] o0).bind fun x12 =>
    (daI L xs x5.2 p10 x12).bind fun x14 =>
    if mx_f2 .ne x14 4 = true then
      (dgR L xs x5.2 6 [15] o0).bind fun p17 =>
      (dgI L xs x5.2 56 [15] o0).bind fun x19 =>
      (daI L xs x5.2 p17 x19).bind fun x21 =>
      if mx_f2 .ne x21 1 = true then
        if mx_f2 .ne s0 14 = true then
          if mx_f2 .ne s0 15 = true then
            if mx_f2 .ne s0 16 = true then
              if mx_f2 .ne s0 12 = true then
                if mx_f2 .ne s0 13 = true then
                  if mx_f2 .ne s0 2 = true then
                    if mx_f2 .ne s0 17 = true then
                      b322_181 L xs zf D w o0 i1 i2 0 x5.2
                    else
                      b322_181 L xs zf D w o0 i1 i2 9 x5.2
                  else
                    b322_181 L xs zf D w o0 i1 i2 8 x5.2
                else
                  b322_181 L xs zf D w o0 i1 i2 7 x5.2
              else
                b322_181 L xs zf D w o0 i1 i2 6 x5.2
            else
              b322_181 L xs zf D w o0 i1 i2 5 x5.2
          else
            b322_181 L xs zf D w o0 i1 i2 3 x5.2
        else
          b322_181 L xs zf D w o0 i1 i2 2 x5.2
      else
        b322_181 L xs zf D w o0 i1 i2 4 x5.2
    else
      b322_181 L xs zf D w o0 i1 i2 1 x5.2
  else
    ((dcV L xs D 320 [15] o0 [.int (i1 + 1)] x5.2).bind dxI).bind fun x31 =>
    ((dcV L xs D 308 [15] o0 [.int 41] x31.2).bind dxV).bind fun h40 =>
    drI (some .int) x31.1 h40
theorem c322_45 {L : Nat} {xs : Nat → Int32} {zf : Value} {D : dD} {w k : Nat} (hD : dO L xs zf D k) (hz : zf.category = 1) : ∀ (o0 : Option Nat) (i1 : Int32) (i2 : Int32) (s0 : Int32) (lv : rm_L) (h : rm_H) (r : dR), rm_get lv 0 = some (va_rf o0) → rm_get lv 1 = some (.int i1) → rm_get lv 2 = some (.int i2) → b322_45 L xs zf D w  o0 i1 i2 s0 h = some r → dq L xs zf ah_M322 45 lv [.int s0] h (k + 1) r := by
  intro o0 i1 i2 s0 lv h r G0 G1 G2 hh
  unfold b322_45 at hh
  refine dq_isn 3 46 (by decide +kernel) (by decide +kernel) ?_
  have g1 := dg_ne (i := 3) (u := .int s0) (by decide) (Or.inl (by decide)) G0
  have g2 := dg_ne (i := 3) (u := .int s0) (by decide) (Or.inl (by decide)) G1
  have g3 := dg_ne (i := 3) (u := .int s0) (by decide) (Or.inr rfl) G2
  have g4 := dg_eq (lv) 3 (.int s0)
  refine dq_aln 0 47 (by decide +kernel) rfl g1 ?_
  refine dq_S (.bipush 40) 2 [] 49 _ [.int 40, va_rf o0] (by decide +kernel) rfl ?_
  obtain ⟨x5, q6, hh⟩ := db hh
  obtain ⟨a7, q8, q6⟩ := db q6
  rw [dq_xI q6] at q8
  refine dq_cvi hD 307 309 5 1 [15] o0 [.int 40] [] 52 [.int x5.1] (by decide +kernel) ap_309 ⟨⟨Nat.le_of_ble_eq_true rfl, by decide⟩, rfl, rfl⟩ (dq_ok8 [1, 1] [] (dc_r (dc_i dc_n)) dc_n (by decide +kernel)) (by decide +kernel) rfl q8 rfl ?_
  rcases di hh with ⟨q9, hh⟩ | ⟨q9, hh⟩
  · refine dq_1 .eq 21 true 73 q9 (by decide +kernel) ?_
    refine dq_aln 0 74 (by decide +kernel) rfl g1 ?_
    obtain ⟨p10, q11, hh⟩ := db hh
    refine dq_gR 24 6 [15] 77 (by decide +kernel) rfl q11 ?_
    refine dq_aln 0 78 (by decide +kernel) rfl g1 ?_
    obtain ⟨x12, q13, hh⟩ := db hh
    refine dq_gI 298 56 [15] 81 (by decide +kernel) rfl q13 ?_
    obtain ⟨x14, q15, hh⟩ := db hh
    refine dq_aI 82 (by decide +kernel) rfl q15 ?_
    refine dq_S (.iconst 4) 1 [] 83 _ [.int 4, .int x14] (by decide +kernel) rfl ?_
    rcases di hh with ⟨q16, hh⟩ | ⟨q16, hh⟩
    · refine dq_2 .ne 7 true 90 q16 (by decide +kernel) ?_
      refine dq_aln 0 91 (by decide +kernel) rfl g1 ?_
      obtain ⟨p17, q18, hh⟩ := db hh
      refine dq_gR 24 6 [15] 94 (by decide +kernel) rfl q18 ?_
      refine dq_aln 0 95 (by decide +kernel) rfl g1 ?_
      obtain ⟨x19, q20, hh⟩ := db hh
      refine dq_gI 298 56 [15] 98 (by decide +kernel) rfl q20 ?_
      obtain ⟨x21, q22, hh⟩ := db hh
      refine dq_aI 99 (by decide +kernel) rfl q22 ?_
      refine dq_S (.iconst 1) 1 [] 100 _ [.int 1, .int x21] (by decide +kernel) rfl ?_
      rcases di hh with ⟨q23, hh⟩ | ⟨q23, hh⟩
      · refine dq_2 .ne 7 true 107 q23 (by decide +kernel) ?_
        refine dq_iln 3 108 (by decide +kernel) rfl g4 ?_
        refine dq_S (.bipush 14) 2 [] 110 _ [.int 14, .int s0] (by decide +kernel) rfl ?_
        rcases di hh with ⟨q24, hh⟩ | ⟨q24, hh⟩
        · refine dq_2 .ne 7 true 117 q24 (by decide +kernel) ?_
          refine dq_iln 3 118 (by decide +kernel) rfl g4 ?_
          refine dq_S (.bipush 15) 2 [] 120 _ [.int 15, .int s0] (by decide +kernel) rfl ?_
          rcases di hh with ⟨q25, hh⟩ | ⟨q25, hh⟩
          · refine dq_2 .ne 7 true 127 q25 (by decide +kernel) ?_
            refine dq_iln 3 128 (by decide +kernel) rfl g4 ?_
            refine dq_S (.bipush 16) 2 [] 130 _ [.int 16, .int s0] (by decide +kernel) rfl ?_
            rcases di hh with ⟨q26, hh⟩ | ⟨q26, hh⟩
            · refine dq_2 .ne 7 true 137 q26 (by decide +kernel) ?_
              refine dq_iln 3 138 (by decide +kernel) rfl g4 ?_
              refine dq_S (.bipush 12) 2 [] 140 _ [.int 12, .int s0] (by decide +kernel) rfl ?_
              rcases di hh with ⟨q27, hh⟩ | ⟨q27, hh⟩
              · refine dq_2 .ne 8 true 148 q27 (by decide +kernel) ?_
                refine dq_iln 3 149 (by decide +kernel) rfl g4 ?_
                refine dq_S (.bipush 13) 2 [] 151 _ [.int 13, .int s0] (by decide +kernel) rfl ?_
                rcases di hh with ⟨q28, hh⟩ | ⟨q28, hh⟩
                · refine dq_2 .ne 8 true 159 q28 (by decide +kernel) ?_
                  refine dq_iln 3 160 (by decide +kernel) rfl g4 ?_
                  refine dq_S (.iconst 2) 1 [] 161 _ [.int 2, .int s0] (by decide +kernel) rfl ?_
                  rcases di hh with ⟨q29, hh⟩ | ⟨q29, hh⟩
                  · refine dq_2 .ne 8 true 169 q29 (by decide +kernel) ?_
                    refine dq_iln 3 170 (by decide +kernel) rfl g4 ?_
                    refine dq_S (.bipush 17) 2 [] 172 _ [.int 17, .int s0] (by decide +kernel) rfl ?_
                    rcases di hh with ⟨q30, hh⟩ | ⟨q30, hh⟩
                    · refine dq_2 .ne 8 true 180 q30 (by decide +kernel) ?_
                      refine dq_S (.iconst 0) 1 [] 181 _ [.int 0] (by decide +kernel) rfl ?_
                      exact c322_181 hD hz _ _ _ _ _ _ _ g1 g2 g3 hh
                    · refine dq_2 .ne 8 false 175 q30 (by decide +kernel) ?_
                      refine dq_S (.bipush 9) 2 [] 177 _ [.int 9] (by decide +kernel) rfl ?_
                      refine dq_S (.goto 4) 3 [] 181 _ [.int 9] (by decide +kernel) rfl ?_
                      exact c322_181 hD hz _ _ _ _ _ _ _ g1 g2 g3 hh
                  · refine dq_2 .ne 8 false 164 q29 (by decide +kernel) ?_
                    refine dq_S (.bipush 8) 2 [] 166 _ [.int 8] (by decide +kernel) rfl ?_
                    refine dq_S (.goto 15) 3 [] 181 _ [.int 8] (by decide +kernel) rfl ?_
                    exact c322_181 hD hz _ _ _ _ _ _ _ g1 g2 g3 hh
                · refine dq_2 .ne 8 false 154 q28 (by decide +kernel) ?_
                  refine dq_S (.bipush 7) 2 [] 156 _ [.int 7] (by decide +kernel) rfl ?_
                  refine dq_S (.goto 25) 3 [] 181 _ [.int 7] (by decide +kernel) rfl ?_
                  exact c322_181 hD hz _ _ _ _ _ _ _ g1 g2 g3 hh
              · refine dq_2 .ne 8 false 143 q27 (by decide +kernel) ?_
                refine dq_S (.bipush 6) 2 [] 145 _ [.int 6] (by decide +kernel) rfl ?_
                refine dq_S (.goto 36) 3 [] 181 _ [.int 6] (by decide +kernel) rfl ?_
                exact c322_181 hD hz _ _ _ _ _ _ _ g1 g2 g3 hh
            · refine dq_2 .ne 7 false 133 q26 (by decide +kernel) ?_
              refine dq_S (.iconst 5) 1 [] 134 _ [.int 5] (by decide +kernel) rfl ?_
              refine dq_S (.goto 47) 3 [] 181 _ [.int 5] (by decide +kernel) rfl ?_
              exact c322_181 hD hz _ _ _ _ _ _ _ g1 g2 g3 hh
          · refine dq_2 .ne 7 false 123 q25 (by decide +kernel) ?_
            refine dq_S (.iconst 3) 1 [] 124 _ [.int 3] (by decide +kernel) rfl ?_
            refine dq_S (.goto 57) 3 [] 181 _ [.int 3] (by decide +kernel) rfl ?_
            exact c322_181 hD hz _ _ _ _ _ _ _ g1 g2 g3 hh
        · refine dq_2 .ne 7 false 113 q24 (by decide +kernel) ?_
          refine dq_S (.iconst 2) 1 [] 114 _ [.int 2] (by decide +kernel) rfl ?_
          refine dq_S (.goto 67) 3 [] 181 _ [.int 2] (by decide +kernel) rfl ?_
          exact c322_181 hD hz _ _ _ _ _ _ _ g1 g2 g3 hh
      · refine dq_2 .ne 7 false 103 q23 (by decide +kernel) ?_
        refine dq_S (.iconst 4) 1 [] 104 _ [.int 4] (by decide +kernel) rfl ?_
        refine dq_S (.goto 77) 3 [] 181 _ [.int 4] (by decide +kernel) rfl ?_
        exact c322_181 hD hz _ _ _ _ _ _ _ g1 g2 g3 hh
    · refine dq_2 .ne 7 false 86 q16 (by decide +kernel) ?_
      refine dq_S (.iconst 1) 1 [] 87 _ [.int 1] (by decide +kernel) rfl ?_
      refine dq_S (.goto 94) 3 [] 181 _ [.int 1] (by decide +kernel) rfl ?_
      exact c322_181 hD hz _ _ _ _ _ _ _ g1 g2 g3 hh
  · refine dq_1 .eq 21 false 55 q9 (by decide +kernel) ?_
    refine dq_aln 0 56 (by decide +kernel) rfl g1 ?_
    refine dq_iln 1 57 (by decide +kernel) rfl g2 ?_
    refine dq_S (.iconst 1) 1 [] 58 _ [.int 1, .int i1, va_rf o0] (by decide +kernel) rfl ?_
    refine dq_S (.iadd) 1 [] 59 _ [.int (i1 + 1), va_rf o0] (by decide +kernel) rfl ?_
    obtain ⟨x31, q32, hh⟩ := db hh
    obtain ⟨a33, q34, q32⟩ := db q32
    rw [dq_xI q32] at q34
    refine dq_cvi hD 373 320 5 1 [15] o0 [.int (i1 + 1)] [] 62 [.int x31.1] (by decide +kernel) ap_320 ⟨⟨Nat.le_of_ble_eq_true rfl, by decide⟩, rfl, rfl⟩ (dq_ok8 [1, 1] [] (dc_r (dc_i dc_n)) dc_n (by decide +kernel)) (by decide +kernel) rfl q34 rfl ?_
    refine dq_is 4 64 (by decide +kernel) (by decide +kernel) ?_
    have g35 := dg_ne (i := 4) (u := .int x31.1) (by decide) (Or.inl (by decide)) g1
    have g36 := dg_ne (i := 4) (u := .int x31.1) (by decide) (Or.inl (by decide)) g2
    have g37 := dg_ne (i := 4) (u := .int x31.1) (by decide) (Or.inl (by decide)) g3
    have g38 := dg_ne (i := 4) (u := .int x31.1) (by decide) (Or.inr rfl) g4
    have g39 := dg_eq (rm_set1 (lv) 3 (.int s0)) 4 (.int x31.1)
    refine dq_aln 0 65 (by decide +kernel) rfl g35 ?_
    refine dq_S (.bipush 41) 2 [] 67 _ [.int 41, va_rf o0] (by decide +kernel) rfl ?_
    obtain ⟨h40, q41, hh⟩ := db hh
    obtain ⟨a42, q43, q41⟩ := db q41
    rw [dq_xV q41] at q43
    refine dq_cvi hD 335 308 5 1 [15] o0 [.int 41] [] 70 [] (by decide +kernel) ap_308 ⟨⟨Nat.le_of_ble_eq_true rfl, by decide⟩, rfl, rfl⟩ (dq_ok8 [1, 1] [] (dc_r (dc_i dc_n)) dc_n (by decide +kernel)) (by decide +kernel) rfl q43 rfl ?_
    refine dq_il 4 72 (by decide +kernel) rfl g39 ?_
    exact dq_retI (some .int) (by decide +kernel) rfl hh
def b322_0 (L : Nat) (xs : Nat → Int32) (zf : Value) (D : dD) (w : Nat) (o0 : Option Nat) (i1 : Int32) (h : rm_H) : Option dR :=
  (dgI L xs h 57 [15] o0).bind fun x1 =>
  if mx_f1 .le x1 = true then
    (dgR L xs h 7 [15] o0).bind fun p4 =>
    (dgI L xs h 56 [15] o0).bind fun x6 =>
    (daI L xs h p4 x6).bind fun x8 =>
    (dgR L xs h 6 [15] o0).bind fun p13 =>
    (dgI L xs h 56 [15] o0).bind fun x15 =>
    (daI L xs h p13 x15).bind fun x17 =>
    if mx_f2 .ne x17 2 = true then
      b322_45 L xs zf D w o0 i1 x8 (-1) h
    else
      (dgR L xs h 8 [15] o0).bind fun p20 =>
      (dgI L xs h 56 [15] o0).bind fun x22 =>
      (daI L xs h p20 x22).bind fun x24 =>
      b322_45 L xs zf D w o0 i1 x8 x24 h
  else
    drI (some .int) 0 h
theorem c322_0 {L : Nat} {xs : Nat → Int32} {zf : Value} {D : dD} {w k : Nat} (hD : dO L xs zf D k) (hz : zf.category = 1) : ∀ (o0 : Option Nat) (i1 : Int32) (lv : rm_L) (h : rm_H) (r : dR), rm_get lv 0 = some (va_rf o0) → rm_get lv 1 = some (.int i1) → b322_0 L xs zf D w  o0 i1 h = some r → dq L xs zf ah_M322 0 lv [] h (k + 1) r := by
  intro o0 i1 lv h r G0 G1 hh
  unfold b322_0 at hh
  refine dq_aln 0 1 (by decide +kernel) rfl G0 ?_
  obtain ⟨x1, q2, hh⟩ := db hh
  refine dq_gI 295 57 [15] 4 (by decide +kernel) rfl q2 ?_
  rcases di hh with ⟨q3, hh⟩ | ⟨q3, hh⟩
  · refine dq_1 .le 5 true 9 q3 (by decide +kernel) ?_
    refine dq_aln 0 10 (by decide +kernel) rfl G0 ?_
    obtain ⟨p4, q5, hh⟩ := db hh
    refine dq_gR 27 7 [15] 13 (by decide +kernel) rfl q5 ?_
    refine dq_aln 0 14 (by decide +kernel) rfl G0 ?_
    obtain ⟨x6, q7, hh⟩ := db hh
    refine dq_gI 298 56 [15] 17 (by decide +kernel) rfl q7 ?_
    obtain ⟨x8, q9, hh⟩ := db hh
    refine dq_aI 18 (by decide +kernel) rfl q9 ?_
    refine dq_isn 2 19 (by decide +kernel) (by decide +kernel) ?_
    have g10 := dg_ne (i := 2) (u := .int x8) (by decide) (Or.inl (by decide)) G0
    have g11 := dg_ne (i := 2) (u := .int x8) (by decide) (Or.inr rfl) G1
    have g12 := dg_eq (lv) 2 (.int x8)
    refine dq_aln 0 20 (by decide +kernel) rfl g10 ?_
    obtain ⟨p13, q14, hh⟩ := db hh
    refine dq_gR 24 6 [15] 23 (by decide +kernel) rfl q14 ?_
    refine dq_aln 0 24 (by decide +kernel) rfl g10 ?_
    obtain ⟨x15, q16, hh⟩ := db hh
    refine dq_gI 298 56 [15] 27 (by decide +kernel) rfl q16 ?_
    obtain ⟨x17, q18, hh⟩ := db hh
    refine dq_aI 28 (by decide +kernel) rfl q18 ?_
    refine dq_S (.iconst 2) 1 [] 29 _ [.int 2, .int x17] (by decide +kernel) rfl ?_
    rcases di hh with ⟨q19, hh⟩ | ⟨q19, hh⟩
    · refine dq_2 .ne 15 true 44 q19 (by decide +kernel) ?_
      refine dq_S (.iconst (-1)) 1 [] 45 _ [.int (-1)] (by decide +kernel) rfl ?_
      exact c322_45 hD hz _ _ _ _ _ _ _ g10 g11 g12 hh
    · refine dq_2 .ne 15 false 32 q19 (by decide +kernel) ?_
      refine dq_aln 0 33 (by decide +kernel) rfl g10 ?_
      obtain ⟨p20, q21, hh⟩ := db hh
      refine dq_gR 30 8 [15] 36 (by decide +kernel) rfl q21 ?_
      refine dq_aln 0 37 (by decide +kernel) rfl g10 ?_
      obtain ⟨x22, q23, hh⟩ := db hh
      refine dq_gI 298 56 [15] 40 (by decide +kernel) rfl q23 ?_
      obtain ⟨x24, q25, hh⟩ := db hh
      refine dq_aI 41 (by decide +kernel) rfl q25 ?_
      refine dq_S (.goto 4) 3 [] 45 _ [.int x24] (by decide +kernel) rfl ?_
      exact c322_45 hD hz _ _ _ _ _ _ _ g10 g11 g12 hh
  · refine dq_1 .le 5 false 7 q3 (by decide +kernel) ?_
    refine dq_S (.iconst 0) 1 [] 8 _ [.int 0] (by decide +kernel) rfl ?_
    exact dq_retI (some .int) (by decide +kernel) rfl hh
def f322 (L : Nat) (xs : Nat → Int32) (zf : Value) (D : dD) (w : Nat) (As : List Value) (h : rm_H) : Option dR := match As with
  | [v0, .int i1] => (rm_rf v0).bind fun o0 => b322_0 L xs zf D w o0 i1 h
  | _ => none
theorem d322 {L : Nat} {xs : Nat → Int32} {zf : Value} {D : dD} {w k : Nat} (hD : dO L xs zf D k) (hz : zf.category = 1) (As : List Value) (h : rm_H) (r : dR) (hh : f322 L xs zf D w As h = some r) : dq L xs zf ah_M322 0 (lv_args 0 As) [] h (k + 1) r := by
  unfold f322 at hh
  split at hh
  · obtain ⟨o0, e0, hb0⟩ := db hh
    have e0 := rm_rf_v _ _ e0
    subst e0
    refine c322_0 hD hz _ _ _ _ _ ?_ ?_ hb0
    all_goals (simp only [la_r, la_i, la_j]; rfl)
  · cases hh
