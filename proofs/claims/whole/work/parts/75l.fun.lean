/-! METHODS AS FUNCTIONS, printed by wip/whole/gen_fun.py -/
def b323_0 (L : Nat) (xs : Nat → Int32) (zf : Value) (D : dD) (w : Nat) (o0 : Option Nat) (i1 : Int32) (i2 : Int32) (h : rm_H) : Option dR :=
  (dgR L xs h 16 [15] o0).bind fun p1 =>
  (dsI h p1 i2 i1).bind fun h3 =>
  drI (some .int) i2 h3
theorem c323_0 {L : Nat} {xs : Nat → Int32} {zf : Value} {D : dD} {w k : Nat} (hD : dO L xs zf D k) (hz : zf.category = 1) : ∀ (o0 : Option Nat) (i1 : Int32) (i2 : Int32) (lv : rm_L) (h : rm_H) (r : dR), rm_get lv 0 = some (va_rf o0) → rm_get lv 1 = some (.int i1) → rm_get lv 2 = some (.int i2) → b323_0 L xs zf D w  o0 i1 i2 h = some r → dq L xs zf ah_M323 0 lv [] h (k + 1) r := by
  intro o0 i1 i2 lv h r G0 G1 G2 hh
  unfold b323_0 at hh
  refine dq_aln 0 1 (by decide +kernel) rfl G0 ?_
  obtain ⟨p1, q2, hh⟩ := db hh
  refine dq_gR 51 16 [15] 4 (by decide +kernel) rfl q2 ?_
  refine dq_iln 2 5 (by decide +kernel) rfl G2 ?_
  refine dq_iln 1 6 (by decide +kernel) rfl G1 ?_
  obtain ⟨h3, q4, hh⟩ := db hh
  refine dq_sI 7 (by decide +kernel) rfl q4 ?_
  refine dq_iln 2 8 (by decide +kernel) rfl G2 ?_
  exact dq_retI (some .int) (by decide +kernel) rfl hh
def f323 (L : Nat) (xs : Nat → Int32) (zf : Value) (D : dD) (w : Nat) (As : List Value) (h : rm_H) : Option dR := match As with
  | [v0, .int i1, .int i2] => (rm_rf v0).bind fun o0 => b323_0 L xs zf D w o0 i1 i2 h
  | _ => none
theorem d323 {L : Nat} {xs : Nat → Int32} {zf : Value} {D : dD} {w k : Nat} (hD : dO L xs zf D k) (hz : zf.category = 1) (As : List Value) (h : rm_H) (r : dR) (hh : f323 L xs zf D w As h = some r) : dq L xs zf ah_M323 0 (lv_args 0 As) [] h (k + 1) r := by
  unfold f323 at hh
  split at hh
  · obtain ⟨o0, e0, hb0⟩ := db hh
    have e0 := rm_rf_v _ _ e0
    subst e0
    refine c323_0 hD hz _ _ _ _ _ _ ?_ ?_ ?_ hb0
    all_goals (simp only [la_r, la_i, la_j]; rfl)
  · cases hh
def b324_99 (L : Nat) (xs : Nat → Int32) (zf : Value) (D : dD) (w : Nat) (K31 : Option Nat → Int32 → Int32 → Int32 → Int32 → rm_H → Option dR) (o0 : Option Nat) (i1 : Int32) (i2 : Int32) (i5 : Int32) (h : rm_H) : Option dR :=
  ((dcV L xs D 309 [15] o0 [.int 44] h).bind dxI).bind fun x6 =>
  K31 o0 i1 i2 x6.1 i5 x6.2
theorem c324_99 {L : Nat} {xs : Nat → Int32} {zf : Value} {D : dD} {w k : Nat} {K31 : Option Nat → Int32 → Int32 → Int32 → Int32 → rm_H → Option dR} (hD : dO L xs zf D k) (hz : zf.category = 1) (hK31 : ∀ (o0 : Option Nat) (i1 : Int32) (i2 : Int32) (i3 : Int32) (i4 : Int32) (lv : rm_L) (h : rm_H) (r : dR), rm_get lv 0 = some (va_rf o0) → rm_get lv 1 = some (.int i1) → rm_get lv 2 = some (.int i2) → rm_get lv 3 = some (.int i3) → rm_get lv 4 = some (.int i4) → K31 o0 i1 i2 i3 i4 h = some r → dq L xs zf ah_M324 31 lv [] h (k + 1) r) : ∀ (o0 : Option Nat) (i1 : Int32) (i2 : Int32) (i5 : Int32) (lv : rm_L) (h : rm_H) (r : dR), rm_get lv 0 = some (va_rf o0) → rm_get lv 1 = some (.int i1) → rm_get lv 2 = some (.int i2) → rm_get lv 5 = some (.int i5) → b324_99 L xs zf D w K31  o0 i1 i2 i5 h = some r → dq L xs zf ah_M324 99 lv [] h (k + 1) r := by
  intro o0 i1 i2 i5 lv h r G0 G1 G2 G5 hh
  unfold b324_99 at hh
  refine dq_il 5 101 (by decide +kernel) rfl G5 ?_
  refine dq_is 4 103 (by decide +kernel) (by decide +kernel) ?_
  have g1 := dg_ne (i := 4) (u := .int i5) (by decide) (Or.inl (by decide)) G0
  have g2 := dg_ne (i := 4) (u := .int i5) (by decide) (Or.inl (by decide)) G1
  have g3 := dg_ne (i := 4) (u := .int i5) (by decide) (Or.inl (by decide)) G2
  have g4 := dg_ne (i := 4) (u := .int i5) (by decide) (Or.inl (by decide)) G5
  have g5 := dg_eq (lv) 4 (.int i5)
  refine dq_aln 0 104 (by decide +kernel) rfl g1 ?_
  refine dq_S (.bipush 44) 2 [] 106 _ [.int 44, va_rf o0] (by decide +kernel) rfl ?_
  obtain ⟨x6, q7, hh⟩ := db hh
  obtain ⟨a8, q9, q7⟩ := db q7
  rw [dq_xI q7] at q9
  refine dq_cvi hD 307 309 5 1 [15] o0 [.int 44] [] 109 [.int x6.1] (by decide +kernel) ap_309 ⟨⟨Nat.le_of_ble_eq_true rfl, by decide⟩, rfl, rfl⟩ (dq_ok8 [1, 1] [] (dc_r (dc_i dc_n)) dc_n (by decide +kernel)) (by decide +kernel) rfl q9 rfl ?_
  refine dq_isn 3 110 (by decide +kernel) (by decide +kernel) ?_
  have g10 := dg_ne (i := 3) (u := .int x6.1) (by decide) (Or.inl (by decide)) g1
  have g11 := dg_ne (i := 3) (u := .int x6.1) (by decide) (Or.inl (by decide)) g2
  have g12 := dg_ne (i := 3) (u := .int x6.1) (by decide) (Or.inr rfl) g3
  have g13 := dg_ne (i := 3) (u := .int x6.1) (by decide) (Or.inl (by decide)) g4
  have g14 := dg_ne (i := 3) (u := .int x6.1) (by decide) (Or.inl (by decide)) g5
  have g15 := dg_eq (rm_set1 (lv) 4 (.int i5)) 3 (.int x6.1)
  refine dq_S (.goto (-79)) 3 [] 31 _ [] (by decide +kernel) rfl ?_
  exact hK31 _ _ _ _ _ _ _ _ g10 g11 g12 g15 g14 hh
def b324_50 (L : Nat) (xs : Nat → Int32) (zf : Value) (D : dD) (w : Nat) (K31 : Option Nat → Int32 → Int32 → Int32 → Int32 → rm_H → Option dR) (o0 : Option Nat) (i1 : Int32) (i2 : Int32) (i4 : Int32) (h : rm_H) : Option dR :=
  ((dcV L xs D 320 [15] o0 [.int (i2 + 1)] h).bind dxI).bind fun x1 =>
  ((dcV L xs D 323 [15] o0 [.int i1, .int x1.1] x1.2).bind dxI).bind fun x5 =>
  (dgR L xs x5.2 19 [15] o0).bind fun p14 =>
  (daI L xs x5.2 p14 i1).bind fun x16 =>
  (dsI x5.2 p14 i1 (x16 + 1)).bind fun h18 =>
  if mx_f1 .ne i4 = true then
    (dgR L xs h18 15 [15] o0).bind fun p21 =>
    (dsI h18 p21 i4 x5.1).bind fun h23 =>
    b324_99 L xs zf D w K31 o0 i1 i2 x5.1 h23
  else
    (dgR L xs h18 12 [15] o0).bind fun p25 =>
    (dsI h18 p25 i1 x5.1).bind fun h27 =>
    b324_99 L xs zf D w K31 o0 i1 i2 x5.1 h27
theorem c324_50 {L : Nat} {xs : Nat → Int32} {zf : Value} {D : dD} {w k : Nat} {K31 : Option Nat → Int32 → Int32 → Int32 → Int32 → rm_H → Option dR} (hD : dO L xs zf D k) (hz : zf.category = 1) (hK31 : ∀ (o0 : Option Nat) (i1 : Int32) (i2 : Int32) (i3 : Int32) (i4 : Int32) (lv : rm_L) (h : rm_H) (r : dR), rm_get lv 0 = some (va_rf o0) → rm_get lv 1 = some (.int i1) → rm_get lv 2 = some (.int i2) → rm_get lv 3 = some (.int i3) → rm_get lv 4 = some (.int i4) → K31 o0 i1 i2 i3 i4 h = some r → dq L xs zf ah_M324 31 lv [] h (k + 1) r) : ∀ (o0 : Option Nat) (i1 : Int32) (i2 : Int32) (i4 : Int32) (lv : rm_L) (h : rm_H) (r : dR), rm_get lv 0 = some (va_rf o0) → rm_get lv 1 = some (.int i1) → rm_get lv 2 = some (.int i2) → rm_get lv 4 = some (.int i4) → b324_50 L xs zf D w K31  o0 i1 i2 i4 h = some r → dq L xs zf ah_M324 50 lv [] h (k + 1) r := by
  intro o0 i1 i2 i4 lv h r G0 G1 G2 G4 hh
  unfold b324_50 at hh
  refine dq_aln 0 51 (by decide +kernel) rfl G0 ?_
  refine dq_iln 1 52 (by decide +kernel) rfl G1 ?_
  refine dq_aln 0 53 (by decide +kernel) rfl G0 ?_
  refine dq_iln 2 54 (by decide +kernel) rfl G2 ?_
  refine dq_S (.iconst 1) 1 [] 55 _ [.int 1, .int i2, va_rf o0, .int i1, va_rf o0] (by decide +kernel) rfl ?_
  refine dq_S (.iadd) 1 [] 56 _ [.int (i2 + 1), va_rf o0, .int i1, va_rf o0] (by decide +kernel) rfl ?_
  obtain ⟨x1, q2, hh⟩ := db hh
  obtain ⟨a3, q4, q2⟩ := db q2
  rw [dq_xI q2] at q4
  refine dq_cvi hD 373 320 5 1 [15] o0 [.int (i2 + 1)] [.int i1, va_rf o0] 59 [.int x1.1, .int i1, va_rf o0] (by decide +kernel) ap_320 ⟨⟨Nat.le_of_ble_eq_true rfl, by decide⟩, rfl, rfl⟩ (dq_ok8 [1, 1] [1, 1] (dc_r (dc_i dc_n)) (dc_i (dc_r dc_n)) (by decide +kernel)) (by decide +kernel) rfl q4 rfl ?_
  obtain ⟨x5, q6, hh⟩ := db hh
  obtain ⟨a7, q8, q6⟩ := db q6
  rw [dq_xI q6] at q8
  refine dq_cvi hD 376 323 5 2 [15] o0 [.int i1, .int x1.1] [] 62 [.int x5.1] (by decide +kernel) ap_323 ⟨⟨Nat.le_of_ble_eq_true rfl, by decide⟩, rfl, rfl⟩ (dq_ok8 [1, 1, 1] [] (dc_r (dc_i (dc_i dc_n))) dc_n (by decide +kernel)) (by decide +kernel) rfl q8 rfl ?_
  refine dq_is 5 64 (by decide +kernel) (by decide +kernel) ?_
  have g9 := dg_ne (i := 5) (u := .int x5.1) (by decide) (Or.inl (by decide)) G0
  have g10 := dg_ne (i := 5) (u := .int x5.1) (by decide) (Or.inl (by decide)) G1
  have g11 := dg_ne (i := 5) (u := .int x5.1) (by decide) (Or.inl (by decide)) G2
  have g12 := dg_ne (i := 5) (u := .int x5.1) (by decide) (Or.inr rfl) G4
  have g13 := dg_eq (lv) 5 (.int x5.1)
  refine dq_aln 0 65 (by decide +kernel) rfl g9 ?_
  obtain ⟨p14, q15, hh⟩ := db hh
  refine dq_gR 60 19 [15] 68 (by decide +kernel) rfl q15 ?_
  refine dq_iln 1 69 (by decide +kernel) rfl g10 ?_
  refine dq_d2 70 (by decide +kernel) rfl ?_
  obtain ⟨x16, q17, hh⟩ := db hh
  refine dq_aI 71 (by decide +kernel) rfl q17 ?_
  refine dq_S (.iconst 1) 1 [] 72 _ [.int 1, .int x16, .int i1, va_rf p14] (by decide +kernel) rfl ?_
  refine dq_S (.iadd) 1 [] 73 _ [.int (x16 + 1), .int i1, va_rf p14] (by decide +kernel) rfl ?_
  obtain ⟨h18, q19, hh⟩ := db hh
  refine dq_sI 74 (by decide +kernel) rfl q19 ?_
  refine dq_il 4 76 (by decide +kernel) rfl g12 ?_
  rcases di hh with ⟨q20, hh⟩ | ⟨q20, hh⟩
  · refine dq_1 .ne 14 true 90 q20 (by decide +kernel) ?_
    refine dq_aln 0 91 (by decide +kernel) rfl g9 ?_
    obtain ⟨p21, q22, hh⟩ := db hh
    refine dq_gR 48 15 [15] 94 (by decide +kernel) rfl q22 ?_
    refine dq_il 4 96 (by decide +kernel) rfl g12 ?_
    refine dq_il 5 98 (by decide +kernel) rfl g13 ?_
    obtain ⟨h23, q24, hh⟩ := db hh
    refine dq_sI 99 (by decide +kernel) rfl q24 ?_
    exact c324_99 hD hz hK31 _ _ _ _ _ _ _ g9 g10 g11 g13 hh
  · refine dq_1 .ne 14 false 79 q20 (by decide +kernel) ?_
    refine dq_aln 0 80 (by decide +kernel) rfl g9 ?_
    obtain ⟨p25, q26, hh⟩ := db hh
    refine dq_gR 39 12 [15] 83 (by decide +kernel) rfl q26 ?_
    refine dq_iln 1 84 (by decide +kernel) rfl g10 ?_
    refine dq_il 5 86 (by decide +kernel) rfl g13 ?_
    obtain ⟨h27, q28, hh⟩ := db hh
    refine dq_sI 87 (by decide +kernel) rfl q28 ?_
    refine dq_S (.goto 12) 3 [] 99 _ [] (by decide +kernel) rfl ?_
    exact c324_99 hD hz hK31 _ _ _ _ _ _ _ g9 g10 g11 g13 hh
def b324_31 (L : Nat) (xs : Nat → Int32) (zf : Value) (D : dD) (w : Nat) : Nat → Option Nat → Int32 → Int32 → Int32 → Int32 → rm_H → Option dR
  | 0, _, _, _, _, _, _ => none
  | n + 1, o0, i1, i2, i3, i4, h =>
    if mx_f1 .eq i3 = true then
      ((dcV L xs D 308 [15] o0 [.int 41] h).bind dxV).bind fun h2 =>
      some (none, h2)
    else
      (dgR L xs h 19 [15] o0).bind fun p6 =>
      (daI L xs h p6 i1).bind fun x8 =>
      if mx_f2 .ne x8 6 = true then
        b324_50 L xs zf D w (b324_31 L xs zf D w n) o0 i1 i2 i4 h
      else
        ((dcV L xs D 304 [15] o0 [] h).bind dxV).bind fun h11 =>
        b324_50 L xs zf D w (b324_31 L xs zf D w n) o0 i1 i2 i4 h11
theorem c324_31 {L : Nat} {xs : Nat → Int32} {zf : Value} {D : dD} {w k : Nat} (hD : dO L xs zf D k) (hz : zf.category = 1) : ∀ (n : Nat) (o0 : Option Nat) (i1 : Int32) (i2 : Int32) (i3 : Int32) (i4 : Int32) (lv : rm_L) (h : rm_H) (r : dR), rm_get lv 0 = some (va_rf o0) → rm_get lv 1 = some (.int i1) → rm_get lv 2 = some (.int i2) → rm_get lv 3 = some (.int i3) → rm_get lv 4 = some (.int i4) → b324_31 L xs zf D w n  o0 i1 i2 i3 i4 h = some r → dq L xs zf ah_M324 31 lv [] h (k + 1) r := by
  intro n
  induction n with
  | zero =>
    intro o0 i1 i2 i3 i4 lv h r G0 G1 G2 G3 G4 hh
    cases hh
  | succ n ih =>
    intro o0 i1 i2 i3 i4 lv h r G0 G1 G2 G3 G4 hh
    rw [b324_31] at hh
    refine dq_iln 3 32 (by decide +kernel) rfl G3 ?_
    rcases di hh with ⟨q1, hh⟩ | ⟨q1, hh⟩
    · refine dq_1 .eq 81 true 113 q1 (by decide +kernel) ?_
      refine dq_aln 0 114 (by decide +kernel) rfl G0 ?_
      refine dq_S (.bipush 41) 2 [] 116 _ [.int 41, va_rf o0] (by decide +kernel) rfl ?_
      obtain ⟨h2, q3, hh⟩ := db hh
      obtain ⟨a4, q5, q3⟩ := db q3
      rw [dq_xV q3] at q5
      refine dq_cvi hD 335 308 5 1 [15] o0 [.int 41] [] 119 [] (by decide +kernel) ap_308 ⟨⟨Nat.le_of_ble_eq_true rfl, by decide⟩, rfl, rfl⟩ (dq_ok8 [1, 1] [] (dc_r (dc_i dc_n)) dc_n (by decide +kernel)) (by decide +kernel) rfl q5 rfl ?_
      cases hh
      exact dq_ret0 (by decide +kernel) rfl
    · refine dq_1 .eq 81 false 35 q1 (by decide +kernel) ?_
      refine dq_aln 0 36 (by decide +kernel) rfl G0 ?_
      obtain ⟨p6, q7, hh⟩ := db hh
      refine dq_gR 60 19 [15] 39 (by decide +kernel) rfl q7 ?_
      refine dq_iln 1 40 (by decide +kernel) rfl G1 ?_
      obtain ⟨x8, q9, hh⟩ := db hh
      refine dq_aI 41 (by decide +kernel) rfl q9 ?_
      refine dq_S (.bipush 6) 2 [] 43 _ [.int 6, .int x8] (by decide +kernel) rfl ?_
      rcases di hh with ⟨q10, hh⟩ | ⟨q10, hh⟩
      · refine dq_2 .ne 7 true 50 q10 (by decide +kernel) ?_
        exact c324_50 hD hz ih _ _ _ _ _ _ _ G0 G1 G2 G4 hh
      · refine dq_2 .ne 7 false 46 q10 (by decide +kernel) ?_
        refine dq_aln 0 47 (by decide +kernel) rfl G0 ?_
        obtain ⟨h11, q12, hh⟩ := db hh
        obtain ⟨a13, q14, q12⟩ := db q12
        rw [dq_xV q12] at q14
        refine dq_cvi hD 310 304 5 0 [15] o0 [] [] 50 [] (by decide +kernel) ap_304 ⟨⟨Nat.le_of_ble_eq_true rfl, by decide⟩, rfl, rfl⟩ (dq_ok8 [1] [] (dc_r dc_n) dc_n (by decide +kernel)) (by decide +kernel) rfl q14 rfl ?_
        exact c324_50 hD hz ih _ _ _ _ _ _ _ G0 G1 G2 G4 hh
def b324_27 (L : Nat) (xs : Nat → Int32) (zf : Value) (D : dD) (w : Nat) (o0 : Option Nat) (i1 : Int32) (i2 : Int32) (s0 : Int32) (h : rm_H) : Option dR :=
  b324_31 L xs zf D w w o0 i1 i2 s0 0 h
theorem c324_27 {L : Nat} {xs : Nat → Int32} {zf : Value} {D : dD} {w k : Nat} (hD : dO L xs zf D k) (hz : zf.category = 1) : ∀ (o0 : Option Nat) (i1 : Int32) (i2 : Int32) (s0 : Int32) (lv : rm_L) (h : rm_H) (r : dR), rm_get lv 0 = some (va_rf o0) → rm_get lv 1 = some (.int i1) → rm_get lv 2 = some (.int i2) → b324_27 L xs zf D w  o0 i1 i2 s0 h = some r → dq L xs zf ah_M324 27 lv [.int s0] h (k + 1) r := by
  intro o0 i1 i2 s0 lv h r G0 G1 G2 hh
  unfold b324_27 at hh
  refine dq_isn 3 28 (by decide +kernel) (by decide +kernel) ?_
  have g1 := dg_ne (i := 3) (u := .int s0) (by decide) (Or.inl (by decide)) G0
  have g2 := dg_ne (i := 3) (u := .int s0) (by decide) (Or.inl (by decide)) G1
  have g3 := dg_ne (i := 3) (u := .int s0) (by decide) (Or.inr rfl) G2
  have g4 := dg_eq (lv) 3 (.int s0)
  refine dq_S (.iconst 0) 1 [] 29 _ [.int 0] (by decide +kernel) rfl ?_
  refine dq_is 4 31 (by decide +kernel) (by decide +kernel) ?_
  have g5 := dg_ne (i := 4) (u := .int 0) (by decide) (Or.inl (by decide)) g1
  have g6 := dg_ne (i := 4) (u := .int 0) (by decide) (Or.inl (by decide)) g2
  have g7 := dg_ne (i := 4) (u := .int 0) (by decide) (Or.inl (by decide)) g3
  have g8 := dg_ne (i := 4) (u := .int 0) (by decide) (Or.inr rfl) g4
  have g9 := dg_eq (rm_set1 (lv) 3 (.int s0)) 4 (.int 0)
  exact c324_31 hD hz _ _ _ _ _ _ _ _ _ g5 g6 g7 g8 g9 hh
def b324_26 (L : Nat) (xs : Nat → Int32) (zf : Value) (D : dD) (w : Nat) (o0 : Option Nat) (i1 : Int32) (i2 : Int32) (h : rm_H) : Option dR :=
  b324_27 L xs zf D w o0 i1 i2 0 h
theorem c324_26 {L : Nat} {xs : Nat → Int32} {zf : Value} {D : dD} {w k : Nat} (hD : dO L xs zf D k) (hz : zf.category = 1) : ∀ (o0 : Option Nat) (i1 : Int32) (i2 : Int32) (lv : rm_L) (h : rm_H) (r : dR), rm_get lv 0 = some (va_rf o0) → rm_get lv 1 = some (.int i1) → rm_get lv 2 = some (.int i2) → b324_26 L xs zf D w  o0 i1 i2 h = some r → dq L xs zf ah_M324 26 lv [] h (k + 1) r := by
  intro o0 i1 i2 lv h r G0 G1 G2 hh
  unfold b324_26 at hh
  refine dq_S (.iconst 0) 1 [] 27 _ [.int 0] (by decide +kernel) rfl ?_
  exact c324_27 hD hz _ _ _ _ _ _ _ G0 G1 G2 hh
def b324_0 (L : Nat) (xs : Nat → Int32) (zf : Value) (D : dD) (w : Nat) (o0 : Option Nat) (i1 : Int32) (i2 : Int32) (h : rm_H) : Option dR :=
  ((dcV L xs D 308 [15] o0 [.int 40] h).bind dxV).bind fun h1 =>
  (dgI L xs h1 57 [15] o0).bind fun x5 =>
  if mx_f1 .ne x5 = true then
    b324_26 L xs zf D w o0 i1 i2 h1
  else
    ((dcV L xs D 310 [15] o0 [.int 41] h1).bind dxI).bind fun x8 =>
    if mx_f1 .ne x8.1 = true then
      b324_26 L xs zf D w o0 i1 i2 x8.2
    else
      b324_27 L xs zf D w o0 i1 i2 1 x8.2
theorem c324_0 {L : Nat} {xs : Nat → Int32} {zf : Value} {D : dD} {w k : Nat} (hD : dO L xs zf D k) (hz : zf.category = 1) : ∀ (o0 : Option Nat) (i1 : Int32) (i2 : Int32) (lv : rm_L) (h : rm_H) (r : dR), rm_get lv 0 = some (va_rf o0) → rm_get lv 1 = some (.int i1) → rm_get lv 2 = some (.int i2) → b324_0 L xs zf D w  o0 i1 i2 h = some r → dq L xs zf ah_M324 0 lv [] h (k + 1) r := by
  intro o0 i1 i2 lv h r G0 G1 G2 hh
  unfold b324_0 at hh
  refine dq_aln 0 1 (by decide +kernel) rfl G0 ?_
  refine dq_S (.bipush 40) 2 [] 3 _ [.int 40, va_rf o0] (by decide +kernel) rfl ?_
  obtain ⟨h1, q2, hh⟩ := db hh
  obtain ⟨a3, q4, q2⟩ := db q2
  rw [dq_xV q2] at q4
  refine dq_cvi hD 335 308 5 1 [15] o0 [.int 40] [] 6 [] (by decide +kernel) ap_308 ⟨⟨Nat.le_of_ble_eq_true rfl, by decide⟩, rfl, rfl⟩ (dq_ok8 [1, 1] [] (dc_r (dc_i dc_n)) dc_n (by decide +kernel)) (by decide +kernel) rfl q4 rfl ?_
  refine dq_aln 0 7 (by decide +kernel) rfl G0 ?_
  obtain ⟨x5, q6, hh⟩ := db hh
  refine dq_gI 295 57 [15] 10 (by decide +kernel) rfl q6 ?_
  rcases di hh with ⟨q7, hh⟩ | ⟨q7, hh⟩
  · refine dq_1 .ne 16 true 26 q7 (by decide +kernel) ?_
    exact c324_26 hD hz _ _ _ _ _ _ G0 G1 G2 hh
  · refine dq_1 .ne 16 false 13 q7 (by decide +kernel) ?_
    refine dq_aln 0 14 (by decide +kernel) rfl G0 ?_
    refine dq_S (.bipush 41) 2 [] 16 _ [.int 41, va_rf o0] (by decide +kernel) rfl ?_
    obtain ⟨x8, q9, hh⟩ := db hh
    obtain ⟨a10, q11, q9⟩ := db q9
    rw [dq_xI q9] at q11
    refine dq_cvi hD 304 310 5 1 [15] o0 [.int 41] [] 19 [.int x8.1] (by decide +kernel) ap_310 ⟨⟨Nat.le_of_ble_eq_true rfl, by decide⟩, rfl, rfl⟩ (dq_ok8 [1, 1] [] (dc_r (dc_i dc_n)) dc_n (by decide +kernel)) (by decide +kernel) rfl q11 rfl ?_
    rcases di hh with ⟨q12, hh⟩ | ⟨q12, hh⟩
    · refine dq_1 .ne 7 true 26 q12 (by decide +kernel) ?_
      exact c324_26 hD hz _ _ _ _ _ _ G0 G1 G2 hh
    · refine dq_1 .ne 7 false 22 q12 (by decide +kernel) ?_
      refine dq_S (.iconst 1) 1 [] 23 _ [.int 1] (by decide +kernel) rfl ?_
      refine dq_S (.goto 4) 3 [] 27 _ [.int 1] (by decide +kernel) rfl ?_
      exact c324_27 hD hz _ _ _ _ _ _ _ G0 G1 G2 hh
def f324 (L : Nat) (xs : Nat → Int32) (zf : Value) (D : dD) (w : Nat) (As : List Value) (h : rm_H) : Option dR := match As with
  | [v0, .int i1, .int i2] => (rm_rf v0).bind fun o0 => b324_0 L xs zf D w o0 i1 i2 h
  | _ => none
theorem d324 {L : Nat} {xs : Nat → Int32} {zf : Value} {D : dD} {w k : Nat} (hD : dO L xs zf D k) (hz : zf.category = 1) (As : List Value) (h : rm_H) (r : dR) (hh : f324 L xs zf D w As h = some r) : dq L xs zf ah_M324 0 (lv_args 0 As) [] h (k + 1) r := by
  unfold f324 at hh
  split at hh
  · obtain ⟨o0, e0, hb0⟩ := db hh
    have e0 := rm_rf_v _ _ e0
    subst e0
    refine c324_0 hD hz _ _ _ _ _ _ ?_ ?_ ?_ hb0
    all_goals (simp only [la_r, la_i, la_j]; rfl)
  · cases hh
def b325_51 (L : Nat) (xs : Nat → Int32) (zf : Value) (D : dD) (w : Nat) (s0 : Int32) (h : rm_H) : Option dR :=
  drI (some .boolean) s0 h
theorem c325_51 {L : Nat} {xs : Nat → Int32} {zf : Value} {D : dD} {w k : Nat} (hD : dO L xs zf D k) (hz : zf.category = 1) : ∀ (s0 : Int32) (lv : rm_L) (h : rm_H) (r : dR), b325_51 L xs zf D w  s0 h = some r → dq L xs zf ah_M325 51 lv [.int s0] h (k + 1) r := by
  intro s0 lv h r hh
  unfold b325_51 at hh
  exact dq_retI (some .boolean) (by decide +kernel) rfl hh
def b325_46 (L : Nat) (xs : Nat → Int32) (zf : Value) (D : dD) (w : Nat) (h : rm_H) : Option dR :=
  b325_51 L xs zf D w 1 h
theorem c325_46 {L : Nat} {xs : Nat → Int32} {zf : Value} {D : dD} {w k : Nat} (hD : dO L xs zf D k) (hz : zf.category = 1) : ∀ (lv : rm_L) (h : rm_H) (r : dR), b325_46 L xs zf D w  h = some r → dq L xs zf ah_M325 46 lv [] h (k + 1) r := by
  intro lv h r hh
  unfold b325_46 at hh
  refine dq_S (.iconst 1) 1 [] 47 _ [.int 1] (by decide +kernel) rfl ?_
  refine dq_S (.goto 4) 3 [] 51 _ [.int 1] (by decide +kernel) rfl ?_
  exact c325_51 hD hz _ _ _ _  hh
def b325_0 (L : Nat) (xs : Nat → Int32) (zf : Value) (D : dD) (w : Nat) (o0 : Option Nat) (h : rm_H) : Option dR :=
  ((dcV L xs D 310 [15] o0 [.int 43] h).bind dxI).bind fun x1 =>
  if mx_f1 .ne x1.1 = true then
    b325_46 L xs zf D w x1.2
  else
    ((dcV L xs D 310 [15] o0 [.int 45] x1.2).bind dxI).bind fun x6 =>
    if mx_f1 .ne x6.1 = true then
      b325_46 L xs zf D w x6.2
    else
      ((dcV L xs D 310 [15] o0 [.int 42] x6.2).bind dxI).bind fun x11 =>
      if mx_f1 .ne x11.1 = true then
        b325_46 L xs zf D w x11.2
      else
        ((dcV L xs D 310 [15] o0 [.int 60] x11.2).bind dxI).bind fun x16 =>
        if mx_f1 .ne x16.1 = true then
          b325_46 L xs zf D w x16.2
        else
          ((dcV L xs D 310 [15] o0 [.int 256] x16.2).bind dxI).bind fun x21 =>
          if mx_f1 .eq x21.1 = true then
            b325_51 L xs zf D w 0 x21.2
          else
            b325_46 L xs zf D w x21.2
theorem c325_0 {L : Nat} {xs : Nat → Int32} {zf : Value} {D : dD} {w k : Nat} (hD : dO L xs zf D k) (hz : zf.category = 1) : ∀ (o0 : Option Nat) (lv : rm_L) (h : rm_H) (r : dR), rm_get lv 0 = some (va_rf o0) → b325_0 L xs zf D w  o0 h = some r → dq L xs zf ah_M325 0 lv [] h (k + 1) r := by
  intro o0 lv h r G0 hh
  unfold b325_0 at hh
  refine dq_aln 0 1 (by decide +kernel) rfl G0 ?_
  refine dq_S (.bipush 43) 2 [] 3 _ [.int 43, va_rf o0] (by decide +kernel) rfl ?_
  obtain ⟨x1, q2, hh⟩ := db hh
  obtain ⟨a3, q4, q2⟩ := db q2
  rw [dq_xI q2] at q4
  refine dq_cvi hD 304 310 5 1 [15] o0 [.int 43] [] 6 [.int x1.1] (by decide +kernel) ap_310 ⟨⟨Nat.le_of_ble_eq_true rfl, by decide⟩, rfl, rfl⟩ (dq_ok8 [1, 1] [] (dc_r (dc_i dc_n)) dc_n (by decide +kernel)) (by decide +kernel) rfl q4 rfl ?_
  rcases di hh with ⟨q5, hh⟩ | ⟨q5, hh⟩
  · refine dq_1 .ne 40 true 46 q5 (by decide +kernel) ?_
    exact c325_46 hD hz  _ _ _  hh
  · refine dq_1 .ne 40 false 9 q5 (by decide +kernel) ?_
    refine dq_aln 0 10 (by decide +kernel) rfl G0 ?_
    refine dq_S (.bipush 45) 2 [] 12 _ [.int 45, va_rf o0] (by decide +kernel) rfl ?_
    obtain ⟨x6, q7, hh⟩ := db hh
    obtain ⟨a8, q9, q7⟩ := db q7
    rw [dq_xI q7] at q9
    refine dq_cvi hD 304 310 5 1 [15] o0 [.int 45] [] 15 [.int x6.1] (by decide +kernel) ap_310 ⟨⟨Nat.le_of_ble_eq_true rfl, by decide⟩, rfl, rfl⟩ (dq_ok8 [1, 1] [] (dc_r (dc_i dc_n)) dc_n (by decide +kernel)) (by decide +kernel) rfl q9 rfl ?_
    rcases di hh with ⟨q10, hh⟩ | ⟨q10, hh⟩
    · refine dq_1 .ne 31 true 46 q10 (by decide +kernel) ?_
      exact c325_46 hD hz  _ _ _  hh
    · refine dq_1 .ne 31 false 18 q10 (by decide +kernel) ?_
      refine dq_aln 0 19 (by decide +kernel) rfl G0 ?_
      refine dq_S (.bipush 42) 2 [] 21 _ [.int 42, va_rf o0] (by decide +kernel) rfl ?_
      obtain ⟨x11, q12, hh⟩ := db hh
      obtain ⟨a13, q14, q12⟩ := db q12
      rw [dq_xI q12] at q14
      refine dq_cvi hD 304 310 5 1 [15] o0 [.int 42] [] 24 [.int x11.1] (by decide +kernel) ap_310 ⟨⟨Nat.le_of_ble_eq_true rfl, by decide⟩, rfl, rfl⟩ (dq_ok8 [1, 1] [] (dc_r (dc_i dc_n)) dc_n (by decide +kernel)) (by decide +kernel) rfl q14 rfl ?_
      rcases di hh with ⟨q15, hh⟩ | ⟨q15, hh⟩
      · refine dq_1 .ne 22 true 46 q15 (by decide +kernel) ?_
        exact c325_46 hD hz  _ _ _  hh
      · refine dq_1 .ne 22 false 27 q15 (by decide +kernel) ?_
        refine dq_aln 0 28 (by decide +kernel) rfl G0 ?_
        refine dq_S (.bipush 60) 2 [] 30 _ [.int 60, va_rf o0] (by decide +kernel) rfl ?_
        obtain ⟨x16, q17, hh⟩ := db hh
        obtain ⟨a18, q19, q17⟩ := db q17
        rw [dq_xI q17] at q19
        refine dq_cvi hD 304 310 5 1 [15] o0 [.int 60] [] 33 [.int x16.1] (by decide +kernel) ap_310 ⟨⟨Nat.le_of_ble_eq_true rfl, by decide⟩, rfl, rfl⟩ (dq_ok8 [1, 1] [] (dc_r (dc_i dc_n)) dc_n (by decide +kernel)) (by decide +kernel) rfl q19 rfl ?_
        rcases di hh with ⟨q20, hh⟩ | ⟨q20, hh⟩
        · refine dq_1 .ne 13 true 46 q20 (by decide +kernel) ?_
          exact c325_46 hD hz  _ _ _  hh
        · refine dq_1 .ne 13 false 36 q20 (by decide +kernel) ?_
          refine dq_aln 0 37 (by decide +kernel) rfl G0 ?_
          refine dq_S (.sipush 256) 3 [] 40 _ [.int 256, va_rf o0] (by decide +kernel) rfl ?_
          obtain ⟨x21, q22, hh⟩ := db hh
          obtain ⟨a23, q24, q22⟩ := db q22
          rw [dq_xI q22] at q24
          refine dq_cvi hD 304 310 5 1 [15] o0 [.int 256] [] 43 [.int x21.1] (by decide +kernel) ap_310 ⟨⟨Nat.le_of_ble_eq_true rfl, by decide⟩, rfl, rfl⟩ (dq_ok8 [1, 1] [] (dc_r (dc_i dc_n)) dc_n (by decide +kernel)) (by decide +kernel) rfl q24 rfl ?_
          rcases di hh with ⟨q25, hh⟩ | ⟨q25, hh⟩
          · refine dq_1 .eq 7 true 50 q25 (by decide +kernel) ?_
            refine dq_S (.iconst 0) 1 [] 51 _ [.int 0] (by decide +kernel) rfl ?_
            exact c325_51 hD hz _ _ _ _  hh
          · refine dq_1 .eq 7 false 46 q25 (by decide +kernel) ?_
            exact c325_46 hD hz  _ _ _  hh
def f325 (L : Nat) (xs : Nat → Int32) (zf : Value) (D : dD) (w : Nat) (As : List Value) (h : rm_H) : Option dR := match As with
  | [v0] => (rm_rf v0).bind fun o0 => b325_0 L xs zf D w o0 h
  | _ => none
theorem d325 {L : Nat} {xs : Nat → Int32} {zf : Value} {D : dD} {w k : Nat} (hD : dO L xs zf D k) (hz : zf.category = 1) (As : List Value) (h : rm_H) (r : dR) (hh : f325 L xs zf D w As h = some r) : dq L xs zf ah_M325 0 (lv_args 0 As) [] h (k + 1) r := by
  unfold f325 at hh
  split at hh
  · obtain ⟨o0, e0, hb0⟩ := db hh
    have e0 := rm_rf_v _ _ e0
    subst e0
    refine c325_0 hD hz _ _ _ _ ?_ hb0
    all_goals (simp only [la_r, la_i, la_j]; rfl)
  · cases hh
def b326_71 (L : Nat) (xs : Nat → Int32) (zf : Value) (D : dD) (w : Nat) (K29 : Option Nat → Int32 → rm_H → Option dR) (K39 : Option Nat → Int32 → Int32 → rm_H → Option dR) (o0 : Option Nat) (i1 : Int32) (i2 : Int32) (h : rm_H) : Option dR :=
  K39 o0 i1 (i2 + 1) h
theorem c326_71 {L : Nat} {xs : Nat → Int32} {zf : Value} {D : dD} {w k : Nat} {K29 : Option Nat → Int32 → rm_H → Option dR} {K39 : Option Nat → Int32 → Int32 → rm_H → Option dR} (hD : dO L xs zf D k) (hz : zf.category = 1) (hK29 : ∀ (o0 : Option Nat) (i1 : Int32) (lv : rm_L) (h : rm_H) (r : dR), rm_get lv 0 = some (va_rf o0) → rm_get lv 1 = some (.int i1) → K29 o0 i1 h = some r → dq L xs zf ah_M326 29 lv [] h (k + 1) r) (hK39 : ∀ (o0 : Option Nat) (i1 : Int32) (i2 : Int32) (lv : rm_L) (h : rm_H) (r : dR), rm_get lv 0 = some (va_rf o0) → rm_get lv 1 = some (.int i1) → rm_get lv 2 = some (.int i2) → K39 o0 i1 i2 h = some r → dq L xs zf ah_M326 39 lv [] h (k + 1) r) : ∀ (o0 : Option Nat) (i1 : Int32) (i2 : Int32) (lv : rm_L) (h : rm_H) (r : dR), rm_get lv 0 = some (va_rf o0) → rm_get lv 1 = some (.int i1) → rm_get lv 2 = some (.int i2) → b326_71 L xs zf D w K29 K39  o0 i1 i2 h = some r → dq L xs zf ah_M326 71 lv [] h (k + 1) r := by
  intro o0 i1 i2 lv h r G0 G1 G2 hh
  unfold b326_71 at hh
  refine dq_incy 2 1 1 74 (by decide +kernel) ⟨rfl, by decide +kernel, by decide +kernel⟩ G2 ?_
  have g1 := dg_ne (i := 2) (u := .int (i2 + 1)) (by decide) (Or.inl (by decide)) G0
  have g2 := dg_ne (i := 2) (u := .int (i2 + 1)) (by decide) (Or.inr rfl) G1
  have g3 := dg_eq (lv) 2 (.int (i2 + 1))
  refine dq_S (.goto (-35)) 3 [] 39 _ [] (by decide +kernel) rfl ?_
  exact hK39 _ _ _ _ _ _ g1 g2 g3 hh
def b326_135 (L : Nat) (xs : Nat → Int32) (zf : Value) (D : dD) (w : Nat) (K29 : Option Nat → Int32 → rm_H → Option dR) (K84 : Option Nat → Int32 → Int32 → rm_H → Option dR) (K103 : Option Nat → Int32 → Int32 → Int32 → rm_H → Option dR) (o0 : Option Nat) (i1 : Int32) (i2 : Int32) (i3 : Int32) (h : rm_H) : Option dR :=
  K103 o0 i1 i2 (i3 + 1) h
theorem c326_135 {L : Nat} {xs : Nat → Int32} {zf : Value} {D : dD} {w k : Nat} {K29 : Option Nat → Int32 → rm_H → Option dR} {K84 : Option Nat → Int32 → Int32 → rm_H → Option dR} {K103 : Option Nat → Int32 → Int32 → Int32 → rm_H → Option dR} (hD : dO L xs zf D k) (hz : zf.category = 1) (hK29 : ∀ (o0 : Option Nat) (i1 : Int32) (lv : rm_L) (h : rm_H) (r : dR), rm_get lv 0 = some (va_rf o0) → rm_get lv 1 = some (.int i1) → K29 o0 i1 h = some r → dq L xs zf ah_M326 29 lv [] h (k + 1) r) (hK84 : ∀ (o0 : Option Nat) (i1 : Int32) (i2 : Int32) (lv : rm_L) (h : rm_H) (r : dR), rm_get lv 0 = some (va_rf o0) → rm_get lv 1 = some (.int i1) → rm_get lv 2 = some (.int i2) → K84 o0 i1 i2 h = some r → dq L xs zf ah_M326 84 lv [] h (k + 1) r) (hK103 : ∀ (o0 : Option Nat) (i1 : Int32) (i2 : Int32) (i3 : Int32) (lv : rm_L) (h : rm_H) (r : dR), rm_get lv 0 = some (va_rf o0) → rm_get lv 1 = some (.int i1) → rm_get lv 2 = some (.int i2) → rm_get lv 3 = some (.int i3) → K103 o0 i1 i2 i3 h = some r → dq L xs zf ah_M326 103 lv [] h (k + 1) r) : ∀ (o0 : Option Nat) (i1 : Int32) (i2 : Int32) (i3 : Int32) (lv : rm_L) (h : rm_H) (r : dR), rm_get lv 0 = some (va_rf o0) → rm_get lv 1 = some (.int i1) → rm_get lv 2 = some (.int i2) → rm_get lv 3 = some (.int i3) → b326_135 L xs zf D w K29 K84 K103  o0 i1 i2 i3 h = some r → dq L xs zf ah_M326 135 lv [] h (k + 1) r := by
  intro o0 i1 i2 i3 lv h r G0 G1 G2 G3 hh
  unfold b326_135 at hh
  refine dq_incy 3 1 1 138 (by decide +kernel) ⟨rfl, by decide +kernel, by decide +kernel⟩ G3 ?_
  have g1 := dg_ne (i := 3) (u := .int (i3 + 1)) (by decide) (Or.inl (by decide)) G0
  have g2 := dg_ne (i := 3) (u := .int (i3 + 1)) (by decide) (Or.inl (by decide)) G1
  have g3 := dg_ne (i := 3) (u := .int (i3 + 1)) (by decide) (Or.inr rfl) G2
  have g4 := dg_eq (lv) 3 (.int (i3 + 1))
  refine dq_S (.goto (-35)) 3 [] 103 _ [] (by decide +kernel) rfl ?_
  exact hK103 _ _ _ _ _ _ _ g1 g2 g3 g4 hh
def b326_103 (L : Nat) (xs : Nat → Int32) (zf : Value) (D : dD) (w : Nat) (K29 : Option Nat → Int32 → rm_H → Option dR) (K84 : Option Nat → Int32 → Int32 → rm_H → Option dR) : Nat → Option Nat → Int32 → Int32 → Int32 → rm_H → Option dR
  | 0, _, _, _, _, _ => none
  | n + 1, o0, i1, i2, i3, h =>
    if mx_f2 .ge i3 i2 = true then
      K84 o0 i1 (i2 + 1) h
    else
      (dgR L xs h 39 [15] o0).bind fun p6 =>
      (daJ L xs h p6 i3).bind fun y8 =>
      (dgR L xs h 39 [15] o0).bind fun p10 =>
      (daJ L xs h p10 i2).bind fun y12 =>
      if mx_f1 .ne (lg_cmp y8 y12) = true then
        b326_135 L xs zf D w K29 K84 (b326_103 L xs zf D w K29 K84 n) o0 i1 i2 i3 h
      else
        (dgR L xs h 40 [15] o0).bind fun p15 =>
        (daI L xs h p15 i2).bind fun x17 =>
        ((dcV L xs D 329 [15] o0 [.int 2, .int x17] h).bind dxV).bind fun h19 =>
        b326_135 L xs zf D w K29 K84 (b326_103 L xs zf D w K29 K84 n) o0 i1 i2 i3 h19
theorem c326_103 {L : Nat} {xs : Nat → Int32} {zf : Value} {D : dD} {w k : Nat} {K29 : Option Nat → Int32 → rm_H → Option dR} {K84 : Option Nat → Int32 → Int32 → rm_H → Option dR} (hD : dO L xs zf D k) (hz : zf.category = 1) (hK29 : ∀ (o0 : Option Nat) (i1 : Int32) (lv : rm_L) (h : rm_H) (r : dR), rm_get lv 0 = some (va_rf o0) → rm_get lv 1 = some (.int i1) → K29 o0 i1 h = some r → dq L xs zf ah_M326 29 lv [] h (k + 1) r) (hK84 : ∀ (o0 : Option Nat) (i1 : Int32) (i2 : Int32) (lv : rm_L) (h : rm_H) (r : dR), rm_get lv 0 = some (va_rf o0) → rm_get lv 1 = some (.int i1) → rm_get lv 2 = some (.int i2) → K84 o0 i1 i2 h = some r → dq L xs zf ah_M326 84 lv [] h (k + 1) r) : ∀ (n : Nat) (o0 : Option Nat) (i1 : Int32) (i2 : Int32) (i3 : Int32) (lv : rm_L) (h : rm_H) (r : dR), rm_get lv 0 = some (va_rf o0) → rm_get lv 1 = some (.int i1) → rm_get lv 2 = some (.int i2) → rm_get lv 3 = some (.int i3) → b326_103 L xs zf D w K29 K84 n  o0 i1 i2 i3 h = some r → dq L xs zf ah_M326 103 lv [] h (k + 1) r := by
  intro n
  induction n with
  | zero =>
    intro o0 i1 i2 i3 lv h r G0 G1 G2 G3 hh
    cases hh
  | succ n ih =>
    intro o0 i1 i2 i3 lv h r G0 G1 G2 G3 hh
    rw [b326_103] at hh
    refine dq_iln 3 104 (by decide +kernel) rfl G3 ?_
    refine dq_iln 2 105 (by decide +kernel) rfl G2 ?_
    rcases di hh with ⟨q1, hh⟩ | ⟨q1, hh⟩
    · refine dq_2 .ge 36 true 141 q1 (by decide +kernel) ?_
      refine dq_incy 2 1 1 144 (by decide +kernel) ⟨rfl, by decide +kernel, by decide +kernel⟩ G2 ?_
      have g2 := dg_ne (i := 2) (u := .int (i2 + 1)) (by decide) (Or.inl (by decide)) G0
      have g3 := dg_ne (i := 2) (u := .int (i2 + 1)) (by decide) (Or.inr rfl) G1
      have g4 := dg_ne (i := 2) (u := .int (i2 + 1)) (by decide) (Or.inl (by decide)) G3
      have g5 := dg_eq (lv) 2 (.int (i2 + 1))
      refine dq_S (.goto (-60)) 3 [] 84 _ [] (by decide +kernel) rfl ?_
      exact hK84 _ _ _ _ _ _ g2 g3 g5 hh
    · refine dq_2 .ge 36 false 108 q1 (by decide +kernel) ?_
      refine dq_aln 0 109 (by decide +kernel) rfl G0 ?_
      obtain ⟨p6, q7, hh⟩ := db hh
      refine dq_gR 106 39 [15] 112 (by decide +kernel) rfl q7 ?_
      refine dq_iln 3 113 (by decide +kernel) rfl G3 ?_
      obtain ⟨y8, q9, hh⟩ := db hh
      refine dq_aJ 114 (by decide +kernel) rfl q9 ?_
      refine dq_aln 0 115 (by decide +kernel) rfl G0 ?_
      obtain ⟨p10, q11, hh⟩ := db hh
      refine dq_gR 106 39 [15] 118 (by decide +kernel) rfl q11 ?_
      refine dq_iln 2 119 (by decide +kernel) rfl G2 ?_
      obtain ⟨y12, q13, hh⟩ := db hh
      refine dq_aJ 120 (by decide +kernel) rfl q13 ?_
      refine dq_S (.lcmp) 1 [] 121 _ [.int (lg_cmp y8 y12)] (by decide +kernel) rfl ?_
      rcases di hh with ⟨q14, hh⟩ | ⟨q14, hh⟩
      · refine dq_1 .ne 14 true 135 q14 (by decide +kernel) ?_
        exact c326_135 hD hz hK29 hK84 ih _ _ _ _ _ _ _ G0 G1 G2 G3 hh
      · refine dq_1 .ne 14 false 124 q14 (by decide +kernel) ?_
        refine dq_aln 0 125 (by decide +kernel) rfl G0 ?_
        refine dq_S (.iconst 2) 1 [] 126 _ [.int 2, va_rf o0] (by decide +kernel) rfl ?_
        refine dq_aln 0 127 (by decide +kernel) rfl G0 ?_
        obtain ⟨p15, q16, hh⟩ := db hh
        refine dq_gR 109 40 [15] 130 (by decide +kernel) rfl q16 ?_
        refine dq_iln 2 131 (by decide +kernel) rfl G2 ?_
        obtain ⟨x17, q18, hh⟩ := db hh
        refine dq_aI 132 (by decide +kernel) rfl q18 ?_
        obtain ⟨h19, q20, hh⟩ := db hh
        obtain ⟨a21, q22, q20⟩ := db q20
        rw [dq_xV q20] at q22
        refine dq_cvi hD 407 329 5 2 [15] o0 [.int 2, .int x17] [] 135 [] (by decide +kernel) ap_329 ⟨⟨Nat.le_of_ble_eq_true rfl, by decide⟩, rfl, rfl⟩ (dq_ok8 [1, 1, 1] [] (dc_r (dc_i (dc_i dc_n))) dc_n (by decide +kernel)) (by decide +kernel) rfl q22 rfl ?_
        exact c326_135 hD hz hK29 hK84 ih _ _ _ _ _ _ _ G0 G1 G2 G3 hh
def b326_209 (L : Nat) (xs : Nat → Int32) (zf : Value) (D : dD) (w : Nat) (K29 : Option Nat → Int32 → rm_H → Option dR) (K156 : Option Nat → Int32 → Int32 → rm_H → Option dR) (K177 : Option Nat → Int32 → Int32 → Int32 → rm_H → Option dR) (o0 : Option Nat) (i1 : Int32) (i2 : Int32) (i3 : Int32) (h : rm_H) : Option dR :=
  K177 o0 i1 i2 (i3 + 1) h
theorem c326_209 {L : Nat} {xs : Nat → Int32} {zf : Value} {D : dD} {w k : Nat} {K29 : Option Nat → Int32 → rm_H → Option dR} {K156 : Option Nat → Int32 → Int32 → rm_H → Option dR} {K177 : Option Nat → Int32 → Int32 → Int32 → rm_H → Option dR} (hD : dO L xs zf D k) (hz : zf.category = 1) (hK29 : ∀ (o0 : Option Nat) (i1 : Int32) (lv : rm_L) (h : rm_H) (r : dR), rm_get lv 0 = some (va_rf o0) → rm_get lv 1 = some (.int i1) → K29 o0 i1 h = some r → dq L xs zf ah_M326 29 lv [] h (k + 1) r) (hK156 : ∀ (o0 : Option Nat) (i1 : Int32) (i2 : Int32) (lv : rm_L) (h : rm_H) (r : dR), rm_get lv 0 = some (va_rf o0) → rm_get lv 1 = some (.int i1) → rm_get lv 2 = some (.int i2) → K156 o0 i1 i2 h = some r → dq L xs zf ah_M326 156 lv [] h (k + 1) r) (hK177 : ∀ (o0 : Option Nat) (i1 : Int32) (i2 : Int32) (i3 : Int32) (lv : rm_L) (h : rm_H) (r : dR), rm_get lv 0 = some (va_rf o0) → rm_get lv 1 = some (.int i1) → rm_get lv 2 = some (.int i2) → rm_get lv 3 = some (.int i3) → K177 o0 i1 i2 i3 h = some r → dq L xs zf ah_M326 177 lv [] h (k + 1) r) : ∀ (o0 : Option Nat) (i1 : Int32) (i2 : Int32) (i3 : Int32) (lv : rm_L) (h : rm_H) (r : dR), rm_get lv 0 = some (va_rf o0) → rm_get lv 1 = some (.int i1) → rm_get lv 2 = some (.int i2) → rm_get lv 3 = some (.int i3) → b326_209 L xs zf D w K29 K156 K177  o0 i1 i2 i3 h = some r → dq L xs zf ah_M326 209 lv [] h (k + 1) r := by
  intro o0 i1 i2 i3 lv h r G0 G1 G2 G3 hh
  unfold b326_209 at hh
  refine dq_incy 3 1 1 212 (by decide +kernel) ⟨rfl, by decide +kernel, by decide +kernel⟩ G3 ?_
  have g1 := dg_ne (i := 3) (u := .int (i3 + 1)) (by decide) (Or.inl (by decide)) G0
  have g2 := dg_ne (i := 3) (u := .int (i3 + 1)) (by decide) (Or.inl (by decide)) G1
  have g3 := dg_ne (i := 3) (u := .int (i3 + 1)) (by decide) (Or.inr rfl) G2
  have g4 := dg_eq (lv) 3 (.int (i3 + 1))
  refine dq_S (.goto (-35)) 3 [] 177 _ [] (by decide +kernel) rfl ?_
  exact hK177 _ _ _ _ _ _ _ g1 g2 g3 g4 hh
def b326_177 (L : Nat) (xs : Nat → Int32) (zf : Value) (D : dD) (w : Nat) (K29 : Option Nat → Int32 → rm_H → Option dR) (K156 : Option Nat → Int32 → Int32 → rm_H → Option dR) : Nat → Option Nat → Int32 → Int32 → Int32 → rm_H → Option dR
  | 0, _, _, _, _, _ => none
  | n + 1, o0, i1, i2, i3, h =>
    if mx_f2 .ge i3 i2 = true then
      K156 o0 i1 (i2 + 1) h
    else
      (dgR L xs h 51 [15] o0).bind fun p6 =>
      (daJ L xs h p6 i3).bind fun y8 =>
      (dgR L xs h 51 [15] o0).bind fun p10 =>
      (daJ L xs h p10 i2).bind fun y12 =>
      if mx_f1 .ne (lg_cmp y8 y12) = true then
        b326_209 L xs zf D w K29 K156 (b326_177 L xs zf D w K29 K156 n) o0 i1 i2 i3 h
      else
        (dgR L xs h 47 [15] o0).bind fun p15 =>
        (daI L xs h p15 i2).bind fun x17 =>
        ((dcV L xs D 329 [15] o0 [.int 2, .int x17] h).bind dxV).bind fun h19 =>
        b326_209 L xs zf D w K29 K156 (b326_177 L xs zf D w K29 K156 n) o0 i1 i2 i3 h19
theorem c326_177 {L : Nat} {xs : Nat → Int32} {zf : Value} {D : dD} {w k : Nat} {K29 : Option Nat → Int32 → rm_H → Option dR} {K156 : Option Nat → Int32 → Int32 → rm_H → Option dR} (hD : dO L xs zf D k) (hz : zf.category = 1) (hK29 : ∀ (o0 : Option Nat) (i1 : Int32) (lv : rm_L) (h : rm_H) (r : dR), rm_get lv 0 = some (va_rf o0) → rm_get lv 1 = some (.int i1) → K29 o0 i1 h = some r → dq L xs zf ah_M326 29 lv [] h (k + 1) r) (hK156 : ∀ (o0 : Option Nat) (i1 : Int32) (i2 : Int32) (lv : rm_L) (h : rm_H) (r : dR), rm_get lv 0 = some (va_rf o0) → rm_get lv 1 = some (.int i1) → rm_get lv 2 = some (.int i2) → K156 o0 i1 i2 h = some r → dq L xs zf ah_M326 156 lv [] h (k + 1) r) : ∀ (n : Nat) (o0 : Option Nat) (i1 : Int32) (i2 : Int32) (i3 : Int32) (lv : rm_L) (h : rm_H) (r : dR), rm_get lv 0 = some (va_rf o0) → rm_get lv 1 = some (.int i1) → rm_get lv 2 = some (.int i2) → rm_get lv 3 = some (.int i3) → b326_177 L xs zf D w K29 K156 n  o0 i1 i2 i3 h = some r → dq L xs zf ah_M326 177 lv [] h (k + 1) r := by
  intro n
  induction n with
  | zero =>
    intro o0 i1 i2 i3 lv h r G0 G1 G2 G3 hh
    cases hh
  | succ n ih =>
    intro o0 i1 i2 i3 lv h r G0 G1 G2 G3 hh
    rw [b326_177] at hh
    refine dq_iln 3 178 (by decide +kernel) rfl G3 ?_
    refine dq_iln 2 179 (by decide +kernel) rfl G2 ?_
    rcases di hh with ⟨q1, hh⟩ | ⟨q1, hh⟩
    · refine dq_2 .ge 36 true 215 q1 (by decide +kernel) ?_
      refine dq_incy 2 1 1 218 (by decide +kernel) ⟨rfl, by decide +kernel, by decide +kernel⟩ G2 ?_
      have g2 := dg_ne (i := 2) (u := .int (i2 + 1)) (by decide) (Or.inl (by decide)) G0
      have g3 := dg_ne (i := 2) (u := .int (i2 + 1)) (by decide) (Or.inr rfl) G1
      have g4 := dg_ne (i := 2) (u := .int (i2 + 1)) (by decide) (Or.inl (by decide)) G3
      have g5 := dg_eq (lv) 2 (.int (i2 + 1))
      refine dq_S (.goto (-62)) 3 [] 156 _ [] (by decide +kernel) rfl ?_
      exact hK156 _ _ _ _ _ _ g2 g3 g5 hh
    · refine dq_2 .ge 36 false 182 q1 (by decide +kernel) ?_
      refine dq_aln 0 183 (by decide +kernel) rfl G0 ?_
      obtain ⟨p6, q7, hh⟩ := db hh
      refine dq_gR 139 51 [15] 186 (by decide +kernel) rfl q7 ?_
      refine dq_iln 3 187 (by decide +kernel) rfl G3 ?_
      obtain ⟨y8, q9, hh⟩ := db hh
      refine dq_aJ 188 (by decide +kernel) rfl q9 ?_
      refine dq_aln 0 189 (by decide +kernel) rfl G0 ?_
      obtain ⟨p10, q11, hh⟩ := db hh
      refine dq_gR 139 51 [15] 192 (by decide +kernel) rfl q11 ?_
      refine dq_iln 2 193 (by decide +kernel) rfl G2 ?_
      obtain ⟨y12, q13, hh⟩ := db hh
      refine dq_aJ 194 (by decide +kernel) rfl q13 ?_
      refine dq_S (.lcmp) 1 [] 195 _ [.int (lg_cmp y8 y12)] (by decide +kernel) rfl ?_
      rcases di hh with ⟨q14, hh⟩ | ⟨q14, hh⟩
      · refine dq_1 .ne 14 true 209 q14 (by decide +kernel) ?_
        exact c326_209 hD hz hK29 hK156 ih _ _ _ _ _ _ _ G0 G1 G2 G3 hh
      · refine dq_1 .ne 14 false 198 q14 (by decide +kernel) ?_
        refine dq_aln 0 199 (by decide +kernel) rfl G0 ?_
        refine dq_S (.iconst 2) 1 [] 200 _ [.int 2, va_rf o0] (by decide +kernel) rfl ?_
        refine dq_aln 0 201 (by decide +kernel) rfl G0 ?_
        obtain ⟨p15, q16, hh⟩ := db hh
        refine dq_gR 127 47 [15] 204 (by decide +kernel) rfl q16 ?_
        refine dq_iln 2 205 (by decide +kernel) rfl G2 ?_
        obtain ⟨x17, q18, hh⟩ := db hh
        refine dq_aI 206 (by decide +kernel) rfl q18 ?_
        obtain ⟨h19, q20, hh⟩ := db hh
        obtain ⟨a21, q22, q20⟩ := db q20
        rw [dq_xV q20] at q22
        refine dq_cvi hD 407 329 5 2 [15] o0 [.int 2, .int x17] [] 209 [] (by decide +kernel) ap_329 ⟨⟨Nat.le_of_ble_eq_true rfl, by decide⟩, rfl, rfl⟩ (dq_ok8 [1, 1, 1] [] (dc_r (dc_i (dc_i dc_n))) dc_n (by decide +kernel)) (by decide +kernel) rfl q22 rfl ?_
        exact c326_209 hD hz hK29 hK156 ih _ _ _ _ _ _ _ G0 G1 G2 G3 hh
def b326_156 (L : Nat) (xs : Nat → Int32) (zf : Value) (D : dD) (w : Nat) (K29 : Option Nat → Int32 → rm_H → Option dR) : Nat → Option Nat → Int32 → Int32 → rm_H → Option dR
  | 0, _, _, _, _ => none
  | n + 1, o0, i1, i2, h =>
    (dgR L xs h 36 [15] o0).bind fun p1 =>
    (daI L xs h p1 (i1 + 1)).bind fun x3 =>
    if mx_f2 .ge i2 x3 = true then
      K29 o0 (i1 + 1) h
    else
      (dgR L xs h 36 [15] o0).bind fun p9 =>
      (daI L xs h p9 i1).bind fun x11 =>
      b326_177 L xs zf D w K29 (b326_156 L xs zf D w K29 n) w o0 i1 i2 (x11 + 1) h
theorem c326_156 {L : Nat} {xs : Nat → Int32} {zf : Value} {D : dD} {w k : Nat} {K29 : Option Nat → Int32 → rm_H → Option dR} (hD : dO L xs zf D k) (hz : zf.category = 1) (hK29 : ∀ (o0 : Option Nat) (i1 : Int32) (lv : rm_L) (h : rm_H) (r : dR), rm_get lv 0 = some (va_rf o0) → rm_get lv 1 = some (.int i1) → K29 o0 i1 h = some r → dq L xs zf ah_M326 29 lv [] h (k + 1) r) : ∀ (n : Nat) (o0 : Option Nat) (i1 : Int32) (i2 : Int32) (lv : rm_L) (h : rm_H) (r : dR), rm_get lv 0 = some (va_rf o0) → rm_get lv 1 = some (.int i1) → rm_get lv 2 = some (.int i2) → b326_156 L xs zf D w K29 n  o0 i1 i2 h = some r → dq L xs zf ah_M326 156 lv [] h (k + 1) r := by
  intro n
  induction n with
  | zero =>
    intro o0 i1 i2 lv h r G0 G1 G2 hh
    cases hh
  | succ n ih =>
    intro o0 i1 i2 lv h r G0 G1 G2 hh
    rw [b326_156] at hh
    refine dq_iln 2 157 (by decide +kernel) rfl G2 ?_
    refine dq_aln 0 158 (by decide +kernel) rfl G0 ?_
    obtain ⟨p1, q2, hh⟩ := db hh
    refine dq_gR 99 36 [15] 161 (by decide +kernel) rfl q2 ?_
    refine dq_iln 1 162 (by decide +kernel) rfl G1 ?_
    refine dq_S (.iconst 1) 1 [] 163 _ [.int 1, .int i1, va_rf p1, .int i2] (by decide +kernel) rfl ?_
    refine dq_S (.iadd) 1 [] 164 _ [.int (i1 + 1), va_rf p1, .int i2] (by decide +kernel) rfl ?_
    obtain ⟨x3, q4, hh⟩ := db hh
    refine dq_aI 165 (by decide +kernel) rfl q4 ?_
    rcases di hh with ⟨q5, hh⟩ | ⟨q5, hh⟩
    · refine dq_2 .ge 56 true 221 q5 (by decide +kernel) ?_
      refine dq_incy 1 1 1 224 (by decide +kernel) ⟨rfl, by decide +kernel, by decide +kernel⟩ G1 ?_
      have g6 := dg_ne (i := 1) (u := .int (i1 + 1)) (by decide) (Or.inr (drc _)) G0
      have g7 := dg_ne (i := 1) (u := .int (i1 + 1)) (by decide) (Or.inl (by decide)) G2
      have g8 := dg_eq (lv) 1 (.int (i1 + 1))
      refine dq_S (.goto (-195)) 3 [] 29 _ [] (by decide +kernel) rfl ?_
      exact hK29 _ _ _ _ _ g6 g8 hh
    · refine dq_2 .ge 56 false 168 q5 (by decide +kernel) ?_
      refine dq_aln 0 169 (by decide +kernel) rfl G0 ?_
      obtain ⟨p9, q10, hh⟩ := db hh
      refine dq_gR 99 36 [15] 172 (by decide +kernel) rfl q10 ?_
      refine dq_iln 1 173 (by decide +kernel) rfl G1 ?_
      obtain ⟨x11, q12, hh⟩ := db hh
      refine dq_aI 174 (by decide +kernel) rfl q12 ?_
      refine dq_S (.iconst 1) 1 [] 175 _ [.int 1, .int x11] (by decide +kernel) rfl ?_
      refine dq_S (.iadd) 1 [] 176 _ [.int (x11 + 1)] (by decide +kernel) rfl ?_
      refine dq_isn 3 177 (by decide +kernel) (by decide +kernel) ?_
      have g13 := dg_ne (i := 3) (u := .int (x11 + 1)) (by decide) (Or.inl (by decide)) G0
      have g14 := dg_ne (i := 3) (u := .int (x11 + 1)) (by decide) (Or.inl (by decide)) G1
      have g15 := dg_ne (i := 3) (u := .int (x11 + 1)) (by decide) (Or.inr rfl) G2
      have g16 := dg_eq (lv) 3 (.int (x11 + 1))
      exact c326_177 hD hz hK29 ih _ _ _ _ _ _ _ _ g13 g14 g15 g16 hh
def b326_84 (L : Nat) (xs : Nat → Int32) (zf : Value) (D : dD) (w : Nat) (K29 : Option Nat → Int32 → rm_H → Option dR) : Nat → Option Nat → Int32 → Int32 → rm_H → Option dR
  | 0, _, _, _, _ => none
  | n + 1, o0, i1, i2, h =>
    (dgR L xs h 35 [15] o0).bind fun p1 =>
    (daI L xs h p1 (i1 + 1)).bind fun x3 =>
    if mx_f2 .ge i2 x3 = true then
      (dgR L xs h 36 [15] o0).bind fun p6 =>
      (daI L xs h p6 i1).bind fun x8 =>
      b326_156 L xs zf D w K29 w o0 i1 (x8 + 1) h
    else
      (dgR L xs h 35 [15] o0).bind fun p13 =>
      (daI L xs h p13 i1).bind fun x15 =>
      b326_103 L xs zf D w K29 (b326_84 L xs zf D w K29 n) w o0 i1 i2 x15 h
theorem c326_84 {L : Nat} {xs : Nat → Int32} {zf : Value} {D : dD} {w k : Nat} {K29 : Option Nat → Int32 → rm_H → Option dR} (hD : dO L xs zf D k) (hz : zf.category = 1) (hK29 : ∀ (o0 : Option Nat) (i1 : Int32) (lv : rm_L) (h : rm_H) (r : dR), rm_get lv 0 = some (va_rf o0) → rm_get lv 1 = some (.int i1) → K29 o0 i1 h = some r → dq L xs zf ah_M326 29 lv [] h (k + 1) r) : ∀ (n : Nat) (o0 : Option Nat) (i1 : Int32) (i2 : Int32) (lv : rm_L) (h : rm_H) (r : dR), rm_get lv 0 = some (va_rf o0) → rm_get lv 1 = some (.int i1) → rm_get lv 2 = some (.int i2) → b326_84 L xs zf D w K29 n  o0 i1 i2 h = some r → dq L xs zf ah_M326 84 lv [] h (k + 1) r := by
  intro n
  induction n with
  | zero =>
    intro o0 i1 i2 lv h r G0 G1 G2 hh
    cases hh
  | succ n ih =>
    intro o0 i1 i2 lv h r G0 G1 G2 hh
    rw [b326_84] at hh
    refine dq_iln 2 85 (by decide +kernel) rfl G2 ?_
    refine dq_aln 0 86 (by decide +kernel) rfl G0 ?_
    obtain ⟨p1, q2, hh⟩ := db hh
    refine dq_gR 96 35 [15] 89 (by decide +kernel) rfl q2 ?_
    refine dq_iln 1 90 (by decide +kernel) rfl G1 ?_
    refine dq_S (.iconst 1) 1 [] 91 _ [.int 1, .int i1, va_rf p1, .int i2] (by decide +kernel) rfl ?_
    refine dq_S (.iadd) 1 [] 92 _ [.int (i1 + 1), va_rf p1, .int i2] (by decide +kernel) rfl ?_
    obtain ⟨x3, q4, hh⟩ := db hh
    refine dq_aI 93 (by decide +kernel) rfl q4 ?_
    rcases di hh with ⟨q5, hh⟩ | ⟨q5, hh⟩
    · refine dq_2 .ge 54 true 147 q5 (by decide +kernel) ?_
      refine dq_aln 0 148 (by decide +kernel) rfl G0 ?_
      obtain ⟨p6, q7, hh⟩ := db hh
      refine dq_gR 99 36 [15] 151 (by decide +kernel) rfl q7 ?_
      refine dq_iln 1 152 (by decide +kernel) rfl G1 ?_
      obtain ⟨x8, q9, hh⟩ := db hh
      refine dq_aI 153 (by decide +kernel) rfl q9 ?_
      refine dq_S (.iconst 1) 1 [] 154 _ [.int 1, .int x8] (by decide +kernel) rfl ?_
      refine dq_S (.iadd) 1 [] 155 _ [.int (x8 + 1)] (by decide +kernel) rfl ?_
      refine dq_isn 2 156 (by decide +kernel) (by decide +kernel) ?_
      have g10 := dg_ne (i := 2) (u := .int (x8 + 1)) (by decide) (Or.inl (by decide)) G0
      have g11 := dg_ne (i := 2) (u := .int (x8 + 1)) (by decide) (Or.inr rfl) G1
      have g12 := dg_eq (lv) 2 (.int (x8 + 1))
      exact c326_156 hD hz hK29 _ _ _ _ _ _ _ g10 g11 g12 hh
    · refine dq_2 .ge 54 false 96 q5 (by decide +kernel) ?_
      refine dq_aln 0 97 (by decide +kernel) rfl G0 ?_
      obtain ⟨p13, q14, hh⟩ := db hh
      refine dq_gR 96 35 [15] 100 (by decide +kernel) rfl q14 ?_
      refine dq_iln 1 101 (by decide +kernel) rfl G1 ?_
      obtain ⟨x15, q16, hh⟩ := db hh
      refine dq_aI 102 (by decide +kernel) rfl q16 ?_
      refine dq_isn 3 103 (by decide +kernel) (by decide +kernel) ?_
      have g17 := dg_ne (i := 3) (u := .int x15) (by decide) (Or.inl (by decide)) G0
      have g18 := dg_ne (i := 3) (u := .int x15) (by decide) (Or.inl (by decide)) G1
      have g19 := dg_ne (i := 3) (u := .int x15) (by decide) (Or.inr rfl) G2
      have g20 := dg_eq (lv) 3 (.int x15)
      exact c326_103 hD hz hK29 ih _ _ _ _ _ _ _ _ g17 g18 g19 g20 hh
def b326_39 (L : Nat) (xs : Nat → Int32) (zf : Value) (D : dD) (w : Nat) (K29 : Option Nat → Int32 → rm_H → Option dR) : Nat → Option Nat → Int32 → Int32 → rm_H → Option dR
  | 0, _, _, _, _ => none
  | n + 1, o0, i1, i2, h =>
    if mx_f2 .ge i2 i1 = true then
      (dgR L xs h 35 [15] o0).bind fun p2 =>
      (daI L xs h p2 i1).bind fun x4 =>
      b326_84 L xs zf D w K29 w o0 i1 x4 h
    else
      (dgR L xs h 33 [15] o0).bind fun p9 =>
      (daJ L xs h p9 i2).bind fun y11 =>
      (dgR L xs h 33 [15] o0).bind fun p13 =>
      (daJ L xs h p13 i1).bind fun y15 =>
      if mx_f1 .ne (lg_cmp y11 y15) = true then
        b326_71 L xs zf D w K29 (b326_39 L xs zf D w K29 n) o0 i1 i2 h
      else
        (dgR L xs h 34 [15] o0).bind fun p18 =>
        (daI L xs h p18 i1).bind fun x20 =>
        ((dcV L xs D 329 [15] o0 [.int 2, .int x20] h).bind dxV).bind fun h22 =>
        b326_71 L xs zf D w K29 (b326_39 L xs zf D w K29 n) o0 i1 i2 h22
theorem c326_39 {L : Nat} {xs : Nat → Int32} {zf : Value} {D : dD} {w k : Nat} {K29 : Option Nat → Int32 → rm_H → Option dR} (hD : dO L xs zf D k) (hz : zf.category = 1) (hK29 : ∀ (o0 : Option Nat) (i1 : Int32) (lv : rm_L) (h : rm_H) (r : dR), rm_get lv 0 = some (va_rf o0) → rm_get lv 1 = some (.int i1) → K29 o0 i1 h = some r → dq L xs zf ah_M326 29 lv [] h (k + 1) r) : ∀ (n : Nat) (o0 : Option Nat) (i1 : Int32) (i2 : Int32) (lv : rm_L) (h : rm_H) (r : dR), rm_get lv 0 = some (va_rf o0) → rm_get lv 1 = some (.int i1) → rm_get lv 2 = some (.int i2) → b326_39 L xs zf D w K29 n  o0 i1 i2 h = some r → dq L xs zf ah_M326 39 lv [] h (k + 1) r := by
  intro n
  induction n with
  | zero =>
    intro o0 i1 i2 lv h r G0 G1 G2 hh
    cases hh
  | succ n ih =>
    intro o0 i1 i2 lv h r G0 G1 G2 hh
    rw [b326_39] at hh
    refine dq_iln 2 40 (by decide +kernel) rfl G2 ?_
    refine dq_iln 1 41 (by decide +kernel) rfl G1 ?_
    rcases di hh with ⟨q1, hh⟩ | ⟨q1, hh⟩
    · refine dq_2 .ge 36 true 77 q1 (by decide +kernel) ?_
      refine dq_aln 0 78 (by decide +kernel) rfl G0 ?_
      obtain ⟨p2, q3, hh⟩ := db hh
      refine dq_gR 96 35 [15] 81 (by decide +kernel) rfl q3 ?_
      refine dq_iln 1 82 (by decide +kernel) rfl G1 ?_
      obtain ⟨x4, q5, hh⟩ := db hh
      refine dq_aI 83 (by decide +kernel) rfl q5 ?_
      refine dq_isn 2 84 (by decide +kernel) (by decide +kernel) ?_
      have g6 := dg_ne (i := 2) (u := .int x4) (by decide) (Or.inl (by decide)) G0
      have g7 := dg_ne (i := 2) (u := .int x4) (by decide) (Or.inr rfl) G1
      have g8 := dg_eq (lv) 2 (.int x4)
      exact c326_84 hD hz hK29 _ _ _ _ _ _ _ g6 g7 g8 hh
    · refine dq_2 .ge 36 false 44 q1 (by decide +kernel) ?_
      refine dq_aln 0 45 (by decide +kernel) rfl G0 ?_
      obtain ⟨p9, q10, hh⟩ := db hh
      refine dq_gR 90 33 [15] 48 (by decide +kernel) rfl q10 ?_
      refine dq_iln 2 49 (by decide +kernel) rfl G2 ?_
      obtain ⟨y11, q12, hh⟩ := db hh
      refine dq_aJ 50 (by decide +kernel) rfl q12 ?_
      refine dq_aln 0 51 (by decide +kernel) rfl G0 ?_
      obtain ⟨p13, q14, hh⟩ := db hh
      refine dq_gR 90 33 [15] 54 (by decide +kernel) rfl q14 ?_
      refine dq_iln 1 55 (by decide +kernel) rfl G1 ?_
      obtain ⟨y15, q16, hh⟩ := db hh
      refine dq_aJ 56 (by decide +kernel) rfl q16 ?_
      refine dq_S (.lcmp) 1 [] 57 _ [.int (lg_cmp y11 y15)] (by decide +kernel) rfl ?_
      rcases di hh with ⟨q17, hh⟩ | ⟨q17, hh⟩
      · refine dq_1 .ne 14 true 71 q17 (by decide +kernel) ?_
        exact c326_71 hD hz hK29 ih _ _ _ _ _ _ G0 G1 G2 hh
      · refine dq_1 .ne 14 false 60 q17 (by decide +kernel) ?_
        refine dq_aln 0 61 (by decide +kernel) rfl G0 ?_
        refine dq_S (.iconst 2) 1 [] 62 _ [.int 2, va_rf o0] (by decide +kernel) rfl ?_
        refine dq_aln 0 63 (by decide +kernel) rfl G0 ?_
        obtain ⟨p18, q19, hh⟩ := db hh
        refine dq_gR 93 34 [15] 66 (by decide +kernel) rfl q19 ?_
        refine dq_iln 1 67 (by decide +kernel) rfl G1 ?_
        obtain ⟨x20, q21, hh⟩ := db hh
        refine dq_aI 68 (by decide +kernel) rfl q21 ?_
        obtain ⟨h22, q23, hh⟩ := db hh
        obtain ⟨a24, q25, q23⟩ := db q23
        rw [dq_xV q23] at q25
        refine dq_cvi hD 407 329 5 2 [15] o0 [.int 2, .int x20] [] 71 [] (by decide +kernel) ap_329 ⟨⟨Nat.le_of_ble_eq_true rfl, by decide⟩, rfl, rfl⟩ (dq_ok8 [1, 1, 1] [] (dc_r (dc_i (dc_i dc_n))) dc_n (by decide +kernel)) (by decide +kernel) rfl q25 rfl ?_
        exact c326_71 hD hz hK29 ih _ _ _ _ _ _ G0 G1 G2 hh
def b326_339 (L : Nat) (xs : Nat → Int32) (zf : Value) (D : dD) (w : Nat) (K250 : Option Nat → Int32 → rm_H → Option dR) (o0 : Option Nat) (i1 : Int32) (h : rm_H) : Option dR :=
  K250 o0 (i1 + 1) h
theorem c326_339 {L : Nat} {xs : Nat → Int32} {zf : Value} {D : dD} {w k : Nat} {K250 : Option Nat → Int32 → rm_H → Option dR} (hD : dO L xs zf D k) (hz : zf.category = 1) (hK250 : ∀ (o0 : Option Nat) (i1 : Int32) (lv : rm_L) (h : rm_H) (r : dR), rm_get lv 0 = some (va_rf o0) → rm_get lv 1 = some (.int i1) → K250 o0 i1 h = some r → dq L xs zf ah_M326 250 lv [] h (k + 1) r) : ∀ (o0 : Option Nat) (i1 : Int32) (lv : rm_L) (h : rm_H) (r : dR), rm_get lv 0 = some (va_rf o0) → rm_get lv 1 = some (.int i1) → b326_339 L xs zf D w K250  o0 i1 h = some r → dq L xs zf ah_M326 339 lv [] h (k + 1) r := by
  intro o0 i1 lv h r G0 G1 hh
  unfold b326_339 at hh
  refine dq_incy 1 1 1 342 (by decide +kernel) ⟨rfl, by decide +kernel, by decide +kernel⟩ G1 ?_
  have g1 := dg_ne (i := 1) (u := .int (i1 + 1)) (by decide) (Or.inr (drc _)) G0
  have g2 := dg_eq (lv) 1 (.int (i1 + 1))
  refine dq_S (.goto (-92)) 3 [] 250 _ [] (by decide +kernel) rfl ?_
  exact hK250 _ _ _ _ _ g1 g2 hh
def b326_332 (L : Nat) (xs : Nat → Int32) (zf : Value) (D : dD) (w : Nat) (K250 : Option Nat → Int32 → rm_H → Option dR) (o0 : Option Nat) (i1 : Int32) (i2 : Int32) (h : rm_H) : Option dR :=
  (dgR L xs h 20 [15] o0).bind fun p1 =>
  (dsI h p1 i1 i2).bind fun h3 =>
  b326_339 L xs zf D w K250 o0 i1 h3
theorem c326_332 {L : Nat} {xs : Nat → Int32} {zf : Value} {D : dD} {w k : Nat} {K250 : Option Nat → Int32 → rm_H → Option dR} (hD : dO L xs zf D k) (hz : zf.category = 1) (hK250 : ∀ (o0 : Option Nat) (i1 : Int32) (lv : rm_L) (h : rm_H) (r : dR), rm_get lv 0 = some (va_rf o0) → rm_get lv 1 = some (.int i1) → K250 o0 i1 h = some r → dq L xs zf ah_M326 250 lv [] h (k + 1) r) : ∀ (o0 : Option Nat) (i1 : Int32) (i2 : Int32) (lv : rm_L) (h : rm_H) (r : dR), rm_get lv 0 = some (va_rf o0) → rm_get lv 1 = some (.int i1) → rm_get lv 2 = some (.int i2) → b326_332 L xs zf D w K250  o0 i1 i2 h = some r → dq L xs zf ah_M326 332 lv [] h (k + 1) r := by
  intro o0 i1 i2 lv h r G0 G1 G2 hh
  unfold b326_332 at hh
  refine dq_aln 0 333 (by decide +kernel) rfl G0 ?_
  obtain ⟨p1, q2, hh⟩ := db hh
  refine dq_gR 63 20 [15] 336 (by decide +kernel) rfl q2 ?_
  refine dq_iln 1 337 (by decide +kernel) rfl G1 ?_
  refine dq_iln 2 338 (by decide +kernel) rfl G2 ?_
  obtain ⟨h3, q4, hh⟩ := db hh
  refine dq_sI 339 (by decide +kernel) rfl q4 ?_
  exact c326_339 hD hz hK250 _ _ _ _ _ G0 G1 hh
def b326_403 (L : Nat) (xs : Nat → Int32) (zf : Value) (D : dD) (w : Nat) (h : rm_H) : Option dR :=
  some (none, h)
theorem c326_403 {L : Nat} {xs : Nat → Int32} {zf : Value} {D : dD} {w k : Nat} (hD : dO L xs zf D k) (hz : zf.category = 1) : ∀ (lv : rm_L) (h : rm_H) (r : dR), b326_403 L xs zf D w  h = some r → dq L xs zf ah_M326 403 lv [] h (k + 1) r := by
  intro lv h r hh
  unfold b326_403 at hh
  cases hh
  exact dq_ret0 (by decide +kernel) rfl
def b326_394 (L : Nat) (xs : Nat → Int32) (zf : Value) (D : dD) (w : Nat) (o0 : Option Nat) (h : rm_H) : Option dR :=
  (dgI L xs h 3 [15] o0).bind fun x1 =>
  ((dcV L xs D 329 [15] o0 [.int 3, .int x1] h).bind dxV).bind fun h3 =>
  b326_403 L xs zf D w h3
theorem c326_394 {L : Nat} {xs : Nat → Int32} {zf : Value} {D : dD} {w k : Nat} (hD : dO L xs zf D k) (hz : zf.category = 1) : ∀ (o0 : Option Nat) (lv : rm_L) (h : rm_H) (r : dR), rm_get lv 0 = some (va_rf o0) → b326_394 L xs zf D w  o0 h = some r → dq L xs zf ah_M326 394 lv [] h (k + 1) r := by
  intro o0 lv h r G0 hh
  unfold b326_394 at hh
  refine dq_aln 0 395 (by decide +kernel) rfl G0 ?_
  refine dq_S (.iconst 3) 1 [] 396 _ [.int 3, va_rf o0] (by decide +kernel) rfl ?_
  refine dq_aln 0 397 (by decide +kernel) rfl G0 ?_
  obtain ⟨x1, q2, hh⟩ := db hh
  refine dq_gI 266 3 [15] 400 (by decide +kernel) rfl q2 ?_
  obtain ⟨h3, q4, hh⟩ := db hh
  obtain ⟨a5, q6, q4⟩ := db q4
  rw [dq_xV q4] at q6
  refine dq_cvi hD 407 329 5 2 [15] o0 [.int 3, .int x1] [] 403 [] (by decide +kernel) ap_329 ⟨⟨Nat.le_of_ble_eq_true rfl, by decide⟩, rfl, rfl⟩ (dq_ok8 [1, 1, 1] [] (dc_r (dc_i (dc_i dc_n))) dc_n (by decide +kernel)) (by decide +kernel) rfl q6 rfl ?_
  exact c326_403 hD hz  _ _ _  hh
def b326_250 (L : Nat) (xs : Nat → Int32) (zf : Value) (D : dD) (w : Nat) : Nat → Option Nat → Int32 → rm_H → Option dR
  | 0, _, _, _ => none
  | n + 1, o0, i1, h =>
    (dgI L xs h 10 [15] o0).bind fun x1 =>
    if mx_f2 .ge i1 x1 = true then
      ((dcV L xs D 328 [15] o0 [.long 1298229614] h).bind dxI).bind fun x4 =>
      if mx_f2 .eq x4.1 (-1) = true then
        b326_394 L xs zf D w o0 x4.2
      else
        (dgR L xs x4.2 37 [15] o0).bind fun p11 =>
        (daB L xs x4.2 p11 x4.1).bind fun x13 =>
        if mx_f1 .eq x13 = true then
          b326_394 L xs zf D w o0 x4.2
        else
          (dgR L xs x4.2 50 [15] o0).bind fun p16 =>
          (dgR L xs x4.2 36 [15] o0).bind fun p18 =>
          (daI L xs x4.2 p18 x4.1).bind fun x20 =>
          (daI L xs x4.2 p16 (x20 + 1)).bind fun x22 =>
          (dgR L xs x4.2 50 [15] o0).bind fun p24 =>
          (dgR L xs x4.2 36 [15] o0).bind fun p26 =>
          (daI L xs x4.2 p26 x4.1).bind fun x28 =>
          (daI L xs x4.2 p24 x28).bind fun x30 =>
          if mx_f2 .le x22 x30 = true then
            b326_403 L xs zf D w x4.2
          else
            b326_394 L xs zf D w o0 x4.2
    else
      (dgR L xs h 11 [15] o0).bind fun p33 =>
      (daI L xs h p33 i1).bind fun x35 =>
      if mx_f2 .eq x35 8 = true then
        (dgR L xs h 23 [15] o0).bind fun p38 =>
        (daJ L xs h p38 i1).bind fun y40 =>
        ((dcV L xs D 328 [15] o0 [.long y40] h).bind dxI).bind fun x42 =>
        if mx_f2 .ne x42.1 (-1) = true then
          (dgR L xs x42.2 37 [15] o0).bind fun p50 =>
          (daB L xs x42.2 p50 x42.1).bind fun x52 =>
          if mx_f1 .eq x52 = true then
            b326_332 L xs zf D w (b326_250 L xs zf D w n) o0 i1 x42.1 x42.2
          else
            (dgR L xs x42.2 21 [15] o0).bind fun p55 =>
            (daI L xs x42.2 p55 i1).bind fun x57 =>
            if mx_f2 .eq x57 (-1) = true then
              b326_332 L xs zf D w (b326_250 L xs zf D w n) o0 i1 x42.1 x42.2
            else
              (dgR L xs x42.2 22 [15] o0).bind fun p60 =>
              (daI L xs x42.2 p60 i1).bind fun x62 =>
              ((dcV L xs D 329 [15] o0 [.int 4, .int x62] x42.2).bind dxV).bind fun h64 =>
              b326_332 L xs zf D w (b326_250 L xs zf D w n) o0 i1 x42.1 h64
        else
          (dgR L xs x42.2 18 [15] o0).bind fun p68 =>
          (daI L xs x42.2 p68 i1).bind fun x70 =>
          ((dcV L xs D 329 [15] o0 [.int 3, .int x70] x42.2).bind dxV).bind fun h72 =>
          b326_332 L xs zf D w (b326_250 L xs zf D w n) o0 i1 x42.1 h72
      else
        b326_339 L xs zf D w (b326_250 L xs zf D w n) o0 i1 h
theorem c326_250 {L : Nat} {xs : Nat → Int32} {zf : Value} {D : dD} {w k : Nat} (hD : dO L xs zf D k) (hz : zf.category = 1) : ∀ (n : Nat) (o0 : Option Nat) (i1 : Int32) (lv : rm_L) (h : rm_H) (r : dR), rm_get lv 0 = some (va_rf o0) → rm_get lv 1 = some (.int i1) → b326_250 L xs zf D w n  o0 i1 h = some r → dq L xs zf ah_M326 250 lv [] h (k + 1) r := by
  intro n
  induction n with
  | zero =>
    intro o0 i1 lv h r G0 G1 hh
    cases hh
  | succ n ih =>
    intro o0 i1 lv h r G0 G1 hh
    rw [b326_250] at hh
    refine dq_iln 1 251 (by decide +kernel) rfl G1 ?_
    refine dq_aln 0 252 (by decide +kernel) rfl G0 ?_
    obtain ⟨x1, q2, hh⟩ := db hh
    refine dq_gI 292 10 [15] 255 (by decide +kernel) rfl q2 ?_
    rcases di hh with ⟨q3, hh⟩ | ⟨q3, hh⟩
    · refine dq_2 .ge 90 true 345 q3 (by decide +kernel) ?_
      refine dq_aln 0 346 (by decide +kernel) rfl G0 ?_
      refine dq_S (.ldc2_w 416) 3 [1298229614] 349 _ [.long 1298229614, va_rf o0] (by decide +kernel) rfl ?_
      obtain ⟨x4, q5, hh⟩ := db hh
      obtain ⟨a6, q7, q5⟩ := db q5
      rw [dq_xI q5] at q7
      refine dq_cvi hD 403 328 5 1 [15] o0 [.long 1298229614] [] 352 [.int x4.1] (by decide +kernel) ap_328 ⟨⟨Nat.le_of_ble_eq_true rfl, by decide⟩, rfl, rfl⟩ (dq_ok8 [1, 2] [] (dc_r (dc_j dc_n)) dc_n (by decide +kernel)) (by decide +kernel) rfl q7 rfl ?_
      refine dq_isn 1 353 (by decide +kernel) (by decide +kernel) ?_
      have g8 := dg_ne (i := 1) (u := .int x4.1) (by decide) (Or.inr (drc _)) G0
      have g9 := dg_eq (lv) 1 (.int x4.1)
      refine dq_iln 1 354 (by decide +kernel) rfl g9 ?_
      refine dq_S (.iconst (-1)) 1 [] 355 _ [.int (-1), .int x4.1] (by decide +kernel) rfl ?_
      rcases di hh with ⟨q10, hh⟩ | ⟨q10, hh⟩
      · refine dq_2 .eq 39 true 394 q10 (by decide +kernel) ?_
        exact c326_394 hD hz _ _ _ _ g8 hh
      · refine dq_2 .eq 39 false 358 q10 (by decide +kernel) ?_
        refine dq_aln 0 359 (by decide +kernel) rfl g8 ?_
        obtain ⟨p11, q12, hh⟩ := db hh
        refine dq_gR 102 37 [15] 362 (by decide +kernel) rfl q12 ?_
        refine dq_iln 1 363 (by decide +kernel) rfl g9 ?_
        obtain ⟨x13, q14, hh⟩ := db hh
        refine dq_aB 364 (by decide +kernel) rfl q14 ?_
        rcases di hh with ⟨q15, hh⟩ | ⟨q15, hh⟩
        · refine dq_1 .eq 30 true 394 q15 (by decide +kernel) ?_
          exact c326_394 hD hz _ _ _ _ g8 hh
        · refine dq_1 .eq 30 false 367 q15 (by decide +kernel) ?_
          refine dq_aln 0 368 (by decide +kernel) rfl g8 ?_
          obtain ⟨p16, q17, hh⟩ := db hh
          refine dq_gR 136 50 [15] 371 (by decide +kernel) rfl q17 ?_
          refine dq_aln 0 372 (by decide +kernel) rfl g8 ?_
          obtain ⟨p18, q19, hh⟩ := db hh
          refine dq_gR 99 36 [15] 375 (by decide +kernel) rfl q19 ?_
          refine dq_iln 1 376 (by decide +kernel) rfl g9 ?_
          obtain ⟨x20, q21, hh⟩ := db hh
          refine dq_aI 377 (by decide +kernel) rfl q21 ?_
          refine dq_S (.iconst 1) 1 [] 378 _ [.int 1, .int x20, va_rf p16] (by decide +kernel) rfl ?_
          refine dq_S (.iadd) 1 [] 379 _ [.int (x20 + 1), va_rf p16] (by decide +kernel) rfl ?_
          obtain ⟨x22, q23, hh⟩ := db hh
          refine dq_aI 380 (by decide +kernel) rfl q23 ?_
          refine dq_aln 0 381 (by decide +kernel) rfl g8 ?_
          obtain ⟨p24, q25, hh⟩ := db hh
          refine dq_gR 136 50 [15] 384 (by decide +kernel) rfl q25 ?_
          refine dq_aln 0 385 (by decide +kernel) rfl g8 ?_
          obtain ⟨p26, q27, hh⟩ := db hh
          refine dq_gR 99 36 [15] 388 (by decide +kernel) rfl q27 ?_
          refine dq_iln 1 389 (by decide +kernel) rfl g9 ?_
          obtain ⟨x28, q29, hh⟩ := db hh
          refine dq_aI 390 (by decide +kernel) rfl q29 ?_
          obtain ⟨x30, q31, hh⟩ := db hh
          refine dq_aI 391 (by decide +kernel) rfl q31 ?_
          rcases di hh with ⟨q32, hh⟩ | ⟨q32, hh⟩
          · refine dq_2 .le 12 true 403 q32 (by decide +kernel) ?_
            exact c326_403 hD hz  _ _ _  hh
          · refine dq_2 .le 12 false 394 q32 (by decide +kernel) ?_
            exact c326_394 hD hz _ _ _ _ g8 hh
    · refine dq_2 .ge 90 false 258 q3 (by decide +kernel) ?_
      refine dq_aln 0 259 (by decide +kernel) rfl G0 ?_
      obtain ⟨p33, q34, hh⟩ := db hh
      refine dq_gR 36 11 [15] 262 (by decide +kernel) rfl q34 ?_
      refine dq_iln 1 263 (by decide +kernel) rfl G1 ?_
      obtain ⟨x35, q36, hh⟩ := db hh
      refine dq_aI 264 (by decide +kernel) rfl q36 ?_
      refine dq_S (.bipush 8) 2 [] 266 _ [.int 8, .int x35] (by decide +kernel) rfl ?_
      rcases di hh with ⟨q37, hh⟩ | ⟨q37, hh⟩
      · refine dq_2 .eq 6 true 272 q37 (by decide +kernel) ?_
        refine dq_aln 0 273 (by decide +kernel) rfl G0 ?_
        refine dq_aln 0 274 (by decide +kernel) rfl G0 ?_
        obtain ⟨p38, q39, hh⟩ := db hh
        refine dq_gR 72 23 [15] 277 (by decide +kernel) rfl q39 ?_
        refine dq_iln 1 278 (by decide +kernel) rfl G1 ?_
        obtain ⟨y40, q41, hh⟩ := db hh
        refine dq_aJ 279 (by decide +kernel) rfl q41 ?_
        obtain ⟨x42, q43, hh⟩ := db hh
        obtain ⟨a44, q45, q43⟩ := db q43
        rw [dq_xI q43] at q45
        refine dq_cvi hD 403 328 5 1 [15] o0 [.long y40] [] 282 [.int x42.1] (by decide +kernel) ap_328 ⟨⟨Nat.le_of_ble_eq_true rfl, by decide⟩, rfl, rfl⟩ (dq_ok8 [1, 2] [] (dc_r (dc_j dc_n)) dc_n (by decide +kernel)) (by decide +kernel) rfl q45 rfl ?_
        refine dq_isn 2 283 (by decide +kernel) (by decide +kernel) ?_
        have g46 := dg_ne (i := 2) (u := .int x42.1) (by decide) (Or.inl (by decide)) G0
        have g47 := dg_ne (i := 2) (u := .int x42.1) (by decide) (Or.inr rfl) G1
        have g48 := dg_eq (lv) 2 (.int x42.1)
        refine dq_iln 2 284 (by decide +kernel) rfl g48 ?_
        refine dq_S (.iconst (-1)) 1 [] 285 _ [.int (-1), .int x42.1] (by decide +kernel) rfl ?_
        rcases di hh with ⟨q49, hh⟩ | ⟨q49, hh⟩
        · refine dq_2 .ne 17 true 302 q49 (by decide +kernel) ?_
          refine dq_aln 0 303 (by decide +kernel) rfl g46 ?_
          obtain ⟨p50, q51, hh⟩ := db hh
          refine dq_gR 102 37 [15] 306 (by decide +kernel) rfl q51 ?_
          refine dq_iln 2 307 (by decide +kernel) rfl g48 ?_
          obtain ⟨x52, q53, hh⟩ := db hh
          refine dq_aB 308 (by decide +kernel) rfl q53 ?_
          rcases di hh with ⟨q54, hh⟩ | ⟨q54, hh⟩
          · refine dq_1 .eq 24 true 332 q54 (by decide +kernel) ?_
            exact c326_332 hD hz ih _ _ _ _ _ _ g46 g47 g48 hh
          · refine dq_1 .eq 24 false 311 q54 (by decide +kernel) ?_
            refine dq_aln 0 312 (by decide +kernel) rfl g46 ?_
            obtain ⟨p55, q56, hh⟩ := db hh
            refine dq_gR 66 21 [15] 315 (by decide +kernel) rfl q56 ?_
            refine dq_iln 1 316 (by decide +kernel) rfl g47 ?_
            obtain ⟨x57, q58, hh⟩ := db hh
            refine dq_aI 317 (by decide +kernel) rfl q58 ?_
            refine dq_S (.iconst (-1)) 1 [] 318 _ [.int (-1), .int x57] (by decide +kernel) rfl ?_
            rcases di hh with ⟨q59, hh⟩ | ⟨q59, hh⟩
            · refine dq_2 .eq 14 true 332 q59 (by decide +kernel) ?_
              exact c326_332 hD hz ih _ _ _ _ _ _ g46 g47 g48 hh
            · refine dq_2 .eq 14 false 321 q59 (by decide +kernel) ?_
              refine dq_aln 0 322 (by decide +kernel) rfl g46 ?_
              refine dq_S (.iconst 4) 1 [] 323 _ [.int 4, va_rf o0] (by decide +kernel) rfl ?_
              refine dq_aln 0 324 (by decide +kernel) rfl g46 ?_
              obtain ⟨p60, q61, hh⟩ := db hh
              refine dq_gR 69 22 [15] 327 (by decide +kernel) rfl q61 ?_
              refine dq_iln 1 328 (by decide +kernel) rfl g47 ?_
              obtain ⟨x62, q63, hh⟩ := db hh
              refine dq_aI 329 (by decide +kernel) rfl q63 ?_
              obtain ⟨h64, q65, hh⟩ := db hh
              obtain ⟨a66, q67, q65⟩ := db q65
              rw [dq_xV q65] at q67
              refine dq_cvi hD 407 329 5 2 [15] o0 [.int 4, .int x62] [] 332 [] (by decide +kernel) ap_329 ⟨⟨Nat.le_of_ble_eq_true rfl, by decide⟩, rfl, rfl⟩ (dq_ok8 [1, 1, 1] [] (dc_r (dc_i (dc_i dc_n))) dc_n (by decide +kernel)) (by decide +kernel) rfl q67 rfl ?_
              exact c326_332 hD hz ih _ _ _ _ _ _ g46 g47 g48 hh
        · refine dq_2 .ne 17 false 288 q49 (by decide +kernel) ?_
          refine dq_aln 0 289 (by decide +kernel) rfl g46 ?_
          refine dq_S (.iconst 3) 1 [] 290 _ [.int 3, va_rf o0] (by decide +kernel) rfl ?_
          refine dq_aln 0 291 (by decide +kernel) rfl g46 ?_
          obtain ⟨p68, q69, hh⟩ := db hh
          refine dq_gR 57 18 [15] 294 (by decide +kernel) rfl q69 ?_
          refine dq_iln 1 295 (by decide +kernel) rfl g47 ?_
          obtain ⟨x70, q71, hh⟩ := db hh
          refine dq_aI 296 (by decide +kernel) rfl q71 ?_
          obtain ⟨h72, q73, hh⟩ := db hh
          obtain ⟨a74, q75, q73⟩ := db q73
          rw [dq_xV q73] at q75
          refine dq_cvi hD 407 329 5 2 [15] o0 [.int 3, .int x70] [] 299 [] (by decide +kernel) ap_329 ⟨⟨Nat.le_of_ble_eq_true rfl, by decide⟩, rfl, rfl⟩ (dq_ok8 [1, 1, 1] [] (dc_r (dc_i (dc_i dc_n))) dc_n (by decide +kernel)) (by decide +kernel) rfl q75 rfl ?_
          refine dq_S (.goto 33) 3 [] 332 _ [] (by decide +kernel) rfl ?_
          exact c326_332 hD hz ih _ _ _ _ _ _ g46 g47 g48 hh
      · refine dq_2 .eq 6 false 269 q37 (by decide +kernel) ?_
        refine dq_S (.goto 70) 3 [] 339 _ [] (by decide +kernel) rfl ?_
        exact c326_339 hD hz ih _ _ _ _ _ G0 G1 hh
def b326_229 (L : Nat) (xs : Nat → Int32) (zf : Value) (D : dD) (w : Nat) : Nat → Option Nat → Int32 → rm_H → Option dR
  | 0, _, _, _ => none
  | n + 1, o0, i1, h =>
    (dgI L xs h 42 [15] o0).bind fun x1 =>
    if mx_f2 .ge i1 x1 = true then
      b326_250 L xs zf D w w o0 1 h
    else
      ((dcV L xs D 330 [15] o0 [.int i1] h).bind dxV).bind fun h6 =>
      b326_229 L xs zf D w n o0 (i1 + 1) h6
theorem c326_229 {L : Nat} {xs : Nat → Int32} {zf : Value} {D : dD} {w k : Nat} (hD : dO L xs zf D k) (hz : zf.category = 1) : ∀ (n : Nat) (o0 : Option Nat) (i1 : Int32) (lv : rm_L) (h : rm_H) (r : dR), rm_get lv 0 = some (va_rf o0) → rm_get lv 1 = some (.int i1) → b326_229 L xs zf D w n  o0 i1 h = some r → dq L xs zf ah_M326 229 lv [] h (k + 1) r := by
  intro n
  induction n with
  | zero =>
    intro o0 i1 lv h r G0 G1 hh
    cases hh
  | succ n ih =>
    intro o0 i1 lv h r G0 G1 hh
    rw [b326_229] at hh
    refine dq_iln 1 230 (by decide +kernel) rfl G1 ?_
    refine dq_aln 0 231 (by decide +kernel) rfl G0 ?_
    obtain ⟨x1, q2, hh⟩ := db hh
    refine dq_gI 342 42 [15] 234 (by decide +kernel) rfl q2 ?_
    rcases di hh with ⟨q3, hh⟩ | ⟨q3, hh⟩
    · refine dq_2 .ge 14 true 248 q3 (by decide +kernel) ?_
      refine dq_S (.iconst 1) 1 [] 249 _ [.int 1] (by decide +kernel) rfl ?_
      refine dq_isn 1 250 (by decide +kernel) (by decide +kernel) ?_
      have g4 := dg_ne (i := 1) (u := .int 1) (by decide) (Or.inr (drc _)) G0
      have g5 := dg_eq (lv) 1 (.int 1)
      exact c326_250 hD hz _ _ _ _ _ _ g4 g5 hh
    · refine dq_2 .ge 14 false 237 q3 (by decide +kernel) ?_
      refine dq_aln 0 238 (by decide +kernel) rfl G0 ?_
      refine dq_iln 1 239 (by decide +kernel) rfl G1 ?_
      obtain ⟨h6, q7, hh⟩ := db hh
      obtain ⟨a8, q9, q7⟩ := db q7
      rw [dq_xV q7] at q9
      refine dq_cvi hD 413 330 5 1 [15] o0 [.int i1] [] 242 [] (by decide +kernel) ap_330 ⟨⟨Nat.le_of_ble_eq_true rfl, by decide⟩, rfl, rfl⟩ (dq_ok8 [1, 1] [] (dc_r (dc_i dc_n)) dc_n (by decide +kernel)) (by decide +kernel) rfl q9 rfl ?_
      refine dq_incy 1 1 1 245 (by decide +kernel) ⟨rfl, by decide +kernel, by decide +kernel⟩ G1 ?_
      have g10 := dg_ne (i := 1) (u := .int (i1 + 1)) (by decide) (Or.inr (drc _)) G0
      have g11 := dg_eq (lv) 1 (.int (i1 + 1))
      refine dq_S (.goto (-16)) 3 [] 229 _ [] (by decide +kernel) rfl ?_
      exact ih _ _ _ _ _ g10 g11 hh
def b326_29 (L : Nat) (xs : Nat → Int32) (zf : Value) (D : dD) (w : Nat) : Nat → Option Nat → Int32 → rm_H → Option dR
  | 0, _, _, _ => none
  | n + 1, o0, i1, h =>
    (dgI L xs h 32 [15] o0).bind fun x1 =>
    if mx_f2 .ge i1 x1 = true then
      b326_229 L xs zf D w w o0 0 h
    else
      b326_39 L xs zf D w (b326_29 L xs zf D w n) w o0 i1 0 h
theorem c326_29 {L : Nat} {xs : Nat → Int32} {zf : Value} {D : dD} {w k : Nat} (hD : dO L xs zf D k) (hz : zf.category = 1) : ∀ (n : Nat) (o0 : Option Nat) (i1 : Int32) (lv : rm_L) (h : rm_H) (r : dR), rm_get lv 0 = some (va_rf o0) → rm_get lv 1 = some (.int i1) → b326_29 L xs zf D w n  o0 i1 h = some r → dq L xs zf ah_M326 29 lv [] h (k + 1) r := by
  intro n
  induction n with
  | zero =>
    intro o0 i1 lv h r G0 G1 hh
    cases hh
  | succ n ih =>
    intro o0 i1 lv h r G0 G1 hh
    rw [b326_29] at hh
    refine dq_iln 1 30 (by decide +kernel) rfl G1 ?_
    refine dq_aln 0 31 (by decide +kernel) rfl G0 ?_
    obtain ⟨x1, q2, hh⟩ := db hh
    refine dq_gI 326 32 [15] 34 (by decide +kernel) rfl q2 ?_
    rcases di hh with ⟨q3, hh⟩ | ⟨q3, hh⟩
    · refine dq_2 .ge 193 true 227 q3 (by decide +kernel) ?_
      refine dq_S (.iconst 0) 1 [] 228 _ [.int 0] (by decide +kernel) rfl ?_
      refine dq_isn 1 229 (by decide +kernel) (by decide +kernel) ?_
      have g4 := dg_ne (i := 1) (u := .int 0) (by decide) (Or.inr (drc _)) G0
      have g5 := dg_eq (lv) 1 (.int 0)
      exact c326_229 hD hz _ _ _ _ _ _ g4 g5 hh
    · refine dq_2 .ge 193 false 37 q3 (by decide +kernel) ?_
      refine dq_S (.iconst 0) 1 [] 38 _ [.int 0] (by decide +kernel) rfl ?_
      refine dq_isn 2 39 (by decide +kernel) (by decide +kernel) ?_
      have g6 := dg_ne (i := 2) (u := .int 0) (by decide) (Or.inl (by decide)) G0
      have g7 := dg_ne (i := 2) (u := .int 0) (by decide) (Or.inr rfl) G1
      have g8 := dg_eq (lv) 2 (.int 0)
      exact c326_39 hD hz ih _ _ _ _ _ _ _ g6 g7 g8 hh
def b326_2 (L : Nat) (xs : Nat → Int32) (zf : Value) (D : dD) (w : Nat) : Nat → Option Nat → Int32 → rm_H → Option dR
  | 0, _, _, _ => none
  | n + 1, o0, i1, h =>
    (dgI L xs h 26 [15] o0).bind fun x1 =>
    if mx_f2 .ge i1 x1 = true then
      b326_29 L xs zf D w w o0 0 h
    else
      (dgR L xs h 30 [15] o0).bind fun p6 =>
      ((dcV L xs D 327 [15] o0 [.int i1] h).bind dxI).bind fun x8 =>
      (dsI x8.2 p6 i1 x8.1).bind fun h12 =>
      b326_2 L xs zf D w n o0 (i1 + 1) h12
theorem c326_2 {L : Nat} {xs : Nat → Int32} {zf : Value} {D : dD} {w k : Nat} (hD : dO L xs zf D k) (hz : zf.category = 1) : ∀ (n : Nat) (o0 : Option Nat) (i1 : Int32) (lv : rm_L) (h : rm_H) (r : dR), rm_get lv 0 = some (va_rf o0) → rm_get lv 1 = some (.int i1) → b326_2 L xs zf D w n  o0 i1 h = some r → dq L xs zf ah_M326 2 lv [] h (k + 1) r := by
  intro n
  induction n with
  | zero =>
    intro o0 i1 lv h r G0 G1 hh
    cases hh
  | succ n ih =>
    intro o0 i1 lv h r G0 G1 hh
    rw [b326_2] at hh
    refine dq_iln 1 3 (by decide +kernel) rfl G1 ?_
    refine dq_aln 0 4 (by decide +kernel) rfl G0 ?_
    obtain ⟨x1, q2, hh⟩ := db hh
    refine dq_gI 316 26 [15] 7 (by decide +kernel) rfl q2 ?_
    rcases di hh with ⟨q3, hh⟩ | ⟨q3, hh⟩
    · refine dq_2 .ge 20 true 27 q3 (by decide +kernel) ?_
      refine dq_S (.iconst 0) 1 [] 28 _ [.int 0] (by decide +kernel) rfl ?_
      refine dq_isn 1 29 (by decide +kernel) (by decide +kernel) ?_
      have g4 := dg_ne (i := 1) (u := .int 0) (by decide) (Or.inr (drc _)) G0
      have g5 := dg_eq (lv) 1 (.int 0)
      exact c326_29 hD hz _ _ _ _ _ _ g4 g5 hh
    · refine dq_2 .ge 20 false 10 q3 (by decide +kernel) ?_
      refine dq_aln 0 11 (by decide +kernel) rfl G0 ?_
      obtain ⟨p6, q7, hh⟩ := db hh
      refine dq_gR 84 30 [15] 14 (by decide +kernel) rfl q7 ?_
      refine dq_iln 1 15 (by decide +kernel) rfl G1 ?_
      refine dq_aln 0 16 (by decide +kernel) rfl G0 ?_
      refine dq_iln 1 17 (by decide +kernel) rfl G1 ?_
      obtain ⟨x8, q9, hh⟩ := db hh
      obtain ⟨a10, q11, q9⟩ := db q9
      rw [dq_xI q9] at q11
      refine dq_cvi hD 410 327 5 1 [15] o0 [.int i1] [.int i1, va_rf p6] 20 [.int x8.1, .int i1, va_rf p6] (by decide +kernel) ap_327 ⟨⟨Nat.le_of_ble_eq_true rfl, by decide⟩, rfl, rfl⟩ (dq_ok8 [1, 1] [1, 1] (dc_r (dc_i dc_n)) (dc_i (dc_r dc_n)) (by decide +kernel)) (by decide +kernel) rfl q11 rfl ?_
      obtain ⟨h12, q13, hh⟩ := db hh
      refine dq_sI 21 (by decide +kernel) rfl q13 ?_
      refine dq_incy 1 1 1 24 (by decide +kernel) ⟨rfl, by decide +kernel, by decide +kernel⟩ G1 ?_
      have g14 := dg_ne (i := 1) (u := .int (i1 + 1)) (by decide) (Or.inr (drc _)) G0
      have g15 := dg_eq (lv) 1 (.int (i1 + 1))
      refine dq_S (.goto (-22)) 3 [] 2 _ [] (by decide +kernel) rfl ?_
      exact ih _ _ _ _ _ g14 g15 hh
def b326_0 (L : Nat) (xs : Nat → Int32) (zf : Value) (D : dD) (w : Nat) (o0 : Option Nat) (h : rm_H) : Option dR :=
  b326_2 L xs zf D w w o0 0 h
theorem c326_0 {L : Nat} {xs : Nat → Int32} {zf : Value} {D : dD} {w k : Nat} (hD : dO L xs zf D k) (hz : zf.category = 1) : ∀ (o0 : Option Nat) (lv : rm_L) (h : rm_H) (r : dR), rm_get lv 0 = some (va_rf o0) → b326_0 L xs zf D w  o0 h = some r → dq L xs zf ah_M326 0 lv [] h (k + 1) r := by
  intro o0 lv h r G0 hh
  unfold b326_0 at hh
  refine dq_S (.iconst 0) 1 [] 1 _ [.int 0] (by decide +kernel) rfl ?_
  refine dq_isn 1 2 (by decide +kernel) (by decide +kernel) ?_
  have g1 := dg_ne (i := 1) (u := .int 0) (by decide) (Or.inr (drc _)) G0
  have g2 := dg_eq (lv) 1 (.int 0)
  exact c326_2 hD hz _ _ _ _ _ _ g1 g2 hh
def f326 (L : Nat) (xs : Nat → Int32) (zf : Value) (D : dD) (w : Nat) (As : List Value) (h : rm_H) : Option dR := match As with
  | [v0] => (rm_rf v0).bind fun o0 => b326_0 L xs zf D w o0 h
  | _ => none
theorem d326 {L : Nat} {xs : Nat → Int32} {zf : Value} {D : dD} {w k : Nat} (hD : dO L xs zf D k) (hz : zf.category = 1) (As : List Value) (h : rm_H) (r : dR) (hh : f326 L xs zf D w As h = some r) : dq L xs zf ah_M326 0 (lv_args 0 As) [] h (k + 1) r := by
  unfold f326 at hh
  split at hh
  · obtain ⟨o0, e0, hb0⟩ := db hh
    have e0 := rm_rf_v _ _ e0
    subst e0
    refine c326_0 hD hz _ _ _ _ ?_ hb0
    all_goals (simp only [la_r, la_i, la_j]; rfl)
  · cases hh
def b327_89 (L : Nat) (xs : Nat → Int32) (zf : Value) (D : dD) (w : Nat) (s0 : Int32) (s1 : Int32) (s2 : Option Nat) (h : rm_H) : Option dR :=
  ((dcV L xs D 329 [15] s2 [.int s1, .int s0] h).bind dxV).bind fun h1 =>
  drI (some .int) (-1) h1
theorem c327_89 {L : Nat} {xs : Nat → Int32} {zf : Value} {D : dD} {w k : Nat} (hD : dO L xs zf D k) (hz : zf.category = 1) : ∀ (s0 : Int32) (s1 : Int32) (s2 : Option Nat) (lv : rm_L) (h : rm_H) (r : dR), b327_89 L xs zf D w  s0 s1 s2 h = some r → dq L xs zf ah_M327 89 lv [.int s0, .int s1, va_rf s2] h (k + 1) r := by
  intro s0 s1 s2 lv h r hh
  unfold b327_89 at hh
  obtain ⟨h1, q2, hh⟩ := db hh
  obtain ⟨a3, q4, q2⟩ := db q2
  rw [dq_xV q2] at q4
  refine dq_cvi hD 407 329 5 2 [15] s2 [.int s1, .int s0] [] 92 [] (by decide +kernel) ap_329 ⟨⟨Nat.le_of_ble_eq_true rfl, by decide⟩, rfl, rfl⟩ (dq_ok8 [1, 1, 1] [] (dc_r (dc_i (dc_i dc_n))) dc_n (by decide +kernel)) (by decide +kernel) rfl q4 rfl ?_
  refine dq_S (.iconst (-1)) 1 [] 93 _ [.int (-1)] (by decide +kernel) rfl ?_
  exact dq_retI (some .int) (by decide +kernel) rfl hh
def b327_114 (L : Nat) (xs : Nat → Int32) (zf : Value) (D : dD) (w : Nat) (s0 : Int32) (s1 : Int32) (h : rm_H) : Option dR :=
  drI (some .int) (s1 + s0) h
theorem c327_114 {L : Nat} {xs : Nat → Int32} {zf : Value} {D : dD} {w k : Nat} (hD : dO L xs zf D k) (hz : zf.category = 1) : ∀ (s0 : Int32) (s1 : Int32) (lv : rm_L) (h : rm_H) (r : dR), b327_114 L xs zf D w  s0 s1 h = some r → dq L xs zf ah_M327 114 lv [.int s0, .int s1] h (k + 1) r := by
  intro s0 s1 lv h r hh
  unfold b327_114 at hh
  refine dq_S (.iadd) 1 [] 115 _ [.int (s1 + s0)] (by decide +kernel) rfl ?_
  exact dq_retI (some .int) (by decide +kernel) rfl hh
def b327_57 (L : Nat) (xs : Nat → Int32) (zf : Value) (D : dD) (w : Nat) (o0 : Option Nat) (i1 : Int32) (i2 : Int32) (s0 : Int32) (h : rm_H) : Option dR :=
  (dgR L xs h 37 [15] o0).bind fun p5 =>
  (daB L xs h p5 i2).bind fun x7 =>
  if mx_f2 .eq x7 s0 = true then
    if mx_f1 .eq s0 = true then
      (dgR L xs h 27 [15] o0).bind fun p11 =>
      (daI L xs h p11 i1).bind fun x13 =>
      b327_114 L xs zf D w x13 (8 * (i2 + 1)) h
    else
      b327_114 L xs zf D w 5 (8 * (i2 + 1)) h
  else
    if mx_f1 .eq s0 = true then
      (dgR L xs h 28 [15] o0).bind fun p16 =>
      (daI L xs h p16 i1).bind fun x18 =>
      b327_89 L xs zf D w x18 4 o0 h
    else
      (dgR L xs h 29 [15] o0).bind fun p20 =>
      (daI L xs h p20 i1).bind fun x22 =>
      b327_89 L xs zf D w x22 4 o0 h
theorem c327_57 {L : Nat} {xs : Nat → Int32} {zf : Value} {D : dD} {w k : Nat} (hD : dO L xs zf D k) (hz : zf.category = 1) : ∀ (o0 : Option Nat) (i1 : Int32) (i2 : Int32) (s0 : Int32) (lv : rm_L) (h : rm_H) (r : dR), rm_get lv 0 = some (va_rf o0) → rm_get lv 1 = some (.int i1) → rm_get lv 2 = some (.int i2) → b327_57 L xs zf D w  o0 i1 i2 s0 h = some r → dq L xs zf ah_M327 57 lv [.int s0] h (k + 1) r := by
  intro o0 i1 i2 s0 lv h r G0 G1 G2 hh
  unfold b327_57 at hh
  refine dq_isn 3 58 (by decide +kernel) (by decide +kernel) ?_
  have g1 := dg_ne (i := 3) (u := .int s0) (by decide) (Or.inl (by decide)) G0
  have g2 := dg_ne (i := 3) (u := .int s0) (by decide) (Or.inl (by decide)) G1
  have g3 := dg_ne (i := 3) (u := .int s0) (by decide) (Or.inr rfl) G2
  have g4 := dg_eq (lv) 3 (.int s0)
  refine dq_aln 0 59 (by decide +kernel) rfl g1 ?_
  obtain ⟨p5, q6, hh⟩ := db hh
  refine dq_gR 102 37 [15] 62 (by decide +kernel) rfl q6 ?_
  refine dq_iln 2 63 (by decide +kernel) rfl g3 ?_
  obtain ⟨x7, q8, hh⟩ := db hh
  refine dq_aB 64 (by decide +kernel) rfl q8 ?_
  refine dq_iln 3 65 (by decide +kernel) rfl g4 ?_
  rcases di hh with ⟨q9, hh⟩ | ⟨q9, hh⟩
  · refine dq_2 .eq 29 true 94 q9 (by decide +kernel) ?_
    refine dq_S (.bipush 8) 2 [] 96 _ [.int 8] (by decide +kernel) rfl ?_
    refine dq_iln 2 97 (by decide +kernel) rfl g3 ?_
    refine dq_S (.iconst 1) 1 [] 98 _ [.int 1, .int i2, .int 8] (by decide +kernel) rfl ?_
    refine dq_S (.iadd) 1 [] 99 _ [.int (i2 + 1), .int 8] (by decide +kernel) rfl ?_
    refine dq_S (.imul) 1 [] 100 _ [.int (8 * (i2 + 1))] (by decide +kernel) rfl ?_
    refine dq_iln 3 101 (by decide +kernel) rfl g4 ?_
    rcases di hh with ⟨q10, hh⟩ | ⟨q10, hh⟩
    · refine dq_1 .eq 7 true 108 q10 (by decide +kernel) ?_
      refine dq_aln 0 109 (by decide +kernel) rfl g1 ?_
      obtain ⟨p11, q12, hh⟩ := db hh
      refine dq_gR 75 27 [15] 112 (by decide +kernel) rfl q12 ?_
      refine dq_iln 1 113 (by decide +kernel) rfl g2 ?_
      obtain ⟨x13, q14, hh⟩ := db hh
      refine dq_aI 114 (by decide +kernel) rfl q14 ?_
      exact c327_114 hD hz _ _ _ _ _  hh
    · refine dq_1 .eq 7 false 104 q10 (by decide +kernel) ?_
      refine dq_S (.iconst 5) 1 [] 105 _ [.int 5, .int (8 * (i2 + 1))] (by decide +kernel) rfl ?_
      refine dq_S (.goto 9) 3 [] 114 _ [.int 5, .int (8 * (i2 + 1))] (by decide +kernel) rfl ?_
      exact c327_114 hD hz _ _ _ _ _  hh
  · refine dq_2 .eq 29 false 68 q9 (by decide +kernel) ?_
    refine dq_aln 0 69 (by decide +kernel) rfl g1 ?_
    refine dq_S (.iconst 4) 1 [] 70 _ [.int 4, va_rf o0] (by decide +kernel) rfl ?_
    refine dq_iln 3 71 (by decide +kernel) rfl g4 ?_
    rcases di hh with ⟨q15, hh⟩ | ⟨q15, hh⟩
    · refine dq_1 .eq 12 true 83 q15 (by decide +kernel) ?_
      refine dq_aln 0 84 (by decide +kernel) rfl g1 ?_
      obtain ⟨p16, q17, hh⟩ := db hh
      refine dq_gR 78 28 [15] 87 (by decide +kernel) rfl q17 ?_
      refine dq_iln 1 88 (by decide +kernel) rfl g2 ?_
      obtain ⟨x18, q19, hh⟩ := db hh
      refine dq_aI 89 (by decide +kernel) rfl q19 ?_
      exact c327_89 hD hz _ _ _ _ _ _  hh
    · refine dq_1 .eq 12 false 74 q15 (by decide +kernel) ?_
      refine dq_aln 0 75 (by decide +kernel) rfl g1 ?_
      obtain ⟨p20, q21, hh⟩ := db hh
      refine dq_gR 81 29 [15] 78 (by decide +kernel) rfl q21 ?_
      refine dq_iln 1 79 (by decide +kernel) rfl g2 ?_
      obtain ⟨x22, q23, hh⟩ := db hh
      refine dq_aI 80 (by decide +kernel) rfl q23 ?_
      refine dq_S (.goto 9) 3 [] 89 _ [.int x22, .int 4, va_rf o0] (by decide +kernel) rfl ?_
      exact c327_89 hD hz _ _ _ _ _ _  hh
def b327_0 (L : Nat) (xs : Nat → Int32) (zf : Value) (D : dD) (w : Nat) (o0 : Option Nat) (i1 : Int32) (h : rm_H) : Option dR :=
  (dgR L xs h 27 [15] o0).bind fun p1 =>
  (daI L xs h p1 i1).bind fun x3 =>
  if mx_f2 .ne x3 6 = true then
    (dgR L xs h 31 [15] o0).bind fun p6 =>
    (daJ L xs h p6 i1).bind fun y8 =>
    ((dcV L xs D 328 [15] o0 [.long y8] h).bind dxI).bind fun x10 =>
    if mx_f2 .ne x10.1 (-1) = true then
      (dgR L xs x10.2 27 [15] o0).bind fun p18 =>
      (daI L xs x10.2 p18 i1).bind fun x20 =>
      if mx_f2 .ne x20 5 = true then
        b327_57 L xs zf D w o0 i1 x10.1 0 x10.2
      else
        b327_57 L xs zf D w o0 i1 x10.1 1 x10.2
    else
      (dgR L xs x10.2 29 [15] o0).bind fun p23 =>
      (daI L xs x10.2 p23 i1).bind fun x25 =>
      ((dcV L xs D 329 [15] o0 [.int 3, .int x25] x10.2).bind dxV).bind fun h27 =>
      drI (some .int) (-1) h27
  else
    drI (some .int) 0 h
theorem c327_0 {L : Nat} {xs : Nat → Int32} {zf : Value} {D : dD} {w k : Nat} (hD : dO L xs zf D k) (hz : zf.category = 1) : ∀ (o0 : Option Nat) (i1 : Int32) (lv : rm_L) (h : rm_H) (r : dR), rm_get lv 0 = some (va_rf o0) → rm_get lv 1 = some (.int i1) → b327_0 L xs zf D w  o0 i1 h = some r → dq L xs zf ah_M327 0 lv [] h (k + 1) r := by
  intro o0 i1 lv h r G0 G1 hh
  unfold b327_0 at hh
  refine dq_aln 0 1 (by decide +kernel) rfl G0 ?_
  obtain ⟨p1, q2, hh⟩ := db hh
  refine dq_gR 75 27 [15] 4 (by decide +kernel) rfl q2 ?_
  refine dq_iln 1 5 (by decide +kernel) rfl G1 ?_
  obtain ⟨x3, q4, hh⟩ := db hh
  refine dq_aI 6 (by decide +kernel) rfl q4 ?_
  refine dq_S (.bipush 6) 2 [] 8 _ [.int 6, .int x3] (by decide +kernel) rfl ?_
  rcases di hh with ⟨q5, hh⟩ | ⟨q5, hh⟩
  · refine dq_2 .ne 5 true 13 q5 (by decide +kernel) ?_
    refine dq_aln 0 14 (by decide +kernel) rfl G0 ?_
    refine dq_aln 0 15 (by decide +kernel) rfl G0 ?_
    obtain ⟨p6, q7, hh⟩ := db hh
    refine dq_gR 87 31 [15] 18 (by decide +kernel) rfl q7 ?_
    refine dq_iln 1 19 (by decide +kernel) rfl G1 ?_
    obtain ⟨y8, q9, hh⟩ := db hh
    refine dq_aJ 20 (by decide +kernel) rfl q9 ?_
    obtain ⟨x10, q11, hh⟩ := db hh
    obtain ⟨a12, q13, q11⟩ := db q11
    rw [dq_xI q11] at q13
    refine dq_cvi hD 403 328 5 1 [15] o0 [.long y8] [] 23 [.int x10.1] (by decide +kernel) ap_328 ⟨⟨Nat.le_of_ble_eq_true rfl, by decide⟩, rfl, rfl⟩ (dq_ok8 [1, 2] [] (dc_r (dc_j dc_n)) dc_n (by decide +kernel)) (by decide +kernel) rfl q13 rfl ?_
    refine dq_isn 2 24 (by decide +kernel) (by decide +kernel) ?_
    have g14 := dg_ne (i := 2) (u := .int x10.1) (by decide) (Or.inl (by decide)) G0
    have g15 := dg_ne (i := 2) (u := .int x10.1) (by decide) (Or.inr rfl) G1
    have g16 := dg_eq (lv) 2 (.int x10.1)
    refine dq_iln 2 25 (by decide +kernel) rfl g16 ?_
    refine dq_S (.iconst (-1)) 1 [] 26 _ [.int (-1), .int x10.1] (by decide +kernel) rfl ?_
    rcases di hh with ⟨q17, hh⟩ | ⟨q17, hh⟩
    · refine dq_2 .ne 16 true 42 q17 (by decide +kernel) ?_
      refine dq_aln 0 43 (by decide +kernel) rfl g14 ?_
      obtain ⟨p18, q19, hh⟩ := db hh
      refine dq_gR 75 27 [15] 46 (by decide +kernel) rfl q19 ?_
      refine dq_iln 1 47 (by decide +kernel) rfl g15 ?_
      obtain ⟨x20, q21, hh⟩ := db hh
      refine dq_aI 48 (by decide +kernel) rfl q21 ?_
      refine dq_S (.iconst 5) 1 [] 49 _ [.int 5, .int x20] (by decide +kernel) rfl ?_
      rcases di hh with ⟨q22, hh⟩ | ⟨q22, hh⟩
      · refine dq_2 .ne 7 true 56 q22 (by decide +kernel) ?_
        refine dq_S (.iconst 0) 1 [] 57 _ [.int 0] (by decide +kernel) rfl ?_
        exact c327_57 hD hz _ _ _ _ _ _ _ g14 g15 g16 hh
      · refine dq_2 .ne 7 false 52 q22 (by decide +kernel) ?_
        refine dq_S (.iconst 1) 1 [] 53 _ [.int 1] (by decide +kernel) rfl ?_
        refine dq_S (.goto 4) 3 [] 57 _ [.int 1] (by decide +kernel) rfl ?_
        exact c327_57 hD hz _ _ _ _ _ _ _ g14 g15 g16 hh
    · refine dq_2 .ne 16 false 29 q17 (by decide +kernel) ?_
      refine dq_aln 0 30 (by decide +kernel) rfl g14 ?_
      refine dq_S (.iconst 3) 1 [] 31 _ [.int 3, va_rf o0] (by decide +kernel) rfl ?_
      refine dq_aln 0 32 (by decide +kernel) rfl g14 ?_
      obtain ⟨p23, q24, hh⟩ := db hh
      refine dq_gR 81 29 [15] 35 (by decide +kernel) rfl q24 ?_
      refine dq_iln 1 36 (by decide +kernel) rfl g15 ?_
      obtain ⟨x25, q26, hh⟩ := db hh
      refine dq_aI 37 (by decide +kernel) rfl q26 ?_
      obtain ⟨h27, q28, hh⟩ := db hh
      obtain ⟨a29, q30, q28⟩ := db q28
      rw [dq_xV q28] at q30
      refine dq_cvi hD 407 329 5 2 [15] o0 [.int 3, .int x25] [] 40 [] (by decide +kernel) ap_329 ⟨⟨Nat.le_of_ble_eq_true rfl, by decide⟩, rfl, rfl⟩ (dq_ok8 [1, 1, 1] [] (dc_r (dc_i (dc_i dc_n))) dc_n (by decide +kernel)) (by decide +kernel) rfl q30 rfl ?_
      refine dq_S (.iconst (-1)) 1 [] 41 _ [.int (-1)] (by decide +kernel) rfl ?_
      exact dq_retI (some .int) (by decide +kernel) rfl hh
  · refine dq_2 .ne 5 false 11 q5 (by decide +kernel) ?_
    refine dq_S (.iconst 0) 1 [] 12 _ [.int 0] (by decide +kernel) rfl ?_
    exact dq_retI (some .int) (by decide +kernel) rfl hh
def f327 (L : Nat) (xs : Nat → Int32) (zf : Value) (D : dD) (w : Nat) (As : List Value) (h : rm_H) : Option dR := match As with
  | [v0, .int i1] => (rm_rf v0).bind fun o0 => b327_0 L xs zf D w o0 i1 h
  | _ => none
theorem d327 {L : Nat} {xs : Nat → Int32} {zf : Value} {D : dD} {w k : Nat} (hD : dO L xs zf D k) (hz : zf.category = 1) (As : List Value) (h : rm_H) (r : dR) (hh : f327 L xs zf D w As h = some r) : dq L xs zf ah_M327 0 (lv_args 0 As) [] h (k + 1) r := by
  unfold f327 at hh
  split at hh
  · obtain ⟨o0, e0, hb0⟩ := db hh
    have e0 := rm_rf_v _ _ e0
    subst e0
    refine c327_0 hD hz _ _ _ _ _ ?_ ?_ hb0
    all_goals (simp only [la_r, la_i, la_j]; rfl)
  · cases hh
def b328_2 (L : Nat) (xs : Nat → Int32) (zf : Value) (D : dD) (w : Nat) : Nat → Option Nat → Int64 → Int32 → rm_H → Option dR
  | 0, _, _, _, _ => none
  | n + 1, o0, j1, i3, h =>
    (dgI L xs h 32 [15] o0).bind fun x1 =>
    if mx_f2 .ge i3 x1 = true then
      drI (some .int) (-1) h
    else
      (dgR L xs h 33 [15] o0).bind fun p4 =>
      (daJ L xs h p4 i3).bind fun y6 =>
      if mx_f1 .ne (lg_cmp y6 j1) = true then
        b328_2 L xs zf D w n o0 j1 (i3 + 1) h
      else
        drI (some .int) i3 h
theorem c328_2 {L : Nat} {xs : Nat → Int32} {zf : Value} {D : dD} {w k : Nat} (hD : dO L xs zf D k) (hz : zf.category = 1) : ∀ (n : Nat) (o0 : Option Nat) (j1 : Int64) (i3 : Int32) (lv : rm_L) (h : rm_H) (r : dR), rm_get lv 0 = some (va_rf o0) → rm_get lv 1 = some (.long j1) → rm_get lv 3 = some (.int i3) → b328_2 L xs zf D w n  o0 j1 i3 h = some r → dq L xs zf ah_M328 2 lv [] h (k + 1) r := by
  intro n
  induction n with
  | zero =>
    intro o0 j1 i3 lv h r G0 G1 G3 hh
    cases hh
  | succ n ih =>
    intro o0 j1 i3 lv h r G0 G1 G3 hh
    rw [b328_2] at hh
    refine dq_iln 3 3 (by decide +kernel) rfl G3 ?_
    refine dq_aln 0 4 (by decide +kernel) rfl G0 ?_
    obtain ⟨x1, q2, hh⟩ := db hh
    refine dq_gI 326 32 [15] 7 (by decide +kernel) rfl q2 ?_
    rcases di hh with ⟨q3, hh⟩ | ⟨q3, hh⟩
    · refine dq_2 .ge 22 true 29 q3 (by decide +kernel) ?_
      refine dq_S (.iconst (-1)) 1 [] 30 _ [.int (-1)] (by decide +kernel) rfl ?_
      exact dq_retI (some .int) (by decide +kernel) rfl hh
    · refine dq_2 .ge 22 false 10 q3 (by decide +kernel) ?_
      refine dq_aln 0 11 (by decide +kernel) rfl G0 ?_
      obtain ⟨p4, q5, hh⟩ := db hh
      refine dq_gR 90 33 [15] 14 (by decide +kernel) rfl q5 ?_
      refine dq_iln 3 15 (by decide +kernel) rfl G3 ?_
      obtain ⟨y6, q7, hh⟩ := db hh
      refine dq_aJ 16 (by decide +kernel) rfl q7 ?_
      refine dq_lln 1 17 (by decide +kernel) rfl G1 ?_
      refine dq_S (.lcmp) 1 [] 18 _ [.int (lg_cmp y6 j1)] (by decide +kernel) rfl ?_
      rcases di hh with ⟨q8, hh⟩ | ⟨q8, hh⟩
      · refine dq_1 .ne 5 true 23 q8 (by decide +kernel) ?_
        refine dq_incy 3 1 1 26 (by decide +kernel) ⟨rfl, by decide +kernel, by decide +kernel⟩ G3 ?_
        have g9 := dg_ne (i := 3) (u := .int (i3 + 1)) (by decide) (Or.inl (by decide)) G0
        have g10 := dg_ne (i := 3) (u := .int (i3 + 1)) (by decide) (Or.inl (by decide)) G1
        have g11 := dg_eq (lv) 3 (.int (i3 + 1))
        refine dq_S (.goto (-24)) 3 [] 2 _ [] (by decide +kernel) rfl ?_
        exact ih _ _ _ _ _ _ g9 g10 g11 hh
      · refine dq_1 .ne 5 false 21 q8 (by decide +kernel) ?_
        refine dq_iln 3 22 (by decide +kernel) rfl G3 ?_
        exact dq_retI (some .int) (by decide +kernel) rfl hh
def b328_0 (L : Nat) (xs : Nat → Int32) (zf : Value) (D : dD) (w : Nat) (o0 : Option Nat) (j1 : Int64) (h : rm_H) : Option dR :=
  b328_2 L xs zf D w w o0 j1 0 h
theorem c328_0 {L : Nat} {xs : Nat → Int32} {zf : Value} {D : dD} {w k : Nat} (hD : dO L xs zf D k) (hz : zf.category = 1) : ∀ (o0 : Option Nat) (j1 : Int64) (lv : rm_L) (h : rm_H) (r : dR), rm_get lv 0 = some (va_rf o0) → rm_get lv 1 = some (.long j1) → b328_0 L xs zf D w  o0 j1 h = some r → dq L xs zf ah_M328 0 lv [] h (k + 1) r := by
  intro o0 j1 lv h r G0 G1 hh
  unfold b328_0 at hh
  refine dq_S (.iconst 0) 1 [] 1 _ [.int 0] (by decide +kernel) rfl ?_
  refine dq_isn 3 2 (by decide +kernel) (by decide +kernel) ?_
  have g1 := dg_ne (i := 3) (u := .int 0) (by decide) (Or.inl (by decide)) G0
  have g2 := dg_ne (i := 3) (u := .int 0) (by decide) (Or.inl (by decide)) G1
  have g3 := dg_eq (lv) 3 (.int 0)
  exact c328_2 hD hz _ _ _ _ _ _ _ g1 g2 g3 hh
def f328 (L : Nat) (xs : Nat → Int32) (zf : Value) (D : dD) (w : Nat) (As : List Value) (h : rm_H) : Option dR := match As with
  | [v0, .long j1] => (rm_rf v0).bind fun o0 => b328_0 L xs zf D w o0 j1 h
  | _ => none
theorem d328 {L : Nat} {xs : Nat → Int32} {zf : Value} {D : dD} {w k : Nat} (hD : dO L xs zf D k) (hz : zf.category = 1) (As : List Value) (h : rm_H) (r : dR) (hh : f328 L xs zf D w As h = some r) : dq L xs zf ah_M328 0 (lv_args 0 As) [] h (k + 1) r := by
  unfold f328 at hh
  split at hh
  · obtain ⟨o0, e0, hb0⟩ := db hh
    have e0 := rm_rf_v _ _ e0
    subst e0
    refine c328_0 hD hz _ _ _ _ _ ?_ ?_ hb0
    all_goals (simp only [la_r, la_i, la_j]; rfl)
  · cases hh
def b329_31 (L : Nat) (xs : Nat → Int32) (zf : Value) (D : dD) (w : Nat) (h : rm_H) : Option dR :=
  some (none, h)
theorem c329_31 {L : Nat} {xs : Nat → Int32} {zf : Value} {D : dD} {w k : Nat} (hD : dO L xs zf D k) (hz : zf.category = 1) : ∀ (lv : rm_L) (h : rm_H) (r : dR), b329_31 L xs zf D w  h = some r → dq L xs zf ah_M329 31 lv [] h (k + 1) r := by
  intro lv h r hh
  unfold b329_31 at hh
  cases hh
  exact dq_ret0 (by decide +kernel) rfl
def b329_32 (L : Nat) (xs : Nat → Int32) (zf : Value) (D : dD) (w : Nat) (o0 : Option Nat) (i1 : Int32) (i2 : Int32) (h : rm_H) : Option dR :=
  (dpF h 57 [15] o0 (.int i1)).bind fun h1 =>
  (dpF h1 58 [15] o0 (.int i2)).bind fun h3 =>
  some (none, h3)
theorem c329_32 {L : Nat} {xs : Nat → Int32} {zf : Value} {D : dD} {w k : Nat} (hD : dO L xs zf D k) (hz : zf.category = 1) : ∀ (o0 : Option Nat) (i1 : Int32) (i2 : Int32) (lv : rm_L) (h : rm_H) (r : dR), rm_get lv 0 = some (va_rf o0) → rm_get lv 1 = some (.int i1) → rm_get lv 2 = some (.int i2) → b329_32 L xs zf D w  o0 i1 i2 h = some r → dq L xs zf ah_M329 32 lv [] h (k + 1) r := by
  intro o0 i1 i2 lv h r G0 G1 G2 hh
  unfold b329_32 at hh
  refine dq_aln 0 33 (by decide +kernel) rfl G0 ?_
  refine dq_iln 1 34 (by decide +kernel) rfl G1 ?_
  obtain ⟨h1, q2, hh⟩ := db hh
  refine dq_put 295 57 [15] 37 (by decide +kernel) rfl q2 ?_
  refine dq_aln 0 38 (by decide +kernel) rfl G0 ?_
  refine dq_iln 2 39 (by decide +kernel) rfl G2 ?_
  obtain ⟨h3, q4, hh⟩ := db hh
  refine dq_put 151 58 [15] 42 (by decide +kernel) rfl q4 ?_
  cases hh
  exact dq_ret0 (by decide +kernel) rfl
def b329_0 (L : Nat) (xs : Nat → Int32) (zf : Value) (D : dD) (w : Nat) (o0 : Option Nat) (i1 : Int32) (i2 : Int32) (h : rm_H) : Option dR :=
  (dgI L xs h 57 [15] o0).bind fun x1 =>
  if mx_f1 .le x1 = true then
    b329_32 L xs zf D w o0 i1 i2 h
  else
    (dgI L xs h 58 [15] o0).bind fun x4 =>
    if mx_f2 .gt i2 x4 = true then
      b329_31 L xs zf D w h
    else
      (dgI L xs h 58 [15] o0).bind fun x7 =>
      if mx_f2 .ne i2 x7 = true then
        b329_32 L xs zf D w o0 i1 i2 h
      else
        (dgI L xs h 57 [15] o0).bind fun x10 =>
        if mx_f2 .lt i1 x10 = true then
          b329_32 L xs zf D w o0 i1 i2 h
        else
          b329_31 L xs zf D w h
theorem c329_0 {L : Nat} {xs : Nat → Int32} {zf : Value} {D : dD} {w k : Nat} (hD : dO L xs zf D k) (hz : zf.category = 1) : ∀ (o0 : Option Nat) (i1 : Int32) (i2 : Int32) (lv : rm_L) (h : rm_H) (r : dR), rm_get lv 0 = some (va_rf o0) → rm_get lv 1 = some (.int i1) → rm_get lv 2 = some (.int i2) → b329_0 L xs zf D w  o0 i1 i2 h = some r → dq L xs zf ah_M329 0 lv [] h (k + 1) r := by
  intro o0 i1 i2 lv h r G0 G1 G2 hh
  unfold b329_0 at hh
  refine dq_aln 0 1 (by decide +kernel) rfl G0 ?_
  obtain ⟨x1, q2, hh⟩ := db hh
  refine dq_gI 295 57 [15] 4 (by decide +kernel) rfl q2 ?_
  rcases di hh with ⟨q3, hh⟩ | ⟨q3, hh⟩
  · refine dq_1 .le 28 true 32 q3 (by decide +kernel) ?_
    exact c329_32 hD hz _ _ _ _ _ _ G0 G1 G2 hh
  · refine dq_1 .le 28 false 7 q3 (by decide +kernel) ?_
    refine dq_iln 2 8 (by decide +kernel) rfl G2 ?_
    refine dq_aln 0 9 (by decide +kernel) rfl G0 ?_
    obtain ⟨x4, q5, hh⟩ := db hh
    refine dq_gI 151 58 [15] 12 (by decide +kernel) rfl q5 ?_
    rcases di hh with ⟨q6, hh⟩ | ⟨q6, hh⟩
    · refine dq_2 .gt 19 true 31 q6 (by decide +kernel) ?_
      exact c329_31 hD hz  _ _ _  hh
    · refine dq_2 .gt 19 false 15 q6 (by decide +kernel) ?_
      refine dq_iln 2 16 (by decide +kernel) rfl G2 ?_
      refine dq_aln 0 17 (by decide +kernel) rfl G0 ?_
      obtain ⟨x7, q8, hh⟩ := db hh
      refine dq_gI 151 58 [15] 20 (by decide +kernel) rfl q8 ?_
      rcases di hh with ⟨q9, hh⟩ | ⟨q9, hh⟩
      · refine dq_2 .ne 12 true 32 q9 (by decide +kernel) ?_
        exact c329_32 hD hz _ _ _ _ _ _ G0 G1 G2 hh
      · refine dq_2 .ne 12 false 23 q9 (by decide +kernel) ?_
        refine dq_iln 1 24 (by decide +kernel) rfl G1 ?_
        refine dq_aln 0 25 (by decide +kernel) rfl G0 ?_
        obtain ⟨x10, q11, hh⟩ := db hh
        refine dq_gI 295 57 [15] 28 (by decide +kernel) rfl q11 ?_
        rcases di hh with ⟨q12, hh⟩ | ⟨q12, hh⟩
        · refine dq_2 .lt 4 true 32 q12 (by decide +kernel) ?_
          exact c329_32 hD hz _ _ _ _ _ _ G0 G1 G2 hh
        · refine dq_2 .lt 4 false 31 q12 (by decide +kernel) ?_
          exact c329_31 hD hz  _ _ _  hh
def f329 (L : Nat) (xs : Nat → Int32) (zf : Value) (D : dD) (w : Nat) (As : List Value) (h : rm_H) : Option dR := match As with
  | [v0, .int i1, .int i2] => (rm_rf v0).bind fun o0 => b329_0 L xs zf D w o0 i1 i2 h
  | _ => none
theorem d329 {L : Nat} {xs : Nat → Int32} {zf : Value} {D : dD} {w k : Nat} (hD : dO L xs zf D k) (hz : zf.category = 1) (As : List Value) (h : rm_H) (r : dR) (hh : f329 L xs zf D w As h = some r) : dq L xs zf ah_M329 0 (lv_args 0 As) [] h (k + 1) r := by
  unfold f329 at hh
  split at hh
  · obtain ⟨o0, e0, hb0⟩ := db hh
    have e0 := rm_rf_v _ _ e0
    subst e0
    refine c329_0 hD hz _ _ _ _ _ _ ?_ ?_ ?_ hb0
    all_goals (simp only [la_r, la_i, la_j]; rfl)
  · cases hh
def b330_108 (L : Nat) (xs : Nat → Int32) (zf : Value) (D : dD) (w : Nat) (K54 : Option Nat → Int32 → Int32 → Int32 → rm_H → Option dR) (K74 : Option Nat → Int32 → Int32 → Int32 → Int32 → rm_H → Option dR) (o0 : Option Nat) (i1 : Int32) (i2 : Int32) (i3 : Int32) (i4 : Int32) (h : rm_H) : Option dR :=
  K74 o0 i1 i2 i3 (i4 + 1) h
theorem c330_108 {L : Nat} {xs : Nat → Int32} {zf : Value} {D : dD} {w k : Nat} {K54 : Option Nat → Int32 → Int32 → Int32 → rm_H → Option dR} {K74 : Option Nat → Int32 → Int32 → Int32 → Int32 → rm_H → Option dR} (hD : dO L xs zf D k) (hz : zf.category = 1) (hK54 : ∀ (o0 : Option Nat) (i1 : Int32) (i2 : Int32) (i3 : Int32) (lv : rm_L) (h : rm_H) (r : dR), rm_get lv 0 = some (va_rf o0) → rm_get lv 1 = some (.int i1) → rm_get lv 2 = some (.int i2) → rm_get lv 3 = some (.int i3) → K54 o0 i1 i2 i3 h = some r → dq L xs zf ah_M330 54 lv [] h (k + 1) r) (hK74 : ∀ (o0 : Option Nat) (i1 : Int32) (i2 : Int32) (i3 : Int32) (i4 : Int32) (lv : rm_L) (h : rm_H) (r : dR), rm_get lv 0 = some (va_rf o0) → rm_get lv 1 = some (.int i1) → rm_get lv 2 = some (.int i2) → rm_get lv 3 = some (.int i3) → rm_get lv 4 = some (.int i4) → K74 o0 i1 i2 i3 i4 h = some r → dq L xs zf ah_M330 74 lv [] h (k + 1) r) : ∀ (o0 : Option Nat) (i1 : Int32) (i2 : Int32) (i3 : Int32) (i4 : Int32) (lv : rm_L) (h : rm_H) (r : dR), rm_get lv 0 = some (va_rf o0) → rm_get lv 1 = some (.int i1) → rm_get lv 2 = some (.int i2) → rm_get lv 3 = some (.int i3) → rm_get lv 4 = some (.int i4) → b330_108 L xs zf D w K54 K74  o0 i1 i2 i3 i4 h = some r → dq L xs zf ah_M330 108 lv [] h (k + 1) r := by
  intro o0 i1 i2 i3 i4 lv h r G0 G1 G2 G3 G4 hh
  unfold b330_108 at hh
  refine dq_incy 4 1 1 111 (by decide +kernel) ⟨rfl, by decide +kernel, by decide +kernel⟩ G4 ?_
  have g1 := dg_ne (i := 4) (u := .int (i4 + 1)) (by decide) (Or.inl (by decide)) G0
  have g2 := dg_ne (i := 4) (u := .int (i4 + 1)) (by decide) (Or.inl (by decide)) G1
  have g3 := dg_ne (i := 4) (u := .int (i4 + 1)) (by decide) (Or.inl (by decide)) G2
  have g4 := dg_ne (i := 4) (u := .int (i4 + 1)) (by decide) (Or.inr rfl) G3
  have g5 := dg_eq (lv) 4 (.int (i4 + 1))
  refine dq_S (.goto (-37)) 3 [] 74 _ [] (by decide +kernel) rfl ?_
  exact hK74 _ _ _ _ _ _ _ _ g1 g2 g3 g4 g5 hh
def b330_166 (L : Nat) (xs : Nat → Int32) (zf : Value) (D : dD) (w : Nat) (K54 : Option Nat → Int32 → Int32 → Int32 → rm_H → Option dR) (o0 : Option Nat) (i1 : Int32) (i2 : Int32) (i3 : Int32) (h : rm_H) : Option dR :=
  K54 o0 i1 i2 (i3 + 1) h
theorem c330_166 {L : Nat} {xs : Nat → Int32} {zf : Value} {D : dD} {w k : Nat} {K54 : Option Nat → Int32 → Int32 → Int32 → rm_H → Option dR} (hD : dO L xs zf D k) (hz : zf.category = 1) (hK54 : ∀ (o0 : Option Nat) (i1 : Int32) (i2 : Int32) (i3 : Int32) (lv : rm_L) (h : rm_H) (r : dR), rm_get lv 0 = some (va_rf o0) → rm_get lv 1 = some (.int i1) → rm_get lv 2 = some (.int i2) → rm_get lv 3 = some (.int i3) → K54 o0 i1 i2 i3 h = some r → dq L xs zf ah_M330 54 lv [] h (k + 1) r) : ∀ (o0 : Option Nat) (i1 : Int32) (i2 : Int32) (i3 : Int32) (lv : rm_L) (h : rm_H) (r : dR), rm_get lv 0 = some (va_rf o0) → rm_get lv 1 = some (.int i1) → rm_get lv 2 = some (.int i2) → rm_get lv 3 = some (.int i3) → b330_166 L xs zf D w K54  o0 i1 i2 i3 h = some r → dq L xs zf ah_M330 166 lv [] h (k + 1) r := by
  intro o0 i1 i2 i3 lv h r G0 G1 G2 G3 hh
  unfold b330_166 at hh
  refine dq_incy 3 1 1 169 (by decide +kernel) ⟨rfl, by decide +kernel, by decide +kernel⟩ G3 ?_
  have g1 := dg_ne (i := 3) (u := .int (i3 + 1)) (by decide) (Or.inl (by decide)) G0
  have g2 := dg_ne (i := 3) (u := .int (i3 + 1)) (by decide) (Or.inl (by decide)) G1
  have g3 := dg_ne (i := 3) (u := .int (i3 + 1)) (by decide) (Or.inr rfl) G2
  have g4 := dg_eq (lv) 3 (.int (i3 + 1))
  refine dq_S (.goto (-115)) 3 [] 54 _ [] (by decide +kernel) rfl ?_
  exact hK54 _ _ _ _ _ _ _ g1 g2 g3 g4 hh
def b330_74 (L : Nat) (xs : Nat → Int32) (zf : Value) (D : dD) (w : Nat) (K54 : Option Nat → Int32 → Int32 → Int32 → rm_H → Option dR) : Nat → Option Nat → Int32 → Int32 → Int32 → Int32 → rm_H → Option dR
  | 0, _, _, _, _, _, _ => none
  | n + 1, o0, i1, i2, i3, i4, h =>
    if mx_f2 .ge i4 i3 = true then
      (dgR L xs h 30 [15] o0).bind fun p2 =>
      (dgR L xs h 55 [15] o0).bind fun p4 =>
      (daI L xs h p4 i3).bind fun x6 =>
      (daI L xs h p2 x6).bind fun x8 =>
      if mx_f1 .eq i2 = true then
        b330_166 L xs zf D w K54 o0 i1 i2 i3 h
      else
        (dgR L xs h 43 [15] o0).bind fun p16 =>
        (daI L xs h p16 i1).bind fun x18 =>
        if mx_f2 .eq x18 1 = true then
          b330_166 L xs zf D w K54 o0 i1 i2 i3 h
        else
          if mx_f2 .eq x8 (-1) = true then
            b330_166 L xs zf D w K54 o0 i1 i2 i3 h
          else
            ((D 331 [.int x8] h).bind dxI).bind fun x22 =>
            if mx_f1 .ne x22.1 = true then
              b330_166 L xs zf D w K54 o0 i1 i2 i3 x22.2
            else
              (dgR L xs x22.2 54 [15] o0).bind fun p27 =>
              (daI L xs x22.2 p27 i3).bind fun x29 =>
              ((dcV L xs D 329 [15] o0 [.int 4, .int x29] x22.2).bind dxV).bind fun h31 =>
              b330_166 L xs zf D w K54 o0 i1 i2 i3 h31
    else
      (dgR L xs h 53 [15] o0).bind fun p35 =>
      (daJ L xs h p35 i4).bind fun y37 =>
      (dgR L xs h 53 [15] o0).bind fun p39 =>
      (daJ L xs h p39 i3).bind fun y41 =>
      if mx_f1 .ne (lg_cmp y37 y41) = true then
        b330_108 L xs zf D w K54 (b330_74 L xs zf D w K54 n) o0 i1 i2 i3 i4 h
      else
        (dgR L xs h 54 [15] o0).bind fun p44 =>
        (daI L xs h p44 i3).bind fun x46 =>
        ((dcV L xs D 329 [15] o0 [.int 2, .int x46] h).bind dxV).bind fun h48 =>
        b330_108 L xs zf D w K54 (b330_74 L xs zf D w K54 n) o0 i1 i2 i3 i4 h48
theorem c330_74 {L : Nat} {xs : Nat → Int32} {zf : Value} {D : dD} {w k : Nat} {K54 : Option Nat → Int32 → Int32 → Int32 → rm_H → Option dR} (hD : dO L xs zf D k) (hz : zf.category = 1) (hK54 : ∀ (o0 : Option Nat) (i1 : Int32) (i2 : Int32) (i3 : Int32) (lv : rm_L) (h : rm_H) (r : dR), rm_get lv 0 = some (va_rf o0) → rm_get lv 1 = some (.int i1) → rm_get lv 2 = some (.int i2) → rm_get lv 3 = some (.int i3) → K54 o0 i1 i2 i3 h = some r → dq L xs zf ah_M330 54 lv [] h (k + 1) r) : ∀ (n : Nat) (o0 : Option Nat) (i1 : Int32) (i2 : Int32) (i3 : Int32) (i4 : Int32) (lv : rm_L) (h : rm_H) (r : dR), rm_get lv 0 = some (va_rf o0) → rm_get lv 1 = some (.int i1) → rm_get lv 2 = some (.int i2) → rm_get lv 3 = some (.int i3) → rm_get lv 4 = some (.int i4) → b330_74 L xs zf D w K54 n  o0 i1 i2 i3 i4 h = some r → dq L xs zf ah_M330 74 lv [] h (k + 1) r := by
  intro n
  induction n with
  | zero =>
    intro o0 i1 i2 i3 i4 lv h r G0 G1 G2 G3 G4 hh
    cases hh
  | succ n ih =>
    intro o0 i1 i2 i3 i4 lv h r G0 G1 G2 G3 G4 hh
    rw [b330_74] at hh
    refine dq_il 4 76 (by decide +kernel) rfl G4 ?_
    refine dq_iln 3 77 (by decide +kernel) rfl G3 ?_
    rcases di hh with ⟨q1, hh⟩ | ⟨q1, hh⟩
    · refine dq_2 .ge 37 true 114 q1 (by decide +kernel) ?_
      refine dq_aln 0 115 (by decide +kernel) rfl G0 ?_
      obtain ⟨p2, q3, hh⟩ := db hh
      refine dq_gR 84 30 [15] 118 (by decide +kernel) rfl q3 ?_
      refine dq_aln 0 119 (by decide +kernel) rfl G0 ?_
      obtain ⟨p4, q5, hh⟩ := db hh
      refine dq_gR 148 55 [15] 122 (by decide +kernel) rfl q5 ?_
      refine dq_iln 3 123 (by decide +kernel) rfl G3 ?_
      obtain ⟨x6, q7, hh⟩ := db hh
      refine dq_aI 124 (by decide +kernel) rfl q7 ?_
      obtain ⟨x8, q9, hh⟩ := db hh
      refine dq_aI 125 (by decide +kernel) rfl q9 ?_
      refine dq_is 4 127 (by decide +kernel) (by decide +kernel) ?_
      have g10 := dg_ne (i := 4) (u := .int x8) (by decide) (Or.inl (by decide)) G0
      have g11 := dg_ne (i := 4) (u := .int x8) (by decide) (Or.inl (by decide)) G1
      have g12 := dg_ne (i := 4) (u := .int x8) (by decide) (Or.inl (by decide)) G2
      have g13 := dg_ne (i := 4) (u := .int x8) (by decide) (Or.inr rfl) G3
      have g14 := dg_eq (lv) 4 (.int x8)
      refine dq_iln 2 128 (by decide +kernel) rfl g12 ?_
      rcases di hh with ⟨q15, hh⟩ | ⟨q15, hh⟩
      · refine dq_1 .eq 38 true 166 q15 (by decide +kernel) ?_
        exact c330_166 hD hz hK54 _ _ _ _ _ _ _ g10 g11 g12 g13 hh
      · refine dq_1 .eq 38 false 131 q15 (by decide +kernel) ?_
        refine dq_aln 0 132 (by decide +kernel) rfl g10 ?_
        obtain ⟨p16, q17, hh⟩ := db hh
        refine dq_gR 115 43 [15] 135 (by decide +kernel) rfl q17 ?_
        refine dq_iln 1 136 (by decide +kernel) rfl g11 ?_
        obtain ⟨x18, q19, hh⟩ := db hh
        refine dq_aI 137 (by decide +kernel) rfl q19 ?_
        refine dq_S (.iconst 1) 1 [] 138 _ [.int 1, .int x18] (by decide +kernel) rfl ?_
        rcases di hh with ⟨q20, hh⟩ | ⟨q20, hh⟩
        · refine dq_2 .eq 28 true 166 q20 (by decide +kernel) ?_
          exact c330_166 hD hz hK54 _ _ _ _ _ _ _ g10 g11 g12 g13 hh
        · refine dq_2 .eq 28 false 141 q20 (by decide +kernel) ?_
          refine dq_il 4 143 (by decide +kernel) rfl g14 ?_
          refine dq_S (.iconst (-1)) 1 [] 144 _ [.int (-1), .int x8] (by decide +kernel) rfl ?_
          rcases di hh with ⟨q21, hh⟩ | ⟨q21, hh⟩
          · refine dq_2 .eq 22 true 166 q21 (by decide +kernel) ?_
            exact c330_166 hD hz hK54 _ _ _ _ _ _ _ g10 g11 g12 g13 hh
          · refine dq_2 .eq 22 false 147 q21 (by decide +kernel) ?_
            refine dq_il 4 149 (by decide +kernel) rfl g14 ?_
            obtain ⟨x22, q23, hh⟩ := db hh
            obtain ⟨a24, q25, q23⟩ := db q23
            rw [dq_xI q23] at q25
            refine dq_cst hD 418 331 0 1 [.int x8] [] 152 [.int x22.1] (by decide +kernel) ap_331 ⟨⟨Nat.le_of_ble_eq_true rfl, by decide⟩, rfl, rfl⟩ (dq_ok8 [1] [] (dc_i dc_n) dc_n (by decide +kernel)) (by decide +kernel) rfl q25 rfl ?_
            rcases di hh with ⟨q26, hh⟩ | ⟨q26, hh⟩
            · refine dq_1 .ne 14 true 166 q26 (by decide +kernel) ?_
              exact c330_166 hD hz hK54 _ _ _ _ _ _ _ g10 g11 g12 g13 hh
            · refine dq_1 .ne 14 false 155 q26 (by decide +kernel) ?_
              refine dq_aln 0 156 (by decide +kernel) rfl g10 ?_
              refine dq_S (.iconst 4) 1 [] 157 _ [.int 4, va_rf o0] (by decide +kernel) rfl ?_
              refine dq_aln 0 158 (by decide +kernel) rfl g10 ?_
              obtain ⟨p27, q28, hh⟩ := db hh
              refine dq_gR 145 54 [15] 161 (by decide +kernel) rfl q28 ?_
              refine dq_iln 3 162 (by decide +kernel) rfl g13 ?_
              obtain ⟨x29, q30, hh⟩ := db hh
              refine dq_aI 163 (by decide +kernel) rfl q30 ?_
              obtain ⟨h31, q32, hh⟩ := db hh
              obtain ⟨a33, q34, q32⟩ := db q32
              rw [dq_xV q32] at q34
              refine dq_cvi hD 407 329 5 2 [15] o0 [.int 4, .int x29] [] 166 [] (by decide +kernel) ap_329 ⟨⟨Nat.le_of_ble_eq_true rfl, by decide⟩, rfl, rfl⟩ (dq_ok8 [1, 1, 1] [] (dc_r (dc_i (dc_i dc_n))) dc_n (by decide +kernel)) (by decide +kernel) rfl q34 rfl ?_
              exact c330_166 hD hz hK54 _ _ _ _ _ _ _ g10 g11 g12 g13 hh
    · refine dq_2 .ge 37 false 80 q1 (by decide +kernel) ?_
      refine dq_aln 0 81 (by decide +kernel) rfl G0 ?_
      obtain ⟨p35, q36, hh⟩ := db hh
      refine dq_gR 142 53 [15] 84 (by decide +kernel) rfl q36 ?_
      refine dq_il 4 86 (by decide +kernel) rfl G4 ?_
      obtain ⟨y37, q38, hh⟩ := db hh
      refine dq_aJ 87 (by decide +kernel) rfl q38 ?_
      refine dq_aln 0 88 (by decide +kernel) rfl G0 ?_
      obtain ⟨p39, q40, hh⟩ := db hh
      refine dq_gR 142 53 [15] 91 (by decide +kernel) rfl q40 ?_
      refine dq_iln 3 92 (by decide +kernel) rfl G3 ?_
      obtain ⟨y41, q42, hh⟩ := db hh
      refine dq_aJ 93 (by decide +kernel) rfl q42 ?_
      refine dq_S (.lcmp) 1 [] 94 _ [.int (lg_cmp y37 y41)] (by decide +kernel) rfl ?_
      rcases di hh with ⟨q43, hh⟩ | ⟨q43, hh⟩
      · refine dq_1 .ne 14 true 108 q43 (by decide +kernel) ?_
        exact c330_108 hD hz hK54 ih _ _ _ _ _ _ _ _ G0 G1 G2 G3 G4 hh
      · refine dq_1 .ne 14 false 97 q43 (by decide +kernel) ?_
        refine dq_aln 0 98 (by decide +kernel) rfl G0 ?_
        refine dq_S (.iconst 2) 1 [] 99 _ [.int 2, va_rf o0] (by decide +kernel) rfl ?_
        refine dq_aln 0 100 (by decide +kernel) rfl G0 ?_
        obtain ⟨p44, q45, hh⟩ := db hh
        refine dq_gR 145 54 [15] 103 (by decide +kernel) rfl q45 ?_
        refine dq_iln 3 104 (by decide +kernel) rfl G3 ?_
        obtain ⟨x46, q47, hh⟩ := db hh
        refine dq_aI 105 (by decide +kernel) rfl q47 ?_
        obtain ⟨h48, q49, hh⟩ := db hh
        obtain ⟨a50, q51, q49⟩ := db q49
        rw [dq_xV q49] at q51
        refine dq_cvi hD 407 329 5 2 [15] o0 [.int 2, .int x46] [] 108 [] (by decide +kernel) ap_329 ⟨⟨Nat.le_of_ble_eq_true rfl, by decide⟩, rfl, rfl⟩ (dq_ok8 [1, 1, 1] [] (dc_r (dc_i (dc_i dc_n))) dc_n (by decide +kernel)) (by decide +kernel) rfl q51 rfl ?_
        exact c330_108 hD hz hK54 ih _ _ _ _ _ _ _ _ G0 G1 G2 G3 G4 hh
def b330_54 (L : Nat) (xs : Nat → Int32) (zf : Value) (D : dD) (w : Nat) : Nat → Option Nat → Int32 → Int32 → Int32 → rm_H → Option dR
  | 0, _, _, _, _, _ => none
  | n + 1, o0, i1, i2, i3, h =>
    (dgR L xs h 50 [15] o0).bind fun p1 =>
    (daI L xs h p1 (i1 + 1)).bind fun x3 =>
    if mx_f2 .ge i3 x3 = true then
      some (none, h)
    else
      (dgR L xs h 50 [15] o0).bind fun p6 =>
      (daI L xs h p6 i1).bind fun x8 =>
      b330_74 L xs zf D w (b330_54 L xs zf D w n) w o0 i1 i2 i3 x8 h
theorem c330_54 {L : Nat} {xs : Nat → Int32} {zf : Value} {D : dD} {w k : Nat} (hD : dO L xs zf D k) (hz : zf.category = 1) : ∀ (n : Nat) (o0 : Option Nat) (i1 : Int32) (i2 : Int32) (i3 : Int32) (lv : rm_L) (h : rm_H) (r : dR), rm_get lv 0 = some (va_rf o0) → rm_get lv 1 = some (.int i1) → rm_get lv 2 = some (.int i2) → rm_get lv 3 = some (.int i3) → b330_54 L xs zf D w n  o0 i1 i2 i3 h = some r → dq L xs zf ah_M330 54 lv [] h (k + 1) r := by
  intro n
  induction n with
  | zero =>
    intro o0 i1 i2 i3 lv h r G0 G1 G2 G3 hh
    cases hh
  | succ n ih =>
    intro o0 i1 i2 i3 lv h r G0 G1 G2 G3 hh
    rw [b330_54] at hh
    refine dq_iln 3 55 (by decide +kernel) rfl G3 ?_
    refine dq_aln 0 56 (by decide +kernel) rfl G0 ?_
    obtain ⟨p1, q2, hh⟩ := db hh
    refine dq_gR 136 50 [15] 59 (by decide +kernel) rfl q2 ?_
    refine dq_iln 1 60 (by decide +kernel) rfl G1 ?_
    refine dq_S (.iconst 1) 1 [] 61 _ [.int 1, .int i1, va_rf p1, .int i3] (by decide +kernel) rfl ?_
    refine dq_S (.iadd) 1 [] 62 _ [.int (i1 + 1), va_rf p1, .int i3] (by decide +kernel) rfl ?_
    obtain ⟨x3, q4, hh⟩ := db hh
    refine dq_aI 63 (by decide +kernel) rfl q4 ?_
    rcases di hh with ⟨q5, hh⟩ | ⟨q5, hh⟩
    · refine dq_2 .ge 109 true 172 q5 (by decide +kernel) ?_
      cases hh
      exact dq_ret0 (by decide +kernel) rfl
    · refine dq_2 .ge 109 false 66 q5 (by decide +kernel) ?_
      refine dq_aln 0 67 (by decide +kernel) rfl G0 ?_
      obtain ⟨p6, q7, hh⟩ := db hh
      refine dq_gR 136 50 [15] 70 (by decide +kernel) rfl q7 ?_
      refine dq_iln 1 71 (by decide +kernel) rfl G1 ?_
      obtain ⟨x8, q9, hh⟩ := db hh
      refine dq_aI 72 (by decide +kernel) rfl q9 ?_
      refine dq_is 4 74 (by decide +kernel) (by decide +kernel) ?_
      have g10 := dg_ne (i := 4) (u := .int x8) (by decide) (Or.inl (by decide)) G0
      have g11 := dg_ne (i := 4) (u := .int x8) (by decide) (Or.inl (by decide)) G1
      have g12 := dg_ne (i := 4) (u := .int x8) (by decide) (Or.inl (by decide)) G2
      have g13 := dg_ne (i := 4) (u := .int x8) (by decide) (Or.inr rfl) G3
      have g14 := dg_eq (lv) 4 (.int x8)
      exact c330_74 hD hz ih _ _ _ _ _ _ _ _ _ g10 g11 g12 g13 g14 hh
def b330_47 (L : Nat) (xs : Nat → Int32) (zf : Value) (D : dD) (w : Nat) (o0 : Option Nat) (i1 : Int32) (i2 : Int32) (h : rm_H) : Option dR :=
  (dgR L xs h 50 [15] o0).bind fun p1 =>
  (daI L xs h p1 i1).bind fun x3 =>
  b330_54 L xs zf D w w o0 i1 i2 x3 h
theorem c330_47 {L : Nat} {xs : Nat → Int32} {zf : Value} {D : dD} {w k : Nat} (hD : dO L xs zf D k) (hz : zf.category = 1) : ∀ (o0 : Option Nat) (i1 : Int32) (i2 : Int32) (lv : rm_L) (h : rm_H) (r : dR), rm_get lv 0 = some (va_rf o0) → rm_get lv 1 = some (.int i1) → rm_get lv 2 = some (.int i2) → b330_47 L xs zf D w  o0 i1 i2 h = some r → dq L xs zf ah_M330 47 lv [] h (k + 1) r := by
  intro o0 i1 i2 lv h r G0 G1 G2 hh
  unfold b330_47 at hh
  refine dq_aln 0 48 (by decide +kernel) rfl G0 ?_
  obtain ⟨p1, q2, hh⟩ := db hh
  refine dq_gR 136 50 [15] 51 (by decide +kernel) rfl q2 ?_
  refine dq_iln 1 52 (by decide +kernel) rfl G1 ?_
  obtain ⟨x3, q4, hh⟩ := db hh
  refine dq_aI 53 (by decide +kernel) rfl q4 ?_
  refine dq_isn 3 54 (by decide +kernel) (by decide +kernel) ?_
  have g5 := dg_ne (i := 3) (u := .int x3) (by decide) (Or.inl (by decide)) G0
  have g6 := dg_ne (i := 3) (u := .int x3) (by decide) (Or.inl (by decide)) G1
  have g7 := dg_ne (i := 3) (u := .int x3) (by decide) (Or.inr rfl) G2
  have g8 := dg_eq (lv) 3 (.int x3)
  exact c330_54 hD hz _ _ _ _ _ _ _ _ g5 g6 g7 g8 hh
def b330_0 (L : Nat) (xs : Nat → Int32) (zf : Value) (D : dD) (w : Nat) (o0 : Option Nat) (i1 : Int32) (h : rm_H) : Option dR :=
  (dgR L xs h 37 [15] o0).bind fun p1 =>
  (dgR L xs h 44 [15] o0).bind fun p3 =>
  (daI L xs h p3 i1).bind fun x5 =>
  (daB L xs h p1 x5).bind fun x7 =>
  if mx_f1 .eq x7 = true then
    b330_47 L xs zf D w o0 i1 x7 h
  else
    (dgR L xs h 43 [15] o0).bind fun p13 =>
    (daI L xs h p13 i1).bind fun x15 =>
    if mx_f2 .ne x15 1 = true then
      b330_47 L xs zf D w o0 i1 x7 h
    else
      (dgR L xs h 45 [15] o0).bind fun p18 =>
      (daI L xs h p18 i1).bind fun x20 =>
      if mx_f2 .eq x20 2 = true then
        b330_47 L xs zf D w o0 i1 x7 h
      else
        (dgR L xs h 46 [15] o0).bind fun p23 =>
        (daI L xs h p23 i1).bind fun x25 =>
        ((dcV L xs D 329 [15] o0 [.int 4, .int x25] h).bind dxV).bind fun h27 =>
        b330_47 L xs zf D w o0 i1 x7 h27
theorem c330_0 {L : Nat} {xs : Nat → Int32} {zf : Value} {D : dD} {w k : Nat} (hD : dO L xs zf D k) (hz : zf.category = 1) : ∀ (o0 : Option Nat) (i1 : Int32) (lv : rm_L) (h : rm_H) (r : dR), rm_get lv 0 = some (va_rf o0) → rm_get lv 1 = some (.int i1) → b330_0 L xs zf D w  o0 i1 h = some r → dq L xs zf ah_M330 0 lv [] h (k + 1) r := by
  intro o0 i1 lv h r G0 G1 hh
  unfold b330_0 at hh
  refine dq_aln 0 1 (by decide +kernel) rfl G0 ?_
  obtain ⟨p1, q2, hh⟩ := db hh
  refine dq_gR 102 37 [15] 4 (by decide +kernel) rfl q2 ?_
  refine dq_aln 0 5 (by decide +kernel) rfl G0 ?_
  obtain ⟨p3, q4, hh⟩ := db hh
  refine dq_gR 118 44 [15] 8 (by decide +kernel) rfl q4 ?_
  refine dq_iln 1 9 (by decide +kernel) rfl G1 ?_
  obtain ⟨x5, q6, hh⟩ := db hh
  refine dq_aI 10 (by decide +kernel) rfl q6 ?_
  obtain ⟨x7, q8, hh⟩ := db hh
  refine dq_aB 11 (by decide +kernel) rfl q8 ?_
  refine dq_isn 2 12 (by decide +kernel) (by decide +kernel) ?_
  have g9 := dg_ne (i := 2) (u := .int x7) (by decide) (Or.inl (by decide)) G0
  have g10 := dg_ne (i := 2) (u := .int x7) (by decide) (Or.inr rfl) G1
  have g11 := dg_eq (lv) 2 (.int x7)
  refine dq_iln 2 13 (by decide +kernel) rfl g11 ?_
  rcases di hh with ⟨q12, hh⟩ | ⟨q12, hh⟩
  · refine dq_1 .eq 34 true 47 q12 (by decide +kernel) ?_
    exact c330_47 hD hz _ _ _ _ _ _ g9 g10 g11 hh
  · refine dq_1 .eq 34 false 16 q12 (by decide +kernel) ?_
    refine dq_aln 0 17 (by decide +kernel) rfl g9 ?_
    obtain ⟨p13, q14, hh⟩ := db hh
    refine dq_gR 115 43 [15] 20 (by decide +kernel) rfl q14 ?_
    refine dq_iln 1 21 (by decide +kernel) rfl g10 ?_
    obtain ⟨x15, q16, hh⟩ := db hh
    refine dq_aI 22 (by decide +kernel) rfl q16 ?_
    refine dq_S (.iconst 1) 1 [] 23 _ [.int 1, .int x15] (by decide +kernel) rfl ?_
    rcases di hh with ⟨q17, hh⟩ | ⟨q17, hh⟩
    · refine dq_2 .ne 24 true 47 q17 (by decide +kernel) ?_
      exact c330_47 hD hz _ _ _ _ _ _ g9 g10 g11 hh
    · refine dq_2 .ne 24 false 26 q17 (by decide +kernel) ?_
      refine dq_aln 0 27 (by decide +kernel) rfl g9 ?_
      obtain ⟨p18, q19, hh⟩ := db hh
      refine dq_gR 121 45 [15] 30 (by decide +kernel) rfl q19 ?_
      refine dq_iln 1 31 (by decide +kernel) rfl g10 ?_
      obtain ⟨x20, q21, hh⟩ := db hh
      refine dq_aI 32 (by decide +kernel) rfl q21 ?_
      refine dq_S (.iconst 2) 1 [] 33 _ [.int 2, .int x20] (by decide +kernel) rfl ?_
      rcases di hh with ⟨q22, hh⟩ | ⟨q22, hh⟩
      · refine dq_2 .eq 14 true 47 q22 (by decide +kernel) ?_
        exact c330_47 hD hz _ _ _ _ _ _ g9 g10 g11 hh
      · refine dq_2 .eq 14 false 36 q22 (by decide +kernel) ?_
        refine dq_aln 0 37 (by decide +kernel) rfl g9 ?_
        refine dq_S (.iconst 4) 1 [] 38 _ [.int 4, va_rf o0] (by decide +kernel) rfl ?_
        refine dq_aln 0 39 (by decide +kernel) rfl g9 ?_
        obtain ⟨p23, q24, hh⟩ := db hh
        refine dq_gR 124 46 [15] 42 (by decide +kernel) rfl q24 ?_
        refine dq_iln 1 43 (by decide +kernel) rfl g10 ?_
        obtain ⟨x25, q26, hh⟩ := db hh
        refine dq_aI 44 (by decide +kernel) rfl q26 ?_
        obtain ⟨h27, q28, hh⟩ := db hh
        obtain ⟨a29, q30, q28⟩ := db q28
        rw [dq_xV q28] at q30
        refine dq_cvi hD 407 329 5 2 [15] o0 [.int 4, .int x25] [] 47 [] (by decide +kernel) ap_329 ⟨⟨Nat.le_of_ble_eq_true rfl, by decide⟩, rfl, rfl⟩ (dq_ok8 [1, 1, 1] [] (dc_r (dc_i (dc_i dc_n))) dc_n (by decide +kernel)) (by decide +kernel) rfl q30 rfl ?_
        exact c330_47 hD hz _ _ _ _ _ _ g9 g10 g11 hh
def f330 (L : Nat) (xs : Nat → Int32) (zf : Value) (D : dD) (w : Nat) (As : List Value) (h : rm_H) : Option dR := match As with
  | [v0, .int i1] => (rm_rf v0).bind fun o0 => b330_0 L xs zf D w o0 i1 h
  | _ => none
theorem d330 {L : Nat} {xs : Nat → Int32} {zf : Value} {D : dD} {w k : Nat} (hD : dO L xs zf D k) (hz : zf.category = 1) (As : List Value) (h : rm_H) (r : dR) (hh : f330 L xs zf D w As h = some r) : dq L xs zf ah_M330 0 (lv_args 0 As) [] h (k + 1) r := by
  unfold f330 at hh
  split at hh
  · obtain ⟨o0, e0, hb0⟩ := db hh
    have e0 := rm_rf_v _ _ e0
    subst e0
    refine c330_0 hD hz _ _ _ _ _ ?_ ?_ hb0
    all_goals (simp only [la_r, la_i, la_j]; rfl)
  · cases hh
def b331_38 (L : Nat) (xs : Nat → Int32) (zf : Value) (D : dD) (w : Nat) (s0 : Int32) (h : rm_H) : Option dR :=
  drI (some .boolean) s0 h
theorem c331_38 {L : Nat} {xs : Nat → Int32} {zf : Value} {D : dD} {w k : Nat} (hD : dO L xs zf D k) (hz : zf.category = 1) : ∀ (s0 : Int32) (lv : rm_L) (h : rm_H) (r : dR), b331_38 L xs zf D w  s0 h = some r → dq L xs zf ah_M331 38 lv [.int s0] h (k + 1) r := by
  intro s0 lv h r hh
  unfold b331_38 at hh
  exact dq_retI (some .boolean) (by decide +kernel) rfl hh
def b331_33 (L : Nat) (xs : Nat → Int32) (zf : Value) (D : dD) (w : Nat) (h : rm_H) : Option dR :=
  b331_38 L xs zf D w 1 h
theorem c331_33 {L : Nat} {xs : Nat → Int32} {zf : Value} {D : dD} {w k : Nat} (hD : dO L xs zf D k) (hz : zf.category = 1) : ∀ (lv : rm_L) (h : rm_H) (r : dR), b331_33 L xs zf D w  h = some r → dq L xs zf ah_M331 33 lv [] h (k + 1) r := by
  intro lv h r hh
  unfold b331_33 at hh
  refine dq_S (.iconst 1) 1 [] 34 _ [.int 1] (by decide +kernel) rfl ?_
  refine dq_S (.goto 4) 3 [] 38 _ [.int 1] (by decide +kernel) rfl ?_
  exact c331_38 hD hz _ _ _ _  hh
def b331_37 (L : Nat) (xs : Nat → Int32) (zf : Value) (D : dD) (w : Nat) (h : rm_H) : Option dR :=
  b331_38 L xs zf D w 0 h
theorem c331_37 {L : Nat} {xs : Nat → Int32} {zf : Value} {D : dD} {w k : Nat} (hD : dO L xs zf D k) (hz : zf.category = 1) : ∀ (lv : rm_L) (h : rm_H) (r : dR), b331_37 L xs zf D w  h = some r → dq L xs zf ah_M331 37 lv [] h (k + 1) r := by
  intro lv h r hh
  unfold b331_37 at hh
  refine dq_S (.iconst 0) 1 [] 38 _ [.int 0] (by decide +kernel) rfl ?_
  exact c331_38 hD hz _ _ _ _  hh
def b331_0 (L : Nat) (xs : Nat → Int32) (zf : Value) (D : dD) (w : Nat) (i0 : Int32) (h : rm_H) : Option dR :=
  if mx_f1 .eq i0 = true then
    b331_33 L xs zf D w h
  else
    ((D 332 [.int i0] h).bind dxI).bind fun x2 =>
    if mx_f1 .ne x2.1 = true then
      b331_33 L xs zf D w x2.2
    else
      ((D 333 [.int i0] x2.2).bind dxI).bind fun x7 =>
      if mx_f1 .eq x7.1 = true then
        b331_37 L xs zf D w x7.2
      else
        if mx_f1 .eq (i0 - i0 / 8 * 8) = true then
          b331_33 L xs zf D w x7.2
        else
          if mx_f2 .ne (i0 - i0 / 8 * 8) 3 = true then
            b331_37 L xs zf D w x7.2
          else
            b331_33 L xs zf D w x7.2
theorem c331_0 {L : Nat} {xs : Nat → Int32} {zf : Value} {D : dD} {w k : Nat} (hD : dO L xs zf D k) (hz : zf.category = 1) : ∀ (i0 : Int32) (lv : rm_L) (h : rm_H) (r : dR), rm_get lv 0 = some (.int i0) → b331_0 L xs zf D w  i0 h = some r → dq L xs zf ah_M331 0 lv [] h (k + 1) r := by
  intro i0 lv h r G0 hh
  unfold b331_0 at hh
  refine dq_iln 0 1 (by decide +kernel) rfl G0 ?_
  rcases di hh with ⟨q1, hh⟩ | ⟨q1, hh⟩
  · refine dq_1 .eq 32 true 33 q1 (by decide +kernel) ?_
    exact c331_33 hD hz  _ _ _  hh
  · refine dq_1 .eq 32 false 4 q1 (by decide +kernel) ?_
    refine dq_iln 0 5 (by decide +kernel) rfl G0 ?_
    obtain ⟨x2, q3, hh⟩ := db hh
    obtain ⟨a4, q5, q3⟩ := db q3
    rw [dq_xI q3] at q5
    refine dq_cst hD 397 332 0 1 [.int i0] [] 8 [.int x2.1] (by decide +kernel) ap_332 ⟨⟨Nat.le_of_ble_eq_true rfl, by decide⟩, rfl, rfl⟩ (dq_ok8 [1] [] (dc_i dc_n) dc_n (by decide +kernel)) (by decide +kernel) rfl q5 rfl ?_
    rcases di hh with ⟨q6, hh⟩ | ⟨q6, hh⟩
    · refine dq_1 .ne 25 true 33 q6 (by decide +kernel) ?_
      exact c331_33 hD hz  _ _ _  hh
    · refine dq_1 .ne 25 false 11 q6 (by decide +kernel) ?_
      refine dq_iln 0 12 (by decide +kernel) rfl G0 ?_
      obtain ⟨x7, q8, hh⟩ := db hh
      obtain ⟨a9, q10, q8⟩ := db q8
      rw [dq_xI q8] at q10
      refine dq_cst hD 400 333 0 1 [.int i0] [] 15 [.int x7.1] (by decide +kernel) ap_333 ⟨⟨Nat.le_of_ble_eq_true rfl, by decide⟩, rfl, rfl⟩ (dq_ok8 [1] [] (dc_i dc_n) dc_n (by decide +kernel)) (by decide +kernel) rfl q10 rfl ?_
      rcases di hh with ⟨q11, hh⟩ | ⟨q11, hh⟩
      · refine dq_1 .eq 22 true 37 q11 (by decide +kernel) ?_
        exact c331_37 hD hz  _ _ _  hh
      · refine dq_1 .eq 22 false 18 q11 (by decide +kernel) ?_
        refine dq_iln 0 19 (by decide +kernel) rfl G0 ?_
        refine dq_S (.bipush 8) 2 [] 21 _ [.int 8, .int i0] (by decide +kernel) rfl ?_
        refine dq_rem 22 (by decide) (by decide +kernel) rfl ?_
        rcases di hh with ⟨q12, hh⟩ | ⟨q12, hh⟩
        · refine dq_1 .eq 11 true 33 q12 (by decide +kernel) ?_
          exact c331_33 hD hz  _ _ _  hh
        · refine dq_1 .eq 11 false 25 q12 (by decide +kernel) ?_
          refine dq_iln 0 26 (by decide +kernel) rfl G0 ?_
          refine dq_S (.bipush 8) 2 [] 28 _ [.int 8, .int i0] (by decide +kernel) rfl ?_
          refine dq_rem 29 (by decide) (by decide +kernel) rfl ?_
          refine dq_S (.iconst 3) 1 [] 30 _ [.int 3, .int (i0 - i0 / 8 * 8)] (by decide +kernel) rfl ?_
          rcases di hh with ⟨q13, hh⟩ | ⟨q13, hh⟩
          · refine dq_2 .ne 7 true 37 q13 (by decide +kernel) ?_
            exact c331_37 hD hz  _ _ _  hh
          · refine dq_2 .ne 7 false 33 q13 (by decide +kernel) ?_
            exact c331_33 hD hz  _ _ _  hh
def f331 (L : Nat) (xs : Nat → Int32) (zf : Value) (D : dD) (w : Nat) (As : List Value) (h : rm_H) : Option dR := match As with
  | [.int i0] => b331_0 L xs zf D w i0 h
  | _ => none
theorem d331 {L : Nat} {xs : Nat → Int32} {zf : Value} {D : dD} {w k : Nat} (hD : dO L xs zf D k) (hz : zf.category = 1) (As : List Value) (h : rm_H) (r : dR) (hh : f331 L xs zf D w As h = some r) : dq L xs zf ah_M331 0 (lv_args 0 As) [] h (k + 1) r := by
  unfold f331 at hh
  split at hh
  · refine c331_0 hD hz _ _ _ _ ?_ hh
    all_goals (simp only [la_r, la_i, la_j]; rfl)
  · cases hh
def b332_19 (L : Nat) (xs : Nat → Int32) (zf : Value) (D : dD) (w : Nat) (s0 : Int32) (h : rm_H) : Option dR :=
  drI (some .boolean) s0 h
theorem c332_19 {L : Nat} {xs : Nat → Int32} {zf : Value} {D : dD} {w k : Nat} (hD : dO L xs zf D k) (hz : zf.category = 1) : ∀ (s0 : Int32) (lv : rm_L) (h : rm_H) (r : dR), b332_19 L xs zf D w  s0 h = some r → dq L xs zf ah_M332 19 lv [.int s0] h (k + 1) r := by
  intro s0 lv h r hh
  unfold b332_19 at hh
  exact dq_retI (some .boolean) (by decide +kernel) rfl hh
def b332_18 (L : Nat) (xs : Nat → Int32) (zf : Value) (D : dD) (w : Nat) (h : rm_H) : Option dR :=
  b332_19 L xs zf D w 0 h
theorem c332_18 {L : Nat} {xs : Nat → Int32} {zf : Value} {D : dD} {w k : Nat} (hD : dO L xs zf D k) (hz : zf.category = 1) : ∀ (lv : rm_L) (h : rm_H) (r : dR), b332_18 L xs zf D w  h = some r → dq L xs zf ah_M332 18 lv [] h (k + 1) r := by
  intro lv h r hh
  unfold b332_18 at hh
  refine dq_S (.iconst 0) 1 [] 19 _ [.int 0] (by decide +kernel) rfl ?_
  exact c332_19 hD hz _ _ _ _  hh
def b332_0 (L : Nat) (xs : Nat → Int32) (zf : Value) (D : dD) (w : Nat) (i0 : Int32) (h : rm_H) : Option dR :=
  if mx_f2 .lt i0 8 = true then
    b332_18 L xs zf D w h
  else
    if mx_f2 .ne (i0 - i0 / 8 * 8) 5 = true then
      b332_18 L xs zf D w h
    else
      b332_19 L xs zf D w 1 h
theorem c332_0 {L : Nat} {xs : Nat → Int32} {zf : Value} {D : dD} {w k : Nat} (hD : dO L xs zf D k) (hz : zf.category = 1) : ∀ (i0 : Int32) (lv : rm_L) (h : rm_H) (r : dR), rm_get lv 0 = some (.int i0) → b332_0 L xs zf D w  i0 h = some r → dq L xs zf ah_M332 0 lv [] h (k + 1) r := by
  intro i0 lv h r G0 hh
  unfold b332_0 at hh
  refine dq_iln 0 1 (by decide +kernel) rfl G0 ?_
  refine dq_S (.bipush 8) 2 [] 3 _ [.int 8, .int i0] (by decide +kernel) rfl ?_
  rcases di hh with ⟨q1, hh⟩ | ⟨q1, hh⟩
  · refine dq_2 .lt 15 true 18 q1 (by decide +kernel) ?_
    exact c332_18 hD hz  _ _ _  hh
  · refine dq_2 .lt 15 false 6 q1 (by decide +kernel) ?_
    refine dq_iln 0 7 (by decide +kernel) rfl G0 ?_
    refine dq_S (.bipush 8) 2 [] 9 _ [.int 8, .int i0] (by decide +kernel) rfl ?_
    refine dq_rem 10 (by decide) (by decide +kernel) rfl ?_
    refine dq_S (.iconst 5) 1 [] 11 _ [.int 5, .int (i0 - i0 / 8 * 8)] (by decide +kernel) rfl ?_
    rcases di hh with ⟨q2, hh⟩ | ⟨q2, hh⟩
    · refine dq_2 .ne 7 true 18 q2 (by decide +kernel) ?_
      exact c332_18 hD hz  _ _ _  hh
    · refine dq_2 .ne 7 false 14 q2 (by decide +kernel) ?_
      refine dq_S (.iconst 1) 1 [] 15 _ [.int 1] (by decide +kernel) rfl ?_
      refine dq_S (.goto 4) 3 [] 19 _ [.int 1] (by decide +kernel) rfl ?_
      exact c332_19 hD hz _ _ _ _  hh
def f332 (L : Nat) (xs : Nat → Int32) (zf : Value) (D : dD) (w : Nat) (As : List Value) (h : rm_H) : Option dR := match As with
  | [.int i0] => b332_0 L xs zf D w i0 h
  | _ => none
theorem d332 {L : Nat} {xs : Nat → Int32} {zf : Value} {D : dD} {w k : Nat} (hD : dO L xs zf D k) (hz : zf.category = 1) (As : List Value) (h : rm_H) (r : dR) (hh : f332 L xs zf D w As h = some r) : dq L xs zf ah_M332 0 (lv_args 0 As) [] h (k + 1) r := by
  unfold f332 at hh
  split at hh
  · refine c332_0 hD hz _ _ _ _ ?_ hh
    all_goals (simp only [la_r, la_i, la_j]; rfl)
  · cases hh
def b333_19 (L : Nat) (xs : Nat → Int32) (zf : Value) (D : dD) (w : Nat) (s0 : Int32) (h : rm_H) : Option dR :=
  drI (some .boolean) s0 h
theorem c333_19 {L : Nat} {xs : Nat → Int32} {zf : Value} {D : dD} {w k : Nat} (hD : dO L xs zf D k) (hz : zf.category = 1) : ∀ (s0 : Int32) (lv : rm_L) (h : rm_H) (r : dR), b333_19 L xs zf D w  s0 h = some r → dq L xs zf ah_M333 19 lv [.int s0] h (k + 1) r := by
  intro s0 lv h r hh
  unfold b333_19 at hh
  exact dq_retI (some .boolean) (by decide +kernel) rfl hh
def b333_18 (L : Nat) (xs : Nat → Int32) (zf : Value) (D : dD) (w : Nat) (h : rm_H) : Option dR :=
  b333_19 L xs zf D w 0 h
theorem c333_18 {L : Nat} {xs : Nat → Int32} {zf : Value} {D : dD} {w k : Nat} (hD : dO L xs zf D k) (hz : zf.category = 1) : ∀ (lv : rm_L) (h : rm_H) (r : dR), b333_18 L xs zf D w  h = some r → dq L xs zf ah_M333 18 lv [] h (k + 1) r := by
  intro lv h r hh
  unfold b333_18 at hh
  refine dq_S (.iconst 0) 1 [] 19 _ [.int 0] (by decide +kernel) rfl ?_
  exact c333_19 hD hz _ _ _ _  hh
def b333_0 (L : Nat) (xs : Nat → Int32) (zf : Value) (D : dD) (w : Nat) (i0 : Int32) (h : rm_H) : Option dR :=
  if mx_f2 .lt i0 8 = true then
    b333_18 L xs zf D w h
  else
    if mx_f2 .ge (i0 - i0 / 8 * 8) 5 = true then
      b333_18 L xs zf D w h
    else
      b333_19 L xs zf D w 1 h
theorem c333_0 {L : Nat} {xs : Nat → Int32} {zf : Value} {D : dD} {w k : Nat} (hD : dO L xs zf D k) (hz : zf.category = 1) : ∀ (i0 : Int32) (lv : rm_L) (h : rm_H) (r : dR), rm_get lv 0 = some (.int i0) → b333_0 L xs zf D w  i0 h = some r → dq L xs zf ah_M333 0 lv [] h (k + 1) r := by
  intro i0 lv h r G0 hh
  unfold b333_0 at hh
  refine dq_iln 0 1 (by decide +kernel) rfl G0 ?_
  refine dq_S (.bipush 8) 2 [] 3 _ [.int 8, .int i0] (by decide +kernel) rfl ?_
  rcases di hh with ⟨q1, hh⟩ | ⟨q1, hh⟩
  · refine dq_2 .lt 15 true 18 q1 (by decide +kernel) ?_
    exact c333_18 hD hz  _ _ _  hh
  · refine dq_2 .lt 15 false 6 q1 (by decide +kernel) ?_
    refine dq_iln 0 7 (by decide +kernel) rfl G0 ?_
    refine dq_S (.bipush 8) 2 [] 9 _ [.int 8, .int i0] (by decide +kernel) rfl ?_
    refine dq_rem 10 (by decide) (by decide +kernel) rfl ?_
    refine dq_S (.iconst 5) 1 [] 11 _ [.int 5, .int (i0 - i0 / 8 * 8)] (by decide +kernel) rfl ?_
    rcases di hh with ⟨q2, hh⟩ | ⟨q2, hh⟩
    · refine dq_2 .ge 7 true 18 q2 (by decide +kernel) ?_
      exact c333_18 hD hz  _ _ _  hh
    · refine dq_2 .ge 7 false 14 q2 (by decide +kernel) ?_
      refine dq_S (.iconst 1) 1 [] 15 _ [.int 1] (by decide +kernel) rfl ?_
      refine dq_S (.goto 4) 3 [] 19 _ [.int 1] (by decide +kernel) rfl ?_
      exact c333_19 hD hz _ _ _ _  hh
def f333 (L : Nat) (xs : Nat → Int32) (zf : Value) (D : dD) (w : Nat) (As : List Value) (h : rm_H) : Option dR := match As with
  | [.int i0] => b333_0 L xs zf D w i0 h
  | _ => none
theorem d333 {L : Nat} {xs : Nat → Int32} {zf : Value} {D : dD} {w k : Nat} (hD : dO L xs zf D k) (hz : zf.category = 1) (As : List Value) (h : rm_H) (r : dR) (hh : f333 L xs zf D w As h = some r) : dq L xs zf ah_M333 0 (lv_args 0 As) [] h (k + 1) r := by
  unfold f333 at hh
  split at hh
  · refine c333_0 hD hz _ _ _ _ ?_ hh
    all_goals (simp only [la_r, la_i, la_j]; rfl)
  · cases hh
def b334_111 (L : Nat) (xs : Nat → Int32) (zf : Value) (D : dD) (w : Nat) (s0 : Int32) (s1 : Int32) (s2 : Option Nat) (h : rm_H) : Option dR :=
  ((dcV L xs D 336 [15] s2 [.int s1, .int s0] h).bind dxV).bind fun h1 =>
  some (none, h1)
theorem c334_111 {L : Nat} {xs : Nat → Int32} {zf : Value} {D : dD} {w k : Nat} (hD : dO L xs zf D k) (hz : zf.category = 1) : ∀ (s0 : Int32) (s1 : Int32) (s2 : Option Nat) (lv : rm_L) (h : rm_H) (r : dR), b334_111 L xs zf D w  s0 s1 s2 h = some r → dq L xs zf ah_M334 111 lv [.int s0, .int s1, va_rf s2] h (k + 1) r := by
  intro s0 s1 s2 lv h r hh
  unfold b334_111 at hh
  obtain ⟨h1, q2, hh⟩ := db hh
  obtain ⟨a3, q4, q2⟩ := db q2
  rw [dq_xV q2] at q4
  refine dq_cvi hD 517 336 5 2 [15] s2 [.int s1, .int s0] [] 114 [] (by decide +kernel) ap_336 ⟨⟨Nat.le_of_ble_eq_true rfl, by decide⟩, rfl, rfl⟩ (dq_ok8 [1, 1, 1] [] (dc_r (dc_i (dc_i dc_n))) dc_n (by decide +kernel)) (by decide +kernel) rfl q4 rfl ?_
  cases hh
  exact dq_ret0 (by decide +kernel) rfl
def b334_110 (L : Nat) (xs : Nat → Int32) (zf : Value) (D : dD) (w : Nat) (s0 : Int32) (s1 : Option Nat) (h : rm_H) : Option dR :=
  b334_111 L xs zf D w 0 s0 s1 h
theorem c334_110 {L : Nat} {xs : Nat → Int32} {zf : Value} {D : dD} {w k : Nat} (hD : dO L xs zf D k) (hz : zf.category = 1) : ∀ (s0 : Int32) (s1 : Option Nat) (lv : rm_L) (h : rm_H) (r : dR), b334_110 L xs zf D w  s0 s1 h = some r → dq L xs zf ah_M334 110 lv [.int s0, va_rf s1] h (k + 1) r := by
  intro s0 s1 lv h r hh
  unfold b334_110 at hh
  refine dq_S (.iconst 0) 1 [] 111 _ [.int 0, .int s0, va_rf s1] (by decide +kernel) rfl ?_
  exact c334_111 hD hz _ _ _ _ _ _  hh
def b334_27 (L : Nat) (xs : Nat → Int32) (zf : Value) (D : dD) (w : Nat) : Nat → Option Nat → Int32 → Int32 → rm_H → Option dR
  | 0, _, _, _, _ => none
  | n + 1, o0, i1, i2, h =>
    (dgR L xs h 50 [15] o0).bind fun p1 =>
    (daI L xs h p1 (i1 + 1)).bind fun x3 =>
    if mx_f2 .ge i2 x3 = true then
      (dgR L xs h 12 [15] o0).bind fun p6 =>
      (dgR L xs h 49 [15] o0).bind fun p8 =>
      (daI L xs h p8 i1).bind fun x10 =>
      (daI L xs h p6 x10).bind fun x12 =>
      (dgR L xs h 43 [15] o0).bind fun p14 =>
      (daI L xs h p14 i1).bind fun x16 =>
      if mx_f2 .ne x16 1 = true then
        b334_110 L xs zf D w x12 o0 h
      else
        (dgR L xs h 48 [15] o0).bind fun p19 =>
        (daI L xs h p19 i1).bind fun x21 =>
        if mx_f2 .eq x21 (-1) = true then
          b334_110 L xs zf D w x12 o0 h
        else
          b334_111 L xs zf D w 1 x12 o0 h
    else
      (dgR L xs h 53 [15] o0).bind fun p24 =>
      (daJ L xs h p24 i2).bind fun y26 =>
      (dgR L xs h 50 [15] o0).bind fun p28 =>
      (daI L xs h p28 i1).bind fun x30 =>
      (dgR L xs h 30 [15] o0).bind fun p32 =>
      (dgR L xs h 55 [15] o0).bind fun p34 =>
      (daI L xs h p34 i2).bind fun x36 =>
      (daI L xs h p32 x36).bind fun x38 =>
      ((dcV L xs D 335 [15] o0 [.long y26, .int (i2 - x30), .int x38] h).bind dxV).bind fun h40 =>
      b334_27 L xs zf D w n o0 i1 (i2 + 1) h40
theorem c334_27 {L : Nat} {xs : Nat → Int32} {zf : Value} {D : dD} {w k : Nat} (hD : dO L xs zf D k) (hz : zf.category = 1) : ∀ (n : Nat) (o0 : Option Nat) (i1 : Int32) (i2 : Int32) (lv : rm_L) (h : rm_H) (r : dR), rm_get lv 0 = some (va_rf o0) → rm_get lv 1 = some (.int i1) → rm_get lv 2 = some (.int i2) → b334_27 L xs zf D w n  o0 i1 i2 h = some r → dq L xs zf ah_M334 27 lv [] h (k + 1) r := by
  intro n
  induction n with
  | zero =>
    intro o0 i1 i2 lv h r G0 G1 G2 hh
    cases hh
  | succ n ih =>
    intro o0 i1 i2 lv h r G0 G1 G2 hh
    rw [b334_27] at hh
    refine dq_iln 2 28 (by decide +kernel) rfl G2 ?_
    refine dq_aln 0 29 (by decide +kernel) rfl G0 ?_
    obtain ⟨p1, q2, hh⟩ := db hh
    refine dq_gR 136 50 [15] 32 (by decide +kernel) rfl q2 ?_
    refine dq_iln 1 33 (by decide +kernel) rfl G1 ?_
    refine dq_S (.iconst 1) 1 [] 34 _ [.int 1, .int i1, va_rf p1, .int i2] (by decide +kernel) rfl ?_
    refine dq_S (.iadd) 1 [] 35 _ [.int (i1 + 1), va_rf p1, .int i2] (by decide +kernel) rfl ?_
    obtain ⟨x3, q4, hh⟩ := db hh
    refine dq_aI 36 (by decide +kernel) rfl q4 ?_
    rcases di hh with ⟨q5, hh⟩ | ⟨q5, hh⟩
    · refine dq_2 .ge 38 true 74 q5 (by decide +kernel) ?_
      refine dq_aln 0 75 (by decide +kernel) rfl G0 ?_
      refine dq_aln 0 76 (by decide +kernel) rfl G0 ?_
      obtain ⟨p6, q7, hh⟩ := db hh
      refine dq_gR 39 12 [15] 79 (by decide +kernel) rfl q7 ?_
      refine dq_aln 0 80 (by decide +kernel) rfl G0 ?_
      obtain ⟨p8, q9, hh⟩ := db hh
      refine dq_gR 133 49 [15] 83 (by decide +kernel) rfl q9 ?_
      refine dq_iln 1 84 (by decide +kernel) rfl G1 ?_
      obtain ⟨x10, q11, hh⟩ := db hh
      refine dq_aI 85 (by decide +kernel) rfl q11 ?_
      obtain ⟨x12, q13, hh⟩ := db hh
      refine dq_aI 86 (by decide +kernel) rfl q13 ?_
      refine dq_aln 0 87 (by decide +kernel) rfl G0 ?_
      obtain ⟨p14, q15, hh⟩ := db hh
      refine dq_gR 115 43 [15] 90 (by decide +kernel) rfl q15 ?_
      refine dq_iln 1 91 (by decide +kernel) rfl G1 ?_
      obtain ⟨x16, q17, hh⟩ := db hh
      refine dq_aI 92 (by decide +kernel) rfl q17 ?_
      refine dq_S (.iconst 1) 1 [] 93 _ [.int 1, .int x16, .int x12, va_rf o0] (by decide +kernel) rfl ?_
      rcases di hh with ⟨q18, hh⟩ | ⟨q18, hh⟩
      · refine dq_2 .ne 17 true 110 q18 (by decide +kernel) ?_
        exact c334_110 hD hz _ _ _ _ _  hh
      · refine dq_2 .ne 17 false 96 q18 (by decide +kernel) ?_
        refine dq_aln 0 97 (by decide +kernel) rfl G0 ?_
        obtain ⟨p19, q20, hh⟩ := db hh
        refine dq_gR 130 48 [15] 100 (by decide +kernel) rfl q20 ?_
        refine dq_iln 1 101 (by decide +kernel) rfl G1 ?_
        obtain ⟨x21, q22, hh⟩ := db hh
        refine dq_aI 102 (by decide +kernel) rfl q22 ?_
        refine dq_S (.iconst (-1)) 1 [] 103 _ [.int (-1), .int x21, .int x12, va_rf o0] (by decide +kernel) rfl ?_
        rcases di hh with ⟨q23, hh⟩ | ⟨q23, hh⟩
        · refine dq_2 .eq 7 true 110 q23 (by decide +kernel) ?_
          exact c334_110 hD hz _ _ _ _ _  hh
        · refine dq_2 .eq 7 false 106 q23 (by decide +kernel) ?_
          refine dq_S (.iconst 1) 1 [] 107 _ [.int 1, .int x12, va_rf o0] (by decide +kernel) rfl ?_
          refine dq_S (.goto 4) 3 [] 111 _ [.int 1, .int x12, va_rf o0] (by decide +kernel) rfl ?_
          exact c334_111 hD hz _ _ _ _ _ _  hh
    · refine dq_2 .ge 38 false 39 q5 (by decide +kernel) ?_
      refine dq_aln 0 40 (by decide +kernel) rfl G0 ?_
      refine dq_aln 0 41 (by decide +kernel) rfl G0 ?_
      obtain ⟨p24, q25, hh⟩ := db hh
      refine dq_gR 142 53 [15] 44 (by decide +kernel) rfl q25 ?_
      refine dq_iln 2 45 (by decide +kernel) rfl G2 ?_
      obtain ⟨y26, q27, hh⟩ := db hh
      refine dq_aJ 46 (by decide +kernel) rfl q27 ?_
      refine dq_iln 2 47 (by decide +kernel) rfl G2 ?_
      refine dq_aln 0 48 (by decide +kernel) rfl G0 ?_
      obtain ⟨p28, q29, hh⟩ := db hh
      refine dq_gR 136 50 [15] 51 (by decide +kernel) rfl q29 ?_
      refine dq_iln 1 52 (by decide +kernel) rfl G1 ?_
      obtain ⟨x30, q31, hh⟩ := db hh
      refine dq_aI 53 (by decide +kernel) rfl q31 ?_
      refine dq_S (.isub) 1 [] 54 _ [.int (i2 - x30), .long y26, va_rf o0] (by decide +kernel) rfl ?_
      refine dq_aln 0 55 (by decide +kernel) rfl G0 ?_
      obtain ⟨p32, q33, hh⟩ := db hh
      refine dq_gR 84 30 [15] 58 (by decide +kernel) rfl q33 ?_
      refine dq_aln 0 59 (by decide +kernel) rfl G0 ?_
      obtain ⟨p34, q35, hh⟩ := db hh
      refine dq_gR 148 55 [15] 62 (by decide +kernel) rfl q35 ?_
      refine dq_iln 2 63 (by decide +kernel) rfl G2 ?_
      obtain ⟨x36, q37, hh⟩ := db hh
      refine dq_aI 64 (by decide +kernel) rfl q37 ?_
      obtain ⟨x38, q39, hh⟩ := db hh
      refine dq_aI 65 (by decide +kernel) rfl q39 ?_
      obtain ⟨h40, q41, hh⟩ := db hh
      obtain ⟨a42, q43, q41⟩ := db q41
      rw [dq_xV q41] at q43
      refine dq_cvi hD 559 335 5 3 [15] o0 [.long y26, .int (i2 - x30), .int x38] [] 68 [] (by decide +kernel) ap_335 ⟨⟨Nat.le_of_ble_eq_true rfl, by decide⟩, rfl, rfl⟩ (dq_ok8 [1, 2, 1, 1] [] (dc_r (dc_j (dc_i (dc_i dc_n)))) dc_n (by decide +kernel)) (by decide +kernel) rfl q43 rfl ?_
      refine dq_incy 2 1 1 71 (by decide +kernel) ⟨rfl, by decide +kernel, by decide +kernel⟩ G2 ?_
      have g44 := dg_ne (i := 2) (u := .int (i2 + 1)) (by decide) (Or.inl (by decide)) G0
      have g45 := dg_ne (i := 2) (u := .int (i2 + 1)) (by decide) (Or.inr rfl) G1
      have g46 := dg_eq (lv) 2 (.int (i2 + 1))
      refine dq_S (.goto (-44)) 3 [] 27 _ [] (by decide +kernel) rfl ?_
      exact ih _ _ _ _ _ _ g44 g45 g46 hh
def b334_0 (L : Nat) (xs : Nat → Int32) (zf : Value) (D : dD) (w : Nat) (o0 : Option Nat) (i1 : Int32) (h : rm_H) : Option dR :=
  (dpF h 66 [15] o0 (.int i1)).bind fun h1 =>
  (dpF h1 62 [15] o0 (.int 0)).bind fun h3 =>
  (dpF h3 63 [15] o0 (.int 0)).bind fun h5 =>
  (dpF h5 64 [15] o0 (.int 0)).bind fun h7 =>
  (dgR L xs h7 50 [15] o0).bind fun p9 =>
  (daI L xs h7 p9 i1).bind fun x11 =>
  b334_27 L xs zf D w w o0 i1 x11 h7
theorem c334_0 {L : Nat} {xs : Nat → Int32} {zf : Value} {D : dD} {w k : Nat} (hD : dO L xs zf D k) (hz : zf.category = 1) : ∀ (o0 : Option Nat) (i1 : Int32) (lv : rm_L) (h : rm_H) (r : dR), rm_get lv 0 = some (va_rf o0) → rm_get lv 1 = some (.int i1) → b334_0 L xs zf D w  o0 i1 h = some r → dq L xs zf ah_M334 0 lv [] h (k + 1) r := by
  intro o0 i1 lv h r G0 G1 hh
  unfold b334_0 at hh
  refine dq_aln 0 1 (by decide +kernel) rfl G0 ?_
  refine dq_iln 1 2 (by decide +kernel) rfl G1 ?_
  obtain ⟨h1, q2, hh⟩ := db hh
  refine dq_put 498 66 [15] 5 (by decide +kernel) rfl q2 ?_
  refine dq_aln 0 6 (by decide +kernel) rfl G0 ?_
  refine dq_S (.iconst 0) 1 [] 7 _ [.int 0, va_rf o0] (by decide +kernel) rfl ?_
  obtain ⟨h3, q4, hh⟩ := db hh
  refine dq_put 434 62 [15] 10 (by decide +kernel) rfl q4 ?_
  refine dq_aln 0 11 (by decide +kernel) rfl G0 ?_
  refine dq_S (.iconst 0) 1 [] 12 _ [.int 0, va_rf o0] (by decide +kernel) rfl ?_
  obtain ⟨h5, q6, hh⟩ := db hh
  refine dq_put 437 63 [15] 15 (by decide +kernel) rfl q6 ?_
  refine dq_aln 0 16 (by decide +kernel) rfl G0 ?_
  refine dq_S (.iconst 0) 1 [] 17 _ [.int 0, va_rf o0] (by decide +kernel) rfl ?_
  obtain ⟨h7, q8, hh⟩ := db hh
  refine dq_put 440 64 [15] 20 (by decide +kernel) rfl q8 ?_
  refine dq_aln 0 21 (by decide +kernel) rfl G0 ?_
  obtain ⟨p9, q10, hh⟩ := db hh
  refine dq_gR 136 50 [15] 24 (by decide +kernel) rfl q10 ?_
  refine dq_iln 1 25 (by decide +kernel) rfl G1 ?_
  obtain ⟨x11, q12, hh⟩ := db hh
  refine dq_aI 26 (by decide +kernel) rfl q12 ?_
  refine dq_isn 2 27 (by decide +kernel) (by decide +kernel) ?_
  have g13 := dg_ne (i := 2) (u := .int x11) (by decide) (Or.inl (by decide)) G0
  have g14 := dg_ne (i := 2) (u := .int x11) (by decide) (Or.inr rfl) G1
  have g15 := dg_eq (lv) 2 (.int x11)
  exact c334_27 hD hz _ _ _ _ _ _ _ g13 g14 g15 hh
def f334 (L : Nat) (xs : Nat → Int32) (zf : Value) (D : dD) (w : Nat) (As : List Value) (h : rm_H) : Option dR := match As with
  | [v0, .int i1] => (rm_rf v0).bind fun o0 => b334_0 L xs zf D w o0 i1 h
  | _ => none
theorem d334 {L : Nat} {xs : Nat → Int32} {zf : Value} {D : dD} {w k : Nat} (hD : dO L xs zf D k) (hz : zf.category = 1) (As : List Value) (h : rm_H) (r : dR) (hh : f334 L xs zf D w As h = some r) : dq L xs zf ah_M334 0 (lv_args 0 As) [] h (k + 1) r := by
  unfold f334 at hh
  split at hh
  · obtain ⟨o0, e0, hb0⟩ := db hh
    have e0 := rm_rf_v _ _ e0
    subst e0
    refine c334_0 hD hz _ _ _ _ _ ?_ ?_ hb0
    all_goals (simp only [la_r, la_i, la_j]; rfl)
  · cases hh
def b335_0 (L : Nat) (xs : Nat → Int32) (zf : Value) (D : dD) (w : Nat) (o0 : Option Nat) (j1 : Int64) (i3 : Int32) (i4 : Int32) (h : rm_H) : Option dR :=
  (dgR L xs h 67 [15] o0).bind fun p1 =>
  (dgI L xs h 62 [15] o0).bind fun x3 =>
  (dsJ h p1 x3 j1).bind fun h5 =>
  (dgR L xs h5 68 [15] o0).bind fun p7 =>
  (dgI L xs h5 62 [15] o0).bind fun x9 =>
  (dsI h5 p7 x9 i3).bind fun h11 =>
  (dgR L xs h11 69 [15] o0).bind fun p13 =>
  (dgI L xs h11 62 [15] o0).bind fun x15 =>
  (dsI h11 p13 x15 i4).bind fun h17 =>
  (dgR L xs h17 70 [15] o0).bind fun p19 =>
  (dgI L xs h17 62 [15] o0).bind fun x21 =>
  (dgI L xs h17 63 [15] o0).bind fun x23 =>
  (dsI h17 p19 x21 x23).bind fun h25 =>
  (dgI L xs h25 64 [15] o0).bind fun x27 =>
  (dpF h25 64 [15] o0 (.int (x27 &&& (((1 : Int32) <<< (i3 &&& 31)) ^^^ (-1))))).bind fun h29 =>
  (dgI L xs h29 62 [15] o0).bind fun x31 =>
  (dpF h29 62 [15] o0 (.int (x31 + 1))).bind fun h33 =>
  some (none, h33)
theorem c335_0 {L : Nat} {xs : Nat → Int32} {zf : Value} {D : dD} {w k : Nat} (hD : dO L xs zf D k) (hz : zf.category = 1) : ∀ (o0 : Option Nat) (j1 : Int64) (i3 : Int32) (i4 : Int32) (lv : rm_L) (h : rm_H) (r : dR), rm_get lv 0 = some (va_rf o0) → rm_get lv 1 = some (.long j1) → rm_get lv 3 = some (.int i3) → rm_get lv 4 = some (.int i4) → b335_0 L xs zf D w  o0 j1 i3 i4 h = some r → dq L xs zf ah_M335 0 lv [] h (k + 1) r := by
  intro o0 j1 i3 i4 lv h r G0 G1 G3 G4 hh
  unfold b335_0 at hh
  refine dq_aln 0 1 (by decide +kernel) rfl G0 ?_
  obtain ⟨p1, q2, hh⟩ := db hh
  refine dq_gR 154 67 [15] 4 (by decide +kernel) rfl q2 ?_
  refine dq_aln 0 5 (by decide +kernel) rfl G0 ?_
  obtain ⟨x3, q4, hh⟩ := db hh
  refine dq_gI 434 62 [15] 8 (by decide +kernel) rfl q4 ?_
  refine dq_lln 1 9 (by decide +kernel) rfl G1 ?_
  obtain ⟨h5, q6, hh⟩ := db hh
  refine dq_sJ 10 (by decide +kernel) rfl q6 ?_
  refine dq_aln 0 11 (by decide +kernel) rfl G0 ?_
  obtain ⟨p7, q8, hh⟩ := db hh
  refine dq_gR 157 68 [15] 14 (by decide +kernel) rfl q8 ?_
  refine dq_aln 0 15 (by decide +kernel) rfl G0 ?_
  obtain ⟨x9, q10, hh⟩ := db hh
  refine dq_gI 434 62 [15] 18 (by decide +kernel) rfl q10 ?_
  refine dq_iln 3 19 (by decide +kernel) rfl G3 ?_
  obtain ⟨h11, q12, hh⟩ := db hh
  refine dq_sI 20 (by decide +kernel) rfl q12 ?_
  refine dq_aln 0 21 (by decide +kernel) rfl G0 ?_
  obtain ⟨p13, q14, hh⟩ := db hh
  refine dq_gR 160 69 [15] 24 (by decide +kernel) rfl q14 ?_
  refine dq_aln 0 25 (by decide +kernel) rfl G0 ?_
  obtain ⟨x15, q16, hh⟩ := db hh
  refine dq_gI 434 62 [15] 28 (by decide +kernel) rfl q16 ?_
  refine dq_il 4 30 (by decide +kernel) rfl G4 ?_
  obtain ⟨h17, q18, hh⟩ := db hh
  refine dq_sI 31 (by decide +kernel) rfl q18 ?_
  refine dq_aln 0 32 (by decide +kernel) rfl G0 ?_
  obtain ⟨p19, q20, hh⟩ := db hh
  refine dq_gR 163 70 [15] 35 (by decide +kernel) rfl q20 ?_
  refine dq_aln 0 36 (by decide +kernel) rfl G0 ?_
  obtain ⟨x21, q22, hh⟩ := db hh
  refine dq_gI 434 62 [15] 39 (by decide +kernel) rfl q22 ?_
  refine dq_aln 0 40 (by decide +kernel) rfl G0 ?_
  obtain ⟨x23, q24, hh⟩ := db hh
  refine dq_gI 437 63 [15] 43 (by decide +kernel) rfl q24 ?_
  obtain ⟨h25, q26, hh⟩ := db hh
  refine dq_sI 44 (by decide +kernel) rfl q26 ?_
  refine dq_aln 0 45 (by decide +kernel) rfl G0 ?_
  refine dq_dup 46 (by decide +kernel) rfl ?_
  obtain ⟨x27, q28, hh⟩ := db hh
  refine dq_gI 440 64 [15] 49 (by decide +kernel) rfl q28 ?_
  refine dq_S (.iconst 1) 1 [] 50 _ [.int 1, .int x27, va_rf o0] (by decide +kernel) rfl ?_
  refine dq_iln 3 51 (by decide +kernel) rfl G3 ?_
  refine dq_S (.ishl) 1 [] 52 _ [.int ((1 : Int32) <<< (i3 &&& 31)), .int x27, va_rf o0] (by decide +kernel) rfl ?_
  refine dq_S (.iconst (-1)) 1 [] 53 _ [.int (-1), .int ((1 : Int32) <<< (i3 &&& 31)), .int x27, va_rf o0] (by decide +kernel) rfl ?_
  refine dq_S (.ixor) 1 [] 54 _ [.int (((1 : Int32) <<< (i3 &&& 31)) ^^^ (-1)), .int x27, va_rf o0] (by decide +kernel) rfl ?_
  refine dq_S (.iand) 1 [] 55 _ [.int (x27 &&& (((1 : Int32) <<< (i3 &&& 31)) ^^^ (-1))), va_rf o0] (by decide +kernel) rfl ?_
  obtain ⟨h29, q30, hh⟩ := db hh
  refine dq_put 440 64 [15] 58 (by decide +kernel) rfl q30 ?_
  refine dq_aln 0 59 (by decide +kernel) rfl G0 ?_
  refine dq_dup 60 (by decide +kernel) rfl ?_
  obtain ⟨x31, q32, hh⟩ := db hh
  refine dq_gI 434 62 [15] 63 (by decide +kernel) rfl q32 ?_
  refine dq_S (.iconst 1) 1 [] 64 _ [.int 1, .int x31, va_rf o0] (by decide +kernel) rfl ?_
  refine dq_S (.iadd) 1 [] 65 _ [.int (x31 + 1), va_rf o0] (by decide +kernel) rfl ?_
  obtain ⟨h33, q34, hh⟩ := db hh
  refine dq_put 434 62 [15] 68 (by decide +kernel) rfl q34 ?_
  cases hh
  exact dq_ret0 (by decide +kernel) rfl
def f335 (L : Nat) (xs : Nat → Int32) (zf : Value) (D : dD) (w : Nat) (As : List Value) (h : rm_H) : Option dR := match As with
  | [v0, .long j1, .int i3, .int i4] => (rm_rf v0).bind fun o0 => b335_0 L xs zf D w o0 j1 i3 i4 h
  | _ => none
theorem d335 {L : Nat} {xs : Nat → Int32} {zf : Value} {D : dD} {w k : Nat} (hD : dO L xs zf D k) (hz : zf.category = 1) (As : List Value) (h : rm_H) (r : dR) (hh : f335 L xs zf D w As h = some r) : dq L xs zf ah_M335 0 (lv_args 0 As) [] h (k + 1) r := by
  unfold f335 at hh
  split at hh
  · obtain ⟨o0, e0, hb0⟩ := db hh
    have e0 := rm_rf_v _ _ e0
    subst e0
    refine c335_0 hD hz _ _ _ _ _ _ _ ?_ ?_ ?_ ?_ hb0
    all_goals (simp only [la_r, la_i, la_j]; rfl)
  · cases hh
def b336_50 (L : Nat) (xs : Nat → Int32) (zf : Value) (D : dD) (w : Nat) (K16 : Option Nat → Int32 → Int32 → Int32 → Int32 → Int32 → rm_H → Option dR) (o0 : Option Nat) (i1 : Int32) (i2 : Int32) (i3 : Int32) (i4 : Int32) (i5 : Int32) (s0 : Int32) (s1 : Int32) (s2 : Option Nat) (h : rm_H) : Option dR :=
  ((dcV L xs D 337 [15] s2 [.int s1, .int s0] h).bind dxV).bind fun h1 =>
  (dgR L xs h1 15 [15] o0).bind fun p5 =>
  (daI L xs h1 p5 i5).bind fun x7 =>
  K16 o0 i1 i2 i3 i4 x7 h1
theorem c336_50 {L : Nat} {xs : Nat → Int32} {zf : Value} {D : dD} {w k : Nat} {K16 : Option Nat → Int32 → Int32 → Int32 → Int32 → Int32 → rm_H → Option dR} (hD : dO L xs zf D k) (hz : zf.category = 1) (hK16 : ∀ (o0 : Option Nat) (i1 : Int32) (i2 : Int32) (i3 : Int32) (i4 : Int32) (i5 : Int32) (lv : rm_L) (h : rm_H) (r : dR), rm_get lv 0 = some (va_rf o0) → rm_get lv 1 = some (.int i1) → rm_get lv 2 = some (.int i2) → rm_get lv 3 = some (.int i3) → rm_get lv 4 = some (.int i4) → rm_get lv 5 = some (.int i5) → K16 o0 i1 i2 i3 i4 i5 h = some r → dq L xs zf ah_M336 16 lv [] h (k + 1) r) : ∀ (o0 : Option Nat) (i1 : Int32) (i2 : Int32) (i3 : Int32) (i4 : Int32) (i5 : Int32) (s0 : Int32) (s1 : Int32) (s2 : Option Nat) (lv : rm_L) (h : rm_H) (r : dR), rm_get lv 0 = some (va_rf o0) → rm_get lv 1 = some (.int i1) → rm_get lv 2 = some (.int i2) → rm_get lv 3 = some (.int i3) → rm_get lv 4 = some (.int i4) → rm_get lv 5 = some (.int i5) → b336_50 L xs zf D w K16  o0 i1 i2 i3 i4 i5 s0 s1 s2 h = some r → dq L xs zf ah_M336 50 lv [.int s0, .int s1, va_rf s2] h (k + 1) r := by
  intro o0 i1 i2 i3 i4 i5 s0 s1 s2 lv h r G0 G1 G2 G3 G4 G5 hh
  unfold b336_50 at hh
  obtain ⟨h1, q2, hh⟩ := db hh
  obtain ⟨a3, q4, q2⟩ := db q2
  rw [dq_xV q2] at q4
  refine dq_cvi hD 556 337 5 2 [15] s2 [.int s1, .int s0] [] 53 [] (by decide +kernel) ap_337 ⟨⟨Nat.le_of_ble_eq_true rfl, by decide⟩, rfl, rfl⟩ (dq_ok8 [1, 1, 1] [] (dc_r (dc_i (dc_i dc_n))) dc_n (by decide +kernel)) (by decide +kernel) rfl q4 rfl ?_
  refine dq_aln 0 54 (by decide +kernel) rfl G0 ?_
  obtain ⟨p5, q6, hh⟩ := db hh
  refine dq_gR 48 15 [15] 57 (by decide +kernel) rfl q6 ?_
  refine dq_il 5 59 (by decide +kernel) rfl G5 ?_
  obtain ⟨x7, q8, hh⟩ := db hh
  refine dq_aI 60 (by decide +kernel) rfl q8 ?_
  refine dq_is 5 62 (by decide +kernel) (by decide +kernel) ?_
  have g9 := dg_ne (i := 5) (u := .int x7) (by decide) (Or.inl (by decide)) G0
  have g10 := dg_ne (i := 5) (u := .int x7) (by decide) (Or.inl (by decide)) G1
  have g11 := dg_ne (i := 5) (u := .int x7) (by decide) (Or.inl (by decide)) G2
  have g12 := dg_ne (i := 5) (u := .int x7) (by decide) (Or.inl (by decide)) G3
  have g13 := dg_ne (i := 5) (u := .int x7) (by decide) (Or.inr rfl) G4
  have g14 := dg_eq (lv) 5 (.int x7)
  refine dq_S (.goto (-46)) 3 [] 16 _ [] (by decide +kernel) rfl ?_
  exact hK16 _ _ _ _ _ _ _ _ _ g9 g10 g11 g12 g13 g14 hh
def b336_124 (L : Nat) (xs : Nat → Int32) (zf : Value) (D : dD) (w : Nat) (h : rm_H) : Option dR :=
  some (none, h)
theorem c336_124 {L : Nat} {xs : Nat → Int32} {zf : Value} {D : dD} {w k : Nat} (hD : dO L xs zf D k) (hz : zf.category = 1) : ∀ (lv : rm_L) (h : rm_H) (r : dR), b336_124 L xs zf D w  h = some r → dq L xs zf ah_M336 124 lv [] h (k + 1) r := by
  intro lv h r hh
  unfold b336_124 at hh
  cases hh
  exact dq_ret0 (by decide +kernel) rfl
def b336_112 (L : Nat) (xs : Nat → Int32) (zf : Value) (D : dD) (w : Nat) (o0 : Option Nat) (i1 : Int32) (h : rm_H) : Option dR :=
  (dgR L xs h 22 [15] o0).bind fun p1 =>
  (daI L xs h p1 i1).bind fun x3 =>
  ((dcV L xs D 305 [15] o0 [.int 8, .int x3] h).bind dxV).bind fun h5 =>
  b336_124 L xs zf D w h5
theorem c336_112 {L : Nat} {xs : Nat → Int32} {zf : Value} {D : dD} {w k : Nat} (hD : dO L xs zf D k) (hz : zf.category = 1) : ∀ (o0 : Option Nat) (i1 : Int32) (lv : rm_L) (h : rm_H) (r : dR), rm_get lv 0 = some (va_rf o0) → rm_get lv 1 = some (.int i1) → b336_112 L xs zf D w  o0 i1 h = some r → dq L xs zf ah_M336 112 lv [] h (k + 1) r := by
  intro o0 i1 lv h r G0 G1 hh
  unfold b336_112 at hh
  refine dq_aln 0 113 (by decide +kernel) rfl G0 ?_
  refine dq_S (.bipush 8) 2 [] 115 _ [.int 8, va_rf o0] (by decide +kernel) rfl ?_
  refine dq_aln 0 116 (by decide +kernel) rfl G0 ?_
  obtain ⟨p1, q2, hh⟩ := db hh
  refine dq_gR 69 22 [15] 119 (by decide +kernel) rfl q2 ?_
  refine dq_iln 1 120 (by decide +kernel) rfl G1 ?_
  obtain ⟨x3, q4, hh⟩ := db hh
  refine dq_aI 121 (by decide +kernel) rfl q4 ?_
  obtain ⟨h5, q6, hh⟩ := db hh
  obtain ⟨a7, q8, q6⟩ := db q6
  rw [dq_xV q6] at q8
  refine dq_cvi hD 301 305 5 2 [15] o0 [.int 8, .int x3] [] 124 [] (by decide +kernel) ap_305 ⟨⟨Nat.le_of_ble_eq_true rfl, by decide⟩, rfl, rfl⟩ (dq_ok8 [1, 1, 1] [] (dc_r (dc_i (dc_i dc_n))) dc_n (by decide +kernel)) (by decide +kernel) rfl q8 rfl ?_
  exact c336_124 hD hz  _ _ _  hh
def b336_82 (L : Nat) (xs : Nat → Int32) (zf : Value) (D : dD) (w : Nat) (o0 : Option Nat) (i1 : Int32) (i2 : Int32) (i4 : Int32) (s0 : Int32) (h : rm_H) : Option dR :=
  (dgI L xs h 57 [15] o0).bind fun x6 =>
  if mx_f1 .ne x6 = true then
    b336_124 L xs zf D w h
  else
    if mx_f1 .le i2 = true then
      b336_124 L xs zf D w h
    else
      if mx_f1 .eq i4 = true then
        b336_112 L xs zf D w o0 i1 h
      else
        (dgR L xs h 11 [15] o0).bind fun p11 =>
        (daI L xs h p11 i4).bind fun x13 =>
        if mx_f2 .eq x13 s0 = true then
          b336_124 L xs zf D w h
        else
          b336_112 L xs zf D w o0 i1 h
theorem c336_82 {L : Nat} {xs : Nat → Int32} {zf : Value} {D : dD} {w k : Nat} (hD : dO L xs zf D k) (hz : zf.category = 1) : ∀ (o0 : Option Nat) (i1 : Int32) (i2 : Int32) (i4 : Int32) (s0 : Int32) (lv : rm_L) (h : rm_H) (r : dR), rm_get lv 0 = some (va_rf o0) → rm_get lv 1 = some (.int i1) → rm_get lv 2 = some (.int i2) → rm_get lv 4 = some (.int i4) → b336_82 L xs zf D w  o0 i1 i2 i4 s0 h = some r → dq L xs zf ah_M336 82 lv [.int s0] h (k + 1) r := by
  intro o0 i1 i2 i4 s0 lv h r G0 G1 G2 G4 hh
  unfold b336_82 at hh
  refine dq_is 5 84 (by decide +kernel) (by decide +kernel) ?_
  have g1 := dg_ne (i := 5) (u := .int s0) (by decide) (Or.inl (by decide)) G0
  have g2 := dg_ne (i := 5) (u := .int s0) (by decide) (Or.inl (by decide)) G1
  have g3 := dg_ne (i := 5) (u := .int s0) (by decide) (Or.inl (by decide)) G2
  have g4 := dg_ne (i := 5) (u := .int s0) (by decide) (Or.inr rfl) G4
  have g5 := dg_eq (lv) 5 (.int s0)
  refine dq_aln 0 85 (by decide +kernel) rfl g1 ?_
  obtain ⟨x6, q7, hh⟩ := db hh
  refine dq_gI 295 57 [15] 88 (by decide +kernel) rfl q7 ?_
  rcases di hh with ⟨q8, hh⟩ | ⟨q8, hh⟩
  · refine dq_1 .ne 36 true 124 q8 (by decide +kernel) ?_
    exact c336_124 hD hz  _ _ _  hh
  · refine dq_1 .ne 36 false 91 q8 (by decide +kernel) ?_
    refine dq_iln 2 92 (by decide +kernel) rfl g3 ?_
    rcases di hh with ⟨q9, hh⟩ | ⟨q9, hh⟩
    · refine dq_1 .le 32 true 124 q9 (by decide +kernel) ?_
      exact c336_124 hD hz  _ _ _  hh
    · refine dq_1 .le 32 false 95 q9 (by decide +kernel) ?_
      refine dq_il 4 97 (by decide +kernel) rfl g4 ?_
      rcases di hh with ⟨q10, hh⟩ | ⟨q10, hh⟩
      · refine dq_1 .eq 15 true 112 q10 (by decide +kernel) ?_
        exact c336_112 hD hz _ _ _ _ _ g1 g2 hh
      · refine dq_1 .eq 15 false 100 q10 (by decide +kernel) ?_
        refine dq_aln 0 101 (by decide +kernel) rfl g1 ?_
        obtain ⟨p11, q12, hh⟩ := db hh
        refine dq_gR 36 11 [15] 104 (by decide +kernel) rfl q12 ?_
        refine dq_il 4 106 (by decide +kernel) rfl g4 ?_
        obtain ⟨x13, q14, hh⟩ := db hh
        refine dq_aI 107 (by decide +kernel) rfl q14 ?_
        refine dq_il 5 109 (by decide +kernel) rfl g5 ?_
        rcases di hh with ⟨q15, hh⟩ | ⟨q15, hh⟩
        · refine dq_2 .eq 15 true 124 q15 (by decide +kernel) ?_
          exact c336_124 hD hz  _ _ _  hh
        · refine dq_2 .eq 15 false 112 q15 (by decide +kernel) ?_
          exact c336_112 hD hz _ _ _ _ _ g1 g2 hh
def b336_65 (L : Nat) (xs : Nat → Int32) (zf : Value) (D : dD) (w : Nat) (o0 : Option Nat) (i1 : Int32) (i2 : Int32) (i3 : Int32) (i4 : Int32) (h : rm_H) : Option dR :=
  (dpF h 62 [15] o0 (.int i3)).bind fun h1 =>
  if mx_f2 .ne i2 1 = true then
    b336_82 L xs zf D w o0 i1 i2 i4 25 h1
  else
    b336_82 L xs zf D w o0 i1 i2 i4 24 h1
theorem c336_65 {L : Nat} {xs : Nat → Int32} {zf : Value} {D : dD} {w k : Nat} (hD : dO L xs zf D k) (hz : zf.category = 1) : ∀ (o0 : Option Nat) (i1 : Int32) (i2 : Int32) (i3 : Int32) (i4 : Int32) (lv : rm_L) (h : rm_H) (r : dR), rm_get lv 0 = some (va_rf o0) → rm_get lv 1 = some (.int i1) → rm_get lv 2 = some (.int i2) → rm_get lv 3 = some (.int i3) → rm_get lv 4 = some (.int i4) → b336_65 L xs zf D w  o0 i1 i2 i3 i4 h = some r → dq L xs zf ah_M336 65 lv [] h (k + 1) r := by
  intro o0 i1 i2 i3 i4 lv h r G0 G1 G2 G3 G4 hh
  unfold b336_65 at hh
  refine dq_aln 0 66 (by decide +kernel) rfl G0 ?_
  refine dq_iln 3 67 (by decide +kernel) rfl G3 ?_
  obtain ⟨h1, q2, hh⟩ := db hh
  refine dq_put 434 62 [15] 70 (by decide +kernel) rfl q2 ?_
  refine dq_iln 2 71 (by decide +kernel) rfl G2 ?_
  refine dq_S (.iconst 1) 1 [] 72 _ [.int 1, .int i2] (by decide +kernel) rfl ?_
  rcases di hh with ⟨q3, hh⟩ | ⟨q3, hh⟩
  · refine dq_2 .ne 8 true 80 q3 (by decide +kernel) ?_
    refine dq_S (.bipush 25) 2 [] 82 _ [.int 25] (by decide +kernel) rfl ?_
    exact c336_82 hD hz _ _ _ _ _ _ _ _ G0 G1 G2 G4 hh
  · refine dq_2 .ne 8 false 75 q3 (by decide +kernel) ?_
    refine dq_S (.bipush 24) 2 [] 77 _ [.int 24] (by decide +kernel) rfl ?_
    refine dq_S (.goto 5) 3 [] 82 _ [.int 24] (by decide +kernel) rfl ?_
    exact c336_82 hD hz _ _ _ _ _ _ _ _ G0 G1 G2 G4 hh
def b336_16 (L : Nat) (xs : Nat → Int32) (zf : Value) (D : dD) (w : Nat) : Nat → Option Nat → Int32 → Int32 → Int32 → Int32 → Int32 → rm_H → Option dR
  | 0, _, _, _, _, _, _, _ => none
  | n + 1, o0, i1, i2, i3, i4, i5, h =>
    if mx_f1 .eq i5 = true then
      b336_65 L xs zf D w o0 i1 i2 i3 i4 h
    else
      (dgI L xs h 57 [15] o0).bind fun x2 =>
      if mx_f1 .ne x2 = true then
        b336_65 L xs zf D w o0 i1 i2 i3 i4 h
      else
        (dgR L xs h 15 [15] o0).bind fun p11 =>
        (daI L xs h p11 i5).bind fun x13 =>
        if mx_f1 .ne x13 = true then
          b336_50 L xs zf D w (b336_16 L xs zf D w n) o0 i1 i2 i3 i5 i5 0 i5 o0 h
        else
          b336_50 L xs zf D w (b336_16 L xs zf D w n) o0 i1 i2 i3 i5 i5 i2 i5 o0 h
theorem c336_16 {L : Nat} {xs : Nat → Int32} {zf : Value} {D : dD} {w k : Nat} (hD : dO L xs zf D k) (hz : zf.category = 1) : ∀ (n : Nat) (o0 : Option Nat) (i1 : Int32) (i2 : Int32) (i3 : Int32) (i4 : Int32) (i5 : Int32) (lv : rm_L) (h : rm_H) (r : dR), rm_get lv 0 = some (va_rf o0) → rm_get lv 1 = some (.int i1) → rm_get lv 2 = some (.int i2) → rm_get lv 3 = some (.int i3) → rm_get lv 4 = some (.int i4) → rm_get lv 5 = some (.int i5) → b336_16 L xs zf D w n  o0 i1 i2 i3 i4 i5 h = some r → dq L xs zf ah_M336 16 lv [] h (k + 1) r := by
  intro n
  induction n with
  | zero =>
    intro o0 i1 i2 i3 i4 i5 lv h r G0 G1 G2 G3 G4 G5 hh
    cases hh
  | succ n ih =>
    intro o0 i1 i2 i3 i4 i5 lv h r G0 G1 G2 G3 G4 G5 hh
    rw [b336_16] at hh
    refine dq_il 5 18 (by decide +kernel) rfl G5 ?_
    rcases di hh with ⟨q1, hh⟩ | ⟨q1, hh⟩
    · refine dq_1 .eq 47 true 65 q1 (by decide +kernel) ?_
      exact c336_65 hD hz _ _ _ _ _ _ _ _ G0 G1 G2 G3 G4 hh
    · refine dq_1 .eq 47 false 21 q1 (by decide +kernel) ?_
      refine dq_aln 0 22 (by decide +kernel) rfl G0 ?_
      obtain ⟨x2, q3, hh⟩ := db hh
      refine dq_gI 295 57 [15] 25 (by decide +kernel) rfl q3 ?_
      rcases di hh with ⟨q4, hh⟩ | ⟨q4, hh⟩
      · refine dq_1 .ne 40 true 65 q4 (by decide +kernel) ?_
        exact c336_65 hD hz _ _ _ _ _ _ _ _ G0 G1 G2 G3 G4 hh
      · refine dq_1 .ne 40 false 28 q4 (by decide +kernel) ?_
        refine dq_il 5 30 (by decide +kernel) rfl G5 ?_
        refine dq_is 4 32 (by decide +kernel) (by decide +kernel) ?_
        have g5 := dg_ne (i := 4) (u := .int i5) (by decide) (Or.inl (by decide)) G0
        have g6 := dg_ne (i := 4) (u := .int i5) (by decide) (Or.inl (by decide)) G1
        have g7 := dg_ne (i := 4) (u := .int i5) (by decide) (Or.inl (by decide)) G2
        have g8 := dg_ne (i := 4) (u := .int i5) (by decide) (Or.inr rfl) G3
        have g9 := dg_ne (i := 4) (u := .int i5) (by decide) (Or.inl (by decide)) G5
        have g10 := dg_eq (lv) 4 (.int i5)
        refine dq_aln 0 33 (by decide +kernel) rfl g5 ?_
        refine dq_il 5 35 (by decide +kernel) rfl g9 ?_
        refine dq_aln 0 36 (by decide +kernel) rfl g5 ?_
        obtain ⟨p11, q12, hh⟩ := db hh
        refine dq_gR 48 15 [15] 39 (by decide +kernel) rfl q12 ?_
        refine dq_il 5 41 (by decide +kernel) rfl g9 ?_
        obtain ⟨x13, q14, hh⟩ := db hh
        refine dq_aI 42 (by decide +kernel) rfl q14 ?_
        rcases di hh with ⟨q15, hh⟩ | ⟨q15, hh⟩
        · refine dq_1 .ne 7 true 49 q15 (by decide +kernel) ?_
          refine dq_S (.iconst 0) 1 [] 50 _ [.int 0, .int i5, va_rf o0] (by decide +kernel) rfl ?_
          exact c336_50 hD hz ih _ _ _ _ _ _ _ _ _ _ _ _ g5 g6 g7 g8 g10 g9 hh
        · refine dq_1 .ne 7 false 45 q15 (by decide +kernel) ?_
          refine dq_iln 2 46 (by decide +kernel) rfl g7 ?_
          refine dq_S (.goto 4) 3 [] 50 _ [.int i2, .int i5, va_rf o0] (by decide +kernel) rfl ?_
          exact c336_50 hD hz ih _ _ _ _ _ _ _ _ _ _ _ _ g5 g6 g7 g8 g10 g9 hh
def b336_0 (L : Nat) (xs : Nat → Int32) (zf : Value) (D : dD) (w : Nat) (o0 : Option Nat) (i1 : Int32) (i2 : Int32) (h : rm_H) : Option dR :=
  (dgI L xs h 62 [15] o0).bind fun x1 =>
  (dgR L xs h 12 [15] o0).bind fun p12 =>
  (daI L xs h p12 i1).bind fun x14 =>
  b336_16 L xs zf D w w o0 i1 i2 x1 0 x14 h
theorem c336_0 {L : Nat} {xs : Nat → Int32} {zf : Value} {D : dD} {w k : Nat} (hD : dO L xs zf D k) (hz : zf.category = 1) : ∀ (o0 : Option Nat) (i1 : Int32) (i2 : Int32) (lv : rm_L) (h : rm_H) (r : dR), rm_get lv 0 = some (va_rf o0) → rm_get lv 1 = some (.int i1) → rm_get lv 2 = some (.int i2) → b336_0 L xs zf D w  o0 i1 i2 h = some r → dq L xs zf ah_M336 0 lv [] h (k + 1) r := by
  intro o0 i1 i2 lv h r G0 G1 G2 hh
  unfold b336_0 at hh
  refine dq_aln 0 1 (by decide +kernel) rfl G0 ?_
  obtain ⟨x1, q2, hh⟩ := db hh
  refine dq_gI 434 62 [15] 4 (by decide +kernel) rfl q2 ?_
  refine dq_isn 3 5 (by decide +kernel) (by decide +kernel) ?_
  have g3 := dg_ne (i := 3) (u := .int x1) (by decide) (Or.inl (by decide)) G0
  have g4 := dg_ne (i := 3) (u := .int x1) (by decide) (Or.inl (by decide)) G1
  have g5 := dg_ne (i := 3) (u := .int x1) (by decide) (Or.inr rfl) G2
  have g6 := dg_eq (lv) 3 (.int x1)
  refine dq_S (.iconst 0) 1 [] 6 _ [.int 0] (by decide +kernel) rfl ?_
  refine dq_is 4 8 (by decide +kernel) (by decide +kernel) ?_
  have g7 := dg_ne (i := 4) (u := .int 0) (by decide) (Or.inl (by decide)) g3
  have g8 := dg_ne (i := 4) (u := .int 0) (by decide) (Or.inl (by decide)) g4
  have g9 := dg_ne (i := 4) (u := .int 0) (by decide) (Or.inl (by decide)) g5
  have g10 := dg_ne (i := 4) (u := .int 0) (by decide) (Or.inr rfl) g6
  have g11 := dg_eq (rm_set1 (lv) 3 (.int x1)) 4 (.int 0)
  refine dq_aln 0 9 (by decide +kernel) rfl g7 ?_
  obtain ⟨p12, q13, hh⟩ := db hh
  refine dq_gR 39 12 [15] 12 (by decide +kernel) rfl q13 ?_
  refine dq_iln 1 13 (by decide +kernel) rfl g8 ?_
  obtain ⟨x14, q15, hh⟩ := db hh
  refine dq_aI 14 (by decide +kernel) rfl q15 ?_
  refine dq_is 5 16 (by decide +kernel) (by decide +kernel) ?_
  have g16 := dg_ne (i := 5) (u := .int x14) (by decide) (Or.inl (by decide)) g7
  have g17 := dg_ne (i := 5) (u := .int x14) (by decide) (Or.inl (by decide)) g8
  have g18 := dg_ne (i := 5) (u := .int x14) (by decide) (Or.inl (by decide)) g9
  have g19 := dg_ne (i := 5) (u := .int x14) (by decide) (Or.inl (by decide)) g10
  have g20 := dg_ne (i := 5) (u := .int x14) (by decide) (Or.inr rfl) g11
  have g21 := dg_eq (rm_set1 (rm_set1 (lv) 3 (.int x1)) 4 (.int 0)) 5 (.int x14)
  exact c336_16 hD hz _ _ _ _ _ _ _ _ _ _ g16 g17 g18 g19 g20 g21 hh
def f336 (L : Nat) (xs : Nat → Int32) (zf : Value) (D : dD) (w : Nat) (As : List Value) (h : rm_H) : Option dR := match As with
  | [v0, .int i1, .int i2] => (rm_rf v0).bind fun o0 => b336_0 L xs zf D w o0 i1 i2 h
  | _ => none
theorem d336 {L : Nat} {xs : Nat → Int32} {zf : Value} {D : dD} {w k : Nat} (hD : dO L xs zf D k) (hz : zf.category = 1) (As : List Value) (h : rm_H) (r : dR) (hh : f336 L xs zf D w As h = some r) : dq L xs zf ah_M336 0 (lv_args 0 As) [] h (k + 1) r := by
  unfold f336 at hh
  split at hh
  · obtain ⟨o0, e0, hb0⟩ := db hh
    have e0 := rm_rf_v _ _ e0
    subst e0
    refine c336_0 hD hz _ _ _ _ _ _ ?_ ?_ ?_ hb0
    all_goals (simp only [la_r, la_i, la_j]; rfl)
  · cases hh
def b337_288 (L : Nat) (xs : Nat → Int32) (zf : Value) (D : dD) (w : Nat) (h : rm_H) : Option dR :=
  some (none, h)
theorem c337_288 {L : Nat} {xs : Nat → Int32} {zf : Value} {D : dD} {w k : Nat} (hD : dO L xs zf D k) (hz : zf.category = 1) : ∀ (lv : rm_L) (h : rm_H) (r : dR), b337_288 L xs zf D w  h = some r → dq L xs zf ah_M337 288 lv [] h (k + 1) r := by
  intro lv h r hh
  unfold b337_288 at hh
  cases hh
  exact dq_ret0 (by decide +kernel) rfl
def b337_0 (L : Nat) (xs : Nat → Int32) (zf : Value) (D : dD) (w : Nat) (o0 : Option Nat) (i1 : Int32) (i2 : Int32) (h : rm_H) : Option dR :=
  (dgR L xs h 12 [15] o0).bind fun p1 =>
  (daI L xs h p1 i1).bind fun x3 =>
  (dgR L xs h 11 [15] o0).bind fun p9 =>
  (daI L xs h p9 i1).bind fun x11 =>
  if dsw 20 26 x11 = true then
    ((dcV L xs D 339 [15] o0 [.int x3] h).bind dxI).bind fun x14 =>
    b337_288 L xs zf D w x14.2
  else if x11 = 20 then
    ((dcV L xs D 338 [15] o0 [.int x3] h).bind dxI).bind fun x19 =>
    (dgI L xs x19.2 57 [15] o0).bind fun x28 =>
    if mx_f1 .le x28 = true then
      (dgR L xs x19.2 23 [15] o0).bind fun p31 =>
      (daJ L xs x19.2 p31 i1).bind fun y33 =>
      ((dcV L xs D 349 [15] o0 [.long y33] x19.2).bind dxI).bind fun x35 =>
      if mx_f2 .eq x35.1 (-1) = true then
        (dgR L xs x35.2 30 [15] o0).bind fun p40 =>
        (dgR L xs x35.2 21 [15] o0).bind fun p42 =>
        (daI L xs x35.2 p42 i1).bind fun x44 =>
        (daI L xs x35.2 p40 x44).bind fun x46 =>
        ((dcV L xs D 353 [15] o0 [.int x3, .int x19.1, .int x46] x35.2).bind dxI).bind fun x48 =>
        if mx_f1 .eq x48.1 = true then
          b337_288 L xs zf D w x48.2
        else
          (dgR L xs x48.2 23 [15] o0).bind fun p53 =>
          (daJ L xs x48.2 p53 i1).bind fun y55 =>
          (dgR L xs x48.2 20 [15] o0).bind fun p57 =>
          (daI L xs x48.2 p57 i1).bind fun x59 =>
          (dgR L xs x48.2 30 [15] o0).bind fun p61 =>
          (dgR L xs x48.2 21 [15] o0).bind fun p63 =>
          (daI L xs x48.2 p63 i1).bind fun x65 =>
          (daI L xs x48.2 p61 x65).bind fun x67 =>
          ((dcV L xs D 335 [15] o0 [.long y55, .int x59, .int x67] x48.2).bind dxV).bind fun h69 =>
          b337_288 L xs zf D w h69
      else
        (dgR L xs x35.2 18 [15] o0).bind fun p73 =>
        (daI L xs x35.2 p73 i1).bind fun x75 =>
        ((dcV L xs D 305 [15] o0 [.int 2, .int x75] x35.2).bind dxV).bind fun h77 =>
        b337_288 L xs zf D w h77
    else
      some (none, x19.2)
  else if x11 = 21 then
    ((dcV L xs D 368 [15] o0 [.int i1] h).bind dxV).bind fun h82 =>
    b337_288 L xs zf D w h82
  else if x11 = 22 then
    ((dcV L xs D 369 [15] o0 [.int i1] h).bind dxV).bind fun h87 =>
    b337_288 L xs zf D w h87
  else if x11 = 23 then
    ((dcV L xs D 339 [15] o0 [.int x3] h).bind dxI).bind fun x92 =>
    ((dcV L xs D 367 [15] o0 [.int x3, .int x92.1] x92.2).bind dxV).bind fun h96 =>
    b337_288 L xs zf D w h96
  else if x11 = 24 then
    if mx_f2 .eq i2 1 = true then
      ((dcV L xs D 338 [15] o0 [.int x3] h).bind dxI).bind fun x102 =>
      (dgI L xs x102.2 57 [15] o0).bind fun x111 =>
      if mx_f1 .ne x111 = true then
        b337_288 L xs zf D w x102.2
      else
        (dgR L xs x102.2 30 [15] o0).bind fun p114 =>
        (dgR L xs x102.2 48 [15] o0).bind fun p116 =>
        (dgI L xs x102.2 66 [15] o0).bind fun x118 =>
        (daI L xs x102.2 p116 x118).bind fun x120 =>
        (daI L xs x102.2 p114 x120).bind fun x122 =>
        ((dcV L xs D 353 [15] o0 [.int x3, .int x102.1, .int x122] x102.2).bind dxI).bind fun x124 =>
        b337_288 L xs zf D w x124.2
    else
      (dgR L xs h 17 [15] o0).bind fun p128 =>
      (daI L xs h p128 i1).bind fun x130 =>
      ((dcV L xs D 305 [15] o0 [.int 8, .int x130] h).bind dxV).bind fun h132 =>
      some (none, h132)
  else if x11 = 25 then
    if mx_f2 .eq i2 2 = true then
      ((dcV L xs D 338 [15] o0 [.int x3] h).bind dxI).bind fun x138 =>
      (dpF x138.2 65 [15] o0 (.int x138.1)).bind fun h142 =>
      b337_288 L xs zf D w h142
    else
      (dgR L xs h 17 [15] o0).bind fun p144 =>
      (daI L xs h p144 i1).bind fun x146 =>
      ((dcV L xs D 305 [15] o0 [.int 8, .int x146] h).bind dxV).bind fun h148 =>
      some (none, h148)
  else if x11 = 26 then
    (dgR L xs h 13 [15] o0).bind fun p153 =>
    (daI L xs h p153 i1).bind fun x155 =>
    ((dcV L xs D 351 [15] o0 [.int x3, .int x155, .int 0] h).bind dxI).bind fun x157 =>
    b337_288 L xs zf D w x157.2
  else none
theorem c337_0 {L : Nat} {xs : Nat → Int32} {zf : Value} {D : dD} {w k : Nat} (hD : dO L xs zf D k) (hz : zf.category = 1) : ∀ (o0 : Option Nat) (i1 : Int32) (i2 : Int32) (lv : rm_L) (h : rm_H) (r : dR), rm_get lv 0 = some (va_rf o0) → rm_get lv 1 = some (.int i1) → rm_get lv 2 = some (.int i2) → b337_0 L xs zf D w  o0 i1 i2 h = some r → dq L xs zf ah_M337 0 lv [] h (k + 1) r := by
  intro o0 i1 i2 lv h r G0 G1 G2 hh
  unfold b337_0 at hh
  refine dq_aln 0 1 (by decide +kernel) rfl G0 ?_
  obtain ⟨p1, q2, hh⟩ := db hh
  refine dq_gR 39 12 [15] 4 (by decide +kernel) rfl q2 ?_
  refine dq_iln 1 5 (by decide +kernel) rfl G1 ?_
  obtain ⟨x3, q4, hh⟩ := db hh
  refine dq_aI 6 (by decide +kernel) rfl q4 ?_
  refine dq_isn 3 7 (by decide +kernel) (by decide +kernel) ?_
  have g5 := dg_ne (i := 3) (u := .int x3) (by decide) (Or.inl (by decide)) G0
  have g6 := dg_ne (i := 3) (u := .int x3) (by decide) (Or.inl (by decide)) G1
  have g7 := dg_ne (i := 3) (u := .int x3) (by decide) (Or.inr rfl) G2
  have g8 := dg_eq (lv) 3 (.int x3)
  refine dq_aln 0 8 (by decide +kernel) rfl g5 ?_
  obtain ⟨p9, q10, hh⟩ := db hh
  refine dq_gR 36 11 [15] 11 (by decide +kernel) rfl q10 ?_
  refine dq_iln 1 12 (by decide +kernel) rfl g6 ?_
  obtain ⟨x11, q12, hh⟩ := db hh
  refine dq_aI 13 (by decide +kernel) rfl q12 ?_
  rcases di hh with ⟨q13, hh⟩ | ⟨_, hh⟩
  · refine dq_sd 269 20 26 #[43, 137, 145, 153, 166, 223, 253] 43 282 (by decide +kernel) (by decide +kernel) q13 ?_
    refine dq_aln 0 283 (by decide +kernel) rfl g5 ?_
    refine dq_iln 3 284 (by decide +kernel) rfl g8 ?_
    obtain ⟨x14, q15, hh⟩ := db hh
    obtain ⟨a16, q17, q15⟩ := db q15
    rw [dq_xI q15] at q17
    refine dq_cvi hD 453 339 5 1 [15] o0 [.int x3] [] 287 [.int x14.1] (by decide +kernel) ap_339 ⟨⟨Nat.le_of_ble_eq_true rfl, by decide⟩, rfl, rfl⟩ (dq_ok8 [1, 1] [] (dc_r (dc_i dc_n)) dc_n (by decide +kernel)) (by decide +kernel) rfl q17 rfl ?_
    refine dq_S (.pop) 1 [] 288 _ [] (by decide +kernel) rfl ?_
    exact c337_288 hD hz  _ _ _  hh
  rcases dp hh with ⟨q18, hh⟩ | ⟨_, hh⟩
  · refine dq_eq 20 q18 ?_
    refine dq_S (.tableswitch 269 20 26 #[43, 137, 145, 153, 166, 223, 253]) 43 [] 56 _ [] (by decide +kernel) rfl ?_
    refine dq_aln 0 57 (by decide +kernel) rfl g5 ?_
    refine dq_iln 3 58 (by decide +kernel) rfl g8 ?_
    obtain ⟨x19, q20, hh⟩ := db hh
    obtain ⟨a21, q22, q20⟩ := db q20
    rw [dq_xI q20] at q22
    refine dq_cvi hD 459 338 5 1 [15] o0 [.int x3] [] 61 [.int x19.1] (by decide +kernel) ap_338 ⟨⟨Nat.le_of_ble_eq_true rfl, by decide⟩, rfl, rfl⟩ (dq_ok8 [1, 1] [] (dc_r (dc_i dc_n)) dc_n (by decide +kernel)) (by decide +kernel) rfl q22 rfl ?_
    refine dq_is 4 63 (by decide +kernel) (by decide +kernel) ?_
    have g23 := dg_ne (i := 4) (u := .int x19.1) (by decide) (Or.inl (by decide)) g5
    have g24 := dg_ne (i := 4) (u := .int x19.1) (by decide) (Or.inl (by decide)) g6
    have g25 := dg_ne (i := 4) (u := .int x19.1) (by decide) (Or.inl (by decide)) g7
    have g26 := dg_ne (i := 4) (u := .int x19.1) (by decide) (Or.inr rfl) g8
    have g27 := dg_eq (rm_set1 (lv) 3 (.int x3)) 4 (.int x19.1)
    refine dq_aln 0 64 (by decide +kernel) rfl g23 ?_
    obtain ⟨x28, q29, hh⟩ := db hh
    refine dq_gI 295 57 [15] 67 (by decide +kernel) rfl q29 ?_
    rcases di hh with ⟨q30, hh⟩ | ⟨q30, hh⟩
    · refine dq_1 .le 4 true 71 q30 (by decide +kernel) ?_
      refine dq_aln 0 72 (by decide +kernel) rfl g23 ?_
      refine dq_aln 0 73 (by decide +kernel) rfl g23 ?_
      obtain ⟨p31, q32, hh⟩ := db hh
      refine dq_gR 72 23 [15] 76 (by decide +kernel) rfl q32 ?_
      refine dq_iln 1 77 (by decide +kernel) rfl g24 ?_
      obtain ⟨y33, q34, hh⟩ := db hh
      refine dq_aJ 78 (by decide +kernel) rfl q34 ?_
      obtain ⟨x35, q36, hh⟩ := db hh
      obtain ⟨a37, q38, q36⟩ := db q36
      rw [dq_xI q36] at q38
      refine dq_cvi hD 504 349 5 1 [15] o0 [.long y33] [] 81 [.int x35.1] (by decide +kernel) ap_349 ⟨⟨Nat.le_of_ble_eq_true rfl, by decide⟩, rfl, rfl⟩ (dq_ok8 [1, 2] [] (dc_r (dc_j dc_n)) dc_n (by decide +kernel)) (by decide +kernel) rfl q38 rfl ?_
      refine dq_S (.iconst (-1)) 1 [] 82 _ [.int (-1), .int x35.1] (by decide +kernel) rfl ?_
      rcases di hh with ⟨q39, hh⟩ | ⟨q39, hh⟩
      · refine dq_2 .eq 17 true 99 q39 (by decide +kernel) ?_
        refine dq_aln 0 100 (by decide +kernel) rfl g23 ?_
        refine dq_iln 3 101 (by decide +kernel) rfl g26 ?_
        refine dq_il 4 103 (by decide +kernel) rfl g27 ?_
        refine dq_aln 0 104 (by decide +kernel) rfl g23 ?_
        obtain ⟨p40, q41, hh⟩ := db hh
        refine dq_gR 84 30 [15] 107 (by decide +kernel) rfl q41 ?_
        refine dq_aln 0 108 (by decide +kernel) rfl g23 ?_
        obtain ⟨p42, q43, hh⟩ := db hh
        refine dq_gR 66 21 [15] 111 (by decide +kernel) rfl q43 ?_
        refine dq_iln 1 112 (by decide +kernel) rfl g24 ?_
        obtain ⟨x44, q45, hh⟩ := db hh
        refine dq_aI 113 (by decide +kernel) rfl q45 ?_
        obtain ⟨x46, q47, hh⟩ := db hh
        refine dq_aI 114 (by decide +kernel) rfl q47 ?_
        obtain ⟨x48, q49, hh⟩ := db hh
        obtain ⟨a50, q51, q49⟩ := db q49
        rw [dq_xI q49] at q51
        refine dq_cvi hD 507 353 5 3 [15] o0 [.int x3, .int x19.1, .int x46] [] 117 [.int x48.1] (by decide +kernel) ap_353 ⟨⟨Nat.le_of_ble_eq_true rfl, by decide⟩, rfl, rfl⟩ (dq_ok8 [1, 1, 1, 1] [] (dc_r (dc_i (dc_i (dc_i dc_n)))) dc_n (by decide +kernel)) (by decide +kernel) rfl q51 rfl ?_
        rcases di hh with ⟨q52, hh⟩ | ⟨q52, hh⟩
        · refine dq_1 .eq 171 true 288 q52 (by decide +kernel) ?_
          exact c337_288 hD hz  _ _ _  hh
        · refine dq_1 .eq 171 false 120 q52 (by decide +kernel) ?_
          refine dq_aln 0 121 (by decide +kernel) rfl g23 ?_
          refine dq_aln 0 122 (by decide +kernel) rfl g23 ?_
          obtain ⟨p53, q54, hh⟩ := db hh
          refine dq_gR 72 23 [15] 125 (by decide +kernel) rfl q54 ?_
          refine dq_iln 1 126 (by decide +kernel) rfl g24 ?_
          obtain ⟨y55, q56, hh⟩ := db hh
          refine dq_aJ 127 (by decide +kernel) rfl q56 ?_
          refine dq_aln 0 128 (by decide +kernel) rfl g23 ?_
          obtain ⟨p57, q58, hh⟩ := db hh
          refine dq_gR 63 20 [15] 131 (by decide +kernel) rfl q58 ?_
          refine dq_iln 1 132 (by decide +kernel) rfl g24 ?_
          obtain ⟨x59, q60, hh⟩ := db hh
          refine dq_aI 133 (by decide +kernel) rfl q60 ?_
          refine dq_aln 0 134 (by decide +kernel) rfl g23 ?_
          obtain ⟨p61, q62, hh⟩ := db hh
          refine dq_gR 84 30 [15] 137 (by decide +kernel) rfl q62 ?_
          refine dq_aln 0 138 (by decide +kernel) rfl g23 ?_
          obtain ⟨p63, q64, hh⟩ := db hh
          refine dq_gR 66 21 [15] 141 (by decide +kernel) rfl q64 ?_
          refine dq_iln 1 142 (by decide +kernel) rfl g24 ?_
          obtain ⟨x65, q66, hh⟩ := db hh
          refine dq_aI 143 (by decide +kernel) rfl q66 ?_
          obtain ⟨x67, q68, hh⟩ := db hh
          refine dq_aI 144 (by decide +kernel) rfl q68 ?_
          obtain ⟨h69, q70, hh⟩ := db hh
          obtain ⟨a71, q72, q70⟩ := db q70
          rw [dq_xV q70] at q72
          refine dq_cvi hD 559 335 5 3 [15] o0 [.long y55, .int x59, .int x67] [] 147 [] (by decide +kernel) ap_335 ⟨⟨Nat.le_of_ble_eq_true rfl, by decide⟩, rfl, rfl⟩ (dq_ok8 [1, 2, 1, 1] [] (dc_r (dc_j (dc_i (dc_i dc_n)))) dc_n (by decide +kernel)) (by decide +kernel) rfl q72 rfl ?_
          refine dq_S (.goto 141) 3 [] 288 _ [] (by decide +kernel) rfl ?_
          exact c337_288 hD hz  _ _ _  hh
      · refine dq_2 .eq 17 false 85 q39 (by decide +kernel) ?_
        refine dq_aln 0 86 (by decide +kernel) rfl g23 ?_
        refine dq_S (.iconst 2) 1 [] 87 _ [.int 2, va_rf o0] (by decide +kernel) rfl ?_
        refine dq_aln 0 88 (by decide +kernel) rfl g23 ?_
        obtain ⟨p73, q74, hh⟩ := db hh
        refine dq_gR 57 18 [15] 91 (by decide +kernel) rfl q74 ?_
        refine dq_iln 1 92 (by decide +kernel) rfl g24 ?_
        obtain ⟨x75, q76, hh⟩ := db hh
        refine dq_aI 93 (by decide +kernel) rfl q76 ?_
        obtain ⟨h77, q78, hh⟩ := db hh
        obtain ⟨a79, q80, q78⟩ := db q78
        rw [dq_xV q78] at q80
        refine dq_cvi hD 301 305 5 2 [15] o0 [.int 2, .int x75] [] 96 [] (by decide +kernel) ap_305 ⟨⟨Nat.le_of_ble_eq_true rfl, by decide⟩, rfl, rfl⟩ (dq_ok8 [1, 1, 1] [] (dc_r (dc_i (dc_i dc_n))) dc_n (by decide +kernel)) (by decide +kernel) rfl q80 rfl ?_
        refine dq_S (.goto 192) 3 [] 288 _ [] (by decide +kernel) rfl ?_
        exact c337_288 hD hz  _ _ _  hh
    · refine dq_1 .le 4 false 70 q30 (by decide +kernel) ?_
      cases hh
      exact dq_ret0 (by decide +kernel) rfl
  rcases dp hh with ⟨q81, hh⟩ | ⟨_, hh⟩
  · refine dq_eq 21 q81 ?_
    refine dq_S (.tableswitch 269 20 26 #[43, 137, 145, 153, 166, 223, 253]) 43 [] 150 _ [] (by decide +kernel) rfl ?_
    refine dq_aln 0 151 (by decide +kernel) rfl g5 ?_
    refine dq_iln 1 152 (by decide +kernel) rfl g6 ?_
    obtain ⟨h82, q83, hh⟩ := db hh
    obtain ⟨a84, q85, q83⟩ := db q83
    rw [dq_xV q83] at q85
    refine dq_cvi hD 563 368 5 1 [15] o0 [.int i1] [] 155 [] (by decide +kernel) ap_368 ⟨⟨Nat.le_of_ble_eq_true rfl, by decide⟩, rfl, rfl⟩ (dq_ok8 [1, 1] [] (dc_r (dc_i dc_n)) dc_n (by decide +kernel)) (by decide +kernel) rfl q85 rfl ?_
    refine dq_S (.goto 133) 3 [] 288 _ [] (by decide +kernel) rfl ?_
    exact c337_288 hD hz  _ _ _  hh
  rcases dp hh with ⟨q86, hh⟩ | ⟨_, hh⟩
  · refine dq_eq 22 q86 ?_
    refine dq_S (.tableswitch 269 20 26 #[43, 137, 145, 153, 166, 223, 253]) 43 [] 158 _ [] (by decide +kernel) rfl ?_
    refine dq_aln 0 159 (by decide +kernel) rfl g5 ?_
    refine dq_iln 1 160 (by decide +kernel) rfl g6 ?_
    obtain ⟨h87, q88, hh⟩ := db hh
    obtain ⟨a89, q90, q88⟩ := db q88
    rw [dq_xV q88] at q90
    refine dq_cvi hD 566 369 5 1 [15] o0 [.int i1] [] 163 [] (by decide +kernel) ap_369 ⟨⟨Nat.le_of_ble_eq_true rfl, by decide⟩, rfl, rfl⟩ (dq_ok8 [1, 1] [] (dc_r (dc_i dc_n)) dc_n (by decide +kernel)) (by decide +kernel) rfl q90 rfl ?_
    refine dq_S (.goto 125) 3 [] 288 _ [] (by decide +kernel) rfl ?_
    exact c337_288 hD hz  _ _ _  hh
  rcases dp hh with ⟨q91, hh⟩ | ⟨_, hh⟩
  · refine dq_eq 23 q91 ?_
    refine dq_S (.tableswitch 269 20 26 #[43, 137, 145, 153, 166, 223, 253]) 43 [] 166 _ [] (by decide +kernel) rfl ?_
    refine dq_aln 0 167 (by decide +kernel) rfl g5 ?_
    refine dq_iln 3 168 (by decide +kernel) rfl g8 ?_
    refine dq_aln 0 169 (by decide +kernel) rfl g5 ?_
    refine dq_iln 3 170 (by decide +kernel) rfl g8 ?_
    obtain ⟨x92, q93, hh⟩ := db hh
    obtain ⟨a94, q95, q93⟩ := db q93
    rw [dq_xI q93] at q95
    refine dq_cvi hD 453 339 5 1 [15] o0 [.int x3] [.int x3, va_rf o0] 173 [.int x92.1, .int x3, va_rf o0] (by decide +kernel) ap_339 ⟨⟨Nat.le_of_ble_eq_true rfl, by decide⟩, rfl, rfl⟩ (dq_ok8 [1, 1] [1, 1] (dc_r (dc_i dc_n)) (dc_i (dc_r dc_n)) (by decide +kernel)) (by decide +kernel) rfl q95 rfl ?_
    obtain ⟨h96, q97, hh⟩ := db hh
    obtain ⟨a98, q99, q97⟩ := db q97
    rw [dq_xV q97] at q99
    refine dq_cvi hD 532 367 5 2 [15] o0 [.int x3, .int x92.1] [] 176 [] (by decide +kernel) ap_367 ⟨⟨Nat.le_of_ble_eq_true rfl, by decide⟩, rfl, rfl⟩ (dq_ok8 [1, 1, 1] [] (dc_r (dc_i (dc_i dc_n))) dc_n (by decide +kernel)) (by decide +kernel) rfl q99 rfl ?_
    refine dq_S (.goto 112) 3 [] 288 _ [] (by decide +kernel) rfl ?_
    exact c337_288 hD hz  _ _ _  hh
  rcases dp hh with ⟨q100, hh⟩ | ⟨_, hh⟩
  · refine dq_eq 24 q100 ?_
    refine dq_S (.tableswitch 269 20 26 #[43, 137, 145, 153, 166, 223, 253]) 43 [] 179 _ [] (by decide +kernel) rfl ?_
    refine dq_iln 2 180 (by decide +kernel) rfl g7 ?_
    refine dq_S (.iconst 1) 1 [] 181 _ [.int 1, .int i2] (by decide +kernel) rfl ?_
    rcases di hh with ⟨q101, hh⟩ | ⟨q101, hh⟩
    · refine dq_2 .eq 16 true 197 q101 (by decide +kernel) ?_
      refine dq_aln 0 198 (by decide +kernel) rfl g5 ?_
      refine dq_iln 3 199 (by decide +kernel) rfl g8 ?_
      obtain ⟨x102, q103, hh⟩ := db hh
      obtain ⟨a104, q105, q103⟩ := db q103
      rw [dq_xI q103] at q105
      refine dq_cvi hD 459 338 5 1 [15] o0 [.int x3] [] 202 [.int x102.1] (by decide +kernel) ap_338 ⟨⟨Nat.le_of_ble_eq_true rfl, by decide⟩, rfl, rfl⟩ (dq_ok8 [1, 1] [] (dc_r (dc_i dc_n)) dc_n (by decide +kernel)) (by decide +kernel) rfl q105 rfl ?_
      refine dq_is 4 204 (by decide +kernel) (by decide +kernel) ?_
      have g106 := dg_ne (i := 4) (u := .int x102.1) (by decide) (Or.inl (by decide)) g5
      have g107 := dg_ne (i := 4) (u := .int x102.1) (by decide) (Or.inl (by decide)) g6
      have g108 := dg_ne (i := 4) (u := .int x102.1) (by decide) (Or.inl (by decide)) g7
      have g109 := dg_ne (i := 4) (u := .int x102.1) (by decide) (Or.inr rfl) g8
      have g110 := dg_eq (rm_set1 (lv) 3 (.int x3)) 4 (.int x102.1)
      refine dq_aln 0 205 (by decide +kernel) rfl g106 ?_
      obtain ⟨x111, q112, hh⟩ := db hh
      refine dq_gI 295 57 [15] 208 (by decide +kernel) rfl q112 ?_
      rcases di hh with ⟨q113, hh⟩ | ⟨q113, hh⟩
      · refine dq_1 .ne 80 true 288 q113 (by decide +kernel) ?_
        exact c337_288 hD hz  _ _ _  hh
      · refine dq_1 .ne 80 false 211 q113 (by decide +kernel) ?_
        refine dq_aln 0 212 (by decide +kernel) rfl g106 ?_
        refine dq_iln 3 213 (by decide +kernel) rfl g109 ?_
        refine dq_il 4 215 (by decide +kernel) rfl g110 ?_
        refine dq_aln 0 216 (by decide +kernel) rfl g106 ?_
        obtain ⟨p114, q115, hh⟩ := db hh
        refine dq_gR 84 30 [15] 219 (by decide +kernel) rfl q115 ?_
        refine dq_aln 0 220 (by decide +kernel) rfl g106 ?_
        obtain ⟨p116, q117, hh⟩ := db hh
        refine dq_gR 130 48 [15] 223 (by decide +kernel) rfl q117 ?_
        refine dq_aln 0 224 (by decide +kernel) rfl g106 ?_
        obtain ⟨x118, q119, hh⟩ := db hh
        refine dq_gI 498 66 [15] 227 (by decide +kernel) rfl q119 ?_
        obtain ⟨x120, q121, hh⟩ := db hh
        refine dq_aI 228 (by decide +kernel) rfl q121 ?_
        obtain ⟨x122, q123, hh⟩ := db hh
        refine dq_aI 229 (by decide +kernel) rfl q123 ?_
        obtain ⟨x124, q125, hh⟩ := db hh
        obtain ⟨a126, q127, q125⟩ := db q125
        rw [dq_xI q125] at q127
        refine dq_cvi hD 507 353 5 3 [15] o0 [.int x3, .int x102.1, .int x122] [] 232 [.int x124.1] (by decide +kernel) ap_353 ⟨⟨Nat.le_of_ble_eq_true rfl, by decide⟩, rfl, rfl⟩ (dq_ok8 [1, 1, 1, 1] [] (dc_r (dc_i (dc_i (dc_i dc_n)))) dc_n (by decide +kernel)) (by decide +kernel) rfl q127 rfl ?_
        refine dq_S (.pop) 1 [] 233 _ [] (by decide +kernel) rfl ?_
        refine dq_S (.goto 55) 3 [] 288 _ [] (by decide +kernel) rfl ?_
        exact c337_288 hD hz  _ _ _  hh
    · refine dq_2 .eq 16 false 184 q101 (by decide +kernel) ?_
      refine dq_aln 0 185 (by decide +kernel) rfl g5 ?_
      refine dq_S (.bipush 8) 2 [] 187 _ [.int 8, va_rf o0] (by decide +kernel) rfl ?_
      refine dq_aln 0 188 (by decide +kernel) rfl g5 ?_
      obtain ⟨p128, q129, hh⟩ := db hh
      refine dq_gR 54 17 [15] 191 (by decide +kernel) rfl q129 ?_
      refine dq_iln 1 192 (by decide +kernel) rfl g6 ?_
      obtain ⟨x130, q131, hh⟩ := db hh
      refine dq_aI 193 (by decide +kernel) rfl q131 ?_
      obtain ⟨h132, q133, hh⟩ := db hh
      obtain ⟨a134, q135, q133⟩ := db q133
      rw [dq_xV q133] at q135
      refine dq_cvi hD 301 305 5 2 [15] o0 [.int 8, .int x130] [] 196 [] (by decide +kernel) ap_305 ⟨⟨Nat.le_of_ble_eq_true rfl, by decide⟩, rfl, rfl⟩ (dq_ok8 [1, 1, 1] [] (dc_r (dc_i (dc_i dc_n))) dc_n (by decide +kernel)) (by decide +kernel) rfl q135 rfl ?_
      cases hh
      exact dq_ret0 (by decide +kernel) rfl
  rcases dp hh with ⟨q136, hh⟩ | ⟨_, hh⟩
  · refine dq_eq 25 q136 ?_
    refine dq_S (.tableswitch 269 20 26 #[43, 137, 145, 153, 166, 223, 253]) 43 [] 236 _ [] (by decide +kernel) rfl ?_
    refine dq_iln 2 237 (by decide +kernel) rfl g7 ?_
    refine dq_S (.iconst 2) 1 [] 238 _ [.int 2, .int i2] (by decide +kernel) rfl ?_
    rcases di hh with ⟨q137, hh⟩ | ⟨q137, hh⟩
    · refine dq_2 .eq 16 true 254 q137 (by decide +kernel) ?_
      refine dq_aln 0 255 (by decide +kernel) rfl g5 ?_
      refine dq_aln 0 256 (by decide +kernel) rfl g5 ?_
      refine dq_iln 3 257 (by decide +kernel) rfl g8 ?_
      obtain ⟨x138, q139, hh⟩ := db hh
      obtain ⟨a140, q141, q139⟩ := db q139
      rw [dq_xI q139] at q141
      refine dq_cvi hD 459 338 5 1 [15] o0 [.int x3] [va_rf o0] 260 [.int x138.1, va_rf o0] (by decide +kernel) ap_338 ⟨⟨Nat.le_of_ble_eq_true rfl, by decide⟩, rfl, rfl⟩ (dq_ok8 [1, 1] [1] (dc_r (dc_i dc_n)) (dc_r dc_n) (by decide +kernel)) (by decide +kernel) rfl q141 rfl ?_
      obtain ⟨h142, q143, hh⟩ := db hh
      refine dq_put 520 65 [15] 263 (by decide +kernel) rfl q143 ?_
      refine dq_S (.goto 25) 3 [] 288 _ [] (by decide +kernel) rfl ?_
      exact c337_288 hD hz  _ _ _  hh
    · refine dq_2 .eq 16 false 241 q137 (by decide +kernel) ?_
      refine dq_aln 0 242 (by decide +kernel) rfl g5 ?_
      refine dq_S (.bipush 8) 2 [] 244 _ [.int 8, va_rf o0] (by decide +kernel) rfl ?_
      refine dq_aln 0 245 (by decide +kernel) rfl g5 ?_
      obtain ⟨p144, q145, hh⟩ := db hh
      refine dq_gR 54 17 [15] 248 (by decide +kernel) rfl q145 ?_
      refine dq_iln 1 249 (by decide +kernel) rfl g6 ?_
      obtain ⟨x146, q147, hh⟩ := db hh
      refine dq_aI 250 (by decide +kernel) rfl q147 ?_
      obtain ⟨h148, q149, hh⟩ := db hh
      obtain ⟨a150, q151, q149⟩ := db q149
      rw [dq_xV q149] at q151
      refine dq_cvi hD 301 305 5 2 [15] o0 [.int 8, .int x146] [] 253 [] (by decide +kernel) ap_305 ⟨⟨Nat.le_of_ble_eq_true rfl, by decide⟩, rfl, rfl⟩ (dq_ok8 [1, 1, 1] [] (dc_r (dc_i (dc_i dc_n))) dc_n (by decide +kernel)) (by decide +kernel) rfl q151 rfl ?_
      cases hh
      exact dq_ret0 (by decide +kernel) rfl
  rcases dp hh with ⟨q152, hh⟩ | ⟨_, hh⟩
  · refine dq_eq 26 q152 ?_
    refine dq_S (.tableswitch 269 20 26 #[43, 137, 145, 153, 166, 223, 253]) 43 [] 266 _ [] (by decide +kernel) rfl ?_
    refine dq_aln 0 267 (by decide +kernel) rfl g5 ?_
    refine dq_iln 3 268 (by decide +kernel) rfl g8 ?_
    refine dq_aln 0 269 (by decide +kernel) rfl g5 ?_
    obtain ⟨p153, q154, hh⟩ := db hh
    refine dq_gR 42 13 [15] 272 (by decide +kernel) rfl q154 ?_
    refine dq_iln 1 273 (by decide +kernel) rfl g6 ?_
    obtain ⟨x155, q156, hh⟩ := db hh
    refine dq_aI 274 (by decide +kernel) rfl q156 ?_
    refine dq_S (.iconst 0) 1 [] 275 _ [.int 0, .int x155, .int x3, va_rf o0] (by decide +kernel) rfl ?_
    obtain ⟨x157, q158, hh⟩ := db hh
    obtain ⟨a159, q160, q158⟩ := db q158
    rw [dq_xI q158] at q160
    refine dq_cvi hD 488 351 5 3 [15] o0 [.int x3, .int x155, .int 0] [] 278 [.int x157.1] (by decide +kernel) ap_351 ⟨⟨Nat.le_of_ble_eq_true rfl, by decide⟩, rfl, rfl⟩ (dq_ok8 [1, 1, 1, 1] [] (dc_r (dc_i (dc_i (dc_i dc_n)))) dc_n (by decide +kernel)) (by decide +kernel) rfl q160 rfl ?_
    refine dq_S (.pop) 1 [] 279 _ [] (by decide +kernel) rfl ?_
    refine dq_S (.goto 9) 3 [] 288 _ [] (by decide +kernel) rfl ?_
    exact c337_288 hD hz  _ _ _  hh
  cases hh
def f337 (L : Nat) (xs : Nat → Int32) (zf : Value) (D : dD) (w : Nat) (As : List Value) (h : rm_H) : Option dR := match As with
  | [v0, .int i1, .int i2] => (rm_rf v0).bind fun o0 => b337_0 L xs zf D w o0 i1 i2 h
  | _ => none
theorem d337 {L : Nat} {xs : Nat → Int32} {zf : Value} {D : dD} {w k : Nat} (hD : dO L xs zf D k) (hz : zf.category = 1) (As : List Value) (h : rm_H) (r : dR) (hh : f337 L xs zf D w As h = some r) : dq L xs zf ah_M337 0 (lv_args 0 As) [] h (k + 1) r := by
  unfold f337 at hh
  split at hh
  · obtain ⟨o0, e0, hb0⟩ := db hh
    have e0 := rm_rf_v _ _ e0
    subst e0
    refine c337_0 hD hz _ _ _ _ _ _ ?_ ?_ ?_ hb0
    all_goals (simp only [la_r, la_i, la_j]; rfl)
  · cases hh
def b338_31 (L : Nat) (xs : Nat → Int32) (zf : Value) (D : dD) (w : Nat) (i2 : Int32) (h : rm_H) : Option dR :=
  drI (some .int) i2 h
theorem c338_31 {L : Nat} {xs : Nat → Int32} {zf : Value} {D : dD} {w k : Nat} (hD : dO L xs zf D k) (hz : zf.category = 1) : ∀ (i2 : Int32) (lv : rm_L) (h : rm_H) (r : dR), rm_get lv 2 = some (.int i2) → b338_31 L xs zf D w  i2 h = some r → dq L xs zf ah_M338 31 lv [] h (k + 1) r := by
  intro i2 lv h r G2 hh
  unfold b338_31 at hh
  refine dq_iln 2 32 (by decide +kernel) rfl G2 ?_
  exact dq_retI (some .int) (by decide +kernel) rfl hh
def b338_70 (L : Nat) (xs : Nat → Int32) (zf : Value) (D : dD) (w : Nat) (s0 : Int32) (h : rm_H) : Option dR :=
  drI (some .int) s0 h
theorem c338_70 {L : Nat} {xs : Nat → Int32} {zf : Value} {D : dD} {w k : Nat} (hD : dO L xs zf D k) (hz : zf.category = 1) : ∀ (s0 : Int32) (lv : rm_L) (h : rm_H) (r : dR), b338_70 L xs zf D w  s0 h = some r → dq L xs zf ah_M338 70 lv [.int s0] h (k + 1) r := by
  intro s0 lv h r hh
  unfold b338_70 at hh
  exact dq_retI (some .int) (by decide +kernel) rfl hh
def b338_0 (L : Nat) (xs : Nat → Int32) (zf : Value) (D : dD) (w : Nat) (o0 : Option Nat) (i1 : Int32) (h : rm_H) : Option dR :=
  ((dcV L xs D 339 [15] o0 [.int i1] h).bind dxI).bind fun x1 =>
  ((dcV L xs D 350 [15] o0 [.int i1, .int x1.1] x1.2).bind dxI).bind fun x8 =>
  if mx_f1 .ne x8.1 = true then
    (dgI L xs x8.2 60 [15] o0).bind fun x13 =>
    if mx_f1 .eq x13 = true then
      b338_31 L xs zf D w x1.1 x8.2
    else
      ((D 333 [.int x1.1] x8.2).bind dxI).bind fun x16 =>
      if mx_f1 .ne x16.1 = true then
        if mx_f1 .ne (x1.1 - x1.1 / 8 * 8) = true then
          if mx_f2 .ne (x1.1 - x1.1 / 8 * 8) 1 = true then
            b338_70 L xs zf D w x1.1 x16.2
          else
            b338_70 L xs zf D w ((x1.1 - 1) + 4) x16.2
        else
          (dgR L xs x16.2 17 [15] o0).bind fun p23 =>
          (daI L xs x16.2 p23 i1).bind fun x25 =>
          ((dcV L xs D 347 [15] o0 [.int 6, .int x25] x16.2).bind dxI).bind fun x27 =>
          drI (some .int) x27.1 x27.2
      else
        b338_31 L xs zf D w x1.1 x16.2
  else
    drI (some .int) (-1) x8.2
theorem c338_0 {L : Nat} {xs : Nat → Int32} {zf : Value} {D : dD} {w k : Nat} (hD : dO L xs zf D k) (hz : zf.category = 1) : ∀ (o0 : Option Nat) (i1 : Int32) (lv : rm_L) (h : rm_H) (r : dR), rm_get lv 0 = some (va_rf o0) → rm_get lv 1 = some (.int i1) → b338_0 L xs zf D w  o0 i1 h = some r → dq L xs zf ah_M338 0 lv [] h (k + 1) r := by
  intro o0 i1 lv h r G0 G1 hh
  unfold b338_0 at hh
  refine dq_aln 0 1 (by decide +kernel) rfl G0 ?_
  refine dq_iln 1 2 (by decide +kernel) rfl G1 ?_
  obtain ⟨x1, q2, hh⟩ := db hh
  obtain ⟨a3, q4, q2⟩ := db q2
  rw [dq_xI q2] at q4
  refine dq_cvi hD 453 339 5 1 [15] o0 [.int i1] [] 5 [.int x1.1] (by decide +kernel) ap_339 ⟨⟨Nat.le_of_ble_eq_true rfl, by decide⟩, rfl, rfl⟩ (dq_ok8 [1, 1] [] (dc_r (dc_i dc_n)) dc_n (by decide +kernel)) (by decide +kernel) rfl q4 rfl ?_
  refine dq_isn 2 6 (by decide +kernel) (by decide +kernel) ?_
  have g5 := dg_ne (i := 2) (u := .int x1.1) (by decide) (Or.inl (by decide)) G0
  have g6 := dg_ne (i := 2) (u := .int x1.1) (by decide) (Or.inr rfl) G1
  have g7 := dg_eq (lv) 2 (.int x1.1)
  refine dq_aln 0 7 (by decide +kernel) rfl g5 ?_
  refine dq_iln 1 8 (by decide +kernel) rfl g6 ?_
  refine dq_iln 2 9 (by decide +kernel) rfl g7 ?_
  obtain ⟨x8, q9, hh⟩ := db hh
  obtain ⟨a10, q11, q9⟩ := db q9
  rw [dq_xI q9] at q11
  refine dq_cvi hD 450 350 5 2 [15] o0 [.int i1, .int x1.1] [] 12 [.int x8.1] (by decide +kernel) ap_350 ⟨⟨Nat.le_of_ble_eq_true rfl, by decide⟩, rfl, rfl⟩ (dq_ok8 [1, 1, 1] [] (dc_r (dc_i (dc_i dc_n))) dc_n (by decide +kernel)) (by decide +kernel) rfl q11 rfl ?_
  rcases di hh with ⟨q12, hh⟩ | ⟨q12, hh⟩
  · refine dq_1 .ne 5 true 17 q12 (by decide +kernel) ?_
    refine dq_aln 0 18 (by decide +kernel) rfl g5 ?_
    obtain ⟨x13, q14, hh⟩ := db hh
    refine dq_gI 443 60 [15] 21 (by decide +kernel) rfl q14 ?_
    rcases di hh with ⟨q15, hh⟩ | ⟨q15, hh⟩
    · refine dq_1 .eq 10 true 31 q15 (by decide +kernel) ?_
      exact c338_31 hD hz _ _ _ _ g7 hh
    · refine dq_1 .eq 10 false 24 q15 (by decide +kernel) ?_
      refine dq_iln 2 25 (by decide +kernel) rfl g7 ?_
      obtain ⟨x16, q17, hh⟩ := db hh
      obtain ⟨a18, q19, q17⟩ := db q17
      rw [dq_xI q17] at q19
      refine dq_cst hD 400 333 0 1 [.int x1.1] [] 28 [.int x16.1] (by decide +kernel) ap_333 ⟨⟨Nat.le_of_ble_eq_true rfl, by decide⟩, rfl, rfl⟩ (dq_ok8 [1] [] (dc_i dc_n) dc_n (by decide +kernel)) (by decide +kernel) rfl q19 rfl ?_
      rcases di hh with ⟨q20, hh⟩ | ⟨q20, hh⟩
      · refine dq_1 .ne 5 true 33 q20 (by decide +kernel) ?_
        refine dq_iln 2 34 (by decide +kernel) rfl g7 ?_
        refine dq_S (.bipush 8) 2 [] 36 _ [.int 8, .int x1.1] (by decide +kernel) rfl ?_
        refine dq_rem 37 (by decide) (by decide +kernel) rfl ?_
        rcases di hh with ⟨q21, hh⟩ | ⟨q21, hh⟩
        · refine dq_1 .ne 16 true 53 q21 (by decide +kernel) ?_
          refine dq_iln 2 54 (by decide +kernel) rfl g7 ?_
          refine dq_S (.bipush 8) 2 [] 56 _ [.int 8, .int x1.1] (by decide +kernel) rfl ?_
          refine dq_rem 57 (by decide) (by decide +kernel) rfl ?_
          refine dq_S (.iconst 1) 1 [] 58 _ [.int 1, .int (x1.1 - x1.1 / 8 * 8)] (by decide +kernel) rfl ?_
          rcases di hh with ⟨q22, hh⟩ | ⟨q22, hh⟩
          · refine dq_2 .ne 11 true 69 q22 (by decide +kernel) ?_
            refine dq_iln 2 70 (by decide +kernel) rfl g7 ?_
            exact c338_70 hD hz _ _ _ _  hh
          · refine dq_2 .ne 11 false 61 q22 (by decide +kernel) ?_
            refine dq_iln 2 62 (by decide +kernel) rfl g7 ?_
            refine dq_S (.iconst 1) 1 [] 63 _ [.int 1, .int x1.1] (by decide +kernel) rfl ?_
            refine dq_S (.isub) 1 [] 64 _ [.int (x1.1 - 1)] (by decide +kernel) rfl ?_
            refine dq_S (.iconst 4) 1 [] 65 _ [.int 4, .int (x1.1 - 1)] (by decide +kernel) rfl ?_
            refine dq_S (.iadd) 1 [] 66 _ [.int ((x1.1 - 1) + 4)] (by decide +kernel) rfl ?_
            refine dq_S (.goto 4) 3 [] 70 _ [.int ((x1.1 - 1) + 4)] (by decide +kernel) rfl ?_
            exact c338_70 hD hz _ _ _ _  hh
        · refine dq_1 .ne 16 false 40 q21 (by decide +kernel) ?_
          refine dq_aln 0 41 (by decide +kernel) rfl g5 ?_
          refine dq_S (.bipush 6) 2 [] 43 _ [.int 6, va_rf o0] (by decide +kernel) rfl ?_
          refine dq_aln 0 44 (by decide +kernel) rfl g5 ?_
          obtain ⟨p23, q24, hh⟩ := db hh
          refine dq_gR 54 17 [15] 47 (by decide +kernel) rfl q24 ?_
          refine dq_iln 1 48 (by decide +kernel) rfl g6 ?_
          obtain ⟨x25, q26, hh⟩ := db hh
          refine dq_aI 49 (by decide +kernel) rfl q26 ?_
          obtain ⟨x27, q28, hh⟩ := db hh
          obtain ⟨a29, q30, q28⟩ := db q28
          rw [dq_xI q28] at q30
          refine dq_cvi hD 456 347 5 2 [15] o0 [.int 6, .int x25] [] 52 [.int x27.1] (by decide +kernel) ap_347 ⟨⟨Nat.le_of_ble_eq_true rfl, by decide⟩, rfl, rfl⟩ (dq_ok8 [1, 1, 1] [] (dc_r (dc_i (dc_i dc_n))) dc_n (by decide +kernel)) (by decide +kernel) rfl q30 rfl ?_
          exact dq_retI (some .int) (by decide +kernel) rfl hh
      · refine dq_1 .ne 5 false 31 q20 (by decide +kernel) ?_
        exact c338_31 hD hz _ _ _ _ g7 hh
  · refine dq_1 .ne 5 false 15 q12 (by decide +kernel) ?_
    refine dq_S (.iconst (-1)) 1 [] 16 _ [.int (-1)] (by decide +kernel) rfl ?_
    exact dq_retI (some .int) (by decide +kernel) rfl hh
def f338 (L : Nat) (xs : Nat → Int32) (zf : Value) (D : dD) (w : Nat) (As : List Value) (h : rm_H) : Option dR := match As with
  | [v0, .int i1] => (rm_rf v0).bind fun o0 => b338_0 L xs zf D w o0 i1 h
  | _ => none
theorem d338 {L : Nat} {xs : Nat → Int32} {zf : Value} {D : dD} {w k : Nat} (hD : dO L xs zf D k) (hz : zf.category = 1) (As : List Value) (h : rm_H) (r : dR) (hh : f338 L xs zf D w As h = some r) : dq L xs zf ah_M338 0 (lv_args 0 As) [] h (k + 1) r := by
  unfold f338 at hh
  split at hh
  · obtain ⟨o0, e0, hb0⟩ := db hh
    have e0 := rm_rf_v _ _ e0
    subst e0
    refine c338_0 hD hz _ _ _ _ _ ?_ ?_ hb0
    all_goals (simp only [la_r, la_i, la_j]; rfl)
  · cases hh
def b339_44 (L : Nat) (xs : Nat → Int32) (zf : Value) (D : dD) (w : Nat) (K2 : Option Nat → Int32 → Int32 → rm_H → Option dR) (o0 : Option Nat) (i1 : Int32) (i2 : Int32) (h : rm_H) : Option dR :=
  ((dcV L xs D 342 [15] o0 [.int i2] h).bind dxI).bind fun x1 =>
  K2 o0 i1 x1.1 x1.2
theorem c339_44 {L : Nat} {xs : Nat → Int32} {zf : Value} {D : dD} {w k : Nat} {K2 : Option Nat → Int32 → Int32 → rm_H → Option dR} (hD : dO L xs zf D k) (hz : zf.category = 1) (hK2 : ∀ (o0 : Option Nat) (i1 : Int32) (i2 : Int32) (lv : rm_L) (h : rm_H) (r : dR), rm_get lv 0 = some (va_rf o0) → rm_get lv 1 = some (.int i1) → rm_get lv 2 = some (.int i2) → K2 o0 i1 i2 h = some r → dq L xs zf ah_M339 2 lv [] h (k + 1) r) : ∀ (o0 : Option Nat) (i1 : Int32) (i2 : Int32) (lv : rm_L) (h : rm_H) (r : dR), rm_get lv 0 = some (va_rf o0) → rm_get lv 1 = some (.int i1) → rm_get lv 2 = some (.int i2) → b339_44 L xs zf D w K2  o0 i1 i2 h = some r → dq L xs zf ah_M339 44 lv [] h (k + 1) r := by
  intro o0 i1 i2 lv h r G0 G1 G2 hh
  unfold b339_44 at hh
  refine dq_aln 0 45 (by decide +kernel) rfl G0 ?_
  refine dq_iln 2 46 (by decide +kernel) rfl G2 ?_
  obtain ⟨x1, q2, hh⟩ := db hh
  obtain ⟨a3, q4, q2⟩ := db q2
  rw [dq_xI q2] at q4
  refine dq_cvi hD 468 342 5 1 [15] o0 [.int i2] [] 49 [.int x1.1] (by decide +kernel) ap_342 ⟨⟨Nat.le_of_ble_eq_true rfl, by decide⟩, rfl, rfl⟩ (dq_ok8 [1, 1] [] (dc_r (dc_i dc_n)) dc_n (by decide +kernel)) (by decide +kernel) rfl q4 rfl ?_
  refine dq_isn 2 50 (by decide +kernel) (by decide +kernel) ?_
  have g5 := dg_ne (i := 2) (u := .int x1.1) (by decide) (Or.inl (by decide)) G0
  have g6 := dg_ne (i := 2) (u := .int x1.1) (by decide) (Or.inr rfl) G1
  have g7 := dg_eq (lv) 2 (.int x1.1)
  refine dq_S (.goto (-48)) 3 [] 2 _ [] (by decide +kernel) rfl ?_
  exact hK2 _ _ _ _ _ _ g5 g6 g7 hh
def b339_39 (L : Nat) (xs : Nat → Int32) (zf : Value) (D : dD) (w : Nat) (K2 : Option Nat → Int32 → Int32 → rm_H → Option dR) (o0 : Option Nat) (i1 : Int32) (i2 : Int32) (h : rm_H) : Option dR :=
  ((dcV L xs D 341 [15] o0 [.int i2] h).bind dxV).bind fun h1 =>
  b339_44 L xs zf D w K2 o0 i1 i2 h1
theorem c339_39 {L : Nat} {xs : Nat → Int32} {zf : Value} {D : dD} {w k : Nat} {K2 : Option Nat → Int32 → Int32 → rm_H → Option dR} (hD : dO L xs zf D k) (hz : zf.category = 1) (hK2 : ∀ (o0 : Option Nat) (i1 : Int32) (i2 : Int32) (lv : rm_L) (h : rm_H) (r : dR), rm_get lv 0 = some (va_rf o0) → rm_get lv 1 = some (.int i1) → rm_get lv 2 = some (.int i2) → K2 o0 i1 i2 h = some r → dq L xs zf ah_M339 2 lv [] h (k + 1) r) : ∀ (o0 : Option Nat) (i1 : Int32) (i2 : Int32) (lv : rm_L) (h : rm_H) (r : dR), rm_get lv 0 = some (va_rf o0) → rm_get lv 1 = some (.int i1) → rm_get lv 2 = some (.int i2) → b339_39 L xs zf D w K2  o0 i1 i2 h = some r → dq L xs zf ah_M339 39 lv [] h (k + 1) r := by
  intro o0 i1 i2 lv h r G0 G1 G2 hh
  unfold b339_39 at hh
  refine dq_aln 0 40 (by decide +kernel) rfl G0 ?_
  refine dq_iln 2 41 (by decide +kernel) rfl G2 ?_
  obtain ⟨h1, q2, hh⟩ := db hh
  obtain ⟨a3, q4, q2⟩ := db q2
  rw [dq_xV q2] at q4
  refine dq_cvi hD 465 341 5 1 [15] o0 [.int i2] [] 44 [] (by decide +kernel) ap_341 ⟨⟨Nat.le_of_ble_eq_true rfl, by decide⟩, rfl, rfl⟩ (dq_ok8 [1, 1] [] (dc_r (dc_i dc_n)) dc_n (by decide +kernel)) (by decide +kernel) rfl q4 rfl ?_
  exact c339_44 hD hz hK2 _ _ _ _ _ _ G0 G1 G2 hh
def b339_116 (L : Nat) (xs : Nat → Int32) (zf : Value) (D : dD) (w : Nat) (s0 : Int32) (h : rm_H) : Option dR :=
  drI (some .int) s0 h
theorem c339_116 {L : Nat} {xs : Nat → Int32} {zf : Value} {D : dD} {w k : Nat} (hD : dO L xs zf D k) (hz : zf.category = 1) : ∀ (s0 : Int32) (lv : rm_L) (h : rm_H) (r : dR), b339_116 L xs zf D w  s0 h = some r → dq L xs zf ah_M339 116 lv [.int s0] h (k + 1) r := by
  intro s0 lv h r hh
  unfold b339_116 at hh
  exact dq_retI (some .int) (by decide +kernel) rfl hh
def b339_104 (L : Nat) (xs : Nat → Int32) (zf : Value) (D : dD) (w : Nat) (o0 : Option Nat) (i3 : Int32) (h : rm_H) : Option dR :=
  (dgI L xs h 57 [15] o0).bind fun x1 =>
  if mx_f1 .le x1 = true then
    b339_116 L xs zf D w i3 h
  else
    b339_116 L xs zf D w (-1) h
theorem c339_104 {L : Nat} {xs : Nat → Int32} {zf : Value} {D : dD} {w k : Nat} (hD : dO L xs zf D k) (hz : zf.category = 1) : ∀ (o0 : Option Nat) (i3 : Int32) (lv : rm_L) (h : rm_H) (r : dR), rm_get lv 0 = some (va_rf o0) → rm_get lv 3 = some (.int i3) → b339_104 L xs zf D w  o0 i3 h = some r → dq L xs zf ah_M339 104 lv [] h (k + 1) r := by
  intro o0 i3 lv h r G0 G3 hh
  unfold b339_104 at hh
  refine dq_aln 0 105 (by decide +kernel) rfl G0 ?_
  obtain ⟨x1, q2, hh⟩ := db hh
  refine dq_gI 295 57 [15] 108 (by decide +kernel) rfl q2 ?_
  rcases di hh with ⟨q3, hh⟩ | ⟨q3, hh⟩
  · refine dq_1 .le 7 true 115 q3 (by decide +kernel) ?_
    refine dq_iln 3 116 (by decide +kernel) rfl G3 ?_
    exact c339_116 hD hz _ _ _ _  hh
  · refine dq_1 .le 7 false 111 q3 (by decide +kernel) ?_
    refine dq_S (.iconst (-1)) 1 [] 112 _ [.int (-1)] (by decide +kernel) rfl ?_
    refine dq_S (.goto 4) 3 [] 116 _ [.int (-1)] (by decide +kernel) rfl ?_
    exact c339_116 hD hz _ _ _ _  hh
def b339_70 (L : Nat) (xs : Nat → Int32) (zf : Value) (D : dD) (w : Nat) : Nat → Option Nat → Int32 → Int32 → Int32 → rm_H → Option dR
  | 0, _, _, _, _, _ => none
  | n + 1, o0, i1, i2, i3, h =>
    if mx_f2 .eq i2 i1 = true then
      b339_104 L xs zf D w o0 i3 h
    else
      (dgI L xs h 57 [15] o0).bind fun x2 =>
      if mx_f1 .ne x2 = true then
        b339_104 L xs zf D w o0 i3 h
      else
        (dgR L xs h 16 [15] o0).bind fun p10 =>
        (daI L xs h p10 i2).bind fun x12 =>
        ((dcV L xs D 361 [15] o0 [.int x12, .int i2, .int i3] h).bind dxI).bind fun x19 =>
        b339_70 L xs zf D w n o0 i1 x12 x19.1 x19.2
theorem c339_70 {L : Nat} {xs : Nat → Int32} {zf : Value} {D : dD} {w k : Nat} (hD : dO L xs zf D k) (hz : zf.category = 1) : ∀ (n : Nat) (o0 : Option Nat) (i1 : Int32) (i2 : Int32) (i3 : Int32) (lv : rm_L) (h : rm_H) (r : dR), rm_get lv 0 = some (va_rf o0) → rm_get lv 1 = some (.int i1) → rm_get lv 2 = some (.int i2) → rm_get lv 3 = some (.int i3) → b339_70 L xs zf D w n  o0 i1 i2 i3 h = some r → dq L xs zf ah_M339 70 lv [] h (k + 1) r := by
  intro n
  induction n with
  | zero =>
    intro o0 i1 i2 i3 lv h r G0 G1 G2 G3 hh
    cases hh
  | succ n ih =>
    intro o0 i1 i2 i3 lv h r G0 G1 G2 G3 hh
    rw [b339_70] at hh
    refine dq_iln 2 71 (by decide +kernel) rfl G2 ?_
    refine dq_iln 1 72 (by decide +kernel) rfl G1 ?_
    rcases di hh with ⟨q1, hh⟩ | ⟨q1, hh⟩
    · refine dq_2 .eq 32 true 104 q1 (by decide +kernel) ?_
      exact c339_104 hD hz _ _ _ _ _ G0 G3 hh
    · refine dq_2 .eq 32 false 75 q1 (by decide +kernel) ?_
      refine dq_aln 0 76 (by decide +kernel) rfl G0 ?_
      obtain ⟨x2, q3, hh⟩ := db hh
      refine dq_gI 295 57 [15] 79 (by decide +kernel) rfl q3 ?_
      rcases di hh with ⟨q4, hh⟩ | ⟨q4, hh⟩
      · refine dq_1 .ne 25 true 104 q4 (by decide +kernel) ?_
        exact c339_104 hD hz _ _ _ _ _ G0 G3 hh
      · refine dq_1 .ne 25 false 82 q4 (by decide +kernel) ?_
        refine dq_iln 2 83 (by decide +kernel) rfl G2 ?_
        refine dq_is 4 85 (by decide +kernel) (by decide +kernel) ?_
        have g5 := dg_ne (i := 4) (u := .int i2) (by decide) (Or.inl (by decide)) G0
        have g6 := dg_ne (i := 4) (u := .int i2) (by decide) (Or.inl (by decide)) G1
        have g7 := dg_ne (i := 4) (u := .int i2) (by decide) (Or.inl (by decide)) G2
        have g8 := dg_ne (i := 4) (u := .int i2) (by decide) (Or.inr rfl) G3
        have g9 := dg_eq (lv) 4 (.int i2)
        refine dq_aln 0 86 (by decide +kernel) rfl g5 ?_
        obtain ⟨p10, q11, hh⟩ := db hh
        refine dq_gR 51 16 [15] 89 (by decide +kernel) rfl q11 ?_
        refine dq_iln 2 90 (by decide +kernel) rfl g7 ?_
        obtain ⟨x12, q13, hh⟩ := db hh
        refine dq_aI 91 (by decide +kernel) rfl q13 ?_
        refine dq_isn 2 92 (by decide +kernel) (by decide +kernel) ?_
        have g14 := dg_ne (i := 2) (u := .int x12) (by decide) (Or.inl (by decide)) g5
        have g15 := dg_ne (i := 2) (u := .int x12) (by decide) (Or.inr rfl) g6
        have g16 := dg_ne (i := 2) (u := .int x12) (by decide) (Or.inl (by decide)) g8
        have g17 := dg_ne (i := 2) (u := .int x12) (by decide) (Or.inl (by decide)) g9
        have g18 := dg_eq (rm_set1 (lv) 4 (.int i2)) 2 (.int x12)
        refine dq_aln 0 93 (by decide +kernel) rfl g14 ?_
        refine dq_iln 2 94 (by decide +kernel) rfl g18 ?_
        refine dq_il 4 96 (by decide +kernel) rfl g17 ?_
        refine dq_iln 3 97 (by decide +kernel) rfl g16 ?_
        obtain ⟨x19, q20, hh⟩ := db hh
        obtain ⟨a21, q22, q20⟩ := db q20
        rw [dq_xI q20] at q22
        refine dq_cvi hD 474 361 5 3 [15] o0 [.int x12, .int i2, .int i3] [] 100 [.int x19.1] (by decide +kernel) ap_361 ⟨⟨Nat.le_of_ble_eq_true rfl, by decide⟩, rfl, rfl⟩ (dq_ok8 [1, 1, 1, 1] [] (dc_r (dc_i (dc_i (dc_i dc_n)))) dc_n (by decide +kernel)) (by decide +kernel) rfl q22 rfl ?_
        refine dq_isn 3 101 (by decide +kernel) (by decide +kernel) ?_
        have g23 := dg_ne (i := 3) (u := .int x19.1) (by decide) (Or.inl (by decide)) g14
        have g24 := dg_ne (i := 3) (u := .int x19.1) (by decide) (Or.inl (by decide)) g15
        have g25 := dg_ne (i := 3) (u := .int x19.1) (by decide) (Or.inl (by decide)) g17
        have g26 := dg_ne (i := 3) (u := .int x19.1) (by decide) (Or.inr rfl) g18
        have g27 := dg_eq (rm_set1 (rm_set1 (lv) 4 (.int i2)) 2 (.int x12)) 3 (.int x19.1)
        refine dq_S (.goto (-31)) 3 [] 70 _ [] (by decide +kernel) rfl ?_
        exact ih _ _ _ _ _ _ _ g23 g24 g26 g27 hh
def b339_69 (L : Nat) (xs : Nat → Int32) (zf : Value) (D : dD) (w : Nat) (o0 : Option Nat) (i1 : Int32) (i2 : Int32) (s0 : Int32) (h : rm_H) : Option dR :=
  b339_70 L xs zf D w w o0 i1 i2 s0 h
theorem c339_69 {L : Nat} {xs : Nat → Int32} {zf : Value} {D : dD} {w k : Nat} (hD : dO L xs zf D k) (hz : zf.category = 1) : ∀ (o0 : Option Nat) (i1 : Int32) (i2 : Int32) (s0 : Int32) (lv : rm_L) (h : rm_H) (r : dR), rm_get lv 0 = some (va_rf o0) → rm_get lv 1 = some (.int i1) → rm_get lv 2 = some (.int i2) → b339_69 L xs zf D w  o0 i1 i2 s0 h = some r → dq L xs zf ah_M339 69 lv [.int s0] h (k + 1) r := by
  intro o0 i1 i2 s0 lv h r G0 G1 G2 hh
  unfold b339_69 at hh
  refine dq_isn 3 70 (by decide +kernel) (by decide +kernel) ?_
  have g1 := dg_ne (i := 3) (u := .int s0) (by decide) (Or.inl (by decide)) G0
  have g2 := dg_ne (i := 3) (u := .int s0) (by decide) (Or.inl (by decide)) G1
  have g3 := dg_ne (i := 3) (u := .int s0) (by decide) (Or.inr rfl) G2
  have g4 := dg_eq (lv) 3 (.int s0)
  exact c339_70 hD hz _ _ _ _ _ _ _ _ g1 g2 g3 g4 hh
def b339_53 (L : Nat) (xs : Nat → Int32) (zf : Value) (D : dD) (w : Nat) (o0 : Option Nat) (i1 : Int32) (i2 : Int32) (h : rm_H) : Option dR :=
  (dgI L xs h 57 [15] o0).bind fun x1 =>
  if mx_f1 .le x1 = true then
    ((dcV L xs D 343 [15] o0 [.int i2] h).bind dxI).bind fun x4 =>
    b339_69 L xs zf D w o0 i1 i2 x4.1 x4.2
  else
    b339_69 L xs zf D w o0 i1 i2 (-1) h
theorem c339_53 {L : Nat} {xs : Nat → Int32} {zf : Value} {D : dD} {w k : Nat} (hD : dO L xs zf D k) (hz : zf.category = 1) : ∀ (o0 : Option Nat) (i1 : Int32) (i2 : Int32) (lv : rm_L) (h : rm_H) (r : dR), rm_get lv 0 = some (va_rf o0) → rm_get lv 1 = some (.int i1) → rm_get lv 2 = some (.int i2) → b339_53 L xs zf D w  o0 i1 i2 h = some r → dq L xs zf ah_M339 53 lv [] h (k + 1) r := by
  intro o0 i1 i2 lv h r G0 G1 G2 hh
  unfold b339_53 at hh
  refine dq_aln 0 54 (by decide +kernel) rfl G0 ?_
  obtain ⟨x1, q2, hh⟩ := db hh
  refine dq_gI 295 57 [15] 57 (by decide +kernel) rfl q2 ?_
  rcases di hh with ⟨q3, hh⟩ | ⟨q3, hh⟩
  · refine dq_1 .le 7 true 64 q3 (by decide +kernel) ?_
    refine dq_aln 0 65 (by decide +kernel) rfl G0 ?_
    refine dq_iln 2 66 (by decide +kernel) rfl G2 ?_
    obtain ⟨x4, q5, hh⟩ := db hh
    obtain ⟨a6, q7, q5⟩ := db q5
    rw [dq_xI q5] at q7
    refine dq_cvi hD 471 343 5 1 [15] o0 [.int i2] [] 69 [.int x4.1] (by decide +kernel) ap_343 ⟨⟨Nat.le_of_ble_eq_true rfl, by decide⟩, rfl, rfl⟩ (dq_ok8 [1, 1] [] (dc_r (dc_i dc_n)) dc_n (by decide +kernel)) (by decide +kernel) rfl q7 rfl ?_
    exact c339_69 hD hz _ _ _ _ _ _ _ G0 G1 G2 hh
  · refine dq_1 .le 7 false 60 q3 (by decide +kernel) ?_
    refine dq_S (.iconst (-1)) 1 [] 61 _ [.int (-1)] (by decide +kernel) rfl ?_
    refine dq_S (.goto 8) 3 [] 69 _ [.int (-1)] (by decide +kernel) rfl ?_
    exact c339_69 hD hz _ _ _ _ _ _ _ G0 G1 G2 hh
def b339_2 (L : Nat) (xs : Nat → Int32) (zf : Value) (D : dD) (w : Nat) : Nat → Option Nat → Int32 → Int32 → rm_H → Option dR
  | 0, _, _, _, _ => none
  | n + 1, o0, i1, i2, h =>
    (dgI L xs h 57 [15] o0).bind fun x1 =>
    if mx_f1 .ne x1 = true then
      b339_53 L xs zf D w o0 i1 i2 h
    else
      ((dcV L xs D 340 [15] o0 [.int i2] h).bind dxI).bind fun x4 =>
      if mx_f1 .eq x4.1 = true then
        b339_53 L xs zf D w o0 i1 i2 x4.2
      else
        (dgR L xs x4.2 11 [15] o0).bind fun p9 =>
        (daI L xs x4.2 p9 i2).bind fun x11 =>
        if mx_f2 .eq x11 11 = true then
          b339_39 L xs zf D w (b339_2 L xs zf D w n) o0 i1 i2 x4.2
        else
          (dgR L xs x4.2 11 [15] o0).bind fun p14 =>
          (daI L xs x4.2 p14 i2).bind fun x16 =>
          if mx_f2 .ne x16 12 = true then
            b339_44 L xs zf D w (b339_2 L xs zf D w n) o0 i1 i2 x4.2
          else
            b339_39 L xs zf D w (b339_2 L xs zf D w n) o0 i1 i2 x4.2
theorem c339_2 {L : Nat} {xs : Nat → Int32} {zf : Value} {D : dD} {w k : Nat} (hD : dO L xs zf D k) (hz : zf.category = 1) : ∀ (n : Nat) (o0 : Option Nat) (i1 : Int32) (i2 : Int32) (lv : rm_L) (h : rm_H) (r : dR), rm_get lv 0 = some (va_rf o0) → rm_get lv 1 = some (.int i1) → rm_get lv 2 = some (.int i2) → b339_2 L xs zf D w n  o0 i1 i2 h = some r → dq L xs zf ah_M339 2 lv [] h (k + 1) r := by
  intro n
  induction n with
  | zero =>
    intro o0 i1 i2 lv h r G0 G1 G2 hh
    cases hh
  | succ n ih =>
    intro o0 i1 i2 lv h r G0 G1 G2 hh
    rw [b339_2] at hh
    refine dq_aln 0 3 (by decide +kernel) rfl G0 ?_
    obtain ⟨x1, q2, hh⟩ := db hh
    refine dq_gI 295 57 [15] 6 (by decide +kernel) rfl q2 ?_
    rcases di hh with ⟨q3, hh⟩ | ⟨q3, hh⟩
    · refine dq_1 .ne 47 true 53 q3 (by decide +kernel) ?_
      exact c339_53 hD hz _ _ _ _ _ _ G0 G1 G2 hh
    · refine dq_1 .ne 47 false 9 q3 (by decide +kernel) ?_
      refine dq_aln 0 10 (by decide +kernel) rfl G0 ?_
      refine dq_iln 2 11 (by decide +kernel) rfl G2 ?_
      obtain ⟨x4, q5, hh⟩ := db hh
      obtain ⟨a6, q7, q5⟩ := db q5
      rw [dq_xI q5] at q7
      refine dq_cvi hD 462 340 5 1 [15] o0 [.int i2] [] 14 [.int x4.1] (by decide +kernel) ap_340 ⟨⟨Nat.le_of_ble_eq_true rfl, by decide⟩, rfl, rfl⟩ (dq_ok8 [1, 1] [] (dc_r (dc_i dc_n)) dc_n (by decide +kernel)) (by decide +kernel) rfl q7 rfl ?_
      rcases di hh with ⟨q8, hh⟩ | ⟨q8, hh⟩
      · refine dq_1 .eq 39 true 53 q8 (by decide +kernel) ?_
        exact c339_53 hD hz _ _ _ _ _ _ G0 G1 G2 hh
      · refine dq_1 .eq 39 false 17 q8 (by decide +kernel) ?_
        refine dq_aln 0 18 (by decide +kernel) rfl G0 ?_
        obtain ⟨p9, q10, hh⟩ := db hh
        refine dq_gR 36 11 [15] 21 (by decide +kernel) rfl q10 ?_
        refine dq_iln 2 22 (by decide +kernel) rfl G2 ?_
        obtain ⟨x11, q12, hh⟩ := db hh
        refine dq_aI 23 (by decide +kernel) rfl q12 ?_
        refine dq_S (.bipush 11) 2 [] 25 _ [.int 11, .int x11] (by decide +kernel) rfl ?_
        rcases di hh with ⟨q13, hh⟩ | ⟨q13, hh⟩
        · refine dq_2 .eq 14 true 39 q13 (by decide +kernel) ?_
          exact c339_39 hD hz ih _ _ _ _ _ _ G0 G1 G2 hh
        · refine dq_2 .eq 14 false 28 q13 (by decide +kernel) ?_
          refine dq_aln 0 29 (by decide +kernel) rfl G0 ?_
          obtain ⟨p14, q15, hh⟩ := db hh
          refine dq_gR 36 11 [15] 32 (by decide +kernel) rfl q15 ?_
          refine dq_iln 2 33 (by decide +kernel) rfl G2 ?_
          obtain ⟨x16, q17, hh⟩ := db hh
          refine dq_aI 34 (by decide +kernel) rfl q17 ?_
          refine dq_S (.bipush 12) 2 [] 36 _ [.int 12, .int x16] (by decide +kernel) rfl ?_
          rcases di hh with ⟨q18, hh⟩ | ⟨q18, hh⟩
          · refine dq_2 .ne 8 true 44 q18 (by decide +kernel) ?_
            exact c339_44 hD hz ih _ _ _ _ _ _ G0 G1 G2 hh
          · refine dq_2 .ne 8 false 39 q18 (by decide +kernel) ?_
            exact c339_39 hD hz ih _ _ _ _ _ _ G0 G1 G2 hh
def b339_0 (L : Nat) (xs : Nat → Int32) (zf : Value) (D : dD) (w : Nat) (o0 : Option Nat) (i1 : Int32) (h : rm_H) : Option dR :=
  b339_2 L xs zf D w w o0 i1 i1 h
theorem c339_0 {L : Nat} {xs : Nat → Int32} {zf : Value} {D : dD} {w k : Nat} (hD : dO L xs zf D k) (hz : zf.category = 1) : ∀ (o0 : Option Nat) (i1 : Int32) (lv : rm_L) (h : rm_H) (r : dR), rm_get lv 0 = some (va_rf o0) → rm_get lv 1 = some (.int i1) → b339_0 L xs zf D w  o0 i1 h = some r → dq L xs zf ah_M339 0 lv [] h (k + 1) r := by
  intro o0 i1 lv h r G0 G1 hh
  unfold b339_0 at hh
  refine dq_iln 1 1 (by decide +kernel) rfl G1 ?_
  refine dq_isn 2 2 (by decide +kernel) (by decide +kernel) ?_
  have g1 := dg_ne (i := 2) (u := .int i1) (by decide) (Or.inl (by decide)) G0
  have g2 := dg_ne (i := 2) (u := .int i1) (by decide) (Or.inr rfl) G1
  have g3 := dg_eq (lv) 2 (.int i1)
  exact c339_2 hD hz _ _ _ _ _ _ _ g1 g2 g3 hh
def f339 (L : Nat) (xs : Nat → Int32) (zf : Value) (D : dD) (w : Nat) (As : List Value) (h : rm_H) : Option dR := match As with
  | [v0, .int i1] => (rm_rf v0).bind fun o0 => b339_0 L xs zf D w o0 i1 h
  | _ => none
theorem d339 {L : Nat} {xs : Nat → Int32} {zf : Value} {D : dD} {w k : Nat} (hD : dO L xs zf D k) (hz : zf.category = 1) (As : List Value) (h : rm_H) (r : dR) (hh : f339 L xs zf D w As h = some r) : dq L xs zf ah_M339 0 (lv_args 0 As) [] h (k + 1) r := by
  unfold f339 at hh
  split at hh
  · obtain ⟨o0, e0, hb0⟩ := db hh
    have e0 := rm_rf_v _ _ e0
    subst e0
    refine c339_0 hD hz _ _ _ _ _ ?_ ?_ hb0
    all_goals (simp only [la_r, la_i, la_j]; rfl)
  · cases hh
