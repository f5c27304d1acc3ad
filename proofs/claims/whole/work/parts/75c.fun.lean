/-! METHODS AS FUNCTIONS, printed by wip/whole/gen_fun.py -/
def b84_0 (L : Nat) (xs : Nat → Int32) (zf : Value) (D : dD) (w : Nat) (i0 : Int32) (i1 : Int32) (i2 : Int32) (h : rm_H) : Option dR :=
  if mx_f1 .lt i0 = true then
    none
  else
    if mx_f2 .gt i0 i1 = true then
      none
    else
      if mx_f2 .le i1 i2 = true then
        drI (some .int) i0 h
      else
        none
theorem c84_0 {L : Nat} {xs : Nat → Int32} {zf : Value} {D : dD} {w k : Nat} (hD : dO L xs zf D k) (hz : zf.category = 1) : ∀ (i0 : Int32) (i1 : Int32) (i2 : Int32) (lv : rm_L) (h : rm_H) (r : dR), rm_get lv 0 = some (.int i0) → rm_get lv 1 = some (.int i1) → rm_get lv 2 = some (.int i2) → b84_0 L xs zf D w  i0 i1 i2 h = some r → dq L xs zf ah_M84 0 lv [] h (k + 1) r := by
  intro i0 i1 i2 lv h r G0 G1 G2 hh
  unfold b84_0 at hh
  refine dq_iln 0 1 (by decide +kernel) rfl G0 ?_
  rcases di hh with ⟨q1, hh⟩ | ⟨q1, hh⟩
  · refine dq_1 .lt 13 true 14 q1 (by decide +kernel) ?_
    cases hh
  · refine dq_1 .lt 13 false 4 q1 (by decide +kernel) ?_
    refine dq_iln 0 5 (by decide +kernel) rfl G0 ?_
    refine dq_iln 1 6 (by decide +kernel) rfl G1 ?_
    rcases di hh with ⟨q2, hh⟩ | ⟨q2, hh⟩
    · refine dq_2 .gt 8 true 14 q2 (by decide +kernel) ?_
      cases hh
    · refine dq_2 .gt 8 false 9 q2 (by decide +kernel) ?_
      refine dq_iln 1 10 (by decide +kernel) rfl G1 ?_
      refine dq_iln 2 11 (by decide +kernel) rfl G2 ?_
      rcases di hh with ⟨q3, hh⟩ | ⟨q3, hh⟩
      · refine dq_2 .le 11 true 22 q3 (by decide +kernel) ?_
        refine dq_iln 0 23 (by decide +kernel) rfl G0 ?_
        exact dq_retI (some .int) (by decide +kernel) rfl hh
      · refine dq_2 .le 11 false 14 q3 (by decide +kernel) ?_
        cases hh
def f84 (L : Nat) (xs : Nat → Int32) (zf : Value) (D : dD) (w : Nat) (As : List Value) (h : rm_H) : Option dR := match As with
  | [.int i0, .int i1, .int i2, u3] => b84_0 L xs zf D w i0 i1 i2 h
  | _ => none
theorem d84 {L : Nat} {xs : Nat → Int32} {zf : Value} {D : dD} {w k : Nat} (hD : dO L xs zf D k) (hz : zf.category = 1) (As : List Value) (h : rm_H) (r : dR) (hh : f84 L xs zf D w As h = some r) : dq L xs zf ah_M84 0 (lv_args 0 As) [] h (k + 1) r := by
  unfold f84 at hh
  split at hh
  · refine c84_0 hD hz _ _ _ _ _ _ ?_ ?_ ?_ hh
    all_goals (simp only [la_r, la_i, la_j]; rfl)
  · cases hh
def b85_3 (L : Nat) (xs : Nat → Int32) (zf : Value) (D : dD) (w : Nat) : Nat → Option Nat → Int32 → Int32 → Int32 → rm_H → Option dR
  | 0, _, _, _, _, _ => none
  | n + 1, o0, i1, i3, i4, h =>
    if mx_f2 .ge i4 i3 = true then
      drI (some .int) (-1) h
    else
      ((D 57 [va_rf o0, .int i4] h).bind dxI).bind fun x2 =>
      if mx_f2 .ne x2.1 i1 = true then
        b85_3 L xs zf D w n o0 i1 i3 (i4 + 1) x2.2
      else
        drI (some .int) i4 x2.2
theorem c85_3 {L : Nat} {xs : Nat → Int32} {zf : Value} {D : dD} {w k : Nat} (hD : dO L xs zf D k) (hz : zf.category = 1) : ∀ (n : Nat) (o0 : Option Nat) (i1 : Int32) (i3 : Int32) (i4 : Int32) (lv : rm_L) (h : rm_H) (r : dR), rm_get lv 0 = some (va_rf o0) → rm_get lv 1 = some (.int i1) → rm_get lv 3 = some (.int i3) → rm_get lv 4 = some (.int i4) → b85_3 L xs zf D w n  o0 i1 i3 i4 h = some r → dq L xs zf ah_M85 3 lv [] h (k + 1) r := by
  intro n
  induction n with
  | zero =>
    intro o0 i1 i3 i4 lv h r G0 G1 G3 G4 hh
    cases hh
  | succ n ih =>
    intro o0 i1 i3 i4 lv h r G0 G1 G3 G4 hh
    rw [b85_3] at hh
    refine dq_il 4 5 (by decide +kernel) rfl G4 ?_
    refine dq_iln 3 6 (by decide +kernel) rfl G3 ?_
    rcases di hh with ⟨q1, hh⟩ | ⟨q1, hh⟩
    · refine dq_2 .ge 22 true 28 q1 (by decide +kernel) ?_
      refine dq_S (.iconst (-1)) 1 [] 29 _ [.int (-1)] (by decide +kernel) rfl ?_
      exact dq_retI (some .int) (by decide +kernel) rfl hh
    · refine dq_2 .ge 22 false 9 q1 (by decide +kernel) ?_
      refine dq_aln 0 10 (by decide +kernel) rfl G0 ?_
      refine dq_il 4 12 (by decide +kernel) rfl G4 ?_
      obtain ⟨x2, q3, hh⟩ := db hh
      obtain ⟨a4, q5, q3⟩ := db q3
      rw [dq_xI q3] at q5
      refine dq_cst hD 71 57 0 2 [va_rf o0, .int i4] [] 15 [.int x2.1] (by decide +kernel) ap_57 ⟨⟨Nat.le_of_ble_eq_true rfl, by decide⟩, rfl, rfl⟩ (dq_ok8 [1, 1] [] (dc_r (dc_i dc_n)) dc_n (by decide +kernel)) (by decide +kernel) rfl q5 rfl ?_
      refine dq_iln 1 16 (by decide +kernel) rfl G1 ?_
      rcases di hh with ⟨q6, hh⟩ | ⟨q6, hh⟩
      · refine dq_2 .ne 6 true 22 q6 (by decide +kernel) ?_
        refine dq_incy 4 1 1 25 (by decide +kernel) ⟨rfl, by decide +kernel, by decide +kernel⟩ G4 ?_
        have g7 := dg_ne (i := 4) (u := .int (i4 + 1)) (by decide) (Or.inl (by decide)) G0
        have g8 := dg_ne (i := 4) (u := .int (i4 + 1)) (by decide) (Or.inl (by decide)) G1
        have g9 := dg_ne (i := 4) (u := .int (i4 + 1)) (by decide) (Or.inr rfl) G3
        have g10 := dg_eq (lv) 4 (.int (i4 + 1))
        refine dq_S (.goto (-22)) 3 [] 3 _ [] (by decide +kernel) rfl ?_
        exact ih _ _ _ _ _ _ _ g7 g8 g9 g10 hh
      · refine dq_2 .ne 6 false 19 q6 (by decide +kernel) ?_
        refine dq_il 4 21 (by decide +kernel) rfl G4 ?_
        exact dq_retI (some .int) (by decide +kernel) rfl hh
def b85_0 (L : Nat) (xs : Nat → Int32) (zf : Value) (D : dD) (w : Nat) (o0 : Option Nat) (i1 : Int32) (i2 : Int32) (i3 : Int32) (h : rm_H) : Option dR :=
  b85_3 L xs zf D w w o0 i1 i3 i2 h
theorem c85_0 {L : Nat} {xs : Nat → Int32} {zf : Value} {D : dD} {w k : Nat} (hD : dO L xs zf D k) (hz : zf.category = 1) : ∀ (o0 : Option Nat) (i1 : Int32) (i2 : Int32) (i3 : Int32) (lv : rm_L) (h : rm_H) (r : dR), rm_get lv 0 = some (va_rf o0) → rm_get lv 1 = some (.int i1) → rm_get lv 2 = some (.int i2) → rm_get lv 3 = some (.int i3) → b85_0 L xs zf D w  o0 i1 i2 i3 h = some r → dq L xs zf ah_M85 0 lv [] h (k + 1) r := by
  intro o0 i1 i2 i3 lv h r G0 G1 G2 G3 hh
  unfold b85_0 at hh
  refine dq_iln 2 1 (by decide +kernel) rfl G2 ?_
  refine dq_is 4 3 (by decide +kernel) (by decide +kernel) ?_
  have g1 := dg_ne (i := 4) (u := .int i2) (by decide) (Or.inl (by decide)) G0
  have g2 := dg_ne (i := 4) (u := .int i2) (by decide) (Or.inl (by decide)) G1
  have g3 := dg_ne (i := 4) (u := .int i2) (by decide) (Or.inl (by decide)) G2
  have g4 := dg_ne (i := 4) (u := .int i2) (by decide) (Or.inr rfl) G3
  have g5 := dg_eq (lv) 4 (.int i2)
  exact c85_3 hD hz _ _ _ _ _ _ _ _ g1 g2 g4 g5 hh
def f85 (L : Nat) (xs : Nat → Int32) (zf : Value) (D : dD) (w : Nat) (As : List Value) (h : rm_H) : Option dR := match As with
  | [v0, .int i1, .int i2, .int i3] => (rm_rf v0).bind fun o0 => b85_0 L xs zf D w o0 i1 i2 i3 h
  | _ => none
theorem d85 {L : Nat} {xs : Nat → Int32} {zf : Value} {D : dD} {w k : Nat} (hD : dO L xs zf D k) (hz : zf.category = 1) (As : List Value) (h : rm_H) (r : dR) (hh : f85 L xs zf D w As h = some r) : dq L xs zf ah_M85 0 (lv_args 0 As) [] h (k + 1) r := by
  unfold f85 at hh
  split at hh
  · obtain ⟨o0, e0, hb0⟩ := db hh
    have e0 := rm_rf_v _ _ e0
    subst e0
    refine c85_0 hD hz _ _ _ _ _ _ _ ?_ ?_ ?_ ?_ hb0
    all_goals (simp only [la_r, la_i, la_j]; rfl)
  · cases hh
def b86_63 (L : Nat) (xs : Nat → Int32) (zf : Value) (D : dD) (w : Nat) (K28 : Option Nat → Int32 → Int32 → Int32 → Int32 → rm_H → Option dR) (o0 : Option Nat) (i3 : Int32) (i4 : Int32) (i5 : Int32) (i6 : Int32) (h : rm_H) : Option dR :=
  K28 o0 i3 i4 i5 (i6 + 1) h
theorem c86_63 {L : Nat} {xs : Nat → Int32} {zf : Value} {D : dD} {w k : Nat} {K28 : Option Nat → Int32 → Int32 → Int32 → Int32 → rm_H → Option dR} (hD : dO L xs zf D k) (hz : zf.category = 1) (hK28 : ∀ (o0 : Option Nat) (i3 : Int32) (i4 : Int32) (i5 : Int32) (i6 : Int32) (lv : rm_L) (h : rm_H) (r : dR), rm_get lv 0 = some (va_rf o0) → rm_get lv 3 = some (.int i3) → rm_get lv 4 = some (.int i4) → rm_get lv 5 = some (.int i5) → rm_get lv 6 = some (.int i6) → K28 o0 i3 i4 i5 i6 h = some r → dq L xs zf ah_M86 28 lv [] h (k + 1) r) : ∀ (o0 : Option Nat) (i3 : Int32) (i4 : Int32) (i5 : Int32) (i6 : Int32) (lv : rm_L) (h : rm_H) (r : dR), rm_get lv 0 = some (va_rf o0) → rm_get lv 3 = some (.int i3) → rm_get lv 4 = some (.int i4) → rm_get lv 5 = some (.int i5) → rm_get lv 6 = some (.int i6) → b86_63 L xs zf D w K28  o0 i3 i4 i5 i6 h = some r → dq L xs zf ah_M86 63 lv [] h (k + 1) r := by
  intro o0 i3 i4 i5 i6 lv h r G0 G3 G4 G5 G6 hh
  unfold b86_63 at hh
  refine dq_incy 6 1 1 66 (by decide +kernel) ⟨rfl, by decide +kernel, by decide +kernel⟩ G6 ?_
  have g1 := dg_ne (i := 6) (u := .int (i6 + 1)) (by decide) (Or.inl (by decide)) G0
  have g2 := dg_ne (i := 6) (u := .int (i6 + 1)) (by decide) (Or.inl (by decide)) G3
  have g3 := dg_ne (i := 6) (u := .int (i6 + 1)) (by decide) (Or.inl (by decide)) G4
  have g4 := dg_ne (i := 6) (u := .int (i6 + 1)) (by decide) (Or.inr rfl) G5
  have g5 := dg_eq (lv) 6 (.int (i6 + 1))
  refine dq_S (.goto (-38)) 3 [] 28 _ [] (by decide +kernel) rfl ?_
  exact hK28 _ _ _ _ _ _ _ _ g1 g2 g3 g4 g5 hh
def b86_69 (L : Nat) (xs : Nat → Int32) (zf : Value) (D : dD) (w : Nat) (h : rm_H) : Option dR :=
  drI (some .int) (-1) h
theorem c86_69 {L : Nat} {xs : Nat → Int32} {zf : Value} {D : dD} {w k : Nat} (hD : dO L xs zf D k) (hz : zf.category = 1) : ∀ (lv : rm_L) (h : rm_H) (r : dR), b86_69 L xs zf D w  h = some r → dq L xs zf ah_M86 69 lv [] h (k + 1) r := by
  intro lv h r hh
  unfold b86_69 at hh
  refine dq_S (.iconst (-1)) 1 [] 70 _ [.int (-1)] (by decide +kernel) rfl ?_
  exact dq_retI (some .int) (by decide +kernel) rfl hh
def b86_28 (L : Nat) (xs : Nat → Int32) (zf : Value) (D : dD) (w : Nat) : Nat → Option Nat → Int32 → Int32 → Int32 → Int32 → rm_H → Option dR
  | 0, _, _, _, _, _, _ => none
  | n + 1, o0, i3, i4, i5, i6, h =>
    if mx_f2 .ge i6 (i3 - 1) = true then
      b86_69 L xs zf D w h
    else
      ((D 57 [va_rf o0, .int i6] h).bind dxI).bind fun x2 =>
      if mx_f2 .ne x2.1 i4 = true then
        b86_63 L xs zf D w (b86_28 L xs zf D w n) o0 i3 i4 i5 i6 x2.2
      else
        ((D 57 [va_rf o0, .int (i6 + 1)] x2.2).bind dxI).bind fun x7 =>
        if mx_f2 .ne x7.1 i5 = true then
          b86_63 L xs zf D w (b86_28 L xs zf D w n) o0 i3 i4 i5 i6 x7.2
        else
          drI (some .int) i6 x7.2
theorem c86_28 {L : Nat} {xs : Nat → Int32} {zf : Value} {D : dD} {w k : Nat} (hD : dO L xs zf D k) (hz : zf.category = 1) : ∀ (n : Nat) (o0 : Option Nat) (i3 : Int32) (i4 : Int32) (i5 : Int32) (i6 : Int32) (lv : rm_L) (h : rm_H) (r : dR), rm_get lv 0 = some (va_rf o0) → rm_get lv 3 = some (.int i3) → rm_get lv 4 = some (.int i4) → rm_get lv 5 = some (.int i5) → rm_get lv 6 = some (.int i6) → b86_28 L xs zf D w n  o0 i3 i4 i5 i6 h = some r → dq L xs zf ah_M86 28 lv [] h (k + 1) r := by
  intro n
  induction n with
  | zero =>
    intro o0 i3 i4 i5 i6 lv h r G0 G3 G4 G5 G6 hh
    cases hh
  | succ n ih =>
    intro o0 i3 i4 i5 i6 lv h r G0 G3 G4 G5 G6 hh
    rw [b86_28] at hh
    refine dq_il 6 30 (by decide +kernel) rfl G6 ?_
    refine dq_iln 3 31 (by decide +kernel) rfl G3 ?_
    refine dq_S (.iconst 1) 1 [] 32 _ [.int 1, .int i3, .int i6] (by decide +kernel) rfl ?_
    refine dq_S (.isub) 1 [] 33 _ [.int (i3 - 1), .int i6] (by decide +kernel) rfl ?_
    rcases di hh with ⟨q1, hh⟩ | ⟨q1, hh⟩
    · refine dq_2 .ge 36 true 69 q1 (by decide +kernel) ?_
      exact c86_69 hD hz  _ _ _  hh
    · refine dq_2 .ge 36 false 36 q1 (by decide +kernel) ?_
      refine dq_aln 0 37 (by decide +kernel) rfl G0 ?_
      refine dq_il 6 39 (by decide +kernel) rfl G6 ?_
      obtain ⟨x2, q3, hh⟩ := db hh
      obtain ⟨a4, q5, q3⟩ := db q3
      rw [dq_xI q3] at q5
      refine dq_cst hD 71 57 0 2 [va_rf o0, .int i6] [] 42 [.int x2.1] (by decide +kernel) ap_57 ⟨⟨Nat.le_of_ble_eq_true rfl, by decide⟩, rfl, rfl⟩ (dq_ok8 [1, 1] [] (dc_r (dc_i dc_n)) dc_n (by decide +kernel)) (by decide +kernel) rfl q5 rfl ?_
      refine dq_il 4 44 (by decide +kernel) rfl G4 ?_
      rcases di hh with ⟨q6, hh⟩ | ⟨q6, hh⟩
      · refine dq_2 .ne 19 true 63 q6 (by decide +kernel) ?_
        exact c86_63 hD hz ih _ _ _ _ _ _ _ _ G0 G3 G4 G5 G6 hh
      · refine dq_2 .ne 19 false 47 q6 (by decide +kernel) ?_
        refine dq_aln 0 48 (by decide +kernel) rfl G0 ?_
        refine dq_il 6 50 (by decide +kernel) rfl G6 ?_
        refine dq_S (.iconst 1) 1 [] 51 _ [.int 1, .int i6, va_rf o0] (by decide +kernel) rfl ?_
        refine dq_S (.iadd) 1 [] 52 _ [.int (i6 + 1), va_rf o0] (by decide +kernel) rfl ?_
        obtain ⟨x7, q8, hh⟩ := db hh
        obtain ⟨a9, q10, q8⟩ := db q8
        rw [dq_xI q8] at q10
        refine dq_cst hD 71 57 0 2 [va_rf o0, .int (i6 + 1)] [] 55 [.int x7.1] (by decide +kernel) ap_57 ⟨⟨Nat.le_of_ble_eq_true rfl, by decide⟩, rfl, rfl⟩ (dq_ok8 [1, 1] [] (dc_r (dc_i dc_n)) dc_n (by decide +kernel)) (by decide +kernel) rfl q10 rfl ?_
        refine dq_il 5 57 (by decide +kernel) rfl G5 ?_
        rcases di hh with ⟨q11, hh⟩ | ⟨q11, hh⟩
        · refine dq_2 .ne 6 true 63 q11 (by decide +kernel) ?_
          exact c86_63 hD hz ih _ _ _ _ _ _ _ _ G0 G3 G4 G5 G6 hh
        · refine dq_2 .ne 6 false 60 q11 (by decide +kernel) ?_
          refine dq_il 6 62 (by decide +kernel) rfl G6 ?_
          exact dq_retI (some .int) (by decide +kernel) rfl hh
def b86_0 (L : Nat) (xs : Nat → Int32) (zf : Value) (D : dD) (w : Nat) (o0 : Option Nat) (i1 : Int32) (i2 : Int32) (i3 : Int32) (h : rm_H) : Option dR :=
  ((D 87 [.int i1] h).bind dxI).bind fun x1 =>
  if mx_f1 .eq x1.1 = true then
    b86_69 L xs zf D w x1.2
  else
    ((D 88 [.int i1] x1.2).bind dxI).bind fun x6 =>
    ((D 89 [.int i1] x6.2).bind dxI).bind fun x15 =>
    ((D 82 [.int i2, .int i3, va_rf o0] x15.2).bind dxV).bind fun h25 =>
    b86_28 L xs zf D w w o0 i3 x6.1 x15.1 i2 h25
theorem c86_0 {L : Nat} {xs : Nat → Int32} {zf : Value} {D : dD} {w k : Nat} (hD : dO L xs zf D k) (hz : zf.category = 1) : ∀ (o0 : Option Nat) (i1 : Int32) (i2 : Int32) (i3 : Int32) (lv : rm_L) (h : rm_H) (r : dR), rm_get lv 0 = some (va_rf o0) → rm_get lv 1 = some (.int i1) → rm_get lv 2 = some (.int i2) → rm_get lv 3 = some (.int i3) → b86_0 L xs zf D w  o0 i1 i2 i3 h = some r → dq L xs zf ah_M86 0 lv [] h (k + 1) r := by
  intro o0 i1 i2 i3 lv h r G0 G1 G2 G3 hh
  unfold b86_0 at hh
  refine dq_iln 1 1 (by decide +kernel) rfl G1 ?_
  obtain ⟨x1, q2, hh⟩ := db hh
  obtain ⟨a3, q4, q2⟩ := db q2
  rw [dq_xI q2] at q4
  refine dq_cst hD 164 87 0 1 [.int i1] [] 4 [.int x1.1] (by decide +kernel) ap_87 ⟨⟨Nat.le_of_ble_eq_true rfl, by decide⟩, rfl, rfl⟩ (dq_ok8 [1] [] (dc_i dc_n) dc_n (by decide +kernel)) (by decide +kernel) rfl q4 rfl ?_
  rcases di hh with ⟨q5, hh⟩ | ⟨q5, hh⟩
  · refine dq_1 .eq 65 true 69 q5 (by decide +kernel) ?_
    exact c86_69 hD hz  _ _ _  hh
  · refine dq_1 .eq 65 false 7 q5 (by decide +kernel) ?_
    refine dq_iln 1 8 (by decide +kernel) rfl G1 ?_
    obtain ⟨x6, q7, hh⟩ := db hh
    obtain ⟨a8, q9, q7⟩ := db q7
    rw [dq_xI q7] at q9
    refine dq_cst hD 157 88 0 1 [.int i1] [] 11 [.int x6.1] (by decide +kernel) ap_88 ⟨⟨Nat.le_of_ble_eq_true rfl, by decide⟩, rfl, rfl⟩ (dq_ok8 [1] [] (dc_i dc_n) dc_n (by decide +kernel)) (by decide +kernel) rfl q9 rfl ?_
    refine dq_is 4 13 (by decide +kernel) (by decide +kernel) ?_
    have g10 := dg_ne (i := 4) (u := .int x6.1) (by decide) (Or.inl (by decide)) G0
    have g11 := dg_ne (i := 4) (u := .int x6.1) (by decide) (Or.inl (by decide)) G1
    have g12 := dg_ne (i := 4) (u := .int x6.1) (by decide) (Or.inl (by decide)) G2
    have g13 := dg_ne (i := 4) (u := .int x6.1) (by decide) (Or.inr rfl) G3
    have g14 := dg_eq (lv) 4 (.int x6.1)
    refine dq_iln 1 14 (by decide +kernel) rfl g11 ?_
    obtain ⟨x15, q16, hh⟩ := db hh
    obtain ⟨a17, q18, q16⟩ := db q16
    rw [dq_xI q16] at q18
    refine dq_cst hD 161 89 0 1 [.int i1] [] 17 [.int x15.1] (by decide +kernel) ap_89 ⟨⟨Nat.le_of_ble_eq_true rfl, by decide⟩, rfl, rfl⟩ (dq_ok8 [1] [] (dc_i dc_n) dc_n (by decide +kernel)) (by decide +kernel) rfl q18 rfl ?_
    refine dq_is 5 19 (by decide +kernel) (by decide +kernel) ?_
    have g19 := dg_ne (i := 5) (u := .int x15.1) (by decide) (Or.inl (by decide)) g10
    have g20 := dg_ne (i := 5) (u := .int x15.1) (by decide) (Or.inl (by decide)) g11
    have g21 := dg_ne (i := 5) (u := .int x15.1) (by decide) (Or.inl (by decide)) g12
    have g22 := dg_ne (i := 5) (u := .int x15.1) (by decide) (Or.inl (by decide)) g13
    have g23 := dg_ne (i := 5) (u := .int x15.1) (by decide) (Or.inr rfl) g14
    have g24 := dg_eq (rm_set1 (lv) 4 (.int x6.1)) 5 (.int x15.1)
    refine dq_iln 2 20 (by decide +kernel) rfl g21 ?_
    refine dq_iln 3 21 (by decide +kernel) rfl g22 ?_
    refine dq_aln 0 22 (by decide +kernel) rfl g19 ?_
    obtain ⟨h25, q26, hh⟩ := db hh
    obtain ⟨a27, q28, q26⟩ := db q26
    rw [dq_xV q26] at q28
    refine dq_cst hD 96 82 0 3 [.int i2, .int i3, va_rf o0] [] 25 [] (by decide +kernel) ap_82 ⟨⟨Nat.le_of_ble_eq_true rfl, by decide⟩, rfl, rfl⟩ (dq_ok8 [1, 1, 1] [] (dc_i (dc_i (dc_r dc_n))) dc_n (by decide +kernel)) (by decide +kernel) rfl q28 rfl ?_
    refine dq_iln 2 26 (by decide +kernel) rfl g21 ?_
    refine dq_is 6 28 (by decide +kernel) (by decide +kernel) ?_
    have g29 := dg_ne (i := 6) (u := .int i2) (by decide) (Or.inl (by decide)) g19
    have g30 := dg_ne (i := 6) (u := .int i2) (by decide) (Or.inl (by decide)) g20
    have g31 := dg_ne (i := 6) (u := .int i2) (by decide) (Or.inl (by decide)) g21
    have g32 := dg_ne (i := 6) (u := .int i2) (by decide) (Or.inl (by decide)) g22
    have g33 := dg_ne (i := 6) (u := .int i2) (by decide) (Or.inl (by decide)) g23
    have g34 := dg_ne (i := 6) (u := .int i2) (by decide) (Or.inr rfl) g24
    have g35 := dg_eq (rm_set1 (rm_set1 (lv) 4 (.int x6.1)) 5 (.int x15.1)) 6 (.int i2)
    exact c86_28 hD hz _ _ _ _ _ _ _ _ _ g29 g32 g33 g34 g35 hh
def f86 (L : Nat) (xs : Nat → Int32) (zf : Value) (D : dD) (w : Nat) (As : List Value) (h : rm_H) : Option dR := match As with
  | [v0, .int i1, .int i2, .int i3] => (rm_rf v0).bind fun o0 => b86_0 L xs zf D w o0 i1 i2 i3 h
  | _ => none
theorem d86 {L : Nat} {xs : Nat → Int32} {zf : Value} {D : dD} {w k : Nat} (hD : dO L xs zf D k) (hz : zf.category = 1) (As : List Value) (h : rm_H) (r : dR) (hh : f86 L xs zf D w As h = some r) : dq L xs zf ah_M86 0 (lv_args 0 As) [] h (k + 1) r := by
  unfold f86 at hh
  split at hh
  · obtain ⟨o0, e0, hb0⟩ := db hh
    have e0 := rm_rf_v _ _ e0
    subst e0
    refine c86_0 hD hz _ _ _ _ _ _ _ ?_ ?_ ?_ ?_ hb0
    all_goals (simp only [la_r, la_i, la_j]; rfl)
  · cases hh
def b87_16 (L : Nat) (xs : Nat → Int32) (zf : Value) (D : dD) (w : Nat) (s0 : Int32) (h : rm_H) : Option dR :=
  drI (some .boolean) s0 h
theorem c87_16 {L : Nat} {xs : Nat → Int32} {zf : Value} {D : dD} {w k : Nat} (hD : dO L xs zf D k) (hz : zf.category = 1) : ∀ (s0 : Int32) (lv : rm_L) (h : rm_H) (r : dR), b87_16 L xs zf D w  s0 h = some r → dq L xs zf ah_M87 16 lv [.int s0] h (k + 1) r := by
  intro s0 lv h r hh
  unfold b87_16 at hh
  exact dq_retI (some .boolean) (by decide +kernel) rfl hh
def b87_0 (L : Nat) (xs : Nat → Int32) (zf : Value) (D : dD) (w : Nat) (i0 : Int32) (h : rm_H) : Option dR :=
  if mx_f2 .ge (((i0 : Int32).toUInt32 >>> ((16 : Int32).toUInt32 &&& Int32.toUInt32 31)).toInt32) 17 = true then
    b87_16 L xs zf D w 0 h
  else
    b87_16 L xs zf D w 1 h
theorem c87_0 {L : Nat} {xs : Nat → Int32} {zf : Value} {D : dD} {w k : Nat} (hD : dO L xs zf D k) (hz : zf.category = 1) : ∀ (i0 : Int32) (lv : rm_L) (h : rm_H) (r : dR), rm_get lv 0 = some (.int i0) → b87_0 L xs zf D w  i0 h = some r → dq L xs zf ah_M87 0 lv [] h (k + 1) r := by
  intro i0 lv h r G0 hh
  unfold b87_0 at hh
  refine dq_iln 0 1 (by decide +kernel) rfl G0 ?_
  refine dq_S (.bipush 16) 2 [] 3 _ [.int 16, .int i0] (by decide +kernel) rfl ?_
  refine dq_S (.iushr) 1 [] 4 _ [.int (((i0 : Int32).toUInt32 >>> ((16 : Int32).toUInt32 &&& Int32.toUInt32 31)).toInt32)] (by decide +kernel) rfl ?_
  refine dq_isn 1 5 (by decide +kernel) (by decide +kernel) ?_
  have g1 := dg_ne (i := 1) (u := .int (((i0 : Int32).toUInt32 >>> ((16 : Int32).toUInt32 &&& Int32.toUInt32 31)).toInt32)) (by decide) (Or.inr rfl) G0
  have g2 := dg_eq (lv) 1 (.int (((i0 : Int32).toUInt32 >>> ((16 : Int32).toUInt32 &&& Int32.toUInt32 31)).toInt32))
  refine dq_iln 1 6 (by decide +kernel) rfl g2 ?_
  refine dq_S (.bipush 17) 2 [] 8 _ [.int 17, .int (((i0 : Int32).toUInt32 >>> ((16 : Int32).toUInt32 &&& Int32.toUInt32 31)).toInt32)] (by decide +kernel) rfl ?_
  rcases di hh with ⟨q3, hh⟩ | ⟨q3, hh⟩
  · refine dq_2 .ge 7 true 15 q3 (by decide +kernel) ?_
    refine dq_S (.iconst 0) 1 [] 16 _ [.int 0] (by decide +kernel) rfl ?_
    exact c87_16 hD hz _ _ _ _  hh
  · refine dq_2 .ge 7 false 11 q3 (by decide +kernel) ?_
    refine dq_S (.iconst 1) 1 [] 12 _ [.int 1] (by decide +kernel) rfl ?_
    refine dq_S (.goto 4) 3 [] 16 _ [.int 1] (by decide +kernel) rfl ?_
    exact c87_16 hD hz _ _ _ _  hh
def f87 (L : Nat) (xs : Nat → Int32) (zf : Value) (D : dD) (w : Nat) (As : List Value) (h : rm_H) : Option dR := match As with
  | [.int i0] => b87_0 L xs zf D w i0 h
  | _ => none
theorem d87 {L : Nat} {xs : Nat → Int32} {zf : Value} {D : dD} {w k : Nat} (hD : dO L xs zf D k) (hz : zf.category = 1) (As : List Value) (h : rm_H) (r : dR) (hh : f87 L xs zf D w As h = some r) : dq L xs zf ah_M87 0 (lv_args 0 As) [] h (k + 1) r := by
  unfold f87 at hh
  split at hh
  · refine c87_0 hD hz _ _ _ _ ?_ hh
    all_goals (simp only [la_r, la_i, la_j]; rfl)
  · cases hh
def b88_0 (L : Nat) (xs : Nat → Int32) (zf : Value) (D : dD) (w : Nat) (i0 : Int32) (h : rm_H) : Option dR :=
  drI (some .char) (UInt32.toInt32 (Int32.toUInt32 ((((i0 : Int32).toUInt32 >>> ((10 : Int32).toUInt32 &&& Int32.toUInt32 31)).toInt32) + 55232) % 65536)) h
theorem c88_0 {L : Nat} {xs : Nat → Int32} {zf : Value} {D : dD} {w k : Nat} (hD : dO L xs zf D k) (hz : zf.category = 1) : ∀ (i0 : Int32) (lv : rm_L) (h : rm_H) (r : dR), rm_get lv 0 = some (.int i0) → b88_0 L xs zf D w  i0 h = some r → dq L xs zf ah_M88 0 lv [] h (k + 1) r := by
  intro i0 lv h r G0 hh
  unfold b88_0 at hh
  refine dq_iln 0 1 (by decide +kernel) rfl G0 ?_
  refine dq_S (.bipush 10) 2 [] 3 _ [.int 10, .int i0] (by decide +kernel) rfl ?_
  refine dq_S (.iushr) 1 [] 4 _ [.int (((i0 : Int32).toUInt32 >>> ((10 : Int32).toUInt32 &&& Int32.toUInt32 31)).toInt32)] (by decide +kernel) rfl ?_
  refine dq_S (.ldc 110) 2 [0, 55232] 6 _ [.int 55232, .int (((i0 : Int32).toUInt32 >>> ((10 : Int32).toUInt32 &&& Int32.toUInt32 31)).toInt32)] (by decide +kernel) rfl ?_
  refine dq_S (.iadd) 1 [] 7 _ [.int ((((i0 : Int32).toUInt32 >>> ((10 : Int32).toUInt32 &&& Int32.toUInt32 31)).toInt32) + 55232)] (by decide +kernel) rfl ?_
  refine dq_S (.i2c) 1 [] 8 _ [.int (UInt32.toInt32 (Int32.toUInt32 ((((i0 : Int32).toUInt32 >>> ((10 : Int32).toUInt32 &&& Int32.toUInt32 31)).toInt32) + 55232) % 65536))] (by decide +kernel) rfl ?_
  exact dq_retI (some .char) (by decide +kernel) rfl hh
def f88 (L : Nat) (xs : Nat → Int32) (zf : Value) (D : dD) (w : Nat) (As : List Value) (h : rm_H) : Option dR := match As with
  | [.int i0] => b88_0 L xs zf D w i0 h
  | _ => none
theorem d88 {L : Nat} {xs : Nat → Int32} {zf : Value} {D : dD} {w k : Nat} (hD : dO L xs zf D k) (hz : zf.category = 1) (As : List Value) (h : rm_H) (r : dR) (hh : f88 L xs zf D w As h = some r) : dq L xs zf ah_M88 0 (lv_args 0 As) [] h (k + 1) r := by
  unfold f88 at hh
  split at hh
  · refine c88_0 hD hz _ _ _ _ ?_ hh
    all_goals (simp only [la_r, la_i, la_j]; rfl)
  · cases hh
def b89_0 (L : Nat) (xs : Nat → Int32) (zf : Value) (D : dD) (w : Nat) (i0 : Int32) (h : rm_H) : Option dR :=
  drI (some .char) (UInt32.toInt32 (Int32.toUInt32 ((i0 &&& 1023) + 56320) % 65536)) h
theorem c89_0 {L : Nat} {xs : Nat → Int32} {zf : Value} {D : dD} {w k : Nat} (hD : dO L xs zf D k) (hz : zf.category = 1) : ∀ (i0 : Int32) (lv : rm_L) (h : rm_H) (r : dR), rm_get lv 0 = some (.int i0) → b89_0 L xs zf D w  i0 h = some r → dq L xs zf ah_M89 0 lv [] h (k + 1) r := by
  intro i0 lv h r G0 hh
  unfold b89_0 at hh
  refine dq_iln 0 1 (by decide +kernel) rfl G0 ?_
  refine dq_S (.sipush 1023) 3 [] 4 _ [.int 1023, .int i0] (by decide +kernel) rfl ?_
  refine dq_S (.iand) 1 [] 5 _ [.int (i0 &&& 1023)] (by decide +kernel) rfl ?_
  refine dq_S (.ldc 76) 2 [0, 56320] 7 _ [.int 56320, .int (i0 &&& 1023)] (by decide +kernel) rfl ?_
  refine dq_S (.iadd) 1 [] 8 _ [.int ((i0 &&& 1023) + 56320)] (by decide +kernel) rfl ?_
  refine dq_S (.i2c) 1 [] 9 _ [.int (UInt32.toInt32 (Int32.toUInt32 ((i0 &&& 1023) + 56320) % 65536))] (by decide +kernel) rfl ?_
  exact dq_retI (some .char) (by decide +kernel) rfl hh
def f89 (L : Nat) (xs : Nat → Int32) (zf : Value) (D : dD) (w : Nat) (As : List Value) (h : rm_H) : Option dR := match As with
  | [.int i0] => b89_0 L xs zf D w i0 h
  | _ => none
theorem d89 {L : Nat} {xs : Nat → Int32} {zf : Value} {D : dD} {w k : Nat} (hD : dO L xs zf D k) (hz : zf.category = 1) (As : List Value) (h : rm_H) (r : dR) (hh : f89 L xs zf D w As h = some r) : dq L xs zf ah_M89 0 (lv_args 0 As) [] h (k + 1) r := by
  unfold f89 at hh
  split at hh
  · refine c89_0 hD hz _ _ _ _ ?_ hh
    all_goals (simp only [la_r, la_i, la_j]; rfl)
  · cases hh
def b90_0 (L : Nat) (xs : Nat → Int32) (zf : Value) (D : dD) (w : Nat) (o0 : Option Nat) (o1 : Option Nat) (o2 : Option Nat) (h : rm_H) : Option dR :=
  if dnl o0 = true then none else
  (dpF h 0 [8] o0 (va_rf o1)).bind fun h2 =>
  (dpF h2 1 [8] o0 (va_rf o2)).bind fun h4 =>
  some (none, h4)
theorem c90_0 {L : Nat} {xs : Nat → Int32} {zf : Value} {D : dD} {w k : Nat} (hD : dO L xs zf D k) (hz : zf.category = 1) : ∀ (o0 : Option Nat) (o1 : Option Nat) (o2 : Option Nat) (lv : rm_L) (h : rm_H) (r : dR), rm_get lv 0 = some (va_rf o0) → rm_get lv 1 = some (va_rf o1) → rm_get lv 2 = some (va_rf o2) → b90_0 L xs zf D w  o0 o1 o2 h = some r → dq L xs zf ah_M90 0 lv [] h (k + 1) r := by
  intro o0 o1 o2 lv h r G0 G1 G2 hh
  unfold b90_0 at hh
  refine dq_aln 0 1 (by decide +kernel) rfl G0 ?_
  rcases di hh with ⟨_, hh⟩ | ⟨q1, hh⟩
  · cases hh
  refine dq_obj 3 4 (by decide +kernel) (dc_s dc_n (by decide +kernel)) rfl q1 ?_
  refine dq_aln 0 5 (by decide +kernel) rfl G0 ?_
  refine dq_aln 1 6 (by decide +kernel) rfl G1 ?_
  obtain ⟨h2, q3, hh⟩ := db hh
  refine dq_put 9 0 [8] 9 (by decide +kernel) rfl q3 ?_
  refine dq_aln 0 10 (by decide +kernel) rfl G0 ?_
  refine dq_aln 2 11 (by decide +kernel) rfl G2 ?_
  obtain ⟨h4, q5, hh⟩ := db hh
  refine dq_put 15 1 [8] 14 (by decide +kernel) rfl q5 ?_
  cases hh
  exact dq_ret0 (by decide +kernel) rfl
def f90 (L : Nat) (xs : Nat → Int32) (zf : Value) (D : dD) (w : Nat) (As : List Value) (h : rm_H) : Option dR := match As with
  | [v0, v1, v2] => (rm_rf v0).bind fun o0 => (rm_rf v1).bind fun o1 => (rm_rf v2).bind fun o2 => b90_0 L xs zf D w o0 o1 o2 h
  | _ => none
theorem d90 {L : Nat} {xs : Nat → Int32} {zf : Value} {D : dD} {w k : Nat} (hD : dO L xs zf D k) (hz : zf.category = 1) (As : List Value) (h : rm_H) (r : dR) (hh : f90 L xs zf D w As h = some r) : dq L xs zf ah_M90 0 (lv_args 0 As) [] h (k + 1) r := by
  unfold f90 at hh
  split at hh
  · obtain ⟨o0, e0, hb0⟩ := db hh
    have e0 := rm_rf_v _ _ e0
    obtain ⟨o1, e1, hb1⟩ := db hb0
    have e1 := rm_rf_v _ _ e1
    obtain ⟨o2, e2, hb2⟩ := db hb1
    have e2 := rm_rf_v _ _ e2
    subst e0 e1 e2
    refine c90_0 hD hz _ _ _ _ _ _ ?_ ?_ ?_ hb2
    all_goals (simp only [la_r, la_i, la_j]; rfl)
  · cases hh
def b91_86 (L : Nat) (xs : Nat → Int32) (zf : Value) (D : dD) (w : Nat) (K9 : Option Nat → Int32 → rm_H → Option dR) (K56 : Option Nat → Int32 → Option Nat → Int32 → rm_H → Option dR) (o0 : Option Nat) (i1 : Int32) (o2 : Option Nat) (i3 : Int32) (h : rm_H) : Option dR :=
  ((dcV L xs D 142 [8] o0 [va_rf o2] h).bind dxV).bind fun h1 =>
  K56 o0 i1 o2 (i3 + 1) h1
theorem c91_86 {L : Nat} {xs : Nat → Int32} {zf : Value} {D : dD} {w k : Nat} {K9 : Option Nat → Int32 → rm_H → Option dR} {K56 : Option Nat → Int32 → Option Nat → Int32 → rm_H → Option dR} (hD : dO L xs zf D k) (hz : zf.category = 1) (hK9 : ∀ (o0 : Option Nat) (i1 : Int32) (lv : rm_L) (h : rm_H) (r : dR), rm_get lv 0 = some (va_rf o0) → rm_get lv 1 = some (.int i1) → K9 o0 i1 h = some r → dq L xs zf ah_M91 9 lv [] h (k + 1) r) (hK56 : ∀ (o0 : Option Nat) (i1 : Int32) (o2 : Option Nat) (i3 : Int32) (lv : rm_L) (h : rm_H) (r : dR), rm_get lv 0 = some (va_rf o0) → rm_get lv 1 = some (.int i1) → rm_get lv 2 = some (va_rf o2) → rm_get lv 3 = some (.int i3) → K56 o0 i1 o2 i3 h = some r → dq L xs zf ah_M91 56 lv [] h (k + 1) r) : ∀ (o0 : Option Nat) (i1 : Int32) (o2 : Option Nat) (i3 : Int32) (lv : rm_L) (h : rm_H) (r : dR), rm_get lv 0 = some (va_rf o0) → rm_get lv 1 = some (.int i1) → rm_get lv 2 = some (va_rf o2) → rm_get lv 3 = some (.int i3) → b91_86 L xs zf D w K9 K56  o0 i1 o2 i3 h = some r → dq L xs zf ah_M91 86 lv [] h (k + 1) r := by
  intro o0 i1 o2 i3 lv h r G0 G1 G2 G3 hh
  unfold b91_86 at hh
  refine dq_aln 0 87 (by decide +kernel) rfl G0 ?_
  refine dq_aln 2 88 (by decide +kernel) rfl G2 ?_
  obtain ⟨h1, q2, hh⟩ := db hh
  obtain ⟨a3, q4, q2⟩ := db q2
  rw [dq_xV q2] at q4
  refine dq_cvi hD 39 142 5 1 [8] o0 [va_rf o2] [] 91 [] (by decide +kernel) ap_142 ⟨⟨Nat.le_of_ble_eq_true rfl, by decide⟩, rfl, rfl⟩ (dq_ok8 [1, 1] [] (dc_r (dc_r dc_n)) dc_n (by decide +kernel)) (by decide +kernel) rfl q4 rfl ?_
  refine dq_incy 3 1 1 94 (by decide +kernel) ⟨rfl, by decide +kernel, by decide +kernel⟩ G3 ?_
  have g5 := dg_ne (i := 3) (u := .int (i3 + 1)) (by decide) (Or.inl (by decide)) G0
  have g6 := dg_ne (i := 3) (u := .int (i3 + 1)) (by decide) (Or.inl (by decide)) G1
  have g7 := dg_ne (i := 3) (u := .int (i3 + 1)) (by decide) (Or.inr (drc _)) G2
  have g8 := dg_eq (lv) 3 (.int (i3 + 1))
  refine dq_S (.goto (-38)) 3 [] 56 _ [] (by decide +kernel) rfl ?_
  exact hK56 _ _ _ _ _ _ _ g5 g6 g7 g8 hh
def b91_97 (L : Nat) (xs : Nat → Int32) (zf : Value) (D : dD) (w : Nat) (K9 : Option Nat → Int32 → rm_H → Option dR) (o0 : Option Nat) (i1 : Int32) (h : rm_H) : Option dR :=
  ((dcV L xs D 109 [8] o0 [.int 6] h).bind dxV).bind fun h1 =>
  K9 o0 (i1 + 1) h1
theorem c91_97 {L : Nat} {xs : Nat → Int32} {zf : Value} {D : dD} {w k : Nat} {K9 : Option Nat → Int32 → rm_H → Option dR} (hD : dO L xs zf D k) (hz : zf.category = 1) (hK9 : ∀ (o0 : Option Nat) (i1 : Int32) (lv : rm_L) (h : rm_H) (r : dR), rm_get lv 0 = some (va_rf o0) → rm_get lv 1 = some (.int i1) → K9 o0 i1 h = some r → dq L xs zf ah_M91 9 lv [] h (k + 1) r) : ∀ (o0 : Option Nat) (i1 : Int32) (lv : rm_L) (h : rm_H) (r : dR), rm_get lv 0 = some (va_rf o0) → rm_get lv 1 = some (.int i1) → b91_97 L xs zf D w K9  o0 i1 h = some r → dq L xs zf ah_M91 97 lv [] h (k + 1) r := by
  intro o0 i1 lv h r G0 G1 hh
  unfold b91_97 at hh
  refine dq_aln 0 98 (by decide +kernel) rfl G0 ?_
  refine dq_S (.bipush 6) 2 [] 100 _ [.int 6, va_rf o0] (by decide +kernel) rfl ?_
  obtain ⟨h1, q2, hh⟩ := db hh
  obtain ⟨a3, q4, q2⟩ := db q2
  rw [dq_xV q2] at q4
  refine dq_cvi hD 42 109 5 1 [8] o0 [.int 6] [] 103 [] (by decide +kernel) ap_109 ⟨⟨Nat.le_of_ble_eq_true rfl, by decide⟩, rfl, rfl⟩ (dq_ok8 [1, 1] [] (dc_r (dc_i dc_n)) dc_n (by decide +kernel)) (by decide +kernel) rfl q4 rfl ?_
  refine dq_incy 1 1 1 106 (by decide +kernel) ⟨rfl, by decide +kernel, by decide +kernel⟩ G1 ?_
  have g5 := dg_ne (i := 1) (u := .int (i1 + 1)) (by decide) (Or.inr (drc _)) G0
  have g6 := dg_eq (lv) 1 (.int (i1 + 1))
  refine dq_S (.goto (-97)) 3 [] 9 _ [] (by decide +kernel) rfl ?_
  exact hK9 _ _ _ _ _ g5 g6 hh
def b91_56 (L : Nat) (xs : Nat → Int32) (zf : Value) (D : dD) (w : Nat) (K9 : Option Nat → Int32 → rm_H → Option dR) : Nat → Option Nat → Int32 → Option Nat → Int32 → rm_H → Option dR
  | 0, _, _, _, _, _ => none
  | n + 1, o0, i1, o2, i3, h =>
    if mx_f2 .gt i3 8 = true then
      b91_97 L xs zf D w K9 o0 i1 h
    else
      (dgR L xs h 0 [8] o0).bind fun p2 =>
      (dgI L xs h 6 [6] p2).bind fun x4 =>
      if mx_f2 .eq x4 23 = true then
        b91_86 L xs zf D w K9 (b91_56 L xs zf D w K9 n) o0 i1 o2 i3 h
      else
        (dgR L xs h 0 [8] o0).bind fun p7 =>
        (dgI L xs h 6 [6] p7).bind fun x9 =>
        if mx_f2 .ne x9 24 = true then
          b91_97 L xs zf D w K9 o0 i1 h
        else
          b91_86 L xs zf D w K9 (b91_56 L xs zf D w K9 n) o0 i1 o2 i3 h
theorem c91_56 {L : Nat} {xs : Nat → Int32} {zf : Value} {D : dD} {w k : Nat} {K9 : Option Nat → Int32 → rm_H → Option dR} (hD : dO L xs zf D k) (hz : zf.category = 1) (hK9 : ∀ (o0 : Option Nat) (i1 : Int32) (lv : rm_L) (h : rm_H) (r : dR), rm_get lv 0 = some (va_rf o0) → rm_get lv 1 = some (.int i1) → K9 o0 i1 h = some r → dq L xs zf ah_M91 9 lv [] h (k + 1) r) : ∀ (n : Nat) (o0 : Option Nat) (i1 : Int32) (o2 : Option Nat) (i3 : Int32) (lv : rm_L) (h : rm_H) (r : dR), rm_get lv 0 = some (va_rf o0) → rm_get lv 1 = some (.int i1) → rm_get lv 2 = some (va_rf o2) → rm_get lv 3 = some (.int i3) → b91_56 L xs zf D w K9 n  o0 i1 o2 i3 h = some r → dq L xs zf ah_M91 56 lv [] h (k + 1) r := by
  intro n
  induction n with
  | zero =>
    intro o0 i1 o2 i3 lv h r G0 G1 G2 G3 hh
    cases hh
  | succ n ih =>
    intro o0 i1 o2 i3 lv h r G0 G1 G2 G3 hh
    rw [b91_56] at hh
    refine dq_iln 3 57 (by decide +kernel) rfl G3 ?_
    refine dq_S (.bipush 8) 2 [] 59 _ [.int 8, .int i3] (by decide +kernel) rfl ?_
    rcases di hh with ⟨q1, hh⟩ | ⟨q1, hh⟩
    · refine dq_2 .gt 38 true 97 q1 (by decide +kernel) ?_
      exact c91_97 hD hz hK9 _ _ _ _ _ G0 G1 hh
    · refine dq_2 .gt 38 false 62 q1 (by decide +kernel) ?_
      refine dq_aln 0 63 (by decide +kernel) rfl G0 ?_
      obtain ⟨p2, q3, hh⟩ := db hh
      refine dq_gR 9 0 [8] 66 (by decide +kernel) rfl q3 ?_
      obtain ⟨x4, q5, hh⟩ := db hh
      refine dq_gI 24 6 [6] 69 (by decide +kernel) rfl q5 ?_
      refine dq_S (.bipush 23) 2 [] 71 _ [.int 23, .int x4] (by decide +kernel) rfl ?_
      rcases di hh with ⟨q6, hh⟩ | ⟨q6, hh⟩
      · refine dq_2 .eq 15 true 86 q6 (by decide +kernel) ?_
        exact c91_86 hD hz hK9 ih _ _ _ _ _ _ _ G0 G1 G2 G3 hh
      · refine dq_2 .eq 15 false 74 q6 (by decide +kernel) ?_
        refine dq_aln 0 75 (by decide +kernel) rfl G0 ?_
        obtain ⟨p7, q8, hh⟩ := db hh
        refine dq_gR 9 0 [8] 78 (by decide +kernel) rfl q8 ?_
        obtain ⟨x9, q10, hh⟩ := db hh
        refine dq_gI 24 6 [6] 81 (by decide +kernel) rfl q10 ?_
        refine dq_S (.bipush 24) 2 [] 83 _ [.int 24, .int x9] (by decide +kernel) rfl ?_
        rcases di hh with ⟨q11, hh⟩ | ⟨q11, hh⟩
        · refine dq_2 .ne 14 true 97 q11 (by decide +kernel) ?_
          exact c91_97 hD hz hK9 _ _ _ _ _ G0 G1 hh
        · refine dq_2 .ne 14 false 86 q11 (by decide +kernel) ?_
          exact c91_86 hD hz hK9 ih _ _ _ _ _ _ _ G0 G1 G2 G3 hh
def b91_39 (L : Nat) (xs : Nat → Int32) (zf : Value) (D : dD) (w : Nat) (K9 : Option Nat → Int32 → rm_H → Option dR) (o0 : Option Nat) (i1 : Int32) (h : rm_H) : Option dR :=
  ((dcV L xs D 93 [8] o0 [] h).bind dxR).bind fun p1 =>
  ((dcV L xs D 110 [8] o0 [va_rf p1.1] p1.2).bind dxV).bind fun h8 =>
  ((dcV L xs D 115 [8] o0 [va_rf p1.1] h8).bind dxV).bind fun h12 =>
  b91_56 L xs zf D w K9 w o0 i1 p1.1 0 h12
theorem c91_39 {L : Nat} {xs : Nat → Int32} {zf : Value} {D : dD} {w k : Nat} {K9 : Option Nat → Int32 → rm_H → Option dR} (hD : dO L xs zf D k) (hz : zf.category = 1) (hK9 : ∀ (o0 : Option Nat) (i1 : Int32) (lv : rm_L) (h : rm_H) (r : dR), rm_get lv 0 = some (va_rf o0) → rm_get lv 1 = some (.int i1) → K9 o0 i1 h = some r → dq L xs zf ah_M91 9 lv [] h (k + 1) r) : ∀ (o0 : Option Nat) (i1 : Int32) (lv : rm_L) (h : rm_H) (r : dR), rm_get lv 0 = some (va_rf o0) → rm_get lv 1 = some (.int i1) → b91_39 L xs zf D w K9  o0 i1 h = some r → dq L xs zf ah_M91 39 lv [] h (k + 1) r := by
  intro o0 i1 lv h r G0 G1 hh
  unfold b91_39 at hh
  refine dq_aln 0 40 (by decide +kernel) rfl G0 ?_
  obtain ⟨p1, q2, hh⟩ := db hh
  obtain ⟨a3, q4, q2⟩ := db q2
  rw [dq_xR q2] at q4
  refine dq_cvi hD 28 93 5 0 [8] o0 [] [] 43 [va_rf p1.1] (by decide +kernel) ap_93 ⟨⟨Nat.le_of_ble_eq_true rfl, by decide⟩, rfl, rfl⟩ (dq_ok8 [1] [] (dc_r dc_n) dc_n (by decide +kernel)) (by decide +kernel) rfl q4 rfl ?_
  refine dq_asn 2 44 (by decide +kernel) (by decide +kernel) ?_
  have g5 := dg_ne (i := 2) (u := va_rf p1.1) (by decide) (Or.inl (by decide)) G0
  have g6 := dg_ne (i := 2) (u := va_rf p1.1) (by decide) (Or.inr rfl) G1
  have g7 := dg_eq (lv) 2 (va_rf p1.1)
  refine dq_aln 0 45 (by decide +kernel) rfl g5 ?_
  refine dq_aln 2 46 (by decide +kernel) rfl g7 ?_
  obtain ⟨h8, q9, hh⟩ := db hh
  obtain ⟨a10, q11, q9⟩ := db q9
  rw [dq_xV q9] at q11
  refine dq_cvi hD 32 110 5 1 [8] o0 [va_rf p1.1] [] 49 [] (by decide +kernel) ap_110 ⟨⟨Nat.le_of_ble_eq_true rfl, by decide⟩, rfl, rfl⟩ (dq_ok8 [1, 1] [] (dc_r (dc_r dc_n)) dc_n (by decide +kernel)) (by decide +kernel) rfl q11 rfl ?_
  refine dq_aln 0 50 (by decide +kernel) rfl g5 ?_
  refine dq_aln 2 51 (by decide +kernel) rfl g7 ?_
  obtain ⟨h12, q13, hh⟩ := db hh
  obtain ⟨a14, q15, q13⟩ := db q13
  rw [dq_xV q13] at q15
  refine dq_cvi hD 36 115 5 1 [8] o0 [va_rf p1.1] [] 54 [] (by decide +kernel) ap_115 ⟨⟨Nat.le_of_ble_eq_true rfl, by decide⟩, rfl, rfl⟩ (dq_ok8 [1, 1] [] (dc_r (dc_r dc_n)) dc_n (by decide +kernel)) (by decide +kernel) rfl q15 rfl ?_
  refine dq_S (.iconst 0) 1 [] 55 _ [.int 0] (by decide +kernel) rfl ?_
  refine dq_isn 3 56 (by decide +kernel) (by decide +kernel) ?_
  have g16 := dg_ne (i := 3) (u := .int 0) (by decide) (Or.inl (by decide)) g5
  have g17 := dg_ne (i := 3) (u := .int 0) (by decide) (Or.inl (by decide)) g6
  have g18 := dg_ne (i := 3) (u := .int 0) (by decide) (Or.inr (drc _)) g7
  have g19 := dg_eq (rm_set1 (lv) 2 (va_rf p1.1)) 3 (.int 0)
  exact c91_56 hD hz hK9 _ _ _ _ _ _ _ _ g16 g17 g18 g19 hh
def b91_156 (L : Nat) (xs : Nat → Int32) (zf : Value) (D : dD) (w : Nat) (h : rm_H) : Option dR :=
  some (none, h)
theorem c91_156 {L : Nat} {xs : Nat → Int32} {zf : Value} {D : dD} {w k : Nat} (hD : dO L xs zf D k) (hz : zf.category = 1) : ∀ (lv : rm_L) (h : rm_H) (r : dR), b91_156 L xs zf D w  h = some r → dq L xs zf ah_M91 156 lv [] h (k + 1) r := by
  intro lv h r hh
  unfold b91_156 at hh
  cases hh
  exact dq_ret0 (by decide +kernel) rfl
def b91_130 (L : Nat) (xs : Nat → Int32) (zf : Value) (D : dD) (w : Nat) (o0 : Option Nat) (h : rm_H) : Option dR :=
  (dgR L xs h 0 [8] o0).bind fun p1 =>
  (dgI L xs h 8 [6] p1).bind fun x3 =>
  if mx_f2 .eq x3 (-1) = true then
    b91_156 L xs zf D w h
  else
    (dgR L xs h 1 [8] o0).bind fun p6 =>
    (dgR L xs h 0 [8] o0).bind fun p8 =>
    (dgI L xs h 8 [6] p8).bind fun x10 =>
    ((dcV L xs D 144 [4] p6 [.int 1, .int x10] h).bind dxV).bind fun h12 =>
    b91_156 L xs zf D w h12
theorem c91_130 {L : Nat} {xs : Nat → Int32} {zf : Value} {D : dD} {w k : Nat} (hD : dO L xs zf D k) (hz : zf.category = 1) : ∀ (o0 : Option Nat) (lv : rm_L) (h : rm_H) (r : dR), rm_get lv 0 = some (va_rf o0) → b91_130 L xs zf D w  o0 h = some r → dq L xs zf ah_M91 130 lv [] h (k + 1) r := by
  intro o0 lv h r G0 hh
  unfold b91_130 at hh
  refine dq_aln 0 131 (by decide +kernel) rfl G0 ?_
  obtain ⟨p1, q2, hh⟩ := db hh
  refine dq_gR 9 0 [8] 134 (by decide +kernel) rfl q2 ?_
  obtain ⟨x3, q4, hh⟩ := db hh
  refine dq_gI 49 8 [6] 137 (by decide +kernel) rfl q4 ?_
  refine dq_S (.iconst (-1)) 1 [] 138 _ [.int (-1), .int x3] (by decide +kernel) rfl ?_
  rcases di hh with ⟨q5, hh⟩ | ⟨q5, hh⟩
  · refine dq_2 .eq 18 true 156 q5 (by decide +kernel) ?_
    exact c91_156 hD hz  _ _ _  hh
  · refine dq_2 .eq 18 false 141 q5 (by decide +kernel) ?_
    refine dq_aln 0 142 (by decide +kernel) rfl G0 ?_
    obtain ⟨p6, q7, hh⟩ := db hh
    refine dq_gR 15 1 [8] 145 (by decide +kernel) rfl q7 ?_
    refine dq_S (.iconst 1) 1 [] 146 _ [.int 1, va_rf p6] (by decide +kernel) rfl ?_
    refine dq_aln 0 147 (by decide +kernel) rfl G0 ?_
    obtain ⟨p8, q9, hh⟩ := db hh
    refine dq_gR 9 0 [8] 150 (by decide +kernel) rfl q9 ?_
    obtain ⟨x10, q11, hh⟩ := db hh
    refine dq_gI 49 8 [6] 153 (by decide +kernel) rfl q11 ?_
    obtain ⟨h12, q13, hh⟩ := db hh
    obtain ⟨a14, q15, q13⟩ := db q13
    rw [dq_xV q13] at q15
    refine dq_cvi hD 52 144 5 2 [4] p6 [.int 1, .int x10] [] 156 [] (by decide +kernel) ap_144 ⟨⟨Nat.le_of_ble_eq_true rfl, by decide⟩, rfl, rfl⟩ (dq_ok8 [1, 1, 1] [] (dc_r (dc_i (dc_i dc_n))) dc_n (by decide +kernel)) (by decide +kernel) rfl q15 rfl ?_
    exact c91_156 hD hz  _ _ _  hh
def b91_123 (L : Nat) (xs : Nat → Int32) (zf : Value) (D : dD) (w : Nat) (o0 : Option Nat) (h : rm_H) : Option dR :=
  (dgR L xs h 0 [8] o0).bind fun p1 =>
  ((dcV L xs D 95 [6] p1 [] h).bind dxV).bind fun h3 =>
  b91_130 L xs zf D w o0 h3
theorem c91_123 {L : Nat} {xs : Nat → Int32} {zf : Value} {D : dD} {w k : Nat} (hD : dO L xs zf D k) (hz : zf.category = 1) : ∀ (o0 : Option Nat) (lv : rm_L) (h : rm_H) (r : dR), rm_get lv 0 = some (va_rf o0) → b91_123 L xs zf D w  o0 h = some r → dq L xs zf ah_M91 123 lv [] h (k + 1) r := by
  intro o0 lv h r G0 hh
  unfold b91_123 at hh
  refine dq_aln 0 124 (by decide +kernel) rfl G0 ?_
  obtain ⟨p1, q2, hh⟩ := db hh
  refine dq_gR 9 0 [8] 127 (by decide +kernel) rfl q2 ?_
  obtain ⟨h3, q4, hh⟩ := db hh
  obtain ⟨a5, q6, q4⟩ := db q4
  rw [dq_xV q4] at q6
  refine dq_cvi hD 46 95 5 0 [6] p1 [] [] 130 [] (by decide +kernel) ap_95 ⟨⟨Nat.le_of_ble_eq_true rfl, by decide⟩, rfl, rfl⟩ (dq_ok8 [1] [] (dc_r dc_n) dc_n (by decide +kernel)) (by decide +kernel) rfl q6 rfl ?_
  exact c91_130 hD hz _ _ _ _ G0 hh
def b91_109 (L : Nat) (xs : Nat → Int32) (zf : Value) (D : dD) (w : Nat) (o0 : Option Nat) (i1 : Int32) (h : rm_H) : Option dR :=
  if mx_f1 .eq i1 = true then
    b91_123 L xs zf D w o0 h
  else
    (dgR L xs h 0 [8] o0).bind fun p2 =>
    (dgI L xs h 6 [6] p2).bind fun x4 =>
    if mx_f1 .eq x4 = true then
      b91_130 L xs zf D w o0 h
    else
      b91_123 L xs zf D w o0 h
theorem c91_109 {L : Nat} {xs : Nat → Int32} {zf : Value} {D : dD} {w k : Nat} (hD : dO L xs zf D k) (hz : zf.category = 1) : ∀ (o0 : Option Nat) (i1 : Int32) (lv : rm_L) (h : rm_H) (r : dR), rm_get lv 0 = some (va_rf o0) → rm_get lv 1 = some (.int i1) → b91_109 L xs zf D w  o0 i1 h = some r → dq L xs zf ah_M91 109 lv [] h (k + 1) r := by
  intro o0 i1 lv h r G0 G1 hh
  unfold b91_109 at hh
  refine dq_iln 1 110 (by decide +kernel) rfl G1 ?_
  rcases di hh with ⟨q1, hh⟩ | ⟨q1, hh⟩
  · refine dq_1 .eq 13 true 123 q1 (by decide +kernel) ?_
    exact c91_123 hD hz _ _ _ _ G0 hh
  · refine dq_1 .eq 13 false 113 q1 (by decide +kernel) ?_
    refine dq_aln 0 114 (by decide +kernel) rfl G0 ?_
    obtain ⟨p2, q3, hh⟩ := db hh
    refine dq_gR 9 0 [8] 117 (by decide +kernel) rfl q3 ?_
    obtain ⟨x4, q5, hh⟩ := db hh
    refine dq_gI 24 6 [6] 120 (by decide +kernel) rfl q5 ?_
    rcases di hh with ⟨q6, hh⟩ | ⟨q6, hh⟩
    · refine dq_1 .eq 10 true 130 q6 (by decide +kernel) ?_
      exact c91_130 hD hz _ _ _ _ G0 hh
    · refine dq_1 .eq 10 false 123 q6 (by decide +kernel) ?_
      exact c91_123 hD hz _ _ _ _ G0 hh
def b91_9 (L : Nat) (xs : Nat → Int32) (zf : Value) (D : dD) (w : Nat) : Nat → Option Nat → Int32 → rm_H → Option dR
  | 0, _, _, _ => none
  | n + 1, o0, i1, h =>
    if mx_f2 .ge i1 8 = true then
      b91_109 L xs zf D w o0 i1 h
    else
      (dgR L xs h 0 [8] o0).bind fun p2 =>
      (dgI L xs h 6 [6] p2).bind fun x4 =>
      if mx_f2 .eq x4 20 = true then
        b91_39 L xs zf D w (b91_9 L xs zf D w n) o0 i1 h
      else
        (dgR L xs h 0 [8] o0).bind fun p7 =>
        (dgI L xs h 6 [6] p7).bind fun x9 =>
        if mx_f2 .ne x9 21 = true then
          b91_109 L xs zf D w o0 i1 h
        else
          b91_39 L xs zf D w (b91_9 L xs zf D w n) o0 i1 h
theorem c91_9 {L : Nat} {xs : Nat → Int32} {zf : Value} {D : dD} {w k : Nat} (hD : dO L xs zf D k) (hz : zf.category = 1) : ∀ (n : Nat) (o0 : Option Nat) (i1 : Int32) (lv : rm_L) (h : rm_H) (r : dR), rm_get lv 0 = some (va_rf o0) → rm_get lv 1 = some (.int i1) → b91_9 L xs zf D w n  o0 i1 h = some r → dq L xs zf ah_M91 9 lv [] h (k + 1) r := by
  intro n
  induction n with
  | zero =>
    intro o0 i1 lv h r G0 G1 hh
    cases hh
  | succ n ih =>
    intro o0 i1 lv h r G0 G1 hh
    rw [b91_9] at hh
    refine dq_iln 1 10 (by decide +kernel) rfl G1 ?_
    refine dq_S (.bipush 8) 2 [] 12 _ [.int 8, .int i1] (by decide +kernel) rfl ?_
    rcases di hh with ⟨q1, hh⟩ | ⟨q1, hh⟩
    · refine dq_2 .ge 97 true 109 q1 (by decide +kernel) ?_
      exact c91_109 hD hz _ _ _ _ _ G0 G1 hh
    · refine dq_2 .ge 97 false 15 q1 (by decide +kernel) ?_
      refine dq_aln 0 16 (by decide +kernel) rfl G0 ?_
      obtain ⟨p2, q3, hh⟩ := db hh
      refine dq_gR 9 0 [8] 19 (by decide +kernel) rfl q3 ?_
      obtain ⟨x4, q5, hh⟩ := db hh
      refine dq_gI 24 6 [6] 22 (by decide +kernel) rfl q5 ?_
      refine dq_S (.bipush 20) 2 [] 24 _ [.int 20, .int x4] (by decide +kernel) rfl ?_
      rcases di hh with ⟨q6, hh⟩ | ⟨q6, hh⟩
      · refine dq_2 .eq 15 true 39 q6 (by decide +kernel) ?_
        exact c91_39 hD hz ih _ _ _ _ _ G0 G1 hh
      · refine dq_2 .eq 15 false 27 q6 (by decide +kernel) ?_
        refine dq_aln 0 28 (by decide +kernel) rfl G0 ?_
        obtain ⟨p7, q8, hh⟩ := db hh
        refine dq_gR 9 0 [8] 31 (by decide +kernel) rfl q8 ?_
        obtain ⟨x9, q10, hh⟩ := db hh
        refine dq_gI 24 6 [6] 34 (by decide +kernel) rfl q10 ?_
        refine dq_S (.bipush 21) 2 [] 36 _ [.int 21, .int x9] (by decide +kernel) rfl ?_
        rcases di hh with ⟨q11, hh⟩ | ⟨q11, hh⟩
        · refine dq_2 .ne 73 true 109 q11 (by decide +kernel) ?_
          exact c91_109 hD hz _ _ _ _ _ G0 G1 hh
        · refine dq_2 .ne 73 false 39 q11 (by decide +kernel) ?_
          exact c91_39 hD hz ih _ _ _ _ _ G0 G1 hh
def b91_0 (L : Nat) (xs : Nat → Int32) (zf : Value) (D : dD) (w : Nat) (o0 : Option Nat) (h : rm_H) : Option dR :=
  (dgR L xs h 0 [8] o0).bind fun p1 =>
  ((dcV L xs D 92 [6] p1 [] h).bind dxV).bind fun h3 =>
  b91_9 L xs zf D w w o0 0 h3
theorem c91_0 {L : Nat} {xs : Nat → Int32} {zf : Value} {D : dD} {w k : Nat} (hD : dO L xs zf D k) (hz : zf.category = 1) : ∀ (o0 : Option Nat) (lv : rm_L) (h : rm_H) (r : dR), rm_get lv 0 = some (va_rf o0) → b91_0 L xs zf D w  o0 h = some r → dq L xs zf ah_M91 0 lv [] h (k + 1) r := by
  intro o0 lv h r G0 hh
  unfold b91_0 at hh
  refine dq_aln 0 1 (by decide +kernel) rfl G0 ?_
  obtain ⟨p1, q2, hh⟩ := db hh
  refine dq_gR 9 0 [8] 4 (by decide +kernel) rfl q2 ?_
  obtain ⟨h3, q4, hh⟩ := db hh
  obtain ⟨a5, q6, q4⟩ := db q4
  rw [dq_xV q4] at q6
  refine dq_cvi hD 19 92 5 0 [6] p1 [] [] 7 [] (by decide +kernel) ap_92 ⟨⟨Nat.le_of_ble_eq_true rfl, by decide⟩, rfl, rfl⟩ (dq_ok8 [1] [] (dc_r dc_n) dc_n (by decide +kernel)) (by decide +kernel) rfl q6 rfl ?_
  refine dq_S (.iconst 0) 1 [] 8 _ [.int 0] (by decide +kernel) rfl ?_
  refine dq_isn 1 9 (by decide +kernel) (by decide +kernel) ?_
  have g7 := dg_ne (i := 1) (u := .int 0) (by decide) (Or.inr (drc _)) G0
  have g8 := dg_eq (lv) 1 (.int 0)
  exact c91_9 hD hz _ _ _ _ _ _ g7 g8 hh
def f91 (L : Nat) (xs : Nat → Int32) (zf : Value) (D : dD) (w : Nat) (As : List Value) (h : rm_H) : Option dR := match As with
  | [v0] => (rm_rf v0).bind fun o0 => b91_0 L xs zf D w o0 h
  | _ => none
theorem d91 {L : Nat} {xs : Nat → Int32} {zf : Value} {D : dD} {w k : Nat} (hD : dO L xs zf D k) (hz : zf.category = 1) (As : List Value) (h : rm_H) (r : dR) (hh : f91 L xs zf D w As h = some r) : dq L xs zf ah_M91 0 (lv_args 0 As) [] h (k + 1) r := by
  unfold f91 at hh
  split at hh
  · obtain ⟨o0, e0, hb0⟩ := db hh
    have e0 := rm_rf_v _ _ e0
    subst e0
    refine c91_0 hD hz _ _ _ _ ?_ hb0
    all_goals (simp only [la_r, la_i, la_j]; rfl)
  · cases hh
def b92_99 (L : Nat) (xs : Nat → Int32) (zf : Value) (D : dD) (w : Nat) (s0 : Int32) (s1 : Option Nat) (h : rm_H) : Option dR :=
  (dpF h 7 [6] s1 (.int s0)).bind fun h1 =>
  some (none, h1)
theorem c92_99 {L : Nat} {xs : Nat → Int32} {zf : Value} {D : dD} {w k : Nat} (hD : dO L xs zf D k) (hz : zf.category = 1) : ∀ (s0 : Int32) (s1 : Option Nat) (lv : rm_L) (h : rm_H) (r : dR), b92_99 L xs zf D w  s0 s1 h = some r → dq L xs zf ah_M92 99 lv [.int s0, va_rf s1] h (k + 1) r := by
  intro s0 s1 lv h r hh
  unfold b92_99 at hh
  obtain ⟨h1, q2, hh⟩ := db hh
  refine dq_put 41 7 [6] 102 (by decide +kernel) rfl q2 ?_
  cases hh
  exact dq_ret0 (by decide +kernel) rfl
def b92_72 (L : Nat) (xs : Nat → Int32) (zf : Value) (D : dD) (w : Nat) (o0 : Option Nat) (i1 : Int32) (s0 : Int32) (s1 : Option Nat) (h : rm_H) : Option dR :=
  (dpF h 6 [6] s1 (.int s0)).bind fun h1 =>
  if mx_f1 .eq i1 = true then
    (dgR L xs h1 0 [6] o0).bind fun p4 =>
    ((dcV L xs D 60 [7, 16] p4 [] h1).bind dxI).bind fun x6 =>
    b92_99 L xs zf D w x6.1 o0 x6.2
  else
    (dgR L xs h1 2 [6] o0).bind fun p10 =>
    (dgI L xs h1 5 [6] o0).bind fun x12 =>
    (daI L xs h1 p10 x12).bind fun x14 =>
    b92_99 L xs zf D w x14 o0 h1
theorem c92_72 {L : Nat} {xs : Nat → Int32} {zf : Value} {D : dD} {w k : Nat} (hD : dO L xs zf D k) (hz : zf.category = 1) : ∀ (o0 : Option Nat) (i1 : Int32) (s0 : Int32) (s1 : Option Nat) (lv : rm_L) (h : rm_H) (r : dR), rm_get lv 0 = some (va_rf o0) → rm_get lv 1 = some (.int i1) → b92_72 L xs zf D w  o0 i1 s0 s1 h = some r → dq L xs zf ah_M92 72 lv [.int s0, va_rf s1] h (k + 1) r := by
  intro o0 i1 s0 s1 lv h r G0 G1 hh
  unfold b92_72 at hh
  obtain ⟨h1, q2, hh⟩ := db hh
  refine dq_put 38 6 [6] 75 (by decide +kernel) rfl q2 ?_
  refine dq_aln 0 76 (by decide +kernel) rfl G0 ?_
  refine dq_iln 1 77 (by decide +kernel) rfl G1 ?_
  rcases di hh with ⟨q3, hh⟩ | ⟨q3, hh⟩
  · refine dq_1 .eq 15 true 92 q3 (by decide +kernel) ?_
    refine dq_aln 0 93 (by decide +kernel) rfl G0 ?_
    obtain ⟨p4, q5, hh⟩ := db hh
    refine dq_gR 9 0 [6] 96 (by decide +kernel) rfl q5 ?_
    obtain ⟨x6, q7, hh⟩ := db hh
    obtain ⟨a8, q9, q7⟩ := db q7
    rw [dq_xI q7] at q9
    refine dq_cvi hD 15 60 5 0 [7, 16] p4 [] [va_rf o0] 99 [.int x6.1, va_rf o0] (by decide +kernel) ap_60 ⟨⟨Nat.le_of_ble_eq_true rfl, by decide⟩, rfl, rfl⟩ (dq_ok8 [1] [1] (dc_r dc_n) (dc_r dc_n) (by decide +kernel)) (by decide +kernel) rfl q9 rfl ?_
    exact c92_99 hD hz _ _ _ _ _  hh
  · refine dq_1 .eq 15 false 80 q3 (by decide +kernel) ?_
    refine dq_aln 0 81 (by decide +kernel) rfl G0 ?_
    obtain ⟨p10, q11, hh⟩ := db hh
    refine dq_gR 25 2 [6] 84 (by decide +kernel) rfl q11 ?_
    refine dq_aln 0 85 (by decide +kernel) rfl G0 ?_
    obtain ⟨x12, q13, hh⟩ := db hh
    refine dq_gI 35 5 [6] 88 (by decide +kernel) rfl q13 ?_
    obtain ⟨x14, q15, hh⟩ := db hh
    refine dq_aI 89 (by decide +kernel) rfl q15 ?_
    refine dq_S (.goto 10) 3 [] 99 _ [.int x14, va_rf o0] (by decide +kernel) rfl ?_
    exact c92_99 hD hz _ _ _ _ _  hh
def b92_53 (L : Nat) (xs : Nat → Int32) (zf : Value) (D : dD) (w : Nat) (o0 : Option Nat) (s0 : Int32) (h : rm_H) : Option dR :=
  if mx_f1 .eq s0 = true then
    b92_72 L xs zf D w o0 s0 0 o0 h
  else
    (dgR L xs h 1 [6] o0).bind fun p4 =>
    (dgI L xs h 5 [6] o0).bind fun x6 =>
    (daI L xs h p4 x6).bind fun x8 =>
    b92_72 L xs zf D w o0 s0 x8 o0 h
theorem c92_53 {L : Nat} {xs : Nat → Int32} {zf : Value} {D : dD} {w k : Nat} (hD : dO L xs zf D k) (hz : zf.category = 1) : ∀ (o0 : Option Nat) (s0 : Int32) (lv : rm_L) (h : rm_H) (r : dR), rm_get lv 0 = some (va_rf o0) → b92_53 L xs zf D w  o0 s0 h = some r → dq L xs zf ah_M92 53 lv [.int s0] h (k + 1) r := by
  intro o0 s0 lv h r G0 hh
  unfold b92_53 at hh
  refine dq_isn 1 54 (by decide +kernel) (by decide +kernel) ?_
  have g1 := dg_ne (i := 1) (u := .int s0) (by decide) (Or.inr (drc _)) G0
  have g2 := dg_eq (lv) 1 (.int s0)
  refine dq_aln 0 55 (by decide +kernel) rfl g1 ?_
  refine dq_iln 1 56 (by decide +kernel) rfl g2 ?_
  rcases di hh with ⟨q3, hh⟩ | ⟨q3, hh⟩
  · refine dq_1 .eq 15 true 71 q3 (by decide +kernel) ?_
    refine dq_S (.iconst 0) 1 [] 72 _ [.int 0, va_rf o0] (by decide +kernel) rfl ?_
    exact c92_72 hD hz _ _ _ _ _ _ _ g1 g2 hh
  · refine dq_1 .eq 15 false 59 q3 (by decide +kernel) ?_
    refine dq_aln 0 60 (by decide +kernel) rfl g1 ?_
    obtain ⟨p4, q5, hh⟩ := db hh
    refine dq_gR 21 1 [6] 63 (by decide +kernel) rfl q5 ?_
    refine dq_aln 0 64 (by decide +kernel) rfl g1 ?_
    obtain ⟨x6, q7, hh⟩ := db hh
    refine dq_gI 35 5 [6] 67 (by decide +kernel) rfl q7 ?_
    obtain ⟨x8, q9, hh⟩ := db hh
    refine dq_aI 68 (by decide +kernel) rfl q9 ?_
    refine dq_S (.goto 4) 3 [] 72 _ [.int x8, va_rf o0] (by decide +kernel) rfl ?_
    exact c92_72 hD hz _ _ _ _ _ _ _ g1 g2 hh
def b92_52 (L : Nat) (xs : Nat → Int32) (zf : Value) (D : dD) (w : Nat) (o0 : Option Nat) (h : rm_H) : Option dR :=
  b92_53 L xs zf D w o0 0 h
theorem c92_52 {L : Nat} {xs : Nat → Int32} {zf : Value} {D : dD} {w k : Nat} (hD : dO L xs zf D k) (hz : zf.category = 1) : ∀ (o0 : Option Nat) (lv : rm_L) (h : rm_H) (r : dR), rm_get lv 0 = some (va_rf o0) → b92_52 L xs zf D w  o0 h = some r → dq L xs zf ah_M92 52 lv [] h (k + 1) r := by
  intro o0 lv h r G0 hh
  unfold b92_52 at hh
  refine dq_S (.iconst 0) 1 [] 53 _ [.int 0] (by decide +kernel) rfl ?_
  exact c92_53 hD hz _ _ _ _ _ G0 hh
def b92_30 (L : Nat) (xs : Nat → Int32) (zf : Value) (D : dD) (w : Nat) (o0 : Option Nat) (h : rm_H) : Option dR :=
  (dgI L xs h 5 [6] o0).bind fun x1 =>
  if mx_f1 .lt x1 = true then
    b92_52 L xs zf D w o0 h
  else
    (dgI L xs h 5 [6] o0).bind fun x4 =>
    (dgI L xs h 4 [6] o0).bind fun x6 =>
    if mx_f2 .ge x4 x6 = true then
      b92_52 L xs zf D w o0 h
    else
      b92_53 L xs zf D w o0 1 h
theorem c92_30 {L : Nat} {xs : Nat → Int32} {zf : Value} {D : dD} {w k : Nat} (hD : dO L xs zf D k) (hz : zf.category = 1) : ∀ (o0 : Option Nat) (lv : rm_L) (h : rm_H) (r : dR), rm_get lv 0 = some (va_rf o0) → b92_30 L xs zf D w  o0 h = some r → dq L xs zf ah_M92 30 lv [] h (k + 1) r := by
  intro o0 lv h r G0 hh
  unfold b92_30 at hh
  refine dq_aln 0 31 (by decide +kernel) rfl G0 ?_
  obtain ⟨x1, q2, hh⟩ := db hh
  refine dq_gI 35 5 [6] 34 (by decide +kernel) rfl q2 ?_
  rcases di hh with ⟨q3, hh⟩ | ⟨q3, hh⟩
  · refine dq_1 .lt 18 true 52 q3 (by decide +kernel) ?_
    exact c92_52 hD hz _ _ _ _ G0 hh
  · refine dq_1 .lt 18 false 37 q3 (by decide +kernel) ?_
    refine dq_aln 0 38 (by decide +kernel) rfl G0 ?_
    obtain ⟨x4, q5, hh⟩ := db hh
    refine dq_gI 35 5 [6] 41 (by decide +kernel) rfl q5 ?_
    refine dq_aln 0 42 (by decide +kernel) rfl G0 ?_
    obtain ⟨x6, q7, hh⟩ := db hh
    refine dq_gI 31 4 [6] 45 (by decide +kernel) rfl q7 ?_
    rcases di hh with ⟨q8, hh⟩ | ⟨q8, hh⟩
    · refine dq_2 .ge 7 true 52 q8 (by decide +kernel) ?_
      exact c92_52 hD hz _ _ _ _ G0 hh
    · refine dq_2 .ge 7 false 48 q8 (by decide +kernel) ?_
      refine dq_S (.iconst 1) 1 [] 49 _ [.int 1] (by decide +kernel) rfl ?_
      refine dq_S (.goto 4) 3 [] 53 _ [.int 1] (by decide +kernel) rfl ?_
      exact c92_53 hD hz _ _ _ _ _ G0 hh
def b92_0 (L : Nat) (xs : Nat → Int32) (zf : Value) (D : dD) (w : Nat) (o0 : Option Nat) (h : rm_H) : Option dR :=
  (dgI L xs h 8 [6] o0).bind fun x1 =>
  if mx_f2 .eq x1 (-1) = true then
    (dgI L xs h 5 [6] o0).bind fun x4 =>
    (dgI L xs h 4 [6] o0).bind fun x6 =>
    if mx_f2 .ge x4 x6 = true then
      b92_30 L xs zf D w o0 h
    else
      (dgI L xs h 5 [6] o0).bind fun x9 =>
      (dpF h 5 [6] o0 (.int (x9 + 1))).bind fun h11 =>
      b92_30 L xs zf D w o0 h11
  else
    some (none, h)
theorem c92_0 {L : Nat} {xs : Nat → Int32} {zf : Value} {D : dD} {w k : Nat} (hD : dO L xs zf D k) (hz : zf.category = 1) : ∀ (o0 : Option Nat) (lv : rm_L) (h : rm_H) (r : dR), rm_get lv 0 = some (va_rf o0) → b92_0 L xs zf D w  o0 h = some r → dq L xs zf ah_M92 0 lv [] h (k + 1) r := by
  intro o0 lv h r G0 hh
  unfold b92_0 at hh
  refine dq_aln 0 1 (by decide +kernel) rfl G0 ?_
  obtain ⟨x1, q2, hh⟩ := db hh
  refine dq_gI 44 8 [6] 4 (by decide +kernel) rfl q2 ?_
  refine dq_S (.iconst (-1)) 1 [] 5 _ [.int (-1), .int x1] (by decide +kernel) rfl ?_
  rcases di hh with ⟨q3, hh⟩ | ⟨q3, hh⟩
  · refine dq_2 .eq 4 true 9 q3 (by decide +kernel) ?_
    refine dq_aln 0 10 (by decide +kernel) rfl G0 ?_
    obtain ⟨x4, q5, hh⟩ := db hh
    refine dq_gI 35 5 [6] 13 (by decide +kernel) rfl q5 ?_
    refine dq_aln 0 14 (by decide +kernel) rfl G0 ?_
    obtain ⟨x6, q7, hh⟩ := db hh
    refine dq_gI 31 4 [6] 17 (by decide +kernel) rfl q7 ?_
    rcases di hh with ⟨q8, hh⟩ | ⟨q8, hh⟩
    · refine dq_2 .ge 13 true 30 q8 (by decide +kernel) ?_
      exact c92_30 hD hz _ _ _ _ G0 hh
    · refine dq_2 .ge 13 false 20 q8 (by decide +kernel) ?_
      refine dq_aln 0 21 (by decide +kernel) rfl G0 ?_
      refine dq_dup 22 (by decide +kernel) rfl ?_
      obtain ⟨x9, q10, hh⟩ := db hh
      refine dq_gI 35 5 [6] 25 (by decide +kernel) rfl q10 ?_
      refine dq_S (.iconst 1) 1 [] 26 _ [.int 1, .int x9, va_rf o0] (by decide +kernel) rfl ?_
      refine dq_S (.iadd) 1 [] 27 _ [.int (x9 + 1), va_rf o0] (by decide +kernel) rfl ?_
      obtain ⟨h11, q12, hh⟩ := db hh
      refine dq_put 35 5 [6] 30 (by decide +kernel) rfl q12 ?_
      exact c92_30 hD hz _ _ _ _ G0 hh
  · refine dq_2 .eq 4 false 8 q3 (by decide +kernel) ?_
    cases hh
    exact dq_ret0 (by decide +kernel) rfl
def f92 (L : Nat) (xs : Nat → Int32) (zf : Value) (D : dD) (w : Nat) (As : List Value) (h : rm_H) : Option dR := match As with
  | [v0] => (rm_rf v0).bind fun o0 => b92_0 L xs zf D w o0 h
  | _ => none
theorem d92 {L : Nat} {xs : Nat → Int32} {zf : Value} {D : dD} {w k : Nat} (hD : dO L xs zf D k) (hz : zf.category = 1) (As : List Value) (h : rm_H) (r : dR) (hh : f92 L xs zf D w As h = some r) : dq L xs zf ah_M92 0 (lv_args 0 As) [] h (k + 1) r := by
  unfold f92 at hh
  split at hh
  · obtain ⟨o0, e0, hb0⟩ := db hh
    have e0 := rm_rf_v _ _ e0
    subst e0
    refine c92_0 hD hz _ _ _ _ ?_ hb0
    all_goals (simp only [la_r, la_i, la_j]; rfl)
  · cases hh
def b93_17 (L : Nat) (xs : Nat → Int32) (zf : Value) (D : dD) (w : Nat) (o0 : Option Nat) (s0 : Int32) (h : rm_H) : Option dR :=
  (dgR L xs h 0 [8] o0).bind fun p3 =>
  ((dcV L xs D 92 [6] p3 [] h).bind dxV).bind fun h5 =>
  (dgR L xs h5 0 [8] o0).bind fun p9 =>
  (dgI L xs h5 7 [6] p9).bind fun x11 =>
  (some (h5 ++ [.inr (9, ah_DV 9)])).bind fun h16 =>
  ((dcV L xs D 94 [8] o0 [.int 3] h16).bind dxR).bind fun p18 =>
  (dgR L xs p18.2 1 [8] o0).bind fun p22 =>
  (dgR L xs p18.2 1 [4] p22).bind fun p24 =>
  ((dcV L xs D 101 [5] p24 [] p18.2).bind dxI).bind fun x26 =>
  ((dcN D 102 (some (21 + List.length h5)) [va_rf p18.1, .int x11, .int s0, .int x26.1] x26.2).bind dxV).bind fun h30 =>
  (dgR L xs h30 1 [8] o0).bind fun p38 =>
  (dgR L xs h30 1 [4] p38).bind fun p40 =>
  ((dcV L xs D 103 [5] p40 [va_rf (some (21 + List.length h5))] h30).bind dxI).bind fun x42 =>
  ((dcV L xs D 109 [8] o0 [.int 5] x42.2).bind dxV).bind fun h46 =>
  some (some (va_rf (some (21 + List.length h5))), h46)
theorem c93_17 {L : Nat} {xs : Nat → Int32} {zf : Value} {D : dD} {w k : Nat} (hD : dO L xs zf D k) (hz : zf.category = 1) : ∀ (o0 : Option Nat) (s0 : Int32) (lv : rm_L) (h : rm_H) (r : dR), rm_get lv 0 = some (va_rf o0) → b93_17 L xs zf D w  o0 s0 h = some r → dq L xs zf ah_M93 17 lv [.int s0] h (k + 1) r := by
  intro o0 s0 lv h r G0 hh
  unfold b93_17 at hh
  refine dq_isn 1 18 (by decide +kernel) (by decide +kernel) ?_
  have g1 := dg_ne (i := 1) (u := .int s0) (by decide) (Or.inr (drc _)) G0
  have g2 := dg_eq (lv) 1 (.int s0)
  refine dq_aln 0 19 (by decide +kernel) rfl g1 ?_
  obtain ⟨p3, q4, hh⟩ := db hh
  refine dq_gR 9 0 [8] 22 (by decide +kernel) rfl q4 ?_
  obtain ⟨h5, q6, hh⟩ := db hh
  obtain ⟨a7, q8, q6⟩ := db q6
  rw [dq_xV q6] at q8
  refine dq_cvi hD 19 92 5 0 [6] p3 [] [] 25 [] (by decide +kernel) ap_92 ⟨⟨Nat.le_of_ble_eq_true rfl, by decide⟩, rfl, rfl⟩ (dq_ok8 [1] [] (dc_r dc_n) dc_n (by decide +kernel)) (by decide +kernel) rfl q8 rfl ?_
  refine dq_aln 0 26 (by decide +kernel) rfl g1 ?_
  obtain ⟨p9, q10, hh⟩ := db hh
  refine dq_gR 9 0 [8] 29 (by decide +kernel) rfl q10 ?_
  obtain ⟨x11, q12, hh⟩ := db hh
  refine dq_gI 58 7 [6] 32 (by decide +kernel) rfl q12 ?_
  refine dq_isn 2 33 (by decide +kernel) (by decide +kernel) ?_
  have g13 := dg_ne (i := 2) (u := .int x11) (by decide) (Or.inl (by decide)) g1
  have g14 := dg_ne (i := 2) (u := .int x11) (by decide) (Or.inr rfl) g2
  have g15 := dg_eq (rm_set1 (lv) 1 (.int s0)) 2 (.int x11)
  obtain ⟨h16, q17, hh⟩ := db hh
  refine dq_new 61 9 36 (by decide +kernel) rfl ?_
  rw [Option.some.inj q17]
  refine dq_dup 37 (by decide +kernel) rfl ?_
  refine dq_aln 0 38 (by decide +kernel) rfl g13 ?_
  refine dq_S (.iconst 3) 1 [] 39 _ [.int 3, va_rf o0, va_rf (some (21 + List.length h5)), va_rf (some (21 + List.length h5))] (by decide +kernel) rfl ?_
  obtain ⟨p18, q19, hh⟩ := db hh
  obtain ⟨a20, q21, q19⟩ := db q19
  rw [dq_xR q19] at q21
  refine dq_cvi hD 63 94 5 1 [8] o0 [.int 3] [va_rf (some (21 + List.length h5)), va_rf (some (21 + List.length h5))] 42 [va_rf p18.1, va_rf (some (21 + List.length h5)), va_rf (some (21 + List.length h5))] (by decide +kernel) ap_94 ⟨⟨Nat.le_of_ble_eq_true rfl, by decide⟩, rfl, rfl⟩ (dq_ok8 [1, 1] [1, 1] (dc_r (dc_i dc_n)) (dc_r (dc_r dc_n)) (by decide +kernel)) (by decide +kernel) rfl q21 rfl ?_
  refine dq_iln 2 43 (by decide +kernel) rfl g15 ?_
  refine dq_iln 1 44 (by decide +kernel) rfl g14 ?_
  refine dq_aln 0 45 (by decide +kernel) rfl g13 ?_
  obtain ⟨p22, q23, hh⟩ := db hh
  refine dq_gR 15 1 [8] 48 (by decide +kernel) rfl q23 ?_
  obtain ⟨p24, q25, hh⟩ := db hh
  refine dq_gR 67 1 [4] 51 (by decide +kernel) rfl q25 ?_
  obtain ⟨x26, q27, hh⟩ := db hh
  obtain ⟨a28, q29, q27⟩ := db q27
  rw [dq_xI q27] at q29
  refine dq_cif hD 71 1 101 7 0 [5] p24 [] [.int s0, .int x11, va_rf p18.1, va_rf (some (21 + List.length h5)), va_rf (some (21 + List.length h5))] 56 [.int x26.1, .int s0, .int x11, va_rf p18.1, va_rf (some (21 + List.length h5)), va_rf (some (21 + List.length h5))] (by decide +kernel) ap_101 ⟨⟨Nat.le_of_ble_eq_true rfl, by decide⟩, rfl, rfl⟩ (dq_ok8 [1] [1, 1, 1, 1, 1] (dc_r dc_n) (dc_i (dc_i (dc_r (dc_r (dc_r dc_n))))) (by decide +kernel)) (by decide +kernel) rfl q29 rfl ?_
  obtain ⟨h30, q31, hh⟩ := db hh
  obtain ⟨a32, q33, q31⟩ := db q31
  rw [dq_xV q31] at q33
  refine dq_csp hD 77 102 4 [] (some (21 + List.length h5)) [va_rf p18.1, .int x11, .int s0, .int x26.1] [va_rf (some (21 + List.length h5))] 59 [va_rf (some (21 + List.length h5))] (by decide +kernel) ap_102 ⟨Nat.le_of_ble_eq_true rfl, rfl, rfl⟩ (dq_ok8 [1, 1, 1, 1, 1] [1] (dc_r (dc_r (dc_i (dc_i (dc_i dc_n))))) (dc_r dc_n) (by decide +kernel)) (by decide +kernel) rfl q33 rfl ?_
  refine dq_asn 3 60 (by decide +kernel) (by decide +kernel) ?_
  have g34 := dg_ne (i := 3) (u := va_rf (some (21 + List.length h5))) (by decide) (Or.inl (by decide)) g13
  have g35 := dg_ne (i := 3) (u := va_rf (some (21 + List.length h5))) (by decide) (Or.inl (by decide)) g14
  have g36 := dg_ne (i := 3) (u := va_rf (some (21 + List.length h5))) (by decide) (Or.inr rfl) g15
  have g37 := dg_eq (rm_set1 (rm_set1 (lv) 1 (.int s0)) 2 (.int x11)) 3 (va_rf (some (21 + List.length h5)))
  refine dq_aln 0 61 (by decide +kernel) rfl g34 ?_
  obtain ⟨p38, q39, hh⟩ := db hh
  refine dq_gR 15 1 [8] 64 (by decide +kernel) rfl q39 ?_
  obtain ⟨p40, q41, hh⟩ := db hh
  refine dq_gR 67 1 [4] 67 (by decide +kernel) rfl q41 ?_
  refine dq_aln 3 68 (by decide +kernel) rfl g37 ?_
  obtain ⟨x42, q43, hh⟩ := db hh
  obtain ⟨a44, q45, q43⟩ := db q43
  rw [dq_xI q43] at q45
  refine dq_cif hD 80 2 103 7 1 [5] p40 [va_rf (some (21 + List.length h5))] [] 73 [.int x42.1] (by decide +kernel) ap_103 ⟨⟨Nat.le_of_ble_eq_true rfl, by decide⟩, rfl, rfl⟩ (dq_ok8 [1, 1] [] (dc_r (dc_r dc_n)) dc_n (by decide +kernel)) (by decide +kernel) rfl q45 rfl ?_
  refine dq_S (.pop) 1 [] 74 _ [] (by decide +kernel) rfl ?_
  refine dq_aln 0 75 (by decide +kernel) rfl g34 ?_
  refine dq_S (.iconst 5) 1 [] 76 _ [.int 5, va_rf o0] (by decide +kernel) rfl ?_
  obtain ⟨h46, q47, hh⟩ := db hh
  obtain ⟨a48, q49, q47⟩ := db q47
  rw [dq_xV q47] at q49
  refine dq_cvi hD 42 109 5 1 [8] o0 [.int 5] [] 79 [] (by decide +kernel) ap_109 ⟨⟨Nat.le_of_ble_eq_true rfl, by decide⟩, rfl, rfl⟩ (dq_ok8 [1, 1] [] (dc_r (dc_i dc_n)) dc_n (by decide +kernel)) (by decide +kernel) rfl q49 rfl ?_
  refine dq_aln 3 80 (by decide +kernel) rfl g37 ?_
  cases hh
  exact dq_retR (by decide +kernel) rfl
def b93_0 (L : Nat) (xs : Nat → Int32) (zf : Value) (D : dD) (w : Nat) (o0 : Option Nat) (h : rm_H) : Option dR :=
  (dgR L xs h 0 [8] o0).bind fun p1 =>
  (dgI L xs h 6 [6] p1).bind fun x3 =>
  if mx_f2 .ne x3 21 = true then
    b93_17 L xs zf D w o0 0 h
  else
    b93_17 L xs zf D w o0 1 h
theorem c93_0 {L : Nat} {xs : Nat → Int32} {zf : Value} {D : dD} {w k : Nat} (hD : dO L xs zf D k) (hz : zf.category = 1) : ∀ (o0 : Option Nat) (lv : rm_L) (h : rm_H) (r : dR), rm_get lv 0 = some (va_rf o0) → b93_0 L xs zf D w  o0 h = some r → dq L xs zf ah_M93 0 lv [] h (k + 1) r := by
  intro o0 lv h r G0 hh
  unfold b93_0 at hh
  refine dq_aln 0 1 (by decide +kernel) rfl G0 ?_
  obtain ⟨p1, q2, hh⟩ := db hh
  refine dq_gR 9 0 [8] 4 (by decide +kernel) rfl q2 ?_
  obtain ⟨x3, q4, hh⟩ := db hh
  refine dq_gI 24 6 [6] 7 (by decide +kernel) rfl q4 ?_
  refine dq_S (.bipush 21) 2 [] 9 _ [.int 21, .int x3] (by decide +kernel) rfl ?_
  rcases di hh with ⟨q5, hh⟩ | ⟨q5, hh⟩
  · refine dq_2 .ne 7 true 16 q5 (by decide +kernel) ?_
    refine dq_S (.iconst 0) 1 [] 17 _ [.int 0] (by decide +kernel) rfl ?_
    exact c93_17 hD hz _ _ _ _ _ G0 hh
  · refine dq_2 .ne 7 false 12 q5 (by decide +kernel) ?_
    refine dq_S (.iconst 1) 1 [] 13 _ [.int 1] (by decide +kernel) rfl ?_
    refine dq_S (.goto 4) 3 [] 17 _ [.int 1] (by decide +kernel) rfl ?_
    exact c93_17 hD hz _ _ _ _ _ G0 hh
def f93 (L : Nat) (xs : Nat → Int32) (zf : Value) (D : dD) (w : Nat) (As : List Value) (h : rm_H) : Option dR := match As with
  | [v0] => (rm_rf v0).bind fun o0 => b93_0 L xs zf D w o0 h
  | _ => none
theorem d93 {L : Nat} {xs : Nat → Int32} {zf : Value} {D : dD} {w k : Nat} (hD : dO L xs zf D k) (hz : zf.category = 1) (As : List Value) (h : rm_H) (r : dR) (hh : f93 L xs zf D w As h = some r) : dq L xs zf ah_M93 0 (lv_args 0 As) [] h (k + 1) r := by
  unfold f93 at hh
  split at hh
  · obtain ⟨o0, e0, hb0⟩ := db hh
    have e0 := rm_rf_v _ _ e0
    subst e0
    refine c93_0 hD hz _ _ _ _ ?_ hb0
    all_goals (simp only [la_r, la_i, la_j]; rfl)
  · cases hh
def b94_0 (L : Nat) (xs : Nat → Int32) (zf : Value) (D : dD) (w : Nat) (o0 : Option Nat) (i1 : Int32) (h : rm_H) : Option dR :=
  (dgR L xs h 0 [8] o0).bind fun p1 =>
  (dgI L xs h 6 [6] p1).bind fun x3 =>
  if mx_f2 .eq x3 i1 = true then
    (dgR L xs h 0 [8] o0).bind fun p6 =>
    ((dcV L xs D 96 [6] p6 [] h).bind dxR).bind fun p8 =>
    (dgR L xs p8.2 0 [8] o0).bind fun p15 =>
    ((dcV L xs D 92 [6] p15 [] p8.2).bind dxV).bind fun h17 =>
    some (some (va_rf p8.1), h17)
  else
    (dgR L xs h 0 [8] o0).bind fun p21 =>
    ((dcV L xs D 95 [6] p21 [] h).bind dxV).bind fun h23 =>
    some (some (va_rf (some 9)), h23)
theorem c94_0 {L : Nat} {xs : Nat → Int32} {zf : Value} {D : dD} {w k : Nat} (hD : dO L xs zf D k) (hz : zf.category = 1) : ∀ (o0 : Option Nat) (i1 : Int32) (lv : rm_L) (h : rm_H) (r : dR), rm_get lv 0 = some (va_rf o0) → rm_get lv 1 = some (.int i1) → b94_0 L xs zf D w  o0 i1 h = some r → dq L xs zf ah_M94 0 lv [] h (k + 1) r := by
  intro o0 i1 lv h r G0 G1 hh
  unfold b94_0 at hh
  refine dq_aln 0 1 (by decide +kernel) rfl G0 ?_
  obtain ⟨p1, q2, hh⟩ := db hh
  refine dq_gR 9 0 [8] 4 (by decide +kernel) rfl q2 ?_
  obtain ⟨x3, q4, hh⟩ := db hh
  refine dq_gI 24 6 [6] 7 (by decide +kernel) rfl q4 ?_
  refine dq_iln 1 8 (by decide +kernel) rfl G1 ?_
  rcases di hh with ⟨q5, hh⟩ | ⟨q5, hh⟩
  · refine dq_2 .eq 13 true 21 q5 (by decide +kernel) ?_
    refine dq_aln 0 22 (by decide +kernel) rfl G0 ?_
    obtain ⟨p6, q7, hh⟩ := db hh
    refine dq_gR 9 0 [8] 25 (by decide +kernel) rfl q7 ?_
    obtain ⟨p8, q9, hh⟩ := db hh
    obtain ⟨a10, q11, q9⟩ := db q9
    rw [dq_xR q9] at q11
    refine dq_cvi hD 284 96 5 0 [6] p6 [] [] 28 [va_rf p8.1] (by decide +kernel) ap_96 ⟨⟨Nat.le_of_ble_eq_true rfl, by decide⟩, rfl, rfl⟩ (dq_ok8 [1] [] (dc_r dc_n) dc_n (by decide +kernel)) (by decide +kernel) rfl q11 rfl ?_
    refine dq_asn 2 29 (by decide +kernel) (by decide +kernel) ?_
    have g12 := dg_ne (i := 2) (u := va_rf p8.1) (by decide) (Or.inl (by decide)) G0
    have g13 := dg_ne (i := 2) (u := va_rf p8.1) (by decide) (Or.inr rfl) G1
    have g14 := dg_eq (lv) 2 (va_rf p8.1)
    refine dq_aln 0 30 (by decide +kernel) rfl g12 ?_
    obtain ⟨p15, q16, hh⟩ := db hh
    refine dq_gR 9 0 [8] 33 (by decide +kernel) rfl q16 ?_
    obtain ⟨h17, q18, hh⟩ := db hh
    obtain ⟨a19, q20, q18⟩ := db q18
    rw [dq_xV q18] at q20
    refine dq_cvi hD 19 92 5 0 [6] p15 [] [] 36 [] (by decide +kernel) ap_92 ⟨⟨Nat.le_of_ble_eq_true rfl, by decide⟩, rfl, rfl⟩ (dq_ok8 [1] [] (dc_r dc_n) dc_n (by decide +kernel)) (by decide +kernel) rfl q20 rfl ?_
    refine dq_aln 2 37 (by decide +kernel) rfl g14 ?_
    cases hh
    exact dq_retR (by decide +kernel) rfl
  · refine dq_2 .eq 13 false 11 q5 (by decide +kernel) ?_
    refine dq_aln 0 12 (by decide +kernel) rfl G0 ?_
    obtain ⟨p21, q22, hh⟩ := db hh
    refine dq_gR 9 0 [8] 15 (by decide +kernel) rfl q22 ?_
    obtain ⟨h23, q24, hh⟩ := db hh
    obtain ⟨a25, q26, q24⟩ := db q24
    rw [dq_xV q24] at q26
    refine dq_cvi hD 46 95 5 0 [6] p21 [] [] 18 [] (by decide +kernel) ap_95 ⟨⟨Nat.le_of_ble_eq_true rfl, by decide⟩, rfl, rfl⟩ (dq_ok8 [1] [] (dc_r dc_n) dc_n (by decide +kernel)) (by decide +kernel) rfl q26 rfl ?_
    refine dq_S (.ldc 136) 2 [1, 9] 20 _ [va_rf (some 9)] (by decide +kernel) rfl ?_
    cases hh
    exact dq_retR (by decide +kernel) rfl
def f94 (L : Nat) (xs : Nat → Int32) (zf : Value) (D : dD) (w : Nat) (As : List Value) (h : rm_H) : Option dR := match As with
  | [v0, .int i1] => (rm_rf v0).bind fun o0 => b94_0 L xs zf D w o0 i1 h
  | _ => none
theorem d94 {L : Nat} {xs : Nat → Int32} {zf : Value} {D : dD} {w k : Nat} (hD : dO L xs zf D k) (hz : zf.category = 1) (As : List Value) (h : rm_H) (r : dR) (hh : f94 L xs zf D w As h = some r) : dq L xs zf ah_M94 0 (lv_args 0 As) [] h (k + 1) r := by
  unfold f94 at hh
  split at hh
  · obtain ⟨o0, e0, hb0⟩ := db hh
    have e0 := rm_rf_v _ _ e0
    subst e0
    refine c94_0 hD hz _ _ _ _ _ ?_ ?_ hb0
    all_goals (simp only [la_r, la_i, la_j]; rfl)
  · cases hh
def b95_16 (L : Nat) (xs : Nat → Int32) (zf : Value) (D : dD) (w : Nat) (o0 : Option Nat) (h : rm_H) : Option dR :=
  (dpF h 6 [6] o0 (.int 1)).bind fun h1 =>
  some (none, h1)
theorem c95_16 {L : Nat} {xs : Nat → Int32} {zf : Value} {D : dD} {w k : Nat} (hD : dO L xs zf D k) (hz : zf.category = 1) : ∀ (o0 : Option Nat) (lv : rm_L) (h : rm_H) (r : dR), rm_get lv 0 = some (va_rf o0) → b95_16 L xs zf D w  o0 h = some r → dq L xs zf ah_M95 16 lv [] h (k + 1) r := by
  intro o0 lv h r G0 hh
  unfold b95_16 at hh
  refine dq_aln 0 17 (by decide +kernel) rfl G0 ?_
  refine dq_S (.iconst 1) 1 [] 18 _ [.int 1, va_rf o0] (by decide +kernel) rfl ?_
  obtain ⟨h1, q2, hh⟩ := db hh
  refine dq_put 38 6 [6] 21 (by decide +kernel) rfl q2 ?_
  cases hh
  exact dq_ret0 (by decide +kernel) rfl
def b95_0 (L : Nat) (xs : Nat → Int32) (zf : Value) (D : dD) (w : Nat) (o0 : Option Nat) (h : rm_H) : Option dR :=
  (dgI L xs h 8 [6] o0).bind fun x1 =>
  if mx_f2 .ne x1 (-1) = true then
    b95_16 L xs zf D w o0 h
  else
    (dgI L xs h 7 [6] o0).bind fun x4 =>
    (dpF h 8 [6] o0 (.int x4)).bind fun h6 =>
    b95_16 L xs zf D w o0 h6
theorem c95_0 {L : Nat} {xs : Nat → Int32} {zf : Value} {D : dD} {w k : Nat} (hD : dO L xs zf D k) (hz : zf.category = 1) : ∀ (o0 : Option Nat) (lv : rm_L) (h : rm_H) (r : dR), rm_get lv 0 = some (va_rf o0) → b95_0 L xs zf D w  o0 h = some r → dq L xs zf ah_M95 0 lv [] h (k + 1) r := by
  intro o0 lv h r G0 hh
  unfold b95_0 at hh
  refine dq_aln 0 1 (by decide +kernel) rfl G0 ?_
  obtain ⟨x1, q2, hh⟩ := db hh
  refine dq_gI 44 8 [6] 4 (by decide +kernel) rfl q2 ?_
  refine dq_S (.iconst (-1)) 1 [] 5 _ [.int (-1), .int x1] (by decide +kernel) rfl ?_
  rcases di hh with ⟨q3, hh⟩ | ⟨q3, hh⟩
  · refine dq_2 .ne 11 true 16 q3 (by decide +kernel) ?_
    exact c95_16 hD hz _ _ _ _ G0 hh
  · refine dq_2 .ne 11 false 8 q3 (by decide +kernel) ?_
    refine dq_aln 0 9 (by decide +kernel) rfl G0 ?_
    refine dq_aln 0 10 (by decide +kernel) rfl G0 ?_
    obtain ⟨x4, q5, hh⟩ := db hh
    refine dq_gI 41 7 [6] 13 (by decide +kernel) rfl q5 ?_
    obtain ⟨h6, q7, hh⟩ := db hh
    refine dq_put 44 8 [6] 16 (by decide +kernel) rfl q7 ?_
    exact c95_16 hD hz _ _ _ _ G0 hh
def f95 (L : Nat) (xs : Nat → Int32) (zf : Value) (D : dD) (w : Nat) (As : List Value) (h : rm_H) : Option dR := match As with
  | [v0] => (rm_rf v0).bind fun o0 => b95_0 L xs zf D w o0 h
  | _ => none
theorem d95 {L : Nat} {xs : Nat → Int32} {zf : Value} {D : dD} {w k : Nat} (hD : dO L xs zf D k) (hz : zf.category = 1) (As : List Value) (h : rm_H) (r : dR) (hh : f95 L xs zf D w As h = some r) : dq L xs zf ah_M95 0 (lv_args 0 As) [] h (k + 1) r := by
  unfold f95 at hh
  split at hh
  · obtain ⟨o0, e0, hb0⟩ := db hh
    have e0 := rm_rf_v _ _ e0
    subst e0
    refine c95_0 hD hz _ _ _ _ ?_ hb0
    all_goals (simp only [la_r, la_i, la_j]; rfl)
  · cases hh
def b96_48 (L : Nat) (xs : Nat → Int32) (zf : Value) (D : dD) (w : Nat) (s0 : Option Nat) (h : rm_H) : Option dR :=
  some (some (va_rf s0), h)
theorem c96_48 {L : Nat} {xs : Nat → Int32} {zf : Value} {D : dD} {w k : Nat} (hD : dO L xs zf D k) (hz : zf.category = 1) : ∀ (s0 : Option Nat) (lv : rm_L) (h : rm_H) (r : dR), b96_48 L xs zf D w  s0 h = some r → dq L xs zf ah_M96 48 lv [va_rf s0] h (k + 1) r := by
  intro s0 lv h r hh
  unfold b96_48 at hh
  cases hh
  exact dq_retR (by decide +kernel) rfl
def b96_18 (L : Nat) (xs : Nat → Int32) (zf : Value) (D : dD) (w : Nat) (h : rm_H) : Option dR :=
  b96_48 L xs zf D w (some 9) h
theorem c96_18 {L : Nat} {xs : Nat → Int32} {zf : Value} {D : dD} {w k : Nat} (hD : dO L xs zf D k) (hz : zf.category = 1) : ∀ (lv : rm_L) (h : rm_H) (r : dR), b96_18 L xs zf D w  h = some r → dq L xs zf ah_M96 18 lv [] h (k + 1) r := by
  intro lv h r hh
  unfold b96_18 at hh
  refine dq_S (.ldc 66) 2 [1, 9] 20 _ [va_rf (some 9)] (by decide +kernel) rfl ?_
  refine dq_S (.goto 28) 3 [] 48 _ [va_rf (some 9)] (by decide +kernel) rfl ?_
  exact c96_48 hD hz _ _ _ _  hh
def b96_0 (L : Nat) (xs : Nat → Int32) (zf : Value) (D : dD) (w : Nat) (o0 : Option Nat) (h : rm_H) : Option dR :=
  (dgI L xs h 5 [6] o0).bind fun x1 =>
  if mx_f1 .lt x1 = true then
    b96_18 L xs zf D w h
  else
    (dgI L xs h 5 [6] o0).bind fun x4 =>
    (dgI L xs h 4 [6] o0).bind fun x6 =>
    if mx_f2 .lt x4 x6 = true then
      (dgR L xs h 0 [6] o0).bind fun p9 =>
      (dgR L xs h 2 [6] o0).bind fun p11 =>
      (dgI L xs h 5 [6] o0).bind fun x13 =>
      (daI L xs h p11 x13).bind fun x15 =>
      (dgR L xs h 3 [6] o0).bind fun p17 =>
      (dgI L xs h 5 [6] o0).bind fun x19 =>
      (daI L xs h p17 x19).bind fun x21 =>
      ((dcV L xs D 97 [7, 16] p9 [.int x15, .int x21] h).bind dxR).bind fun p23 =>
      b96_48 L xs zf D w p23.1 p23.2
    else
      b96_18 L xs zf D w h
theorem c96_0 {L : Nat} {xs : Nat → Int32} {zf : Value} {D : dD} {w k : Nat} (hD : dO L xs zf D k) (hz : zf.category = 1) : ∀ (o0 : Option Nat) (lv : rm_L) (h : rm_H) (r : dR), rm_get lv 0 = some (va_rf o0) → b96_0 L xs zf D w  o0 h = some r → dq L xs zf ah_M96 0 lv [] h (k + 1) r := by
  intro o0 lv h r G0 hh
  unfold b96_0 at hh
  refine dq_aln 0 1 (by decide +kernel) rfl G0 ?_
  obtain ⟨x1, q2, hh⟩ := db hh
  refine dq_gI 35 5 [6] 4 (by decide +kernel) rfl q2 ?_
  rcases di hh with ⟨q3, hh⟩ | ⟨q3, hh⟩
  · refine dq_1 .lt 14 true 18 q3 (by decide +kernel) ?_
    exact c96_18 hD hz  _ _ _  hh
  · refine dq_1 .lt 14 false 7 q3 (by decide +kernel) ?_
    refine dq_aln 0 8 (by decide +kernel) rfl G0 ?_
    obtain ⟨x4, q5, hh⟩ := db hh
    refine dq_gI 35 5 [6] 11 (by decide +kernel) rfl q5 ?_
    refine dq_aln 0 12 (by decide +kernel) rfl G0 ?_
    obtain ⟨x6, q7, hh⟩ := db hh
    refine dq_gI 31 4 [6] 15 (by decide +kernel) rfl q7 ?_
    rcases di hh with ⟨q8, hh⟩ | ⟨q8, hh⟩
    · refine dq_2 .lt 8 true 23 q8 (by decide +kernel) ?_
      refine dq_aln 0 24 (by decide +kernel) rfl G0 ?_
      obtain ⟨p9, q10, hh⟩ := db hh
      refine dq_gR 9 0 [6] 27 (by decide +kernel) rfl q10 ?_
      refine dq_aln 0 28 (by decide +kernel) rfl G0 ?_
      obtain ⟨p11, q12, hh⟩ := db hh
      refine dq_gR 25 2 [6] 31 (by decide +kernel) rfl q12 ?_
      refine dq_aln 0 32 (by decide +kernel) rfl G0 ?_
      obtain ⟨x13, q14, hh⟩ := db hh
      refine dq_gI 35 5 [6] 35 (by decide +kernel) rfl q14 ?_
      obtain ⟨x15, q16, hh⟩ := db hh
      refine dq_aI 36 (by decide +kernel) rfl q16 ?_
      refine dq_aln 0 37 (by decide +kernel) rfl G0 ?_
      obtain ⟨p17, q18, hh⟩ := db hh
      refine dq_gR 28 3 [6] 40 (by decide +kernel) rfl q18 ?_
      refine dq_aln 0 41 (by decide +kernel) rfl G0 ?_
      obtain ⟨x19, q20, hh⟩ := db hh
      refine dq_gI 35 5 [6] 44 (by decide +kernel) rfl q20 ?_
      obtain ⟨x21, q22, hh⟩ := db hh
      refine dq_aI 45 (by decide +kernel) rfl q22 ?_
      obtain ⟨p23, q24, hh⟩ := db hh
      obtain ⟨a25, q26, q24⟩ := db q24
      rw [dq_xR q24] at q26
      refine dq_cvi hD 68 97 5 2 [7, 16] p9 [.int x15, .int x21] [] 48 [va_rf p23.1] (by decide +kernel) ap_97 ⟨⟨Nat.le_of_ble_eq_true rfl, by decide⟩, rfl, rfl⟩ (dq_ok8 [1, 1, 1] [] (dc_r (dc_i (dc_i dc_n))) dc_n (by decide +kernel)) (by decide +kernel) rfl q26 rfl ?_
      exact c96_48 hD hz _ _ _ _  hh
    · refine dq_2 .lt 8 false 18 q8 (by decide +kernel) ?_
      exact c96_18 hD hz  _ _ _  hh
def f96 (L : Nat) (xs : Nat → Int32) (zf : Value) (D : dD) (w : Nat) (As : List Value) (h : rm_H) : Option dR := match As with
  | [v0] => (rm_rf v0).bind fun o0 => b96_0 L xs zf D w o0 h
  | _ => none
theorem d96 {L : Nat} {xs : Nat → Int32} {zf : Value} {D : dD} {w k : Nat} (hD : dO L xs zf D k) (hz : zf.category = 1) (As : List Value) (h : rm_H) (r : dR) (hh : f96 L xs zf D w As h = some r) : dq L xs zf ah_M96 0 (lv_args 0 As) [] h (k + 1) r := by
  unfold f96 at hh
  split at hh
  · obtain ⟨o0, e0, hb0⟩ := db hh
    have e0 := rm_rf_v _ _ e0
    subst e0
    refine c96_0 hD hz _ _ _ _ ?_ hb0
    all_goals (simp only [la_r, la_i, la_j]; rfl)
  · cases hh
def b97_57 (L : Nat) (xs : Nat → Int32) (zf : Value) (D : dD) (w : Nat) (s0 : Option Nat) (h : rm_H) : Option dR :=
  some (some (va_rf s0), h)
theorem c97_57 {L : Nat} {xs : Nat → Int32} {zf : Value} {D : dD} {w k : Nat} (hD : dO L xs zf D k) (hz : zf.category = 1) : ∀ (s0 : Option Nat) (lv : rm_L) (h : rm_H) (r : dR), b97_57 L xs zf D w  s0 h = some r → dq L xs zf ah_M97 57 lv [va_rf s0] h (k + 1) r := by
  intro s0 lv h r hh
  unfold b97_57 at hh
  cases hh
  exact dq_retR (by decide +kernel) rfl
def b97_22 (L : Nat) (xs : Nat → Int32) (zf : Value) (D : dD) (w : Nat) (o0 : Option Nat) (i1 : Int32) (i2 : Int32) (h : rm_H) : Option dR :=
  ((dcV L xs D 64 [7, 16] o0 [] h).bind dxI).bind fun x5 =>
  if mx_f1 .eq x5.1 = true then
    (dgR L xs x5.2 0 [7, 16] o0).bind fun p10 =>
    ((D 100 [va_rf p10, .int i1, .int (i2 - i1)] x5.2).bind dxR).bind fun p12 =>
    b97_57 L xs zf D w p12.1 p12.2
  else
    (dgR L xs x5.2 0 [7, 16] o0).bind fun p16 =>
    ((D 98 [va_rf p16, .int i1, .int (i2 - i1)] x5.2).bind dxR).bind fun p18 =>
    b97_57 L xs zf D w p18.1 p18.2
theorem c97_22 {L : Nat} {xs : Nat → Int32} {zf : Value} {D : dD} {w k : Nat} (hD : dO L xs zf D k) (hz : zf.category = 1) : ∀ (o0 : Option Nat) (i1 : Int32) (i2 : Int32) (lv : rm_L) (h : rm_H) (r : dR), rm_get lv 0 = some (va_rf o0) → rm_get lv 1 = some (.int i1) → rm_get lv 2 = some (.int i2) → b97_22 L xs zf D w  o0 i1 i2 h = some r → dq L xs zf ah_M97 22 lv [] h (k + 1) r := by
  intro o0 i1 i2 lv h r G0 G1 G2 hh
  unfold b97_22 at hh
  refine dq_iln 2 23 (by decide +kernel) rfl G2 ?_
  refine dq_iln 1 24 (by decide +kernel) rfl G1 ?_
  refine dq_S (.isub) 1 [] 25 _ [.int (i2 - i1)] (by decide +kernel) rfl ?_
  refine dq_is 4 27 (by decide +kernel) (by decide +kernel) ?_
  have g1 := dg_ne (i := 4) (u := .int (i2 - i1)) (by decide) (Or.inl (by decide)) G0
  have g2 := dg_ne (i := 4) (u := .int (i2 - i1)) (by decide) (Or.inl (by decide)) G1
  have g3 := dg_ne (i := 4) (u := .int (i2 - i1)) (by decide) (Or.inl (by decide)) G2
  have g4 := dg_eq (lv) 4 (.int (i2 - i1))
  refine dq_aln 0 28 (by decide +kernel) rfl g1 ?_
  obtain ⟨x5, q6, hh⟩ := db hh
  obtain ⟨a7, q8, q6⟩ := db q6
  rw [dq_xI q6] at q8
  refine dq_cvi hD 492 64 5 0 [7, 16] o0 [] [] 31 [.int x5.1] (by decide +kernel) ap_64 ⟨⟨Nat.le_of_ble_eq_true rfl, by decide⟩, rfl, rfl⟩ (dq_ok8 [1] [] (dc_r dc_n) dc_n (by decide +kernel)) (by decide +kernel) rfl q8 rfl ?_
  rcases di hh with ⟨q9, hh⟩ | ⟨q9, hh⟩
  · refine dq_1 .eq 16 true 47 q9 (by decide +kernel) ?_
    refine dq_aln 0 48 (by decide +kernel) rfl g1 ?_
    obtain ⟨p10, q11, hh⟩ := db hh
    refine dq_gR 9 0 [7, 16] 51 (by decide +kernel) rfl q11 ?_
    refine dq_iln 1 52 (by decide +kernel) rfl g2 ?_
    refine dq_il 4 54 (by decide +kernel) rfl g4 ?_
    obtain ⟨p12, q13, hh⟩ := db hh
    obtain ⟨a14, q15, q13⟩ := db q13
    rw [dq_xR q13] at q15
    refine dq_cst hD 689 100 0 3 [va_rf p10, .int i1, .int (i2 - i1)] [] 57 [va_rf p12.1] (by decide +kernel) ap_100 ⟨⟨Nat.le_of_ble_eq_true rfl, by decide⟩, rfl, rfl⟩ (dq_ok8 [1, 1, 1] [] (dc_r (dc_i (dc_i dc_n))) dc_n (by decide +kernel)) (by decide +kernel) rfl q15 rfl ?_
    exact c97_57 hD hz _ _ _ _  hh
  · refine dq_1 .eq 16 false 34 q9 (by decide +kernel) ?_
    refine dq_aln 0 35 (by decide +kernel) rfl g1 ?_
    obtain ⟨p16, q17, hh⟩ := db hh
    refine dq_gR 9 0 [7, 16] 38 (by decide +kernel) rfl q17 ?_
    refine dq_iln 1 39 (by decide +kernel) rfl g2 ?_
    refine dq_il 4 41 (by decide +kernel) rfl g4 ?_
    obtain ⟨p18, q19, hh⟩ := db hh
    obtain ⟨a20, q21, q19⟩ := db q19
    rw [dq_xR q19] at q21
    refine dq_cst hD 685 98 0 3 [va_rf p16, .int i1, .int (i2 - i1)] [] 44 [va_rf p18.1] (by decide +kernel) ap_98 ⟨⟨Nat.le_of_ble_eq_true rfl, by decide⟩, rfl, rfl⟩ (dq_ok8 [1, 1, 1] [] (dc_r (dc_i (dc_i dc_n))) dc_n (by decide +kernel)) (by decide +kernel) rfl q21 rfl ?_
    refine dq_S (.goto 13) 3 [] 57 _ [va_rf p18.1] (by decide +kernel) rfl ?_
    exact c97_57 hD hz _ _ _ _  hh
def b97_0 (L : Nat) (xs : Nat → Int32) (zf : Value) (D : dD) (w : Nat) (o0 : Option Nat) (i1 : Int32) (i2 : Int32) (h : rm_H) : Option dR :=
  ((dcV L xs D 60 [7, 16] o0 [] h).bind dxI).bind fun x1 =>
  ((D 83 [.int i1, .int i2, .int x1.1] x1.2).bind dxV).bind fun h9 =>
  if mx_f1 .ne i1 = true then
    b97_22 L xs zf D w o0 i1 i2 h9
  else
    if mx_f2 .ne i2 x1.1 = true then
      b97_22 L xs zf D w o0 i1 i2 h9
    else
      some (some (va_rf o0), h9)
theorem c97_0 {L : Nat} {xs : Nat → Int32} {zf : Value} {D : dD} {w k : Nat} (hD : dO L xs zf D k) (hz : zf.category = 1) : ∀ (o0 : Option Nat) (i1 : Int32) (i2 : Int32) (lv : rm_L) (h : rm_H) (r : dR), rm_get lv 0 = some (va_rf o0) → rm_get lv 1 = some (.int i1) → rm_get lv 2 = some (.int i2) → b97_0 L xs zf D w  o0 i1 i2 h = some r → dq L xs zf ah_M97 0 lv [] h (k + 1) r := by
  intro o0 i1 i2 lv h r G0 G1 G2 hh
  unfold b97_0 at hh
  refine dq_aln 0 1 (by decide +kernel) rfl G0 ?_
  obtain ⟨x1, q2, hh⟩ := db hh
  obtain ⟨a3, q4, q2⟩ := db q2
  rw [dq_xI q2] at q4
  refine dq_cvi hD 505 60 5 0 [7, 16] o0 [] [] 4 [.int x1.1] (by decide +kernel) ap_60 ⟨⟨Nat.le_of_ble_eq_true rfl, by decide⟩, rfl, rfl⟩ (dq_ok8 [1] [] (dc_r dc_n) dc_n (by decide +kernel)) (by decide +kernel) rfl q4 rfl ?_
  refine dq_isn 3 5 (by decide +kernel) (by decide +kernel) ?_
  have g5 := dg_ne (i := 3) (u := .int x1.1) (by decide) (Or.inl (by decide)) G0
  have g6 := dg_ne (i := 3) (u := .int x1.1) (by decide) (Or.inl (by decide)) G1
  have g7 := dg_ne (i := 3) (u := .int x1.1) (by decide) (Or.inr rfl) G2
  have g8 := dg_eq (lv) 3 (.int x1.1)
  refine dq_iln 1 6 (by decide +kernel) rfl g6 ?_
  refine dq_iln 2 7 (by decide +kernel) rfl g7 ?_
  refine dq_iln 3 8 (by decide +kernel) rfl g8 ?_
  obtain ⟨h9, q10, hh⟩ := db hh
  obtain ⟨a11, q12, q10⟩ := db q10
  rw [dq_xV q10] at q12
  refine dq_cst hD 521 83 0 3 [.int i1, .int i2, .int x1.1] [] 11 [] (by decide +kernel) ap_83 ⟨⟨Nat.le_of_ble_eq_true rfl, by decide⟩, rfl, rfl⟩ (dq_ok8 [1, 1, 1] [] (dc_i (dc_i (dc_i dc_n))) dc_n (by decide +kernel)) (by decide +kernel) rfl q12 rfl ?_
  refine dq_iln 1 12 (by decide +kernel) rfl g6 ?_
  rcases di hh with ⟨q13, hh⟩ | ⟨q13, hh⟩
  · refine dq_1 .ne 10 true 22 q13 (by decide +kernel) ?_
    exact c97_22 hD hz _ _ _ _ _ _ g5 g6 g7 hh
  · refine dq_1 .ne 10 false 15 q13 (by decide +kernel) ?_
    refine dq_iln 2 16 (by decide +kernel) rfl g7 ?_
    refine dq_iln 3 17 (by decide +kernel) rfl g8 ?_
    rcases di hh with ⟨q14, hh⟩ | ⟨q14, hh⟩
    · refine dq_2 .ne 5 true 22 q14 (by decide +kernel) ?_
      exact c97_22 hD hz _ _ _ _ _ _ g5 g6 g7 hh
    · refine dq_2 .ne 5 false 20 q14 (by decide +kernel) ?_
      refine dq_aln 0 21 (by decide +kernel) rfl g5 ?_
      cases hh
      exact dq_retR (by decide +kernel) rfl
def f97 (L : Nat) (xs : Nat → Int32) (zf : Value) (D : dD) (w : Nat) (As : List Value) (h : rm_H) : Option dR := match As with
  | [v0, .int i1, .int i2] => (rm_rf v0).bind fun o0 => b97_0 L xs zf D w o0 i1 i2 h
  | _ => none
theorem d97 {L : Nat} {xs : Nat → Int32} {zf : Value} {D : dD} {w k : Nat} (hD : dO L xs zf D k) (hz : zf.category = 1) (As : List Value) (h : rm_H) (r : dR) (hh : f97 L xs zf D w As h = some r) : dq L xs zf ah_M97 0 (lv_args 0 As) [] h (k + 1) r := by
  unfold f97 at hh
  split at hh
  · obtain ⟨o0, e0, hb0⟩ := db hh
    have e0 := rm_rf_v _ _ e0
    subst e0
    refine c97_0 hD hz _ _ _ _ _ _ ?_ ?_ ?_ hb0
    all_goals (simp only [la_r, la_i, la_j]; rfl)
  · cases hh
def b98_0 (L : Nat) (xs : Nat → Int32) (zf : Value) (D : dD) (w : Nat) (o0 : Option Nat) (i1 : Int32) (i2 : Int32) (h : rm_H) : Option dR :=
  if mx_f1 .ne i2 = true then
    (some (h ++ [.inr (7, ah_DV 7)])).bind fun h2 =>
    ((D 52 [va_rf o0, .int i1, .int (i1 + i2)] h2).bind dxR).bind fun p4 =>
    ((dcN D 99 (some (21 + List.length h)) [va_rf p4.1, .int 0] p4.2).bind dxV).bind fun h8 =>
    some (some (va_rf (some (21 + List.length h))), h8)
  else
    some (some (va_rf (some 9)), h)
theorem c98_0 {L : Nat} {xs : Nat → Int32} {zf : Value} {D : dD} {w k : Nat} (hD : dO L xs zf D k) (hz : zf.category = 1) : ∀ (o0 : Option Nat) (i1 : Int32) (i2 : Int32) (lv : rm_L) (h : rm_H) (r : dR), rm_get lv 0 = some (va_rf o0) → rm_get lv 1 = some (.int i1) → rm_get lv 2 = some (.int i2) → b98_0 L xs zf D w  o0 i1 i2 h = some r → dq L xs zf ah_M98 0 lv [] h (k + 1) r := by
  intro o0 i1 i2 lv h r G0 G1 G2 hh
  unfold b98_0 at hh
  refine dq_iln 2 1 (by decide +kernel) rfl G2 ?_
  rcases di hh with ⟨q1, hh⟩ | ⟨q1, hh⟩
  · refine dq_1 .ne 6 true 7 q1 (by decide +kernel) ?_
    obtain ⟨h2, q3, hh⟩ := db hh
    refine dq_new 1 7 10 (by decide +kernel) rfl ?_
    rw [Option.some.inj q3]
    refine dq_dup 11 (by decide +kernel) rfl ?_
    refine dq_aln 0 12 (by decide +kernel) rfl G0 ?_
    refine dq_iln 1 13 (by decide +kernel) rfl G1 ?_
    refine dq_iln 1 14 (by decide +kernel) rfl G1 ?_
    refine dq_iln 2 15 (by decide +kernel) rfl G2 ?_
    refine dq_S (.iadd) 1 [] 16 _ [.int (i1 + i2), .int i1, va_rf o0, va_rf (some (21 + List.length h)), va_rf (some (21 + List.length h))] (by decide +kernel) rfl ?_
    obtain ⟨p4, q5, hh⟩ := db hh
    obtain ⟨a6, q7, q5⟩ := db q5
    rw [dq_xR q5] at q7
    refine dq_cst hD 232 52 0 3 [va_rf o0, .int i1, .int (i1 + i2)] [va_rf (some (21 + List.length h)), va_rf (some (21 + List.length h))] 19 [va_rf p4.1, va_rf (some (21 + List.length h)), va_rf (some (21 + List.length h))] (by decide +kernel) ap_52 ⟨⟨Nat.le_of_ble_eq_true rfl, by decide⟩, rfl, rfl⟩ (dq_ok8 [1, 1, 1] [1, 1] (dc_r (dc_i (dc_i dc_n))) (dc_r (dc_r dc_n)) (by decide +kernel)) (by decide +kernel) rfl q7 rfl ?_
    refine dq_S (.iconst 0) 1 [] 20 _ [.int 0, va_rf p4.1, va_rf (some (21 + List.length h)), va_rf (some (21 + List.length h))] (by decide +kernel) rfl ?_
    obtain ⟨h8, q9, hh⟩ := db hh
    obtain ⟨a10, q11, q9⟩ := db q9
    rw [dq_xV q9] at q11
    refine dq_csp hD 112 99 2 [] (some (21 + List.length h)) [va_rf p4.1, .int 0] [va_rf (some (21 + List.length h))] 23 [va_rf (some (21 + List.length h))] (by decide +kernel) ap_99 ⟨Nat.le_of_ble_eq_true rfl, rfl, rfl⟩ (dq_ok8 [1, 1, 1] [1] (dc_r (dc_r (dc_i dc_n))) (dc_r dc_n) (by decide +kernel)) (by decide +kernel) rfl q11 rfl ?_
    cases hh
    exact dq_retR (by decide +kernel) rfl
  · refine dq_1 .ne 6 false 4 q1 (by decide +kernel) ?_
    refine dq_S (.ldc 151) 2 [1, 9] 6 _ [va_rf (some 9)] (by decide +kernel) rfl ?_
    cases hh
    exact dq_retR (by decide +kernel) rfl
def f98 (L : Nat) (xs : Nat → Int32) (zf : Value) (D : dD) (w : Nat) (As : List Value) (h : rm_H) : Option dR := match As with
  | [v0, .int i1, .int i2] => (rm_rf v0).bind fun o0 => b98_0 L xs zf D w o0 i1 i2 h
  | _ => none
theorem d98 {L : Nat} {xs : Nat → Int32} {zf : Value} {D : dD} {w k : Nat} (hD : dO L xs zf D k) (hz : zf.category = 1) (As : List Value) (h : rm_H) (r : dR) (hh : f98 L xs zf D w As h = some r) : dq L xs zf ah_M98 0 (lv_args 0 As) [] h (k + 1) r := by
  unfold f98 at hh
  split at hh
  · obtain ⟨o0, e0, hb0⟩ := db hh
    have e0 := rm_rf_v _ _ e0
    subst e0
    refine c98_0 hD hz _ _ _ _ _ _ ?_ ?_ ?_ hb0
    all_goals (simp only [la_r, la_i, la_j]; rfl)
  · cases hh
def b99_0 (L : Nat) (xs : Nat → Int32) (zf : Value) (D : dD) (w : Nat) (o0 : Option Nat) (o1 : Option Nat) (i2 : Int32) (h : rm_H) : Option dR :=
  if dnl o0 = true then none else
  (dpF h 0 [7] o0 (va_rf o1)).bind fun h2 =>
  (dpF h2 1 [7] o0 (.int i2)).bind fun h4 =>
  some (none, h4)
theorem c99_0 {L : Nat} {xs : Nat → Int32} {zf : Value} {D : dD} {w k : Nat} (hD : dO L xs zf D k) (hz : zf.category = 1) : ∀ (o0 : Option Nat) (o1 : Option Nat) (i2 : Int32) (lv : rm_L) (h : rm_H) (r : dR), rm_get lv 0 = some (va_rf o0) → rm_get lv 1 = some (va_rf o1) → rm_get lv 2 = some (.int i2) → b99_0 L xs zf D w  o0 o1 i2 h = some r → dq L xs zf ah_M99 0 lv [] h (k + 1) r := by
  intro o0 o1 i2 lv h r G0 G1 G2 hh
  unfold b99_0 at hh
  refine dq_aln 0 1 (by decide +kernel) rfl G0 ?_
  rcases di hh with ⟨_, hh⟩ | ⟨q1, hh⟩
  · cases hh
  refine dq_obj 1 4 (by decide +kernel) (dc_s dc_n (by decide +kernel)) rfl q1 ?_
  refine dq_aln 0 5 (by decide +kernel) rfl G0 ?_
  refine dq_aln 1 6 (by decide +kernel) rfl G1 ?_
  obtain ⟨h2, q3, hh⟩ := db hh
  refine dq_put 9 0 [7] 9 (by decide +kernel) rfl q3 ?_
  refine dq_aln 0 10 (by decide +kernel) rfl G0 ?_
  refine dq_iln 2 11 (by decide +kernel) rfl G2 ?_
  obtain ⟨h4, q5, hh⟩ := db hh
  refine dq_put 15 1 [7] 14 (by decide +kernel) rfl q5 ?_
  cases hh
  exact dq_ret0 (by decide +kernel) rfl
def f99 (L : Nat) (xs : Nat → Int32) (zf : Value) (D : dD) (w : Nat) (As : List Value) (h : rm_H) : Option dR := match As with
  | [v0, v1, .int i2] => (rm_rf v0).bind fun o0 => (rm_rf v1).bind fun o1 => b99_0 L xs zf D w o0 o1 i2 h
  | _ => none
theorem d99 {L : Nat} {xs : Nat → Int32} {zf : Value} {D : dD} {w k : Nat} (hD : dO L xs zf D k) (hz : zf.category = 1) (As : List Value) (h : rm_H) (r : dR) (hh : f99 L xs zf D w As h = some r) : dq L xs zf ah_M99 0 (lv_args 0 As) [] h (k + 1) r := by
  unfold f99 at hh
  split at hh
  · obtain ⟨o0, e0, hb0⟩ := db hh
    have e0 := rm_rf_v _ _ e0
    obtain ⟨o1, e1, hb1⟩ := db hb0
    have e1 := rm_rf_v _ _ e1
    subst e0 e1
    refine c99_0 hD hz _ _ _ _ _ _ ?_ ?_ ?_ hb1
    all_goals (simp only [la_r, la_i, la_j]; rfl)
  · cases hh
def b100_0 (L : Nat) (xs : Nat → Int32) (zf : Value) (D : dD) (w : Nat) (o0 : Option Nat) (i1 : Int32) (i2 : Int32) (h : rm_H) : Option dR :=
  if mx_f1 .ne i2 = true then
    if mx_f1 .eq 1 = true then
      (some (h ++ [.inr (7, ah_DV 7)])).bind fun h7 =>
      ((D 52 [va_rf o0, .int (i1 <<< ((1 : Int32) &&& 31)), .int ((i1 + i2) <<< ((1 : Int32) &&& 31))] h7).bind dxR).bind fun p9 =>
      ((dcN D 99 (some (21 + List.length h)) [va_rf p9.1, .int 1] p9.2).bind dxV).bind fun h13 =>
      some (some (va_rf (some (21 + List.length h))), h13)
    else
      ((D 55 [va_rf o0, .int i1, .int i2] h).bind dxR).bind fun p17 =>
      ((D 58 [va_rf p17.1, .int i2] p17.2).bind dxI).bind fun x25 =>
      (some (x25.2 ++ [.inr (7, ah_DV 7)])).bind fun h34 =>
      ((dcN D 99 (some (21 + List.length x25.2)) [va_rf p17.1, .int x25.1] h34).bind dxV).bind fun h36 =>
      some (some (va_rf (some (21 + List.length x25.2))), h36)
  else
    none
theorem c100_0 {L : Nat} {xs : Nat → Int32} {zf : Value} {D : dD} {w k : Nat} (hD : dO L xs zf D k) (hz : zf.category = 1) : ∀ (o0 : Option Nat) (i1 : Int32) (i2 : Int32) (lv : rm_L) (h : rm_H) (r : dR), rm_get lv 0 = some (va_rf o0) → rm_get lv 1 = some (.int i1) → rm_get lv 2 = some (.int i2) → b100_0 L xs zf D w  o0 i1 i2 h = some r → dq L xs zf ah_M100 0 lv [] h (k + 1) r := by
  intro o0 i1 i2 lv h r G0 G1 G2 hh
  unfold b100_0 at hh
  refine dq_iln 2 1 (by decide +kernel) rfl G2 ?_
  rcases di hh with ⟨q1, hh⟩ | ⟨q1, hh⟩
  · refine dq_1 .ne 7 true 8 q1 (by decide +kernel) ?_
    refine dq_S (.getstatic 251) 3 [0] 11 _ [.int 1] (by decide +kernel) rfl ?_
    rcases di hh with ⟨q2, hh⟩ | ⟨q2, hh⟩
    · refine dq_1 .eq 28 true 39 q2 (by decide +kernel) ?_
      refine dq_iln 1 40 (by decide +kernel) rfl G1 ?_
      refine dq_iln 2 41 (by decide +kernel) rfl G2 ?_
      refine dq_S (.iadd) 1 [] 42 _ [.int (i1 + i2)] (by decide +kernel) rfl ?_
      refine dq_isn 3 43 (by decide +kernel) (by decide +kernel) ?_
      have g3 := dg_ne (i := 3) (u := .int (i1 + i2)) (by decide) (Or.inl (by decide)) G0
      have g4 := dg_ne (i := 3) (u := .int (i1 + i2)) (by decide) (Or.inl (by decide)) G1
      have g5 := dg_ne (i := 3) (u := .int (i1 + i2)) (by decide) (Or.inr rfl) G2
      have g6 := dg_eq (lv) 3 (.int (i1 + i2))
      obtain ⟨h7, q8, hh⟩ := db hh
      refine dq_new 3 7 46 (by decide +kernel) rfl ?_
      rw [Option.some.inj q8]
      refine dq_dup 47 (by decide +kernel) rfl ?_
      refine dq_aln 0 48 (by decide +kernel) rfl g3 ?_
      refine dq_iln 1 49 (by decide +kernel) rfl g4 ?_
      refine dq_S (.iconst 1) 1 [] 50 _ [.int 1, .int i1, va_rf o0, va_rf (some (21 + List.length h)), va_rf (some (21 + List.length h))] (by decide +kernel) rfl ?_
      refine dq_S (.ishl) 1 [] 51 _ [.int (i1 <<< ((1 : Int32) &&& 31)), va_rf o0, va_rf (some (21 + List.length h)), va_rf (some (21 + List.length h))] (by decide +kernel) rfl ?_
      refine dq_iln 3 52 (by decide +kernel) rfl g6 ?_
      refine dq_S (.iconst 1) 1 [] 53 _ [.int 1, .int (i1 + i2), .int (i1 <<< ((1 : Int32) &&& 31)), va_rf o0, va_rf (some (21 + List.length h)), va_rf (some (21 + List.length h))] (by decide +kernel) rfl ?_
      refine dq_S (.ishl) 1 [] 54 _ [.int ((i1 + i2) <<< ((1 : Int32) &&& 31)), .int (i1 <<< ((1 : Int32) &&& 31)), va_rf o0, va_rf (some (21 + List.length h)), va_rf (some (21 + List.length h))] (by decide +kernel) rfl ?_
      obtain ⟨p9, q10, hh⟩ := db hh
      obtain ⟨a11, q12, q10⟩ := db q10
      rw [dq_xR q10] at q12
      refine dq_cst hD 126 52 0 3 [va_rf o0, .int (i1 <<< ((1 : Int32) &&& 31)), .int ((i1 + i2) <<< ((1 : Int32) &&& 31))] [va_rf (some (21 + List.length h)), va_rf (some (21 + List.length h))] 57 [va_rf p9.1, va_rf (some (21 + List.length h)), va_rf (some (21 + List.length h))] (by decide +kernel) ap_52 ⟨⟨Nat.le_of_ble_eq_true rfl, by decide⟩, rfl, rfl⟩ (dq_ok8 [1, 1, 1] [1, 1] (dc_r (dc_i (dc_i dc_n))) (dc_r (dc_r dc_n)) (by decide +kernel)) (by decide +kernel) rfl q12 rfl ?_
      refine dq_S (.iconst 1) 1 [] 58 _ [.int 1, va_rf p9.1, va_rf (some (21 + List.length h)), va_rf (some (21 + List.length h))] (by decide +kernel) rfl ?_
      obtain ⟨h13, q14, hh⟩ := db hh
      obtain ⟨a15, q16, q14⟩ := db q14
      rw [dq_xV q14] at q16
      refine dq_csp hD 263 99 2 [] (some (21 + List.length h)) [va_rf p9.1, .int 1] [va_rf (some (21 + List.length h))] 61 [va_rf (some (21 + List.length h))] (by decide +kernel) ap_99 ⟨Nat.le_of_ble_eq_true rfl, rfl, rfl⟩ (dq_ok8 [1, 1, 1] [1] (dc_r (dc_r (dc_i dc_n))) (dc_r dc_n) (by decide +kernel)) (by decide +kernel) rfl q16 rfl ?_
      cases hh
      exact dq_retR (by decide +kernel) rfl
    · refine dq_1 .eq 28 false 14 q2 (by decide +kernel) ?_
      refine dq_aln 0 15 (by decide +kernel) rfl G0 ?_
      refine dq_iln 1 16 (by decide +kernel) rfl G1 ?_
      refine dq_iln 2 17 (by decide +kernel) rfl G2 ?_
      obtain ⟨p17, q18, hh⟩ := db hh
      obtain ⟨a19, q20, q18⟩ := db q18
      rw [dq_xR q18] at q20
      refine dq_cst hD 257 55 0 3 [va_rf o0, .int i1, .int i2] [] 20 [va_rf p17.1] (by decide +kernel) ap_55 ⟨⟨Nat.le_of_ble_eq_true rfl, by decide⟩, rfl, rfl⟩ (dq_ok8 [1, 1, 1] [] (dc_r (dc_i (dc_i dc_n))) dc_n (by decide +kernel)) (by decide +kernel) rfl q20 rfl ?_
      refine dq_asn 3 21 (by decide +kernel) (by decide +kernel) ?_
      have g21 := dg_ne (i := 3) (u := va_rf p17.1) (by decide) (Or.inl (by decide)) G0
      have g22 := dg_ne (i := 3) (u := va_rf p17.1) (by decide) (Or.inl (by decide)) G1
      have g23 := dg_ne (i := 3) (u := va_rf p17.1) (by decide) (Or.inr rfl) G2
      have g24 := dg_eq (lv) 3 (va_rf p17.1)
      refine dq_aln 3 22 (by decide +kernel) rfl g24 ?_
      refine dq_iln 2 23 (by decide +kernel) rfl g23 ?_
      obtain ⟨x25, q26, hh⟩ := db hh
      obtain ⟨a27, q28, q26⟩ := db q26
      rw [dq_xI q26] at q28
      refine dq_cst hD 259 58 0 2 [va_rf p17.1, .int i2] [] 26 [.int x25.1] (by decide +kernel) ap_58 ⟨⟨Nat.le_of_ble_eq_true rfl, by decide⟩, rfl, rfl⟩ (dq_ok8 [1, 1] [] (dc_r (dc_i dc_n)) dc_n (by decide +kernel)) (by decide +kernel) rfl q28 rfl ?_
      refine dq_is 4 28 (by decide +kernel) (by decide +kernel) ?_
      have g29 := dg_ne (i := 4) (u := .int x25.1) (by decide) (Or.inl (by decide)) g21
      have g30 := dg_ne (i := 4) (u := .int x25.1) (by decide) (Or.inl (by decide)) g22
      have g31 := dg_ne (i := 4) (u := .int x25.1) (by decide) (Or.inl (by decide)) g23
      have g32 := dg_ne (i := 4) (u := .int x25.1) (by decide) (Or.inr (drc _)) g24
      have g33 := dg_eq (rm_set1 (lv) 3 (va_rf p17.1)) 4 (.int x25.1)
      obtain ⟨h34, q35, hh⟩ := db hh
      refine dq_new 3 7 31 (by decide +kernel) rfl ?_
      rw [Option.some.inj q35]
      refine dq_dup 32 (by decide +kernel) rfl ?_
      refine dq_aln 3 33 (by decide +kernel) rfl g32 ?_
      refine dq_il 4 35 (by decide +kernel) rfl g33 ?_
      obtain ⟨h36, q37, hh⟩ := db hh
      obtain ⟨a38, q39, q37⟩ := db q37
      rw [dq_xV q37] at q39
      refine dq_csp hD 263 99 2 [] (some (21 + List.length x25.2)) [va_rf p17.1, .int x25.1] [va_rf (some (21 + List.length x25.2))] 38 [va_rf (some (21 + List.length x25.2))] (by decide +kernel) ap_99 ⟨Nat.le_of_ble_eq_true rfl, rfl, rfl⟩ (dq_ok8 [1, 1, 1] [1] (dc_r (dc_r (dc_i dc_n))) (dc_r dc_n) (by decide +kernel)) (by decide +kernel) rfl q39 rfl ?_
      cases hh
      exact dq_retR (by decide +kernel) rfl
  · refine dq_1 .ne 7 false 4 q1 (by decide +kernel) ?_
    cases hh
def f100 (L : Nat) (xs : Nat → Int32) (zf : Value) (D : dD) (w : Nat) (As : List Value) (h : rm_H) : Option dR := match As with
  | [v0, .int i1, .int i2] => (rm_rf v0).bind fun o0 => b100_0 L xs zf D w o0 i1 i2 h
  | _ => none
theorem d100 {L : Nat} {xs : Nat → Int32} {zf : Value} {D : dD} {w k : Nat} (hD : dO L xs zf D k) (hz : zf.category = 1) (As : List Value) (h : rm_H) (r : dR) (hh : f100 L xs zf D w As h = some r) : dq L xs zf ah_M100 0 (lv_args 0 As) [] h (k + 1) r := by
  unfold f100 at hh
  split at hh
  · obtain ⟨o0, e0, hb0⟩ := db hh
    have e0 := rm_rf_v _ _ e0
    subst e0
    refine c100_0 hD hz _ _ _ _ _ _ ?_ ?_ ?_ hb0
    all_goals (simp only [la_r, la_i, la_j]; rfl)
  · cases hh
def b101_0 (L : Nat) (xs : Nat → Int32) (zf : Value) (D : dD) (w : Nat) (o0 : Option Nat) (h : rm_H) : Option dR :=
  (dgI L xs h 1 [5] o0).bind fun x1 =>
  drI (some .int) x1 h
theorem c101_0 {L : Nat} {xs : Nat → Int32} {zf : Value} {D : dD} {w k : Nat} (hD : dO L xs zf D k) (hz : zf.category = 1) : ∀ (o0 : Option Nat) (lv : rm_L) (h : rm_H) (r : dR), rm_get lv 0 = some (va_rf o0) → b101_0 L xs zf D w  o0 h = some r → dq L xs zf ah_M101 0 lv [] h (k + 1) r := by
  intro o0 lv h r G0 hh
  unfold b101_0 at hh
  refine dq_aln 0 1 (by decide +kernel) rfl G0 ?_
  obtain ⟨x1, q2, hh⟩ := db hh
  refine dq_gI 48 1 [5] 4 (by decide +kernel) rfl q2 ?_
  exact dq_retI (some .int) (by decide +kernel) rfl hh
def f101 (L : Nat) (xs : Nat → Int32) (zf : Value) (D : dD) (w : Nat) (As : List Value) (h : rm_H) : Option dR := match As with
  | [v0] => (rm_rf v0).bind fun o0 => b101_0 L xs zf D w o0 h
  | _ => none
theorem d101 {L : Nat} {xs : Nat → Int32} {zf : Value} {D : dD} {w k : Nat} (hD : dO L xs zf D k) (hz : zf.category = 1) (As : List Value) (h : rm_H) (r : dR) (hh : f101 L xs zf D w As h = some r) : dq L xs zf ah_M101 0 (lv_args 0 As) [] h (k + 1) r := by
  unfold f101 at hh
  split at hh
  · obtain ⟨o0, e0, hb0⟩ := db hh
    have e0 := rm_rf_v _ _ e0
    subst e0
    refine c101_0 hD hz _ _ _ _ ?_ hb0
    all_goals (simp only [la_r, la_i, la_j]; rfl)
  · cases hh
def b102_0 (L : Nat) (xs : Nat → Int32) (zf : Value) (D : dD) (w : Nat) (o0 : Option Nat) (o1 : Option Nat) (i2 : Int32) (i3 : Int32) (i4 : Int32) (h : rm_H) : Option dR :=
  if dnl o0 = true then none else
  (dpF h 0 [9] o0 (va_rf o1)).bind fun h2 =>
  (dpF h2 1 [9] o0 (.int i2)).bind fun h4 =>
  (dpF h4 2 [9] o0 (.int i3)).bind fun h6 =>
  (dpF h6 3 [9] o0 (.int i4)).bind fun h8 =>
  (some (h8 ++ [.inr (5, ah_DV 5)])).bind fun h10 =>
  ((dcN D 45 (some (21 + List.length h8)) [] h10).bind dxV).bind fun h12 =>
  (dpF h12 4 [9] o0 (va_rf (some (21 + List.length h8)))).bind fun h16 =>
  (some (h16 ++ [.inr (5, ah_DV 5)])).bind fun h18 =>
  ((dcN D 45 (some (21 + List.length h16)) [] h18).bind dxV).bind fun h20 =>
  (dpF h20 5 [9] o0 (va_rf (some (21 + List.length h16)))).bind fun h24 =>
  (dpF h24 6 [9] o0 (va_rf none)).bind fun h26 =>
  some (none, h26)
theorem c102_0 {L : Nat} {xs : Nat → Int32} {zf : Value} {D : dD} {w k : Nat} (hD : dO L xs zf D k) (hz : zf.category = 1) : ∀ (o0 : Option Nat) (o1 : Option Nat) (i2 : Int32) (i3 : Int32) (i4 : Int32) (lv : rm_L) (h : rm_H) (r : dR), rm_get lv 0 = some (va_rf o0) → rm_get lv 1 = some (va_rf o1) → rm_get lv 2 = some (.int i2) → rm_get lv 3 = some (.int i3) → rm_get lv 4 = some (.int i4) → b102_0 L xs zf D w  o0 o1 i2 i3 i4 h = some r → dq L xs zf ah_M102 0 lv [] h (k + 1) r := by
  intro o0 o1 i2 i3 i4 lv h r G0 G1 G2 G3 G4 hh
  unfold b102_0 at hh
  refine dq_aln 0 1 (by decide +kernel) rfl G0 ?_
  rcases di hh with ⟨_, hh⟩ | ⟨q1, hh⟩
  · cases hh
  refine dq_obj 1 4 (by decide +kernel) (dc_s dc_n (by decide +kernel)) rfl q1 ?_
  refine dq_aln 0 5 (by decide +kernel) rfl G0 ?_
  refine dq_aln 1 6 (by decide +kernel) rfl G1 ?_
  obtain ⟨h2, q3, hh⟩ := db hh
  refine dq_put 7 0 [9] 9 (by decide +kernel) rfl q3 ?_
  refine dq_aln 0 10 (by decide +kernel) rfl G0 ?_
  refine dq_iln 2 11 (by decide +kernel) rfl G2 ?_
  obtain ⟨h4, q5, hh⟩ := db hh
  refine dq_put 13 1 [9] 14 (by decide +kernel) rfl q5 ?_
  refine dq_aln 0 15 (by decide +kernel) rfl G0 ?_
  refine dq_iln 3 16 (by decide +kernel) rfl G3 ?_
  obtain ⟨h6, q7, hh⟩ := db hh
  refine dq_put 17 2 [9] 19 (by decide +kernel) rfl q7 ?_
  refine dq_aln 0 20 (by decide +kernel) rfl G0 ?_
  refine dq_il 4 22 (by decide +kernel) rfl G4 ?_
  obtain ⟨h8, q9, hh⟩ := db hh
  refine dq_put 21 3 [9] 25 (by decide +kernel) rfl q9 ?_
  refine dq_aln 0 26 (by decide +kernel) rfl G0 ?_
  obtain ⟨h10, q11, hh⟩ := db hh
  refine dq_new 24 5 29 (by decide +kernel) rfl ?_
  rw [Option.some.inj q11]
  refine dq_dup 30 (by decide +kernel) rfl ?_
  obtain ⟨h12, q13, hh⟩ := db hh
  obtain ⟨a14, q15, q13⟩ := db q13
  rw [dq_xV q13] at q15
  refine dq_csp hD 26 45 0 [] (some (21 + List.length h8)) [] [va_rf (some (21 + List.length h8)), va_rf o0] 33 [va_rf (some (21 + List.length h8)), va_rf o0] (by decide +kernel) ap_45 ⟨Nat.le_of_ble_eq_true rfl, rfl, rfl⟩ (dq_ok8 [1] [1, 1] (dc_r dc_n) (dc_r (dc_r dc_n)) (by decide +kernel)) (by decide +kernel) rfl q15 rfl ?_
  obtain ⟨h16, q17, hh⟩ := db hh
  refine dq_put 27 4 [9] 36 (by decide +kernel) rfl q17 ?_
  refine dq_aln 0 37 (by decide +kernel) rfl G0 ?_
  obtain ⟨h18, q19, hh⟩ := db hh
  refine dq_new 24 5 40 (by decide +kernel) rfl ?_
  rw [Option.some.inj q19]
  refine dq_dup 41 (by decide +kernel) rfl ?_
  obtain ⟨h20, q21, hh⟩ := db hh
  obtain ⟨a22, q23, q21⟩ := db q21
  rw [dq_xV q21] at q23
  refine dq_csp hD 26 45 0 [] (some (21 + List.length h16)) [] [va_rf (some (21 + List.length h16)), va_rf o0] 44 [va_rf (some (21 + List.length h16)), va_rf o0] (by decide +kernel) ap_45 ⟨Nat.le_of_ble_eq_true rfl, rfl, rfl⟩ (dq_ok8 [1] [1, 1] (dc_r dc_n) (dc_r (dc_r dc_n)) (by decide +kernel)) (by decide +kernel) rfl q23 rfl ?_
  obtain ⟨h24, q25, hh⟩ := db hh
  refine dq_put 31 5 [9] 47 (by decide +kernel) rfl q25 ?_
  refine dq_aln 0 48 (by decide +kernel) rfl G0 ?_
  refine dq_S (.aconst_null) 1 [] 49 _ [va_rf none, va_rf o0] (by decide +kernel) rfl ?_
  obtain ⟨h26, q27, hh⟩ := db hh
  refine dq_put 34 6 [9] 52 (by decide +kernel) rfl q27 ?_
  cases hh
  exact dq_ret0 (by decide +kernel) rfl
def f102 (L : Nat) (xs : Nat → Int32) (zf : Value) (D : dD) (w : Nat) (As : List Value) (h : rm_H) : Option dR := match As with
  | [v0, v1, .int i2, .int i3, .int i4] => (rm_rf v0).bind fun o0 => (rm_rf v1).bind fun o1 => b102_0 L xs zf D w o0 o1 i2 i3 i4 h
  | _ => none
theorem d102 {L : Nat} {xs : Nat → Int32} {zf : Value} {D : dD} {w k : Nat} (hD : dO L xs zf D k) (hz : zf.category = 1) (As : List Value) (h : rm_H) (r : dR) (hh : f102 L xs zf D w As h = some r) : dq L xs zf ah_M102 0 (lv_args 0 As) [] h (k + 1) r := by
  unfold f102 at hh
  split at hh
  · obtain ⟨o0, e0, hb0⟩ := db hh
    have e0 := rm_rf_v _ _ e0
    obtain ⟨o1, e1, hb1⟩ := db hb0
    have e1 := rm_rf_v _ _ e1
    subst e0 e1
    refine c102_0 hD hz _ _ _ _ _ _ _ _ ?_ ?_ ?_ ?_ ?_ hb1
    all_goals (simp only [la_r, la_i, la_j]; rfl)
  · cases hh
def b103_0 (L : Nat) (xs : Nat → Int32) (zf : Value) (D : dD) (w : Nat) (o0 : Option Nat) (o1 : Option Nat) (h : rm_H) : Option dR :=
  (dgI L xs h 2 [5] o0).bind fun x1 =>
  (dpF h 2 [5] o0 (.int (x1 + 1))).bind fun h3 =>
  (dgR L xs h3 0 [5] o0).bind fun p5 =>
  (dgI L xs h3 1 [5] o0).bind fun x7 =>
  ((dcV L xs D 104 [5] o0 [va_rf o1, va_rf p5, .int x7] h3).bind dxV).bind fun h9 =>
  drI (some .boolean) 1 h9
theorem c103_0 {L : Nat} {xs : Nat → Int32} {zf : Value} {D : dD} {w k : Nat} (hD : dO L xs zf D k) (hz : zf.category = 1) : ∀ (o0 : Option Nat) (o1 : Option Nat) (lv : rm_L) (h : rm_H) (r : dR), rm_get lv 0 = some (va_rf o0) → rm_get lv 1 = some (va_rf o1) → b103_0 L xs zf D w  o0 o1 h = some r → dq L xs zf ah_M103 0 lv [] h (k + 1) r := by
  intro o0 o1 lv h r G0 G1 hh
  unfold b103_0 at hh
  refine dq_aln 0 1 (by decide +kernel) rfl G0 ?_
  refine dq_dup 2 (by decide +kernel) rfl ?_
  obtain ⟨x1, q2, hh⟩ := db hh
  refine dq_gI 63 2 [5] 5 (by decide +kernel) rfl q2 ?_
  refine dq_S (.iconst 1) 1 [] 6 _ [.int 1, .int x1, va_rf o0] (by decide +kernel) rfl ?_
  refine dq_S (.iadd) 1 [] 7 _ [.int (x1 + 1), va_rf o0] (by decide +kernel) rfl ?_
  obtain ⟨h3, q4, hh⟩ := db hh
  refine dq_put 63 2 [5] 10 (by decide +kernel) rfl q4 ?_
  refine dq_aln 0 11 (by decide +kernel) rfl G0 ?_
  refine dq_aln 1 12 (by decide +kernel) rfl G1 ?_
  refine dq_aln 0 13 (by decide +kernel) rfl G0 ?_
  obtain ⟨p5, q6, hh⟩ := db hh
  refine dq_gR 9 0 [5] 16 (by decide +kernel) rfl q6 ?_
  refine dq_aln 0 17 (by decide +kernel) rfl G0 ?_
  obtain ⟨x7, q8, hh⟩ := db hh
  refine dq_gI 48 1 [5] 20 (by decide +kernel) rfl q8 ?_
  obtain ⟨h9, q10, hh⟩ := db hh
  obtain ⟨a11, q12, q10⟩ := db q10
  rw [dq_xV q10] at q12
  refine dq_cvi hD 131 104 5 3 [5] o0 [va_rf o1, va_rf p5, .int x7] [] 23 [] (by decide +kernel) ap_104 ⟨⟨Nat.le_of_ble_eq_true rfl, by decide⟩, rfl, rfl⟩ (dq_ok8 [1, 1, 1, 1] [] (dc_r (dc_r (dc_r (dc_i dc_n)))) dc_n (by decide +kernel)) (by decide +kernel) rfl q12 rfl ?_
  refine dq_S (.iconst 1) 1 [] 24 _ [.int 1] (by decide +kernel) rfl ?_
  exact dq_retI (some .boolean) (by decide +kernel) rfl hh
def f103 (L : Nat) (xs : Nat → Int32) (zf : Value) (D : dD) (w : Nat) (As : List Value) (h : rm_H) : Option dR := match As with
  | [v0, v1] => (rm_rf v0).bind fun o0 => (rm_rf v1).bind fun o1 => b103_0 L xs zf D w o0 o1 h
  | _ => none
theorem d103 {L : Nat} {xs : Nat → Int32} {zf : Value} {D : dD} {w k : Nat} (hD : dO L xs zf D k) (hz : zf.category = 1) (As : List Value) (h : rm_H) (r : dR) (hh : f103 L xs zf D w As h = some r) : dq L xs zf ah_M103 0 (lv_args 0 As) [] h (k + 1) r := by
  unfold f103 at hh
  split at hh
  · obtain ⟨o0, e0, hb0⟩ := db hh
    have e0 := rm_rf_v _ _ e0
    obtain ⟨o1, e1, hb1⟩ := db hb0
    have e1 := rm_rf_v _ _ e1
    subst e0 e1
    refine c103_0 hD hz _ _ _ _ _ ?_ ?_ hb1
    all_goals (simp only [la_r, la_i, la_j]; rfl)
  · cases hh
def b104_11 (L : Nat) (xs : Nat → Int32) (zf : Value) (D : dD) (w : Nat) (o0 : Option Nat) (o1 : Option Nat) (o2 : Option Nat) (i3 : Int32) (h : rm_H) : Option dR :=
  (dsR L xs h o2 i3 o1).bind fun h1 =>
  (dpF h1 1 [5] o0 (.int (i3 + 1))).bind fun h3 =>
  some (none, h3)
theorem c104_11 {L : Nat} {xs : Nat → Int32} {zf : Value} {D : dD} {w k : Nat} (hD : dO L xs zf D k) (hz : zf.category = 1) : ∀ (o0 : Option Nat) (o1 : Option Nat) (o2 : Option Nat) (i3 : Int32) (lv : rm_L) (h : rm_H) (r : dR), rm_get lv 0 = some (va_rf o0) → rm_get lv 1 = some (va_rf o1) → rm_get lv 2 = some (va_rf o2) → rm_get lv 3 = some (.int i3) → b104_11 L xs zf D w  o0 o1 o2 i3 h = some r → dq L xs zf ah_M104 11 lv [] h (k + 1) r := by
  intro o0 o1 o2 i3 lv h r G0 G1 G2 G3 hh
  unfold b104_11 at hh
  refine dq_aln 2 12 (by decide +kernel) rfl G2 ?_
  refine dq_iln 3 13 (by decide +kernel) rfl G3 ?_
  refine dq_aln 1 14 (by decide +kernel) rfl G1 ?_
  obtain ⟨h1, q2, hh⟩ := db hh
  refine dq_sR 15 (by decide +kernel) rfl q2 ?_
  refine dq_aln 0 16 (by decide +kernel) rfl G0 ?_
  refine dq_iln 3 17 (by decide +kernel) rfl G3 ?_
  refine dq_S (.iconst 1) 1 [] 18 _ [.int 1, .int i3, va_rf o0] (by decide +kernel) rfl ?_
  refine dq_S (.iadd) 1 [] 19 _ [.int (i3 + 1), va_rf o0] (by decide +kernel) rfl ?_
  obtain ⟨h3, q4, hh⟩ := db hh
  refine dq_put 48 1 [5] 22 (by decide +kernel) rfl q4 ?_
  cases hh
  exact dq_ret0 (by decide +kernel) rfl
def b104_0 (L : Nat) (xs : Nat → Int32) (zf : Value) (D : dD) (w : Nat) (o0 : Option Nat) (o1 : Option Nat) (o2 : Option Nat) (i3 : Int32) (h : rm_H) : Option dR :=
  (daN L xs h o2).bind fun x1 =>
  if mx_f2 .ne i3 x1 = true then
    b104_11 L xs zf D w o0 o1 o2 i3 h
  else
    ((dcV L xs D 105 [5] o0 [] h).bind dxR).bind fun p4 =>
    b104_11 L xs zf D w o0 o1 p4.1 i3 p4.2
theorem c104_0 {L : Nat} {xs : Nat → Int32} {zf : Value} {D : dD} {w k : Nat} (hD : dO L xs zf D k) (hz : zf.category = 1) : ∀ (o0 : Option Nat) (o1 : Option Nat) (o2 : Option Nat) (i3 : Int32) (lv : rm_L) (h : rm_H) (r : dR), rm_get lv 0 = some (va_rf o0) → rm_get lv 1 = some (va_rf o1) → rm_get lv 2 = some (va_rf o2) → rm_get lv 3 = some (.int i3) → b104_0 L xs zf D w  o0 o1 o2 i3 h = some r → dq L xs zf ah_M104 0 lv [] h (k + 1) r := by
  intro o0 o1 o2 i3 lv h r G0 G1 G2 G3 hh
  unfold b104_0 at hh
  refine dq_iln 3 1 (by decide +kernel) rfl G3 ?_
  refine dq_aln 2 2 (by decide +kernel) rfl G2 ?_
  obtain ⟨x1, q2, hh⟩ := db hh
  refine dq_aN 3 (by decide +kernel) rfl q2 ?_
  rcases di hh with ⟨q3, hh⟩ | ⟨q3, hh⟩
  · refine dq_2 .ne 8 true 11 q3 (by decide +kernel) ?_
    exact c104_11 hD hz _ _ _ _ _ _ _ G0 G1 G2 G3 hh
  · refine dq_2 .ne 8 false 6 q3 (by decide +kernel) ?_
    refine dq_aln 0 7 (by decide +kernel) rfl G0 ?_
    obtain ⟨p4, q5, hh⟩ := db hh
    obtain ⟨a6, q7, q5⟩ := db q5
    rw [dq_xR q5] at q7
    refine dq_cvi hD 129 105 5 0 [5] o0 [] [] 10 [va_rf p4.1] (by decide +kernel) ap_105 ⟨⟨Nat.le_of_ble_eq_true rfl, by decide⟩, rfl, rfl⟩ (dq_ok8 [1] [] (dc_r dc_n) dc_n (by decide +kernel)) (by decide +kernel) rfl q7 rfl ?_
    refine dq_asn 2 11 (by decide +kernel) (by decide +kernel) ?_
    have g8 := dg_ne (i := 2) (u := va_rf p4.1) (by decide) (Or.inl (by decide)) G0
    have g9 := dg_ne (i := 2) (u := va_rf p4.1) (by decide) (Or.inr (drc _)) G1
    have g10 := dg_ne (i := 2) (u := va_rf p4.1) (by decide) (Or.inl (by decide)) G3
    have g11 := dg_eq (lv) 2 (va_rf p4.1)
    exact c104_11 hD hz _ _ _ _ _ _ _ g8 g9 g11 g10 hh
def f104 (L : Nat) (xs : Nat → Int32) (zf : Value) (D : dD) (w : Nat) (As : List Value) (h : rm_H) : Option dR := match As with
  | [v0, v1, v2, .int i3] => (rm_rf v0).bind fun o0 => (rm_rf v1).bind fun o1 => (rm_rf v2).bind fun o2 => b104_0 L xs zf D w o0 o1 o2 i3 h
  | _ => none
theorem d104 {L : Nat} {xs : Nat → Int32} {zf : Value} {D : dD} {w k : Nat} (hD : dO L xs zf D k) (hz : zf.category = 1) (As : List Value) (h : rm_H) (r : dR) (hh : f104 L xs zf D w As h = some r) : dq L xs zf ah_M104 0 (lv_args 0 As) [] h (k + 1) r := by
  unfold f104 at hh
  split at hh
  · obtain ⟨o0, e0, hb0⟩ := db hh
    have e0 := rm_rf_v _ _ e0
    obtain ⟨o1, e1, hb1⟩ := db hb0
    have e1 := rm_rf_v _ _ e1
    obtain ⟨o2, e2, hb2⟩ := db hb1
    have e2 := rm_rf_v _ _ e2
    subst e0 e1 e2
    refine c104_0 hD hz _ _ _ _ _ _ _ ?_ ?_ ?_ ?_ hb2
    all_goals (simp only [la_r, la_i, la_j]; rfl)
  · cases hh
def b105_0 (L : Nat) (xs : Nat → Int32) (zf : Value) (D : dD) (w : Nat) (o0 : Option Nat) (h : rm_H) : Option dR :=
  (dgI L xs h 1 [5] o0).bind fun x1 =>
  ((dcV L xs D 106 [5] o0 [.int (x1 + 1)] h).bind dxR).bind fun p3 =>
  some (some (va_rf p3.1), p3.2)
theorem c105_0 {L : Nat} {xs : Nat → Int32} {zf : Value} {D : dD} {w k : Nat} (hD : dO L xs zf D k) (hz : zf.category = 1) : ∀ (o0 : Option Nat) (lv : rm_L) (h : rm_H) (r : dR), rm_get lv 0 = some (va_rf o0) → b105_0 L xs zf D w  o0 h = some r → dq L xs zf ah_M105 0 lv [] h (k + 1) r := by
  intro o0 lv h r G0 hh
  unfold b105_0 at hh
  refine dq_aln 0 1 (by decide +kernel) rfl G0 ?_
  refine dq_aln 0 2 (by decide +kernel) rfl G0 ?_
  obtain ⟨x1, q2, hh⟩ := db hh
  refine dq_gI 48 1 [5] 5 (by decide +kernel) rfl q2 ?_
  refine dq_S (.iconst 1) 1 [] 6 _ [.int 1, .int x1, va_rf o0] (by decide +kernel) rfl ?_
  refine dq_S (.iadd) 1 [] 7 _ [.int (x1 + 1), va_rf o0] (by decide +kernel) rfl ?_
  obtain ⟨p3, q4, hh⟩ := db hh
  obtain ⟨a5, q6, q4⟩ := db q4
  rw [dq_xR q4] at q6
  refine dq_cvi hD 69 106 5 1 [5] o0 [.int (x1 + 1)] [] 10 [va_rf p3.1] (by decide +kernel) ap_106 ⟨⟨Nat.le_of_ble_eq_true rfl, by decide⟩, rfl, rfl⟩ (dq_ok8 [1, 1] [] (dc_r (dc_i dc_n)) dc_n (by decide +kernel)) (by decide +kernel) rfl q6 rfl ?_
  cases hh
  exact dq_retR (by decide +kernel) rfl
def f105 (L : Nat) (xs : Nat → Int32) (zf : Value) (D : dD) (w : Nat) (As : List Value) (h : rm_H) : Option dR := match As with
  | [v0] => (rm_rf v0).bind fun o0 => b105_0 L xs zf D w o0 h
  | _ => none
theorem d105 {L : Nat} {xs : Nat → Int32} {zf : Value} {D : dD} {w k : Nat} (hD : dO L xs zf D k) (hz : zf.category = 1) (As : List Value) (h : rm_H) (r : dR) (hh : f105 L xs zf D w As h = some r) : dq L xs zf ah_M105 0 (lv_args 0 As) [] h (k + 1) r := by
  unfold f105 at hh
  split at hh
  · obtain ⟨o0, e0, hb0⟩ := db hh
    have e0 := rm_rf_v _ _ e0
    subst e0
    refine c105_0 hD hz _ _ _ _ ?_ hb0
    all_goals (simp only [la_r, la_i, la_j]; rfl)
  · cases hh
def b107_0 (L : Nat) (xs : Nat → Int32) (zf : Value) (D : dD) (w : Nat) (h : rm_H) : Option dR :=
  none
theorem c107_0 {L : Nat} {xs : Nat → Int32} {zf : Value} {D : dD} {w k : Nat} (hD : dO L xs zf D k) (hz : zf.category = 1) : ∀ (lv : rm_L) (h : rm_H) (r : dR), b107_0 L xs zf D w  h = some r → dq L xs zf ah_M107 0 lv [] h (k + 1) r := by
  intro lv h r hh
  unfold b107_0 at hh
  cases hh
def f107 (L : Nat) (xs : Nat → Int32) (zf : Value) (D : dD) (w : Nat) (As : List Value) (h : rm_H) : Option dR := match As with
  | [u0, .int u1] => b107_0 L xs zf D w h
  | _ => none
theorem d107 {L : Nat} {xs : Nat → Int32} {zf : Value} {D : dD} {w k : Nat} (hD : dO L xs zf D k) (hz : zf.category = 1) (As : List Value) (h : rm_H) (r : dR) (hh : f107 L xs zf D w As h = some r) : dq L xs zf ah_M107 0 (lv_args 0 As) [] h (k + 1) r := by
  unfold f107 at hh
  split at hh
  · refine c107_0 hD hz  _ _ _  hh
  · cases hh
def b108_0 (L : Nat) (xs : Nat → Int32) (zf : Value) (D : dD) (w : Nat) (h : rm_H) : Option dR :=
  none
theorem c108_0 {L : Nat} {xs : Nat → Int32} {zf : Value} {D : dD} {w k : Nat} (hD : dO L xs zf D k) (hz : zf.category = 1) : ∀ (lv : rm_L) (h : rm_H) (r : dR), b108_0 L xs zf D w  h = some r → dq L xs zf ah_M108 0 lv [] h (k + 1) r := by
  intro lv h r hh
  unfold b108_0 at hh
  cases hh
def f108 (L : Nat) (xs : Nat → Int32) (zf : Value) (D : dD) (w : Nat) (As : List Value) (h : rm_H) : Option dR := match As with
  | [u0, .int u1, u2] => b108_0 L xs zf D w h
  | _ => none
theorem d108 {L : Nat} {xs : Nat → Int32} {zf : Value} {D : dD} {w k : Nat} (hD : dO L xs zf D k) (hz : zf.category = 1) (As : List Value) (h : rm_H) (r : dR) (hh : f108 L xs zf D w As h = some r) : dq L xs zf ah_M108 0 (lv_args 0 As) [] h (k + 1) r := by
  unfold f108 at hh
  split at hh
  · refine c108_0 hD hz  _ _ _  hh
  · cases hh
def b109_28 (L : Nat) (xs : Nat → Int32) (zf : Value) (D : dD) (w : Nat) (h : rm_H) : Option dR :=
  some (none, h)
theorem c109_28 {L : Nat} {xs : Nat → Int32} {zf : Value} {D : dD} {w k : Nat} (hD : dO L xs zf D k) (hz : zf.category = 1) : ∀ (lv : rm_L) (h : rm_H) (r : dR), b109_28 L xs zf D w  h = some r → dq L xs zf ah_M109 28 lv [] h (k + 1) r := by
  intro lv h r hh
  unfold b109_28 at hh
  cases hh
  exact dq_ret0 (by decide +kernel) rfl
def b109_0 (L : Nat) (xs : Nat → Int32) (zf : Value) (D : dD) (w : Nat) (o0 : Option Nat) (i1 : Int32) (h : rm_H) : Option dR :=
  (dgR L xs h 0 [8] o0).bind fun p1 =>
  (dgI L xs h 6 [6] p1).bind fun x3 =>
  if mx_f2 .ne x3 i1 = true then
    (dgR L xs h 0 [8] o0).bind fun p6 =>
    ((dcV L xs D 95 [6] p6 [] h).bind dxV).bind fun h8 =>
    b109_28 L xs zf D w h8
  else
    (dgR L xs h 0 [8] o0).bind fun p12 =>
    ((dcV L xs D 92 [6] p12 [] h).bind dxV).bind fun h14 =>
    b109_28 L xs zf D w h14
theorem c109_0 {L : Nat} {xs : Nat → Int32} {zf : Value} {D : dD} {w k : Nat} (hD : dO L xs zf D k) (hz : zf.category = 1) : ∀ (o0 : Option Nat) (i1 : Int32) (lv : rm_L) (h : rm_H) (r : dR), rm_get lv 0 = some (va_rf o0) → rm_get lv 1 = some (.int i1) → b109_0 L xs zf D w  o0 i1 h = some r → dq L xs zf ah_M109 0 lv [] h (k + 1) r := by
  intro o0 i1 lv h r G0 G1 hh
  unfold b109_0 at hh
  refine dq_aln 0 1 (by decide +kernel) rfl G0 ?_
  obtain ⟨p1, q2, hh⟩ := db hh
  refine dq_gR 9 0 [8] 4 (by decide +kernel) rfl q2 ?_
  obtain ⟨x3, q4, hh⟩ := db hh
  refine dq_gI 24 6 [6] 7 (by decide +kernel) rfl q4 ?_
  refine dq_iln 1 8 (by decide +kernel) rfl G1 ?_
  rcases di hh with ⟨q5, hh⟩ | ⟨q5, hh⟩
  · refine dq_2 .ne 13 true 21 q5 (by decide +kernel) ?_
    refine dq_aln 0 22 (by decide +kernel) rfl G0 ?_
    obtain ⟨p6, q7, hh⟩ := db hh
    refine dq_gR 9 0 [8] 25 (by decide +kernel) rfl q7 ?_
    obtain ⟨h8, q9, hh⟩ := db hh
    obtain ⟨a10, q11, q9⟩ := db q9
    rw [dq_xV q9] at q11
    refine dq_cvi hD 46 95 5 0 [6] p6 [] [] 28 [] (by decide +kernel) ap_95 ⟨⟨Nat.le_of_ble_eq_true rfl, by decide⟩, rfl, rfl⟩ (dq_ok8 [1] [] (dc_r dc_n) dc_n (by decide +kernel)) (by decide +kernel) rfl q11 rfl ?_
    exact c109_28 hD hz  _ _ _  hh
  · refine dq_2 .ne 13 false 11 q5 (by decide +kernel) ?_
    refine dq_aln 0 12 (by decide +kernel) rfl G0 ?_
    obtain ⟨p12, q13, hh⟩ := db hh
    refine dq_gR 9 0 [8] 15 (by decide +kernel) rfl q13 ?_
    obtain ⟨h14, q15, hh⟩ := db hh
    obtain ⟨a16, q17, q15⟩ := db q15
    rw [dq_xV q15] at q17
    refine dq_cvi hD 19 92 5 0 [6] p12 [] [] 18 [] (by decide +kernel) ap_92 ⟨⟨Nat.le_of_ble_eq_true rfl, by decide⟩, rfl, rfl⟩ (dq_ok8 [1] [] (dc_r dc_n) dc_n (by decide +kernel)) (by decide +kernel) rfl q17 rfl ?_
    refine dq_S (.goto 10) 3 [] 28 _ [] (by decide +kernel) rfl ?_
    exact c109_28 hD hz  _ _ _  hh
def f109 (L : Nat) (xs : Nat → Int32) (zf : Value) (D : dD) (w : Nat) (As : List Value) (h : rm_H) : Option dR := match As with
  | [v0, .int i1] => (rm_rf v0).bind fun o0 => b109_0 L xs zf D w o0 i1 h
  | _ => none
theorem d109 {L : Nat} {xs : Nat → Int32} {zf : Value} {D : dD} {w k : Nat} (hD : dO L xs zf D k) (hz : zf.category = 1) (As : List Value) (h : rm_H) (r : dR) (hh : f109 L xs zf D w As h = some r) : dq L xs zf ah_M109 0 (lv_args 0 As) [] h (k + 1) r := by
  unfold f109 at hh
  split at hh
  · obtain ⟨o0, e0, hb0⟩ := db hh
    have e0 := rm_rf_v _ _ e0
    subst e0
    refine c109_0 hD hz _ _ _ _ _ ?_ ?_ hb0
    all_goals (simp only [la_r, la_i, la_j]; rfl)
  · cases hh
def b110_70 (L : Nat) (xs : Nat → Int32) (zf : Value) (D : dD) (w : Nat) (K2 : Option Nat → Option Nat → Int32 → rm_H → Option dR) (o0 : Option Nat) (o1 : Option Nat) (i2 : Int32) (h : rm_H) : Option dR :=
  K2 o0 o1 (i2 + 1) h
theorem c110_70 {L : Nat} {xs : Nat → Int32} {zf : Value} {D : dD} {w k : Nat} {K2 : Option Nat → Option Nat → Int32 → rm_H → Option dR} (hD : dO L xs zf D k) (hz : zf.category = 1) (hK2 : ∀ (o0 : Option Nat) (o1 : Option Nat) (i2 : Int32) (lv : rm_L) (h : rm_H) (r : dR), rm_get lv 0 = some (va_rf o0) → rm_get lv 1 = some (va_rf o1) → rm_get lv 2 = some (.int i2) → K2 o0 o1 i2 h = some r → dq L xs zf ah_M110 2 lv [] h (k + 1) r) : ∀ (o0 : Option Nat) (o1 : Option Nat) (i2 : Int32) (lv : rm_L) (h : rm_H) (r : dR), rm_get lv 0 = some (va_rf o0) → rm_get lv 1 = some (va_rf o1) → rm_get lv 2 = some (.int i2) → b110_70 L xs zf D w K2  o0 o1 i2 h = some r → dq L xs zf ah_M110 70 lv [] h (k + 1) r := by
  intro o0 o1 i2 lv h r G0 G1 G2 hh
  unfold b110_70 at hh
  refine dq_incy 2 1 1 73 (by decide +kernel) ⟨rfl, by decide +kernel, by decide +kernel⟩ G2 ?_
  have g1 := dg_ne (i := 2) (u := .int (i2 + 1)) (by decide) (Or.inl (by decide)) G0
  have g2 := dg_ne (i := 2) (u := .int (i2 + 1)) (by decide) (Or.inr (drc _)) G1
  have g3 := dg_eq (lv) 2 (.int (i2 + 1))
  refine dq_S (.goto (-71)) 3 [] 2 _ [] (by decide +kernel) rfl ?_
  exact hK2 _ _ _ _ _ _ g1 g2 g3 hh
def b110_76 (L : Nat) (xs : Nat → Int32) (zf : Value) (D : dD) (w : Nat) (h : rm_H) : Option dR :=
  some (none, h)
theorem c110_76 {L : Nat} {xs : Nat → Int32} {zf : Value} {D : dD} {w k : Nat} (hD : dO L xs zf D k) (hz : zf.category = 1) : ∀ (lv : rm_L) (h : rm_H) (r : dR), b110_76 L xs zf D w  h = some r → dq L xs zf ah_M110 76 lv [] h (k + 1) r := by
  intro lv h r hh
  unfold b110_76 at hh
  cases hh
  exact dq_ret0 (by decide +kernel) rfl
def b110_2 (L : Nat) (xs : Nat → Int32) (zf : Value) (D : dD) (w : Nat) : Nat → Option Nat → Option Nat → Int32 → rm_H → Option dR
  | 0, _, _, _, _ => none
  | n + 1, o0, o1, i2, h =>
    if mx_f2 .gt i2 8 = true then
      b110_76 L xs zf D w h
    else
      (dgR L xs h 0 [8] o0).bind fun p2 =>
      (dgI L xs h 6 [6] p2).bind fun x4 =>
      if mx_f2 .ne x4 25 = true then
        b110_76 L xs zf D w h
      else
        if mx_f2 .ne i2 8 = true then
          (dgR L xs h 0 [8] o0).bind fun p8 =>
          ((dcV L xs D 92 [6] p8 [] h).bind dxV).bind fun h10 =>
          ((dcV L xs D 111 [8] o0 [] h10).bind dxR).bind fun p14 =>
          (dpF p14.2 8 [10] p14.1 (.int i2)).bind fun h22 =>
          (dgR L xs h22 4 [9] o1).bind fun p24 =>
          ((dcV L xs D 103 [5] p24 [va_rf p14.1] h22).bind dxI).bind fun x26 =>
          ((dcV L xs D 109 [8] o0 [.int 9] x26.2).bind dxV).bind fun h30 =>
          b110_70 L xs zf D w (b110_2 L xs zf D w n) o0 o1 i2 h30
        else
          (dgR L xs h 0 [8] o0).bind fun p34 =>
          ((dcV L xs D 95 [6] p34 [] h).bind dxV).bind fun h36 =>
          b110_70 L xs zf D w (b110_2 L xs zf D w n) o0 o1 i2 h36
theorem c110_2 {L : Nat} {xs : Nat → Int32} {zf : Value} {D : dD} {w k : Nat} (hD : dO L xs zf D k) (hz : zf.category = 1) : ∀ (n : Nat) (o0 : Option Nat) (o1 : Option Nat) (i2 : Int32) (lv : rm_L) (h : rm_H) (r : dR), rm_get lv 0 = some (va_rf o0) → rm_get lv 1 = some (va_rf o1) → rm_get lv 2 = some (.int i2) → b110_2 L xs zf D w n  o0 o1 i2 h = some r → dq L xs zf ah_M110 2 lv [] h (k + 1) r := by
  intro n
  induction n with
  | zero =>
    intro o0 o1 i2 lv h r G0 G1 G2 hh
    cases hh
  | succ n ih =>
    intro o0 o1 i2 lv h r G0 G1 G2 hh
    rw [b110_2] at hh
    refine dq_iln 2 3 (by decide +kernel) rfl G2 ?_
    refine dq_S (.bipush 8) 2 [] 5 _ [.int 8, .int i2] (by decide +kernel) rfl ?_
    rcases di hh with ⟨q1, hh⟩ | ⟨q1, hh⟩
    · refine dq_2 .gt 71 true 76 q1 (by decide +kernel) ?_
      exact c110_76 hD hz  _ _ _  hh
    · refine dq_2 .gt 71 false 8 q1 (by decide +kernel) ?_
      refine dq_aln 0 9 (by decide +kernel) rfl G0 ?_
      obtain ⟨p2, q3, hh⟩ := db hh
      refine dq_gR 9 0 [8] 12 (by decide +kernel) rfl q3 ?_
      obtain ⟨x4, q5, hh⟩ := db hh
      refine dq_gI 24 6 [6] 15 (by decide +kernel) rfl q5 ?_
      refine dq_S (.bipush 25) 2 [] 17 _ [.int 25, .int x4] (by decide +kernel) rfl ?_
      rcases di hh with ⟨q6, hh⟩ | ⟨q6, hh⟩
      · refine dq_2 .ne 59 true 76 q6 (by decide +kernel) ?_
        exact c110_76 hD hz  _ _ _  hh
      · refine dq_2 .ne 59 false 20 q6 (by decide +kernel) ?_
        refine dq_iln 2 21 (by decide +kernel) rfl G2 ?_
        refine dq_S (.bipush 8) 2 [] 23 _ [.int 8, .int i2] (by decide +kernel) rfl ?_
        rcases di hh with ⟨q7, hh⟩ | ⟨q7, hh⟩
        · refine dq_2 .ne 13 true 36 q7 (by decide +kernel) ?_
          refine dq_aln 0 37 (by decide +kernel) rfl G0 ?_
          obtain ⟨p8, q9, hh⟩ := db hh
          refine dq_gR 9 0 [8] 40 (by decide +kernel) rfl q9 ?_
          obtain ⟨h10, q11, hh⟩ := db hh
          obtain ⟨a12, q13, q11⟩ := db q11
          rw [dq_xV q11] at q13
          refine dq_cvi hD 19 92 5 0 [6] p8 [] [] 43 [] (by decide +kernel) ap_92 ⟨⟨Nat.le_of_ble_eq_true rfl, by decide⟩, rfl, rfl⟩ (dq_ok8 [1] [] (dc_r dc_n) dc_n (by decide +kernel)) (by decide +kernel) rfl q13 rfl ?_
          refine dq_aln 0 44 (by decide +kernel) rfl G0 ?_
          obtain ⟨p14, q15, hh⟩ := db hh
          obtain ⟨a16, q17, q15⟩ := db q15
          rw [dq_xR q15] at q17
          refine dq_cvi hD 84 111 5 0 [8] o0 [] [] 47 [va_rf p14.1] (by decide +kernel) ap_111 ⟨⟨Nat.le_of_ble_eq_true rfl, by decide⟩, rfl, rfl⟩ (dq_ok8 [1] [] (dc_r dc_n) dc_n (by decide +kernel)) (by decide +kernel) rfl q17 rfl ?_
          refine dq_asn 3 48 (by decide +kernel) (by decide +kernel) ?_
          have g18 := dg_ne (i := 3) (u := va_rf p14.1) (by decide) (Or.inl (by decide)) G0
          have g19 := dg_ne (i := 3) (u := va_rf p14.1) (by decide) (Or.inl (by decide)) G1
          have g20 := dg_ne (i := 3) (u := va_rf p14.1) (by decide) (Or.inr rfl) G2
          have g21 := dg_eq (lv) 3 (va_rf p14.1)
          refine dq_aln 3 49 (by decide +kernel) rfl g21 ?_
          refine dq_iln 2 50 (by decide +kernel) rfl g20 ?_
          obtain ⟨h22, q23, hh⟩ := db hh
          refine dq_put 88 8 [10] 53 (by decide +kernel) rfl q23 ?_
          refine dq_aln 1 54 (by decide +kernel) rfl g19 ?_
          obtain ⟨p24, q25, hh⟩ := db hh
          refine dq_gR 93 4 [9] 57 (by decide +kernel) rfl q25 ?_
          refine dq_aln 3 58 (by decide +kernel) rfl g21 ?_
          obtain ⟨x26, q27, hh⟩ := db hh
          obtain ⟨a28, q29, q27⟩ := db q27
          rw [dq_xI q27] at q29
          refine dq_cif hD 80 2 103 7 1 [5] p24 [va_rf p14.1] [] 63 [.int x26.1] (by decide +kernel) ap_103 ⟨⟨Nat.le_of_ble_eq_true rfl, by decide⟩, rfl, rfl⟩ (dq_ok8 [1, 1] [] (dc_r (dc_r dc_n)) dc_n (by decide +kernel)) (by decide +kernel) rfl q29 rfl ?_
          refine dq_S (.pop) 1 [] 64 _ [] (by decide +kernel) rfl ?_
          refine dq_aln 0 65 (by decide +kernel) rfl g18 ?_
          refine dq_S (.bipush 9) 2 [] 67 _ [.int 9, va_rf o0] (by decide +kernel) rfl ?_
          obtain ⟨h30, q31, hh⟩ := db hh
          obtain ⟨a32, q33, q31⟩ := db q31
          rw [dq_xV q31] at q33
          refine dq_cvi hD 42 109 5 1 [8] o0 [.int 9] [] 70 [] (by decide +kernel) ap_109 ⟨⟨Nat.le_of_ble_eq_true rfl, by decide⟩, rfl, rfl⟩ (dq_ok8 [1, 1] [] (dc_r (dc_i dc_n)) dc_n (by decide +kernel)) (by decide +kernel) rfl q33 rfl ?_
          exact c110_70 hD hz ih _ _ _ _ _ _ g18 g19 g20 hh
        · refine dq_2 .ne 13 false 26 q7 (by decide +kernel) ?_
          refine dq_aln 0 27 (by decide +kernel) rfl G0 ?_
          obtain ⟨p34, q35, hh⟩ := db hh
          refine dq_gR 9 0 [8] 30 (by decide +kernel) rfl q35 ?_
          obtain ⟨h36, q37, hh⟩ := db hh
          obtain ⟨a38, q39, q37⟩ := db q37
          rw [dq_xV q37] at q39
          refine dq_cvi hD 46 95 5 0 [6] p34 [] [] 33 [] (by decide +kernel) ap_95 ⟨⟨Nat.le_of_ble_eq_true rfl, by decide⟩, rfl, rfl⟩ (dq_ok8 [1] [] (dc_r dc_n) dc_n (by decide +kernel)) (by decide +kernel) rfl q39 rfl ?_
          refine dq_S (.goto 37) 3 [] 70 _ [] (by decide +kernel) rfl ?_
          exact c110_70 hD hz ih _ _ _ _ _ _ G0 G1 G2 hh
def b110_0 (L : Nat) (xs : Nat → Int32) (zf : Value) (D : dD) (w : Nat) (o0 : Option Nat) (o1 : Option Nat) (h : rm_H) : Option dR :=
  b110_2 L xs zf D w w o0 o1 0 h
theorem c110_0 {L : Nat} {xs : Nat → Int32} {zf : Value} {D : dD} {w k : Nat} (hD : dO L xs zf D k) (hz : zf.category = 1) : ∀ (o0 : Option Nat) (o1 : Option Nat) (lv : rm_L) (h : rm_H) (r : dR), rm_get lv 0 = some (va_rf o0) → rm_get lv 1 = some (va_rf o1) → b110_0 L xs zf D w  o0 o1 h = some r → dq L xs zf ah_M110 0 lv [] h (k + 1) r := by
  intro o0 o1 lv h r G0 G1 hh
  unfold b110_0 at hh
  refine dq_S (.iconst 0) 1 [] 1 _ [.int 0] (by decide +kernel) rfl ?_
  refine dq_isn 2 2 (by decide +kernel) (by decide +kernel) ?_
  have g1 := dg_ne (i := 2) (u := .int 0) (by decide) (Or.inl (by decide)) G0
  have g2 := dg_ne (i := 2) (u := .int 0) (by decide) (Or.inr (drc _)) G1
  have g3 := dg_eq (lv) 2 (.int 0)
  exact c110_2 hD hz _ _ _ _ _ _ _ g1 g2 g3 hh
def f110 (L : Nat) (xs : Nat → Int32) (zf : Value) (D : dD) (w : Nat) (As : List Value) (h : rm_H) : Option dR := match As with
  | [v0, v1] => (rm_rf v0).bind fun o0 => (rm_rf v1).bind fun o1 => b110_0 L xs zf D w o0 o1 h
  | _ => none
theorem d110 {L : Nat} {xs : Nat → Int32} {zf : Value} {D : dD} {w k : Nat} (hD : dO L xs zf D k) (hz : zf.category = 1) (As : List Value) (h : rm_H) (r : dR) (hh : f110 L xs zf D w As h = some r) : dq L xs zf ah_M110 0 (lv_args 0 As) [] h (k + 1) r := by
  unfold f110 at hh
  split at hh
  · obtain ⟨o0, e0, hb0⟩ := db hh
    have e0 := rm_rf_v _ _ e0
    obtain ⟨o1, e1, hb1⟩ := db hb0
    have e1 := rm_rf_v _ _ e1
    subst e0 e1
    refine c110_0 hD hz _ _ _ _ _ ?_ ?_ hb1
    all_goals (simp only [la_r, la_i, la_j]; rfl)
  · cases hh
def b111_0 (L : Nat) (xs : Nat → Int32) (zf : Value) (D : dD) (w : Nat) (o0 : Option Nat) (h : rm_H) : Option dR :=
  (dgR L xs h 0 [8] o0).bind fun p1 =>
  (dgI L xs h 7 [6] p1).bind fun x3 =>
  (some (h ++ [.inr (10, ah_DV 10)])).bind fun h7 =>
  ((dcV L xs D 94 [8] o0 [.int 2] h7).bind dxR).bind fun p9 =>
  ((dcN D 112 (some (21 + List.length h)) [va_rf p9.1, .int x3] p9.2).bind dxV).bind fun h13 =>
  ((dcV L xs D 109 [8] o0 [.int 11] h13).bind dxV).bind fun h20 =>
  ((dcV L xs D 113 [8] o0 [va_rf (some (21 + List.length h))] h20).bind dxV).bind fun h24 =>
  some (some (va_rf (some (21 + List.length h))), h24)
theorem c111_0 {L : Nat} {xs : Nat → Int32} {zf : Value} {D : dD} {w k : Nat} (hD : dO L xs zf D k) (hz : zf.category = 1) : ∀ (o0 : Option Nat) (lv : rm_L) (h : rm_H) (r : dR), rm_get lv 0 = some (va_rf o0) → b111_0 L xs zf D w  o0 h = some r → dq L xs zf ah_M111 0 lv [] h (k + 1) r := by
  intro o0 lv h r G0 hh
  unfold b111_0 at hh
  refine dq_aln 0 1 (by decide +kernel) rfl G0 ?_
  obtain ⟨p1, q2, hh⟩ := db hh
  refine dq_gR 9 0 [8] 4 (by decide +kernel) rfl q2 ?_
  obtain ⟨x3, q4, hh⟩ := db hh
  refine dq_gI 58 7 [6] 7 (by decide +kernel) rfl q4 ?_
  refine dq_isn 1 8 (by decide +kernel) (by decide +kernel) ?_
  have g5 := dg_ne (i := 1) (u := .int x3) (by decide) (Or.inr (drc _)) G0
  have g6 := dg_eq (lv) 1 (.int x3)
  obtain ⟨h7, q8, hh⟩ := db hh
  refine dq_new 89 10 11 (by decide +kernel) rfl ?_
  rw [Option.some.inj q8]
  refine dq_dup 12 (by decide +kernel) rfl ?_
  refine dq_aln 0 13 (by decide +kernel) rfl g5 ?_
  refine dq_S (.iconst 2) 1 [] 14 _ [.int 2, va_rf o0, va_rf (some (21 + List.length h)), va_rf (some (21 + List.length h))] (by decide +kernel) rfl ?_
  obtain ⟨p9, q10, hh⟩ := db hh
  obtain ⟨a11, q12, q10⟩ := db q10
  rw [dq_xR q10] at q12
  refine dq_cvi hD 63 94 5 1 [8] o0 [.int 2] [va_rf (some (21 + List.length h)), va_rf (some (21 + List.length h))] 17 [va_rf p9.1, va_rf (some (21 + List.length h)), va_rf (some (21 + List.length h))] (by decide +kernel) ap_94 ⟨⟨Nat.le_of_ble_eq_true rfl, by decide⟩, rfl, rfl⟩ (dq_ok8 [1, 1] [1, 1] (dc_r (dc_i dc_n)) (dc_r (dc_r dc_n)) (by decide +kernel)) (by decide +kernel) rfl q12 rfl ?_
  refine dq_iln 1 18 (by decide +kernel) rfl g6 ?_
  obtain ⟨h13, q14, hh⟩ := db hh
  obtain ⟨a15, q16, q14⟩ := db q14
  rw [dq_xV q14] at q16
  refine dq_csp hD 138 112 2 [] (some (21 + List.length h)) [va_rf p9.1, .int x3] [va_rf (some (21 + List.length h))] 21 [va_rf (some (21 + List.length h))] (by decide +kernel) ap_112 ⟨Nat.le_of_ble_eq_true rfl, rfl, rfl⟩ (dq_ok8 [1, 1, 1] [1] (dc_r (dc_r (dc_i dc_n))) (dc_r dc_n) (by decide +kernel)) (by decide +kernel) rfl q16 rfl ?_
  refine dq_asn 2 22 (by decide +kernel) (by decide +kernel) ?_
  have g17 := dg_ne (i := 2) (u := va_rf (some (21 + List.length h))) (by decide) (Or.inl (by decide)) g5
  have g18 := dg_ne (i := 2) (u := va_rf (some (21 + List.length h))) (by decide) (Or.inr rfl) g6
  have g19 := dg_eq (rm_set1 (lv) 1 (.int x3)) 2 (va_rf (some (21 + List.length h)))
  refine dq_aln 0 23 (by decide +kernel) rfl g17 ?_
  refine dq_S (.bipush 11) 2 [] 25 _ [.int 11, va_rf o0] (by decide +kernel) rfl ?_
  obtain ⟨h20, q21, hh⟩ := db hh
  obtain ⟨a22, q23, q21⟩ := db q21
  rw [dq_xV q21] at q23
  refine dq_cvi hD 42 109 5 1 [8] o0 [.int 11] [] 28 [] (by decide +kernel) ap_109 ⟨⟨Nat.le_of_ble_eq_true rfl, by decide⟩, rfl, rfl⟩ (dq_ok8 [1, 1] [] (dc_r (dc_i dc_n)) dc_n (by decide +kernel)) (by decide +kernel) rfl q23 rfl ?_
  refine dq_aln 0 29 (by decide +kernel) rfl g17 ?_
  refine dq_aln 2 30 (by decide +kernel) rfl g19 ?_
  obtain ⟨h24, q25, hh⟩ := db hh
  obtain ⟨a26, q27, q25⟩ := db q25
  rw [dq_xV q25] at q27
  refine dq_cvi hD 145 113 5 1 [8] o0 [va_rf (some (21 + List.length h))] [] 33 [] (by decide +kernel) ap_113 ⟨⟨Nat.le_of_ble_eq_true rfl, by decide⟩, rfl, rfl⟩ (dq_ok8 [1, 1] [] (dc_r (dc_r dc_n)) dc_n (by decide +kernel)) (by decide +kernel) rfl q27 rfl ?_
  refine dq_aln 2 34 (by decide +kernel) rfl g19 ?_
  cases hh
  exact dq_retR (by decide +kernel) rfl
def f111 (L : Nat) (xs : Nat → Int32) (zf : Value) (D : dD) (w : Nat) (As : List Value) (h : rm_H) : Option dR := match As with
  | [v0] => (rm_rf v0).bind fun o0 => b111_0 L xs zf D w o0 h
  | _ => none
theorem d111 {L : Nat} {xs : Nat → Int32} {zf : Value} {D : dD} {w k : Nat} (hD : dO L xs zf D k) (hz : zf.category = 1) (As : List Value) (h : rm_H) (r : dR) (hh : f111 L xs zf D w As h = some r) : dq L xs zf ah_M111 0 (lv_args 0 As) [] h (k + 1) r := by
  unfold f111 at hh
  split at hh
  · obtain ⟨o0, e0, hb0⟩ := db hh
    have e0 := rm_rf_v _ _ e0
    subst e0
    refine c111_0 hD hz _ _ _ _ ?_ hb0
    all_goals (simp only [la_r, la_i, la_j]; rfl)
  · cases hh
def b112_0 (L : Nat) (xs : Nat → Int32) (zf : Value) (D : dD) (w : Nat) (o0 : Option Nat) (o1 : Option Nat) (i2 : Int32) (h : rm_H) : Option dR :=
  if dnl o0 = true then none else
  (dpF h 0 [10] o0 (va_rf o1)).bind fun h2 =>
  (dpF h2 1 [10] o0 (.int i2)).bind fun h4 =>
  (dpF h4 2 [10] o0 (.int (-1))).bind fun h6 =>
  (dpF h6 3 [10] o0 (.int (-1))).bind fun h8 =>
  (dpF h8 4 [10] o0 (va_rf none)).bind fun h10 =>
  (dpF h10 5 [10] o0 (.int (-1))).bind fun h12 =>
  (dpF h12 6 [10] o0 (.int 0)).bind fun h14 =>
  (dpF h14 7 [10] o0 (.int 0)).bind fun h16 =>
  (dpF h16 8 [10] o0 (.int 0)).bind fun h18 =>
  some (none, h18)
theorem c112_0 {L : Nat} {xs : Nat → Int32} {zf : Value} {D : dD} {w k : Nat} (hD : dO L xs zf D k) (hz : zf.category = 1) : ∀ (o0 : Option Nat) (o1 : Option Nat) (i2 : Int32) (lv : rm_L) (h : rm_H) (r : dR), rm_get lv 0 = some (va_rf o0) → rm_get lv 1 = some (va_rf o1) → rm_get lv 2 = some (.int i2) → b112_0 L xs zf D w  o0 o1 i2 h = some r → dq L xs zf ah_M112 0 lv [] h (k + 1) r := by
  intro o0 o1 i2 lv h r G0 G1 G2 hh
  unfold b112_0 at hh
  refine dq_aln 0 1 (by decide +kernel) rfl G0 ?_
  rcases di hh with ⟨_, hh⟩ | ⟨q1, hh⟩
  · cases hh
  refine dq_obj 3 4 (by decide +kernel) (dc_s dc_n (by decide +kernel)) rfl q1 ?_
  refine dq_aln 0 5 (by decide +kernel) rfl G0 ?_
  refine dq_aln 1 6 (by decide +kernel) rfl G1 ?_
  obtain ⟨h2, q3, hh⟩ := db hh
  refine dq_put 9 0 [10] 9 (by decide +kernel) rfl q3 ?_
  refine dq_aln 0 10 (by decide +kernel) rfl G0 ?_
  refine dq_iln 2 11 (by decide +kernel) rfl G2 ?_
  obtain ⟨h4, q5, hh⟩ := db hh
  refine dq_put 15 1 [10] 14 (by decide +kernel) rfl q5 ?_
  refine dq_aln 0 15 (by decide +kernel) rfl G0 ?_
  refine dq_S (.iconst (-1)) 1 [] 16 _ [.int (-1), va_rf o0] (by decide +kernel) rfl ?_
  obtain ⟨h6, q7, hh⟩ := db hh
  refine dq_put 19 2 [10] 19 (by decide +kernel) rfl q7 ?_
  refine dq_aln 0 20 (by decide +kernel) rfl G0 ?_
  refine dq_S (.iconst (-1)) 1 [] 21 _ [.int (-1), va_rf o0] (by decide +kernel) rfl ?_
  obtain ⟨h8, q9, hh⟩ := db hh
  refine dq_put 22 3 [10] 24 (by decide +kernel) rfl q9 ?_
  refine dq_aln 0 25 (by decide +kernel) rfl G0 ?_
  refine dq_S (.aconst_null) 1 [] 26 _ [va_rf none, va_rf o0] (by decide +kernel) rfl ?_
  obtain ⟨h10, q11, hh⟩ := db hh
  refine dq_put 25 4 [10] 29 (by decide +kernel) rfl q11 ?_
  refine dq_aln 0 30 (by decide +kernel) rfl G0 ?_
  refine dq_S (.iconst (-1)) 1 [] 31 _ [.int (-1), va_rf o0] (by decide +kernel) rfl ?_
  obtain ⟨h12, q13, hh⟩ := db hh
  refine dq_put 28 5 [10] 34 (by decide +kernel) rfl q13 ?_
  refine dq_aln 0 35 (by decide +kernel) rfl G0 ?_
  refine dq_S (.iconst 0) 1 [] 36 _ [.int 0, va_rf o0] (by decide +kernel) rfl ?_
  obtain ⟨h14, q15, hh⟩ := db hh
  refine dq_put 31 6 [10] 39 (by decide +kernel) rfl q15 ?_
  refine dq_aln 0 40 (by decide +kernel) rfl G0 ?_
  refine dq_S (.iconst 0) 1 [] 41 _ [.int 0, va_rf o0] (by decide +kernel) rfl ?_
  obtain ⟨h16, q17, hh⟩ := db hh
  refine dq_put 35 7 [10] 44 (by decide +kernel) rfl q17 ?_
  refine dq_aln 0 45 (by decide +kernel) rfl G0 ?_
  refine dq_S (.iconst 0) 1 [] 46 _ [.int 0, va_rf o0] (by decide +kernel) rfl ?_
  obtain ⟨h18, q19, hh⟩ := db hh
  refine dq_put 38 8 [10] 49 (by decide +kernel) rfl q19 ?_
  cases hh
  exact dq_ret0 (by decide +kernel) rfl
def f112 (L : Nat) (xs : Nat → Int32) (zf : Value) (D : dD) (w : Nat) (As : List Value) (h : rm_H) : Option dR := match As with
  | [v0, v1, .int i2] => (rm_rf v0).bind fun o0 => (rm_rf v1).bind fun o1 => b112_0 L xs zf D w o0 o1 i2 h
  | _ => none
theorem d112 {L : Nat} {xs : Nat → Int32} {zf : Value} {D : dD} {w k : Nat} (hD : dO L xs zf D k) (hz : zf.category = 1) (As : List Value) (h : rm_H) (r : dR) (hh : f112 L xs zf D w As h = some r) : dq L xs zf ah_M112 0 (lv_args 0 As) [] h (k + 1) r := by
  unfold f112 at hh
  split at hh
  · obtain ⟨o0, e0, hb0⟩ := db hh
    have e0 := rm_rf_v _ _ e0
    obtain ⟨o1, e1, hb1⟩ := db hb0
    have e1 := rm_rf_v _ _ e1
    subst e0 e1
    refine c112_0 hD hz _ _ _ _ _ _ ?_ ?_ ?_ hb1
    all_goals (simp only [la_r, la_i, la_j]; rfl)
  · cases hh
def b113_83 (L : Nat) (xs : Nat → Int32) (zf : Value) (D : dD) (w : Nat) (o0 : Option Nat) (o1 : Option Nat) (h : rm_H) : Option dR :=
  (dgR L xs h 0 [8] o0).bind fun p1 =>
  (dgI L xs h 7 [6] p1).bind fun x3 =>
  (dpF h 5 [10] o1 (.int x3)).bind fun h5 =>
  ((dcV L xs D 94 [8] o0 [.int 3] h5).bind dxR).bind fun p7 =>
  (dpF p7.2 4 [10] o1 (va_rf p7.1)).bind fun h11 =>
  some (none, h11)
theorem c113_83 {L : Nat} {xs : Nat → Int32} {zf : Value} {D : dD} {w k : Nat} (hD : dO L xs zf D k) (hz : zf.category = 1) : ∀ (o0 : Option Nat) (o1 : Option Nat) (lv : rm_L) (h : rm_H) (r : dR), rm_get lv 0 = some (va_rf o0) → rm_get lv 1 = some (va_rf o1) → b113_83 L xs zf D w  o0 o1 h = some r → dq L xs zf ah_M113 83 lv [] h (k + 1) r := by
  intro o0 o1 lv h r G0 G1 hh
  unfold b113_83 at hh
  refine dq_aln 1 84 (by decide +kernel) rfl G1 ?_
  refine dq_aln 0 85 (by decide +kernel) rfl G0 ?_
  obtain ⟨p1, q2, hh⟩ := db hh
  refine dq_gR 9 0 [8] 88 (by decide +kernel) rfl q2 ?_
  obtain ⟨x3, q4, hh⟩ := db hh
  refine dq_gI 58 7 [6] 91 (by decide +kernel) rfl q4 ?_
  obtain ⟨h5, q6, hh⟩ := db hh
  refine dq_put 171 5 [10] 94 (by decide +kernel) rfl q6 ?_
  refine dq_aln 1 95 (by decide +kernel) rfl G1 ?_
  refine dq_aln 0 96 (by decide +kernel) rfl G0 ?_
  refine dq_S (.iconst 3) 1 [] 97 _ [.int 3, va_rf o0, va_rf o1] (by decide +kernel) rfl ?_
  obtain ⟨p7, q8, hh⟩ := db hh
  obtain ⟨a9, q10, q8⟩ := db q8
  rw [dq_xR q8] at q10
  refine dq_cvi hD 63 94 5 1 [8] o0 [.int 3] [va_rf o1] 100 [va_rf p7.1, va_rf o1] (by decide +kernel) ap_94 ⟨⟨Nat.le_of_ble_eq_true rfl, by decide⟩, rfl, rfl⟩ (dq_ok8 [1, 1] [1] (dc_r (dc_i dc_n)) (dc_r dc_n) (by decide +kernel)) (by decide +kernel) rfl q10 rfl ?_
  obtain ⟨h11, q12, hh⟩ := db hh
  refine dq_put 174 4 [10] 103 (by decide +kernel) rfl q12 ?_
  cases hh
  exact dq_ret0 (by decide +kernel) rfl
def b113_41 (L : Nat) (xs : Nat → Int32) (zf : Value) (D : dD) (w : Nat) (o0 : Option Nat) (o1 : Option Nat) (h : rm_H) : Option dR :=
  (dgR L xs h 0 [8] o0).bind fun p1 =>
  ((dcV L xs D 114 [6] p1 [] h).bind dxI).bind fun x3 =>
  if mx_f1 .eq x3.1 = true then
    b113_83 L xs zf D w o0 o1 x3.2
  else
    (dgR L xs x3.2 0 [8] o0).bind fun p8 =>
    (dgI L xs x3.2 7 [6] p8).bind fun x10 =>
    (dpF x3.2 3 [10] o1 (.int x10)).bind fun h12 =>
    (dgR L xs h12 0 [8] o0).bind fun p14 =>
    (dgI L xs h12 6 [6] p14).bind fun x16 =>
    (dpF h12 2 [10] o1 (.int (x16 - 38))).bind fun h18 =>
    (dgR L xs h18 0 [8] o0).bind fun p20 =>
    ((dcV L xs D 92 [6] p20 [] h18).bind dxV).bind fun h22 =>
    b113_83 L xs zf D w o0 o1 h22
theorem c113_41 {L : Nat} {xs : Nat → Int32} {zf : Value} {D : dD} {w k : Nat} (hD : dO L xs zf D k) (hz : zf.category = 1) : ∀ (o0 : Option Nat) (o1 : Option Nat) (lv : rm_L) (h : rm_H) (r : dR), rm_get lv 0 = some (va_rf o0) → rm_get lv 1 = some (va_rf o1) → b113_41 L xs zf D w  o0 o1 h = some r → dq L xs zf ah_M113 41 lv [] h (k + 1) r := by
  intro o0 o1 lv h r G0 G1 hh
  unfold b113_41 at hh
  refine dq_aln 0 42 (by decide +kernel) rfl G0 ?_
  obtain ⟨p1, q2, hh⟩ := db hh
  refine dq_gR 9 0 [8] 45 (by decide +kernel) rfl q2 ?_
  obtain ⟨x3, q4, hh⟩ := db hh
  obtain ⟨a5, q6, q4⟩ := db q4
  rw [dq_xI q4] at q6
  refine dq_cvi hD 165 114 5 0 [6] p1 [] [] 48 [.int x3.1] (by decide +kernel) ap_114 ⟨⟨Nat.le_of_ble_eq_true rfl, by decide⟩, rfl, rfl⟩ (dq_ok8 [1] [] (dc_r dc_n) dc_n (by decide +kernel)) (by decide +kernel) rfl q6 rfl ?_
  rcases di hh with ⟨q7, hh⟩ | ⟨q7, hh⟩
  · refine dq_1 .eq 35 true 83 q7 (by decide +kernel) ?_
    exact c113_83 hD hz _ _ _ _ _ G0 G1 hh
  · refine dq_1 .eq 35 false 51 q7 (by decide +kernel) ?_
    refine dq_aln 1 52 (by decide +kernel) rfl G1 ?_
    refine dq_aln 0 53 (by decide +kernel) rfl G0 ?_
    obtain ⟨p8, q9, hh⟩ := db hh
    refine dq_gR 9 0 [8] 56 (by decide +kernel) rfl q9 ?_
    obtain ⟨x10, q11, hh⟩ := db hh
    refine dq_gI 58 7 [6] 59 (by decide +kernel) rfl q11 ?_
    obtain ⟨h12, q13, hh⟩ := db hh
    refine dq_put 169 3 [10] 62 (by decide +kernel) rfl q13 ?_
    refine dq_aln 1 63 (by decide +kernel) rfl G1 ?_
    refine dq_aln 0 64 (by decide +kernel) rfl G0 ?_
    obtain ⟨p14, q15, hh⟩ := db hh
    refine dq_gR 9 0 [8] 67 (by decide +kernel) rfl q15 ?_
    obtain ⟨x16, q17, hh⟩ := db hh
    refine dq_gI 24 6 [6] 70 (by decide +kernel) rfl q17 ?_
    refine dq_S (.bipush 38) 2 [] 72 _ [.int 38, .int x16, va_rf o1] (by decide +kernel) rfl ?_
    refine dq_S (.isub) 1 [] 73 _ [.int (x16 - 38), va_rf o1] (by decide +kernel) rfl ?_
    obtain ⟨h18, q19, hh⟩ := db hh
    refine dq_put 170 2 [10] 76 (by decide +kernel) rfl q19 ?_
    refine dq_aln 0 77 (by decide +kernel) rfl G0 ?_
    obtain ⟨p20, q21, hh⟩ := db hh
    refine dq_gR 9 0 [8] 80 (by decide +kernel) rfl q21 ?_
    obtain ⟨h22, q23, hh⟩ := db hh
    obtain ⟨a24, q25, q23⟩ := db q23
    rw [dq_xV q23] at q25
    refine dq_cvi hD 19 92 5 0 [6] p20 [] [] 83 [] (by decide +kernel) ap_92 ⟨⟨Nat.le_of_ble_eq_true rfl, by decide⟩, rfl, rfl⟩ (dq_ok8 [1] [] (dc_r dc_n) dc_n (by decide +kernel)) (by decide +kernel) rfl q25 rfl ?_
    exact c113_83 hD hz _ _ _ _ _ G0 G1 hh
def b113_0 (L : Nat) (xs : Nat → Int32) (zf : Value) (D : dD) (w : Nat) (o0 : Option Nat) (o1 : Option Nat) (h : rm_H) : Option dR :=
  (dgR L xs h 1 [8] o0).bind fun p1 =>
  (dgR L xs h 3 [4] p1).bind fun p3 =>
  ((dcV L xs D 103 [5] p3 [va_rf o1] h).bind dxI).bind fun x5 =>
  (dgR L xs x5.2 0 [8] o0).bind fun p9 =>
  (dgI L xs x5.2 6 [6] p9).bind fun x11 =>
  if mx_f2 .ne x11 43 = true then
    b113_41 L xs zf D w o0 o1 x5.2
  else
    (dgI L xs x5.2 6 [10] o1).bind fun x14 =>
    if mx_f1 .ne x14 = true then
      b113_41 L xs zf D w o0 o1 x5.2
    else
      (dgR L xs x5.2 0 [8] o0).bind fun p17 =>
      ((dcV L xs D 92 [6] p17 [] x5.2).bind dxV).bind fun h19 =>
      some (none, h19)
theorem c113_0 {L : Nat} {xs : Nat → Int32} {zf : Value} {D : dD} {w k : Nat} (hD : dO L xs zf D k) (hz : zf.category = 1) : ∀ (o0 : Option Nat) (o1 : Option Nat) (lv : rm_L) (h : rm_H) (r : dR), rm_get lv 0 = some (va_rf o0) → rm_get lv 1 = some (va_rf o1) → b113_0 L xs zf D w  o0 o1 h = some r → dq L xs zf ah_M113 0 lv [] h (k + 1) r := by
  intro o0 o1 lv h r G0 G1 hh
  unfold b113_0 at hh
  refine dq_aln 0 1 (by decide +kernel) rfl G0 ?_
  obtain ⟨p1, q2, hh⟩ := db hh
  refine dq_gR 15 1 [8] 4 (by decide +kernel) rfl q2 ?_
  obtain ⟨p3, q4, hh⟩ := db hh
  refine dq_gR 159 3 [4] 7 (by decide +kernel) rfl q4 ?_
  refine dq_aln 1 8 (by decide +kernel) rfl G1 ?_
  obtain ⟨x5, q6, hh⟩ := db hh
  obtain ⟨a7, q8, q6⟩ := db q6
  rw [dq_xI q6] at q8
  refine dq_cif hD 80 2 103 7 1 [5] p3 [va_rf o1] [] 13 [.int x5.1] (by decide +kernel) ap_103 ⟨⟨Nat.le_of_ble_eq_true rfl, by decide⟩, rfl, rfl⟩ (dq_ok8 [1, 1] [] (dc_r (dc_r dc_n)) dc_n (by decide +kernel)) (by decide +kernel) rfl q8 rfl ?_
  refine dq_S (.pop) 1 [] 14 _ [] (by decide +kernel) rfl ?_
  refine dq_aln 0 15 (by decide +kernel) rfl G0 ?_
  obtain ⟨p9, q10, hh⟩ := db hh
  refine dq_gR 9 0 [8] 18 (by decide +kernel) rfl q10 ?_
  obtain ⟨x11, q12, hh⟩ := db hh
  refine dq_gI 24 6 [6] 21 (by decide +kernel) rfl q12 ?_
  refine dq_S (.bipush 43) 2 [] 23 _ [.int 43, .int x11] (by decide +kernel) rfl ?_
  rcases di hh with ⟨q13, hh⟩ | ⟨q13, hh⟩
  · refine dq_2 .ne 18 true 41 q13 (by decide +kernel) ?_
    exact c113_41 hD hz _ _ _ _ _ G0 G1 hh
  · refine dq_2 .ne 18 false 26 q13 (by decide +kernel) ?_
    refine dq_aln 1 27 (by decide +kernel) rfl G1 ?_
    obtain ⟨x14, q15, hh⟩ := db hh
    refine dq_gI 162 6 [10] 30 (by decide +kernel) rfl q15 ?_
    rcases di hh with ⟨q16, hh⟩ | ⟨q16, hh⟩
    · refine dq_1 .ne 11 true 41 q16 (by decide +kernel) ?_
      exact c113_41 hD hz _ _ _ _ _ G0 G1 hh
    · refine dq_1 .ne 11 false 33 q16 (by decide +kernel) ?_
      refine dq_aln 0 34 (by decide +kernel) rfl G0 ?_
      obtain ⟨p17, q18, hh⟩ := db hh
      refine dq_gR 9 0 [8] 37 (by decide +kernel) rfl q18 ?_
      obtain ⟨h19, q20, hh⟩ := db hh
      obtain ⟨a21, q22, q20⟩ := db q20
      rw [dq_xV q20] at q22
      refine dq_cvi hD 19 92 5 0 [6] p17 [] [] 40 [] (by decide +kernel) ap_92 ⟨⟨Nat.le_of_ble_eq_true rfl, by decide⟩, rfl, rfl⟩ (dq_ok8 [1] [] (dc_r dc_n) dc_n (by decide +kernel)) (by decide +kernel) rfl q22 rfl ?_
      cases hh
      exact dq_ret0 (by decide +kernel) rfl
def f113 (L : Nat) (xs : Nat → Int32) (zf : Value) (D : dD) (w : Nat) (As : List Value) (h : rm_H) : Option dR := match As with
  | [v0, v1] => (rm_rf v0).bind fun o0 => (rm_rf v1).bind fun o1 => b113_0 L xs zf D w o0 o1 h
  | _ => none
theorem d113 {L : Nat} {xs : Nat → Int32} {zf : Value} {D : dD} {w k : Nat} (hD : dO L xs zf D k) (hz : zf.category = 1) (As : List Value) (h : rm_H) (r : dR) (hh : f113 L xs zf D w As h = some r) : dq L xs zf ah_M113 0 (lv_args 0 As) [] h (k + 1) r := by
  unfold f113 at hh
  split at hh
  · obtain ⟨o0, e0, hb0⟩ := db hh
    have e0 := rm_rf_v _ _ e0
    obtain ⟨o1, e1, hb1⟩ := db hb0
    have e1 := rm_rf_v _ _ e1
    subst e0 e1
    refine c113_0 hD hz _ _ _ _ _ ?_ ?_ hb1
    all_goals (simp only [la_r, la_i, la_j]; rfl)
  · cases hh
def b114_23 (L : Nat) (xs : Nat → Int32) (zf : Value) (D : dD) (w : Nat) (s0 : Int32) (h : rm_H) : Option dR :=
  drI (some .boolean) s0 h
theorem c114_23 {L : Nat} {xs : Nat → Int32} {zf : Value} {D : dD} {w k : Nat} (hD : dO L xs zf D k) (hz : zf.category = 1) : ∀ (s0 : Int32) (lv : rm_L) (h : rm_H) (r : dR), b114_23 L xs zf D w  s0 h = some r → dq L xs zf ah_M114 23 lv [.int s0] h (k + 1) r := by
  intro s0 lv h r hh
  unfold b114_23 at hh
  exact dq_retI (some .boolean) (by decide +kernel) rfl hh
def b114_22 (L : Nat) (xs : Nat → Int32) (zf : Value) (D : dD) (w : Nat) (h : rm_H) : Option dR :=
  b114_23 L xs zf D w 0 h
theorem c114_22 {L : Nat} {xs : Nat → Int32} {zf : Value} {D : dD} {w k : Nat} (hD : dO L xs zf D k) (hz : zf.category = 1) : ∀ (lv : rm_L) (h : rm_H) (r : dR), b114_22 L xs zf D w  h = some r → dq L xs zf ah_M114 22 lv [] h (k + 1) r := by
  intro lv h r hh
  unfold b114_22 at hh
  refine dq_S (.iconst 0) 1 [] 23 _ [.int 0] (by decide +kernel) rfl ?_
  exact c114_23 hD hz _ _ _ _  hh
def b114_0 (L : Nat) (xs : Nat → Int32) (zf : Value) (D : dD) (w : Nat) (o0 : Option Nat) (h : rm_H) : Option dR :=
  (dgI L xs h 6 [6] o0).bind fun x1 =>
  if mx_f2 .lt x1 38 = true then
    b114_22 L xs zf D w h
  else
    (dgI L xs h 6 [6] o0).bind fun x4 =>
    if mx_f2 .ge x4 43 = true then
      b114_22 L xs zf D w h
    else
      b114_23 L xs zf D w 1 h
theorem c114_0 {L : Nat} {xs : Nat → Int32} {zf : Value} {D : dD} {w k : Nat} (hD : dO L xs zf D k) (hz : zf.category = 1) : ∀ (o0 : Option Nat) (lv : rm_L) (h : rm_H) (r : dR), rm_get lv 0 = some (va_rf o0) → b114_0 L xs zf D w  o0 h = some r → dq L xs zf ah_M114 0 lv [] h (k + 1) r := by
  intro o0 lv h r G0 hh
  unfold b114_0 at hh
  refine dq_aln 0 1 (by decide +kernel) rfl G0 ?_
  obtain ⟨x1, q2, hh⟩ := db hh
  refine dq_gI 38 6 [6] 4 (by decide +kernel) rfl q2 ?_
  refine dq_S (.bipush 38) 2 [] 6 _ [.int 38, .int x1] (by decide +kernel) rfl ?_
  rcases di hh with ⟨q3, hh⟩ | ⟨q3, hh⟩
  · refine dq_2 .lt 16 true 22 q3 (by decide +kernel) ?_
    exact c114_22 hD hz  _ _ _  hh
  · refine dq_2 .lt 16 false 9 q3 (by decide +kernel) ?_
    refine dq_aln 0 10 (by decide +kernel) rfl G0 ?_
    obtain ⟨x4, q5, hh⟩ := db hh
    refine dq_gI 38 6 [6] 13 (by decide +kernel) rfl q5 ?_
    refine dq_S (.bipush 43) 2 [] 15 _ [.int 43, .int x4] (by decide +kernel) rfl ?_
    rcases di hh with ⟨q6, hh⟩ | ⟨q6, hh⟩
    · refine dq_2 .ge 7 true 22 q6 (by decide +kernel) ?_
      exact c114_22 hD hz  _ _ _  hh
    · refine dq_2 .ge 7 false 18 q6 (by decide +kernel) ?_
      refine dq_S (.iconst 1) 1 [] 19 _ [.int 1] (by decide +kernel) rfl ?_
      refine dq_S (.goto 4) 3 [] 23 _ [.int 1] (by decide +kernel) rfl ?_
      exact c114_23 hD hz _ _ _ _  hh
def f114 (L : Nat) (xs : Nat → Int32) (zf : Value) (D : dD) (w : Nat) (As : List Value) (h : rm_H) : Option dR := match As with
  | [v0] => (rm_rf v0).bind fun o0 => b114_0 L xs zf D w o0 h
  | _ => none
theorem d114 {L : Nat} {xs : Nat → Int32} {zf : Value} {D : dD} {w k : Nat} (hD : dO L xs zf D k) (hz : zf.category = 1) (As : List Value) (h : rm_H) (r : dR) (hh : f114 L xs zf D w As h = some r) : dq L xs zf ah_M114 0 (lv_args 0 As) [] h (k + 1) r := by
  unfold f114 at hh
  split at hh
  · obtain ⟨o0, e0, hb0⟩ := db hh
    have e0 := rm_rf_v _ _ e0
    subst e0
    refine c114_0 hD hz _ _ _ _ ?_ hb0
    all_goals (simp only [la_r, la_i, la_j]; rfl)
  · cases hh
def b115_0 (L : Nat) (xs : Nat → Int32) (zf : Value) (D : dD) (w : Nat) (o0 : Option Nat) (o1 : Option Nat) (h : rm_H) : Option dR :=
  (some (h ++ [.inr (11, ah_DV 11)])).bind fun h1 =>
  (dgR L xs h1 1 [8] o0).bind fun p3 =>
  (dgR L xs h1 2 [4] p3).bind fun p5 =>
  ((dcV L xs D 101 [5] p5 [] h1).bind dxI).bind fun x7 =>
  (dgR L xs x7.2 0 [8] o0).bind fun p11 =>
  (dgI L xs x7.2 7 [6] p11).bind fun x13 =>
  ((dcN D 116 (some (21 + List.length h)) [.int 0, va_rf o1, .int x7.1, va_rf (some 10), .int x13] x7.2).bind dxV).bind fun h15 =>
  (dpF h15 6 [9] o1 (va_rf (some (21 + List.length h)))).bind fun h22 =>
  (dgR L xs h22 1 [8] o0).bind fun p24 =>
  (dgR L xs h22 2 [4] p24).bind fun p26 =>
  ((dcV L xs D 103 [5] p26 [va_rf (some (21 + List.length h))] h22).bind dxI).bind fun x28 =>
  ((dcV L xs D 109 [8] o0 [.int 22] x28.2).bind dxV).bind fun h32 =>
  ((dcV L xs D 117 [8] o0 [va_rf (some (21 + List.length h))] h32).bind dxV).bind fun h36 =>
  ((dcV L xs D 119 [8] o0 [va_rf (some (21 + List.length h)), .int 1] h36).bind dxR).bind fun p40 =>
  (dpF p40.2 9 [11] (some (21 + List.length h)) (va_rf p40.1)).bind fun h44 =>
  some (none, h44)
theorem c115_0 {L : Nat} {xs : Nat → Int32} {zf : Value} {D : dD} {w k : Nat} (hD : dO L xs zf D k) (hz : zf.category = 1) : ∀ (o0 : Option Nat) (o1 : Option Nat) (lv : rm_L) (h : rm_H) (r : dR), rm_get lv 0 = some (va_rf o0) → rm_get lv 1 = some (va_rf o1) → b115_0 L xs zf D w  o0 o1 h = some r → dq L xs zf ah_M115 0 lv [] h (k + 1) r := by
  intro o0 o1 lv h r G0 G1 hh
  unfold b115_0 at hh
  obtain ⟨h1, q2, hh⟩ := db hh
  refine dq_new 96 11 3 (by decide +kernel) rfl ?_
  rw [Option.some.inj q2]
  refine dq_dup 4 (by decide +kernel) rfl ?_
  refine dq_S (.iconst 0) 1 [] 5 _ [.int 0, va_rf (some (21 + List.length h)), va_rf (some (21 + List.length h))] (by decide +kernel) rfl ?_
  refine dq_aln 1 6 (by decide +kernel) rfl G1 ?_
  refine dq_aln 0 7 (by decide +kernel) rfl G0 ?_
  obtain ⟨p3, q4, hh⟩ := db hh
  refine dq_gR 15 1 [8] 10 (by decide +kernel) rfl q4 ?_
  obtain ⟨p5, q6, hh⟩ := db hh
  refine dq_gR 98 2 [4] 13 (by decide +kernel) rfl q6 ?_
  obtain ⟨x7, q8, hh⟩ := db hh
  obtain ⟨a9, q10, q8⟩ := db q8
  rw [dq_xI q8] at q10
  refine dq_cif hD 71 1 101 7 0 [5] p5 [] [va_rf o1, .int 0, va_rf (some (21 + List.length h)), va_rf (some (21 + List.length h))] 18 [.int x7.1, va_rf o1, .int 0, va_rf (some (21 + List.length h)), va_rf (some (21 + List.length h))] (by decide +kernel) ap_101 ⟨⟨Nat.le_of_ble_eq_true rfl, by decide⟩, rfl, rfl⟩ (dq_ok8 [1] [1, 1, 1, 1] (dc_r dc_n) (dc_r (dc_i (dc_r (dc_r dc_n)))) (by decide +kernel)) (by decide +kernel) rfl q10 rfl ?_
  refine dq_S (.ldc 101) 2 [1, 10] 20 _ [va_rf (some 10), .int x7.1, va_rf o1, .int 0, va_rf (some (21 + List.length h)), va_rf (some (21 + List.length h))] (by decide +kernel) rfl ?_
  refine dq_aln 0 21 (by decide +kernel) rfl G0 ?_
  obtain ⟨p11, q12, hh⟩ := db hh
  refine dq_gR 9 0 [8] 24 (by decide +kernel) rfl q12 ?_
  obtain ⟨x13, q14, hh⟩ := db hh
  refine dq_gI 58 7 [6] 27 (by decide +kernel) rfl q14 ?_
  obtain ⟨h15, q16, hh⟩ := db hh
  obtain ⟨a17, q18, q16⟩ := db q16
  rw [dq_xV q16] at q18
  refine dq_csp hD 103 116 5 [] (some (21 + List.length h)) [.int 0, va_rf o1, .int x7.1, va_rf (some 10), .int x13] [va_rf (some (21 + List.length h))] 30 [va_rf (some (21 + List.length h))] (by decide +kernel) ap_116 ⟨Nat.le_of_ble_eq_true rfl, rfl, rfl⟩ (dq_ok8 [1, 1, 1, 1, 1, 1] [1] (dc_r (dc_i (dc_r (dc_i (dc_r (dc_i dc_n)))))) (dc_r dc_n) (by decide +kernel)) (by decide +kernel) rfl q18 rfl ?_
  refine dq_asn 2 31 (by decide +kernel) (by decide +kernel) ?_
  have g19 := dg_ne (i := 2) (u := va_rf (some (21 + List.length h))) (by decide) (Or.inl (by decide)) G0
  have g20 := dg_ne (i := 2) (u := va_rf (some (21 + List.length h))) (by decide) (Or.inr (drc _)) G1
  have g21 := dg_eq (lv) 2 (va_rf (some (21 + List.length h)))
  refine dq_aln 1 32 (by decide +kernel) rfl g20 ?_
  refine dq_aln 2 33 (by decide +kernel) rfl g21 ?_
  obtain ⟨h22, q23, hh⟩ := db hh
  refine dq_put 106 6 [9] 36 (by decide +kernel) rfl q23 ?_
  refine dq_aln 0 37 (by decide +kernel) rfl g19 ?_
  obtain ⟨p24, q25, hh⟩ := db hh
  refine dq_gR 15 1 [8] 40 (by decide +kernel) rfl q25 ?_
  obtain ⟨p26, q27, hh⟩ := db hh
  refine dq_gR 98 2 [4] 43 (by decide +kernel) rfl q27 ?_
  refine dq_aln 2 44 (by decide +kernel) rfl g21 ?_
  obtain ⟨x28, q29, hh⟩ := db hh
  obtain ⟨a30, q31, q29⟩ := db q29
  rw [dq_xI q29] at q31
  refine dq_cif hD 80 2 103 7 1 [5] p26 [va_rf (some (21 + List.length h))] [] 49 [.int x28.1] (by decide +kernel) ap_103 ⟨⟨Nat.le_of_ble_eq_true rfl, by decide⟩, rfl, rfl⟩ (dq_ok8 [1, 1] [] (dc_r (dc_r dc_n)) dc_n (by decide +kernel)) (by decide +kernel) rfl q31 rfl ?_
  refine dq_S (.pop) 1 [] 50 _ [] (by decide +kernel) rfl ?_
  refine dq_aln 0 51 (by decide +kernel) rfl g19 ?_
  refine dq_S (.bipush 22) 2 [] 53 _ [.int 22, va_rf o0] (by decide +kernel) rfl ?_
  obtain ⟨h32, q33, hh⟩ := db hh
  obtain ⟨a34, q35, q33⟩ := db q33
  rw [dq_xV q33] at q35
  refine dq_cvi hD 42 109 5 1 [8] o0 [.int 22] [] 56 [] (by decide +kernel) ap_109 ⟨⟨Nat.le_of_ble_eq_true rfl, by decide⟩, rfl, rfl⟩ (dq_ok8 [1, 1] [] (dc_r (dc_i dc_n)) dc_n (by decide +kernel)) (by decide +kernel) rfl q35 rfl ?_
  refine dq_aln 0 57 (by decide +kernel) rfl g19 ?_
  refine dq_aln 2 58 (by decide +kernel) rfl g21 ?_
  obtain ⟨h36, q37, hh⟩ := db hh
  obtain ⟨a38, q39, q37⟩ := db q37
  rw [dq_xV q37] at q39
  refine dq_cvi hD 110 117 5 1 [8] o0 [va_rf (some (21 + List.length h))] [] 61 [] (by decide +kernel) ap_117 ⟨⟨Nat.le_of_ble_eq_true rfl, by decide⟩, rfl, rfl⟩ (dq_ok8 [1, 1] [] (dc_r (dc_r dc_n)) dc_n (by decide +kernel)) (by decide +kernel) rfl q39 rfl ?_
  refine dq_aln 2 62 (by decide +kernel) rfl g21 ?_
  refine dq_aln 0 63 (by decide +kernel) rfl g19 ?_
  refine dq_aln 2 64 (by decide +kernel) rfl g21 ?_
  refine dq_S (.iconst 1) 1 [] 65 _ [.int 1, va_rf (some (21 + List.length h)), va_rf o0, va_rf (some (21 + List.length h))] (by decide +kernel) rfl ?_
  obtain ⟨p40, q41, hh⟩ := db hh
  obtain ⟨a42, q43, q41⟩ := db q41
  rw [dq_xR q41] at q43
  refine dq_cvi hD 114 119 5 2 [8] o0 [va_rf (some (21 + List.length h)), .int 1] [va_rf (some (21 + List.length h))] 68 [va_rf p40.1, va_rf (some (21 + List.length h))] (by decide +kernel) ap_119 ⟨⟨Nat.le_of_ble_eq_true rfl, by decide⟩, rfl, rfl⟩ (dq_ok8 [1, 1, 1] [1] (dc_r (dc_r (dc_i dc_n))) (dc_r dc_n) (by decide +kernel)) (by decide +kernel) rfl q43 rfl ?_
  obtain ⟨h44, q45, hh⟩ := db hh
  refine dq_put 118 9 [11] 71 (by decide +kernel) rfl q45 ?_
  cases hh
  exact dq_ret0 (by decide +kernel) rfl
def f115 (L : Nat) (xs : Nat → Int32) (zf : Value) (D : dD) (w : Nat) (As : List Value) (h : rm_H) : Option dR := match As with
  | [v0, v1] => (rm_rf v0).bind fun o0 => (rm_rf v1).bind fun o1 => b115_0 L xs zf D w o0 o1 h
  | _ => none
theorem d115 {L : Nat} {xs : Nat → Int32} {zf : Value} {D : dD} {w k : Nat} (hD : dO L xs zf D k) (hz : zf.category = 1) (As : List Value) (h : rm_H) (r : dR) (hh : f115 L xs zf D w As h = some r) : dq L xs zf ah_M115 0 (lv_args 0 As) [] h (k + 1) r := by
  unfold f115 at hh
  split at hh
  · obtain ⟨o0, e0, hb0⟩ := db hh
    have e0 := rm_rf_v _ _ e0
    obtain ⟨o1, e1, hb1⟩ := db hb0
    have e1 := rm_rf_v _ _ e1
    subst e0 e1
    refine c115_0 hD hz _ _ _ _ _ ?_ ?_ hb1
    all_goals (simp only [la_r, la_i, la_j]; rfl)
  · cases hh
def b116_0 (L : Nat) (xs : Nat → Int32) (zf : Value) (D : dD) (w : Nat) (o0 : Option Nat) (i1 : Int32) (o2 : Option Nat) (i3 : Int32) (o4 : Option Nat) (i5 : Int32) (h : rm_H) : Option dR :=
  if dnl o0 = true then none else
  (dpF h 0 [11] o0 (.int i1)).bind fun h2 =>
  (dpF h2 1 [11] o0 (va_rf o2)).bind fun h4 =>
  (dpF h4 2 [11] o0 (.int i3)).bind fun h6 =>
  (dpF h6 3 [11] o0 (va_rf o4)).bind fun h8 =>
  (dpF h8 4 [11] o0 (.int i5)).bind fun h10 =>
  (some (h10 ++ [.inr (5, ah_DV 5)])).bind fun h12 =>
  ((dcN D 45 (some (21 + List.length h10)) [] h12).bind dxV).bind fun h14 =>
  (dpF h14 5 [11] o0 (va_rf (some (21 + List.length h10)))).bind fun h18 =>
  (dpF h18 6 [11] o0 (.int 2)).bind fun h20 =>
  (dpF h20 7 [11] o0 (.int (-1))).bind fun h22 =>
  (dpF h22 8 [11] o0 (va_rf none)).bind fun h24 =>
  (dpF h24 9 [11] o0 (va_rf none)).bind fun h26 =>
  (dpF h26 10 [11] o0 (.int 0)).bind fun h28 =>
  (dpF h28 11 [11] o0 (.int 0)).bind fun h30 =>
  (dpF h30 12 [11] o0 (.int 1)).bind fun h32 =>
  (dpF h32 13 [11] o0 (.int 1)).bind fun h34 =>
  some (none, h34)
theorem c116_0 {L : Nat} {xs : Nat → Int32} {zf : Value} {D : dD} {w k : Nat} (hD : dO L xs zf D k) (hz : zf.category = 1) : ∀ (o0 : Option Nat) (i1 : Int32) (o2 : Option Nat) (i3 : Int32) (o4 : Option Nat) (i5 : Int32) (lv : rm_L) (h : rm_H) (r : dR), rm_get lv 0 = some (va_rf o0) → rm_get lv 1 = some (.int i1) → rm_get lv 2 = some (va_rf o2) → rm_get lv 3 = some (.int i3) → rm_get lv 4 = some (va_rf o4) → rm_get lv 5 = some (.int i5) → b116_0 L xs zf D w  o0 i1 o2 i3 o4 i5 h = some r → dq L xs zf ah_M116 0 lv [] h (k + 1) r := by
  intro o0 i1 o2 i3 o4 i5 lv h r G0 G1 G2 G3 G4 G5 hh
  unfold b116_0 at hh
  refine dq_aln 0 1 (by decide +kernel) rfl G0 ?_
  rcases di hh with ⟨_, hh⟩ | ⟨q1, hh⟩
  · cases hh
  refine dq_obj 3 4 (by decide +kernel) (dc_s dc_n (by decide +kernel)) rfl q1 ?_
  refine dq_aln 0 5 (by decide +kernel) rfl G0 ?_
  refine dq_iln 1 6 (by decide +kernel) rfl G1 ?_
  obtain ⟨h2, q3, hh⟩ := db hh
  refine dq_put 9 0 [11] 9 (by decide +kernel) rfl q3 ?_
  refine dq_aln 0 10 (by decide +kernel) rfl G0 ?_
  refine dq_aln 2 11 (by decide +kernel) rfl G2 ?_
  obtain ⟨h4, q5, hh⟩ := db hh
  refine dq_put 15 1 [11] 14 (by decide +kernel) rfl q5 ?_
  refine dq_aln 0 15 (by decide +kernel) rfl G0 ?_
  refine dq_iln 3 16 (by decide +kernel) rfl G3 ?_
  obtain ⟨h6, q7, hh⟩ := db hh
  refine dq_put 19 2 [11] 19 (by decide +kernel) rfl q7 ?_
  refine dq_aln 0 20 (by decide +kernel) rfl G0 ?_
  refine dq_al 4 22 (by decide +kernel) rfl G4 ?_
  obtain ⟨h8, q9, hh⟩ := db hh
  refine dq_put 22 3 [11] 25 (by decide +kernel) rfl q9 ?_
  refine dq_aln 0 26 (by decide +kernel) rfl G0 ?_
  refine dq_il 5 28 (by decide +kernel) rfl G5 ?_
  obtain ⟨h10, q11, hh⟩ := db hh
  refine dq_put 26 4 [11] 31 (by decide +kernel) rfl q11 ?_
  refine dq_aln 0 32 (by decide +kernel) rfl G0 ?_
  obtain ⟨h12, q13, hh⟩ := db hh
  refine dq_new 29 5 35 (by decide +kernel) rfl ?_
  rw [Option.some.inj q13]
  refine dq_dup 36 (by decide +kernel) rfl ?_
  obtain ⟨h14, q15, hh⟩ := db hh
  obtain ⟨a16, q17, q15⟩ := db q15
  rw [dq_xV q15] at q17
  refine dq_csp hD 31 45 0 [] (some (21 + List.length h10)) [] [va_rf (some (21 + List.length h10)), va_rf o0] 39 [va_rf (some (21 + List.length h10)), va_rf o0] (by decide +kernel) ap_45 ⟨Nat.le_of_ble_eq_true rfl, rfl, rfl⟩ (dq_ok8 [1] [1, 1] (dc_r dc_n) (dc_r (dc_r dc_n)) (by decide +kernel)) (by decide +kernel) rfl q17 rfl ?_
  obtain ⟨h18, q19, hh⟩ := db hh
  refine dq_put 32 5 [11] 42 (by decide +kernel) rfl q19 ?_
  refine dq_aln 0 43 (by decide +kernel) rfl G0 ?_
  refine dq_S (.iconst 2) 1 [] 44 _ [.int 2, va_rf o0] (by decide +kernel) rfl ?_
  obtain ⟨h20, q21, hh⟩ := db hh
  refine dq_put 36 6 [11] 47 (by decide +kernel) rfl q21 ?_
  refine dq_aln 0 48 (by decide +kernel) rfl G0 ?_
  refine dq_S (.iconst (-1)) 1 [] 49 _ [.int (-1), va_rf o0] (by decide +kernel) rfl ?_
  obtain ⟨h22, q23, hh⟩ := db hh
  refine dq_put 39 7 [11] 52 (by decide +kernel) rfl q23 ?_
  refine dq_aln 0 53 (by decide +kernel) rfl G0 ?_
  refine dq_S (.aconst_null) 1 [] 54 _ [va_rf none, va_rf o0] (by decide +kernel) rfl ?_
  obtain ⟨h24, q25, hh⟩ := db hh
  refine dq_put 42 8 [11] 57 (by decide +kernel) rfl q25 ?_
  refine dq_aln 0 58 (by decide +kernel) rfl G0 ?_
  refine dq_S (.aconst_null) 1 [] 59 _ [va_rf none, va_rf o0] (by decide +kernel) rfl ?_
  obtain ⟨h26, q27, hh⟩ := db hh
  refine dq_put 46 9 [11] 62 (by decide +kernel) rfl q27 ?_
  refine dq_aln 0 63 (by decide +kernel) rfl G0 ?_
  refine dq_S (.iconst 0) 1 [] 64 _ [.int 0, va_rf o0] (by decide +kernel) rfl ?_
  obtain ⟨h28, q29, hh⟩ := db hh
  refine dq_put 50 10 [11] 67 (by decide +kernel) rfl q29 ?_
  refine dq_aln 0 68 (by decide +kernel) rfl G0 ?_
  refine dq_S (.iconst 0) 1 [] 69 _ [.int 0, va_rf o0] (by decide +kernel) rfl ?_
  obtain ⟨h30, q31, hh⟩ := db hh
  refine dq_put 53 11 [11] 72 (by decide +kernel) rfl q31 ?_
  refine dq_aln 0 73 (by decide +kernel) rfl G0 ?_
  refine dq_S (.iconst 1) 1 [] 74 _ [.int 1, va_rf o0] (by decide +kernel) rfl ?_
  obtain ⟨h32, q33, hh⟩ := db hh
  refine dq_put 56 12 [11] 77 (by decide +kernel) rfl q33 ?_
  refine dq_aln 0 78 (by decide +kernel) rfl G0 ?_
  refine dq_S (.iconst 1) 1 [] 79 _ [.int 1, va_rf o0] (by decide +kernel) rfl ?_
  obtain ⟨h34, q35, hh⟩ := db hh
  refine dq_put 60 13 [11] 82 (by decide +kernel) rfl q35 ?_
  cases hh
  exact dq_ret0 (by decide +kernel) rfl
def f116 (L : Nat) (xs : Nat → Int32) (zf : Value) (D : dD) (w : Nat) (As : List Value) (h : rm_H) : Option dR := match As with
  | [v0, .int i1, v2, .int i3, v4, .int i5] => (rm_rf v0).bind fun o0 => (rm_rf v2).bind fun o2 => (rm_rf v4).bind fun o4 => b116_0 L xs zf D w o0 i1 o2 i3 o4 i5 h
  | _ => none
theorem d116 {L : Nat} {xs : Nat → Int32} {zf : Value} {D : dD} {w k : Nat} (hD : dO L xs zf D k) (hz : zf.category = 1) (As : List Value) (h : rm_H) (r : dR) (hh : f116 L xs zf D w As h = some r) : dq L xs zf ah_M116 0 (lv_args 0 As) [] h (k + 1) r := by
  unfold f116 at hh
  split at hh
  · obtain ⟨o0, e0, hb0⟩ := db hh
    have e0 := rm_rf_v _ _ e0
    obtain ⟨o2, e2, hb2⟩ := db hb0
    have e2 := rm_rf_v _ _ e2
    obtain ⟨o4, e4, hb4⟩ := db hb2
    have e4 := rm_rf_v _ _ e4
    subst e0 e2 e4
    refine c116_0 hD hz _ _ _ _ _ _ _ _ _ ?_ ?_ ?_ ?_ ?_ ?_ hb4
    all_goals (simp only [la_r, la_i, la_j]; rfl)
  · cases hh
def b117_49 (L : Nat) (xs : Nat → Int32) (zf : Value) (D : dD) (w : Nat) (K26 : Option Nat → Option Nat → Int32 → Int32 → rm_H → Option dR) (o0 : Option Nat) (o1 : Option Nat) (i3 : Int32) (h : rm_H) : Option dR :=
  ((dcV L xs D 111 [8] o0 [] h).bind dxR).bind fun p1 =>
  (dpF p1.2 8 [10] p1.1 (.int i3)).bind fun h9 =>
  (dgR L xs h9 5 [11] o1).bind fun p11 =>
  ((dcV L xs D 103 [5] p11 [va_rf p1.1] h9).bind dxI).bind fun x13 =>
  ((dcV L xs D 118 [8] o0 [.int 10] x13.2).bind dxI).bind fun x17 =>
  K26 o0 o1 x17.1 (i3 + 1) x17.2
theorem c117_49 {L : Nat} {xs : Nat → Int32} {zf : Value} {D : dD} {w k : Nat} {K26 : Option Nat → Option Nat → Int32 → Int32 → rm_H → Option dR} (hD : dO L xs zf D k) (hz : zf.category = 1) (hK26 : ∀ (o0 : Option Nat) (o1 : Option Nat) (i2 : Int32) (i3 : Int32) (lv : rm_L) (h : rm_H) (r : dR), rm_get lv 0 = some (va_rf o0) → rm_get lv 1 = some (va_rf o1) → rm_get lv 2 = some (.int i2) → rm_get lv 3 = some (.int i3) → K26 o0 o1 i2 i3 h = some r → dq L xs zf ah_M117 26 lv [] h (k + 1) r) : ∀ (o0 : Option Nat) (o1 : Option Nat) (i3 : Int32) (lv : rm_L) (h : rm_H) (r : dR), rm_get lv 0 = some (va_rf o0) → rm_get lv 1 = some (va_rf o1) → rm_get lv 3 = some (.int i3) → b117_49 L xs zf D w K26  o0 o1 i3 h = some r → dq L xs zf ah_M117 49 lv [] h (k + 1) r := by
  intro o0 o1 i3 lv h r G0 G1 G3 hh
  unfold b117_49 at hh
  refine dq_aln 0 50 (by decide +kernel) rfl G0 ?_
  obtain ⟨p1, q2, hh⟩ := db hh
  obtain ⟨a3, q4, q2⟩ := db q2
  rw [dq_xR q2] at q4
  refine dq_cvi hD 84 111 5 0 [8] o0 [] [] 53 [va_rf p1.1] (by decide +kernel) ap_111 ⟨⟨Nat.le_of_ble_eq_true rfl, by decide⟩, rfl, rfl⟩ (dq_ok8 [1] [] (dc_r dc_n) dc_n (by decide +kernel)) (by decide +kernel) rfl q4 rfl ?_
  refine dq_as 4 55 (by decide +kernel) (by decide +kernel) ?_
  have g5 := dg_ne (i := 4) (u := va_rf p1.1) (by decide) (Or.inl (by decide)) G0
  have g6 := dg_ne (i := 4) (u := va_rf p1.1) (by decide) (Or.inl (by decide)) G1
  have g7 := dg_ne (i := 4) (u := va_rf p1.1) (by decide) (Or.inr rfl) G3
  have g8 := dg_eq (lv) 4 (va_rf p1.1)
  refine dq_al 4 57 (by decide +kernel) rfl g8 ?_
  refine dq_iln 3 58 (by decide +kernel) rfl g7 ?_
  obtain ⟨h9, q10, hh⟩ := db hh
  refine dq_put 88 8 [10] 61 (by decide +kernel) rfl q10 ?_
  refine dq_aln 1 62 (by decide +kernel) rfl g6 ?_
  obtain ⟨p11, q12, hh⟩ := db hh
  refine dq_gR 149 5 [11] 65 (by decide +kernel) rfl q12 ?_
  refine dq_al 4 67 (by decide +kernel) rfl g8 ?_
  obtain ⟨x13, q14, hh⟩ := db hh
  obtain ⟨a15, q16, q14⟩ := db q14
  rw [dq_xI q14] at q16
  refine dq_cif hD 80 2 103 7 1 [5] p11 [va_rf p1.1] [] 72 [.int x13.1] (by decide +kernel) ap_103 ⟨⟨Nat.le_of_ble_eq_true rfl, by decide⟩, rfl, rfl⟩ (dq_ok8 [1, 1] [] (dc_r (dc_r dc_n)) dc_n (by decide +kernel)) (by decide +kernel) rfl q16 rfl ?_
  refine dq_S (.pop) 1 [] 73 _ [] (by decide +kernel) rfl ?_
  refine dq_aln 0 74 (by decide +kernel) rfl g5 ?_
  refine dq_S (.bipush 10) 2 [] 76 _ [.int 10, va_rf o0] (by decide +kernel) rfl ?_
  obtain ⟨x17, q18, hh⟩ := db hh
  obtain ⟨a19, q20, q18⟩ := db q18
  rw [dq_xI q18] at q20
  refine dq_cvi hD 152 118 5 1 [8] o0 [.int 10] [] 79 [.int x17.1] (by decide +kernel) ap_118 ⟨⟨Nat.le_of_ble_eq_true rfl, by decide⟩, rfl, rfl⟩ (dq_ok8 [1, 1] [] (dc_r (dc_i dc_n)) dc_n (by decide +kernel)) (by decide +kernel) rfl q20 rfl ?_
  refine dq_isn 2 80 (by decide +kernel) (by decide +kernel) ?_
  have g21 := dg_ne (i := 2) (u := .int x17.1) (by decide) (Or.inl (by decide)) g5
  have g22 := dg_ne (i := 2) (u := .int x17.1) (by decide) (Or.inr (drc _)) g6
  have g23 := dg_ne (i := 2) (u := .int x17.1) (by decide) (Or.inl (by decide)) g7
  have g24 := dg_ne (i := 2) (u := .int x17.1) (by decide) (Or.inl (by decide)) g8
  have g25 := dg_eq (rm_set1 (lv) 4 (va_rf p1.1)) 2 (.int x17.1)
  refine dq_incy 3 1 1 83 (by decide +kernel) ⟨rfl, by decide +kernel, by decide +kernel⟩ g23 ?_
  have g26 := dg_ne (i := 3) (u := .int (i3 + 1)) (by decide) (Or.inl (by decide)) g21
  have g27 := dg_ne (i := 3) (u := .int (i3 + 1)) (by decide) (Or.inl (by decide)) g22
  have g28 := dg_ne (i := 3) (u := .int (i3 + 1)) (by decide) (Or.inl (by decide)) g24
  have g29 := dg_ne (i := 3) (u := .int (i3 + 1)) (by decide) (Or.inr rfl) g25
  have g30 := dg_eq (rm_set1 (rm_set1 (lv) 4 (va_rf p1.1)) 2 (.int x17.1)) 3 (.int (i3 + 1))
  refine dq_S (.goto (-57)) 3 [] 26 _ [] (by decide +kernel) rfl ?_
  exact hK26 _ _ _ _ _ _ _ g26 g27 g29 g30 hh
def b117_86 (L : Nat) (xs : Nat → Int32) (zf : Value) (D : dD) (w : Nat) (o0 : Option Nat) (o1 : Option Nat) (h : rm_H) : Option dR :=
  (dgR L xs h 5 [11] o1).bind fun p1 =>
  ((dcV L xs D 101 [5] p1 [] h).bind dxI).bind fun x3 =>
  (dpF x3.2 10 [11] o1 (.int x3.1)).bind fun h7 =>
  ((dcV L xs D 109 [8] o0 [.int 8] h7).bind dxV).bind fun h9 =>
  some (none, h9)
theorem c117_86 {L : Nat} {xs : Nat → Int32} {zf : Value} {D : dD} {w k : Nat} (hD : dO L xs zf D k) (hz : zf.category = 1) : ∀ (o0 : Option Nat) (o1 : Option Nat) (lv : rm_L) (h : rm_H) (r : dR), rm_get lv 0 = some (va_rf o0) → rm_get lv 1 = some (va_rf o1) → b117_86 L xs zf D w  o0 o1 h = some r → dq L xs zf ah_M117 86 lv [] h (k + 1) r := by
  intro o0 o1 lv h r G0 G1 hh
  unfold b117_86 at hh
  refine dq_aln 1 87 (by decide +kernel) rfl G1 ?_
  refine dq_aln 1 88 (by decide +kernel) rfl G1 ?_
  obtain ⟨p1, q2, hh⟩ := db hh
  refine dq_gR 149 5 [11] 91 (by decide +kernel) rfl q2 ?_
  obtain ⟨x3, q4, hh⟩ := db hh
  obtain ⟨a5, q6, q4⟩ := db q4
  rw [dq_xI q4] at q6
  refine dq_cif hD 71 1 101 7 0 [5] p1 [] [va_rf o1] 96 [.int x3.1, va_rf o1] (by decide +kernel) ap_101 ⟨⟨Nat.le_of_ble_eq_true rfl, by decide⟩, rfl, rfl⟩ (dq_ok8 [1] [1] (dc_r dc_n) (dc_r dc_n) (by decide +kernel)) (by decide +kernel) rfl q6 rfl ?_
  obtain ⟨h7, q8, hh⟩ := db hh
  refine dq_put 156 10 [11] 99 (by decide +kernel) rfl q8 ?_
  refine dq_aln 0 100 (by decide +kernel) rfl G0 ?_
  refine dq_S (.bipush 8) 2 [] 102 _ [.int 8, va_rf o0] (by decide +kernel) rfl ?_
  obtain ⟨h9, q10, hh⟩ := db hh
  obtain ⟨a11, q12, q10⟩ := db q10
  rw [dq_xV q10] at q12
  refine dq_cvi hD 42 109 5 1 [8] o0 [.int 8] [] 105 [] (by decide +kernel) ap_109 ⟨⟨Nat.le_of_ble_eq_true rfl, by decide⟩, rfl, rfl⟩ (dq_ok8 [1, 1] [] (dc_r (dc_i dc_n)) dc_n (by decide +kernel)) (by decide +kernel) rfl q12 rfl ?_
  cases hh
  exact dq_ret0 (by decide +kernel) rfl
def b117_26 (L : Nat) (xs : Nat → Int32) (zf : Value) (D : dD) (w : Nat) : Nat → Option Nat → Option Nat → Int32 → Int32 → rm_H → Option dR
  | 0, _, _, _, _, _ => none
  | n + 1, o0, o1, i2, i3, h =>
    if mx_f1 .eq i2 = true then
      b117_86 L xs zf D w o0 o1 h
    else
      if mx_f2 .gt i3 6 = true then
        b117_86 L xs zf D w o0 o1 h
      else
        if mx_f2 .ne i3 6 = true then
          b117_49 L xs zf D w (b117_26 L xs zf D w n) o0 o1 i3 h
        else
          (dgR L xs h 0 [8] o0).bind fun p4 =>
          ((dcV L xs D 95 [6] p4 [] h).bind dxV).bind fun h6 =>
          b117_49 L xs zf D w (b117_26 L xs zf D w n) o0 o1 i3 h6
theorem c117_26 {L : Nat} {xs : Nat → Int32} {zf : Value} {D : dD} {w k : Nat} (hD : dO L xs zf D k) (hz : zf.category = 1) : ∀ (n : Nat) (o0 : Option Nat) (o1 : Option Nat) (i2 : Int32) (i3 : Int32) (lv : rm_L) (h : rm_H) (r : dR), rm_get lv 0 = some (va_rf o0) → rm_get lv 1 = some (va_rf o1) → rm_get lv 2 = some (.int i2) → rm_get lv 3 = some (.int i3) → b117_26 L xs zf D w n  o0 o1 i2 i3 h = some r → dq L xs zf ah_M117 26 lv [] h (k + 1) r := by
  intro n
  induction n with
  | zero =>
    intro o0 o1 i2 i3 lv h r G0 G1 G2 G3 hh
    cases hh
  | succ n ih =>
    intro o0 o1 i2 i3 lv h r G0 G1 G2 G3 hh
    rw [b117_26] at hh
    refine dq_iln 2 27 (by decide +kernel) rfl G2 ?_
    rcases di hh with ⟨q1, hh⟩ | ⟨q1, hh⟩
    · refine dq_1 .eq 59 true 86 q1 (by decide +kernel) ?_
      exact c117_86 hD hz _ _ _ _ _ G0 G1 hh
    · refine dq_1 .eq 59 false 30 q1 (by decide +kernel) ?_
      refine dq_iln 3 31 (by decide +kernel) rfl G3 ?_
      refine dq_S (.bipush 6) 2 [] 33 _ [.int 6, .int i3] (by decide +kernel) rfl ?_
      rcases di hh with ⟨q2, hh⟩ | ⟨q2, hh⟩
      · refine dq_2 .gt 53 true 86 q2 (by decide +kernel) ?_
        exact c117_86 hD hz _ _ _ _ _ G0 G1 hh
      · refine dq_2 .gt 53 false 36 q2 (by decide +kernel) ?_
        refine dq_iln 3 37 (by decide +kernel) rfl G3 ?_
        refine dq_S (.bipush 6) 2 [] 39 _ [.int 6, .int i3] (by decide +kernel) rfl ?_
        rcases di hh with ⟨q3, hh⟩ | ⟨q3, hh⟩
        · refine dq_2 .ne 10 true 49 q3 (by decide +kernel) ?_
          exact c117_49 hD hz ih _ _ _ _ _ _ G0 G1 G3 hh
        · refine dq_2 .ne 10 false 42 q3 (by decide +kernel) ?_
          refine dq_aln 0 43 (by decide +kernel) rfl G0 ?_
          obtain ⟨p4, q5, hh⟩ := db hh
          refine dq_gR 9 0 [8] 46 (by decide +kernel) rfl q5 ?_
          obtain ⟨h6, q7, hh⟩ := db hh
          obtain ⟨a8, q9, q7⟩ := db q7
          rw [dq_xV q7] at q9
          refine dq_cvi hD 46 95 5 0 [6] p4 [] [] 49 [] (by decide +kernel) ap_95 ⟨⟨Nat.le_of_ble_eq_true rfl, by decide⟩, rfl, rfl⟩ (dq_ok8 [1] [] (dc_r dc_n) dc_n (by decide +kernel)) (by decide +kernel) rfl q9 rfl ?_
          exact c117_49 hD hz ih _ _ _ _ _ _ G0 G1 G3 hh
def b117_23 (L : Nat) (xs : Nat → Int32) (zf : Value) (D : dD) (w : Nat) (o0 : Option Nat) (o1 : Option Nat) (s0 : Int32) (h : rm_H) : Option dR :=
  b117_26 L xs zf D w w o0 o1 s0 0 h
theorem c117_23 {L : Nat} {xs : Nat → Int32} {zf : Value} {D : dD} {w k : Nat} (hD : dO L xs zf D k) (hz : zf.category = 1) : ∀ (o0 : Option Nat) (o1 : Option Nat) (s0 : Int32) (lv : rm_L) (h : rm_H) (r : dR), rm_get lv 0 = some (va_rf o0) → rm_get lv 1 = some (va_rf o1) → b117_23 L xs zf D w  o0 o1 s0 h = some r → dq L xs zf ah_M117 23 lv [.int s0] h (k + 1) r := by
  intro o0 o1 s0 lv h r G0 G1 hh
  unfold b117_23 at hh
  refine dq_isn 2 24 (by decide +kernel) (by decide +kernel) ?_
  have g1 := dg_ne (i := 2) (u := .int s0) (by decide) (Or.inl (by decide)) G0
  have g2 := dg_ne (i := 2) (u := .int s0) (by decide) (Or.inr (drc _)) G1
  have g3 := dg_eq (lv) 2 (.int s0)
  refine dq_S (.iconst 0) 1 [] 25 _ [.int 0] (by decide +kernel) rfl ?_
  refine dq_isn 3 26 (by decide +kernel) (by decide +kernel) ?_
  have g4 := dg_ne (i := 3) (u := .int 0) (by decide) (Or.inl (by decide)) g1
  have g5 := dg_ne (i := 3) (u := .int 0) (by decide) (Or.inl (by decide)) g2
  have g6 := dg_ne (i := 3) (u := .int 0) (by decide) (Or.inr rfl) g3
  have g7 := dg_eq (rm_set1 (lv) 2 (.int s0)) 3 (.int 0)
  exact c117_26 hD hz _ _ _ _ _ _ _ _ g4 g5 g6 g7 hh
def b117_0 (L : Nat) (xs : Nat → Int32) (zf : Value) (D : dD) (w : Nat) (o0 : Option Nat) (o1 : Option Nat) (h : rm_H) : Option dR :=
  ((dcV L xs D 109 [8] o0 [.int 7] h).bind dxV).bind fun h1 =>
  (dgR L xs h1 0 [8] o0).bind fun p5 =>
  (dgI L xs h1 6 [6] p5).bind fun x7 =>
  if mx_f2 .eq x7 8 = true then
    b117_23 L xs zf D w o0 o1 0 h1
  else
    b117_23 L xs zf D w o0 o1 1 h1
theorem c117_0 {L : Nat} {xs : Nat → Int32} {zf : Value} {D : dD} {w k : Nat} (hD : dO L xs zf D k) (hz : zf.category = 1) : ∀ (o0 : Option Nat) (o1 : Option Nat) (lv : rm_L) (h : rm_H) (r : dR), rm_get lv 0 = some (va_rf o0) → rm_get lv 1 = some (va_rf o1) → b117_0 L xs zf D w  o0 o1 h = some r → dq L xs zf ah_M117 0 lv [] h (k + 1) r := by
  intro o0 o1 lv h r G0 G1 hh
  unfold b117_0 at hh
  refine dq_aln 0 1 (by decide +kernel) rfl G0 ?_
  refine dq_S (.bipush 7) 2 [] 3 _ [.int 7, va_rf o0] (by decide +kernel) rfl ?_
  obtain ⟨h1, q2, hh⟩ := db hh
  obtain ⟨a3, q4, q2⟩ := db q2
  rw [dq_xV q2] at q4
  refine dq_cvi hD 42 109 5 1 [8] o0 [.int 7] [] 6 [] (by decide +kernel) ap_109 ⟨⟨Nat.le_of_ble_eq_true rfl, by decide⟩, rfl, rfl⟩ (dq_ok8 [1, 1] [] (dc_r (dc_i dc_n)) dc_n (by decide +kernel)) (by decide +kernel) rfl q4 rfl ?_
  refine dq_aln 0 7 (by decide +kernel) rfl G0 ?_
  obtain ⟨p5, q6, hh⟩ := db hh
  refine dq_gR 9 0 [8] 10 (by decide +kernel) rfl q6 ?_
  obtain ⟨x7, q8, hh⟩ := db hh
  refine dq_gI 24 6 [6] 13 (by decide +kernel) rfl q8 ?_
  refine dq_S (.bipush 8) 2 [] 15 _ [.int 8, .int x7] (by decide +kernel) rfl ?_
  rcases di hh with ⟨q9, hh⟩ | ⟨q9, hh⟩
  · refine dq_2 .eq 7 true 22 q9 (by decide +kernel) ?_
    refine dq_S (.iconst 0) 1 [] 23 _ [.int 0] (by decide +kernel) rfl ?_
    exact c117_23 hD hz _ _ _ _ _ _ G0 G1 hh
  · refine dq_2 .eq 7 false 18 q9 (by decide +kernel) ?_
    refine dq_S (.iconst 1) 1 [] 19 _ [.int 1] (by decide +kernel) rfl ?_
    refine dq_S (.goto 4) 3 [] 23 _ [.int 1] (by decide +kernel) rfl ?_
    exact c117_23 hD hz _ _ _ _ _ _ G0 G1 hh
def f117 (L : Nat) (xs : Nat → Int32) (zf : Value) (D : dD) (w : Nat) (As : List Value) (h : rm_H) : Option dR := match As with
  | [v0, v1] => (rm_rf v0).bind fun o0 => (rm_rf v1).bind fun o1 => b117_0 L xs zf D w o0 o1 h
  | _ => none
theorem d117 {L : Nat} {xs : Nat → Int32} {zf : Value} {D : dD} {w k : Nat} (hD : dO L xs zf D k) (hz : zf.category = 1) (As : List Value) (h : rm_H) (r : dR) (hh : f117 L xs zf D w As h = some r) : dq L xs zf ah_M117 0 (lv_args 0 As) [] h (k + 1) r := by
  unfold f117 at hh
  split at hh
  · obtain ⟨o0, e0, hb0⟩ := db hh
    have e0 := rm_rf_v _ _ e0
    obtain ⟨o1, e1, hb1⟩ := db hb0
    have e1 := rm_rf_v _ _ e1
    subst e0 e1
    refine c117_0 hD hz _ _ _ _ _ ?_ ?_ hb1
    all_goals (simp only [la_r, la_i, la_j]; rfl)
  · cases hh
def b118_0 (L : Nat) (xs : Nat → Int32) (zf : Value) (D : dD) (w : Nat) (o0 : Option Nat) (i1 : Int32) (h : rm_H) : Option dR :=
  (dgR L xs h 0 [8] o0).bind fun p1 =>
  (dgI L xs h 6 [6] p1).bind fun x3 =>
  if mx_f2 .eq x3 i1 = true then
    (dgR L xs h 0 [8] o0).bind fun p6 =>
    ((dcV L xs D 92 [6] p6 [] h).bind dxV).bind fun h8 =>
    drI (some .boolean) 1 h8
  else
    drI (some .boolean) 0 h
theorem c118_0 {L : Nat} {xs : Nat → Int32} {zf : Value} {D : dD} {w k : Nat} (hD : dO L xs zf D k) (hz : zf.category = 1) : ∀ (o0 : Option Nat) (i1 : Int32) (lv : rm_L) (h : rm_H) (r : dR), rm_get lv 0 = some (va_rf o0) → rm_get lv 1 = some (.int i1) → b118_0 L xs zf D w  o0 i1 h = some r → dq L xs zf ah_M118 0 lv [] h (k + 1) r := by
  intro o0 i1 lv h r G0 G1 hh
  unfold b118_0 at hh
  refine dq_aln 0 1 (by decide +kernel) rfl G0 ?_
  obtain ⟨p1, q2, hh⟩ := db hh
  refine dq_gR 9 0 [8] 4 (by decide +kernel) rfl q2 ?_
  obtain ⟨x3, q4, hh⟩ := db hh
  refine dq_gI 24 6 [6] 7 (by decide +kernel) rfl q4 ?_
  refine dq_iln 1 8 (by decide +kernel) rfl G1 ?_
  rcases di hh with ⟨q5, hh⟩ | ⟨q5, hh⟩
  · refine dq_2 .eq 5 true 13 q5 (by decide +kernel) ?_
    refine dq_aln 0 14 (by decide +kernel) rfl G0 ?_
    obtain ⟨p6, q7, hh⟩ := db hh
    refine dq_gR 9 0 [8] 17 (by decide +kernel) rfl q7 ?_
    obtain ⟨h8, q9, hh⟩ := db hh
    obtain ⟨a10, q11, q9⟩ := db q9
    rw [dq_xV q9] at q11
    refine dq_cvi hD 19 92 5 0 [6] p6 [] [] 20 [] (by decide +kernel) ap_92 ⟨⟨Nat.le_of_ble_eq_true rfl, by decide⟩, rfl, rfl⟩ (dq_ok8 [1] [] (dc_r dc_n) dc_n (by decide +kernel)) (by decide +kernel) rfl q11 rfl ?_
    refine dq_S (.iconst 1) 1 [] 21 _ [.int 1] (by decide +kernel) rfl ?_
    exact dq_retI (some .boolean) (by decide +kernel) rfl hh
  · refine dq_2 .eq 5 false 11 q5 (by decide +kernel) ?_
    refine dq_S (.iconst 0) 1 [] 12 _ [.int 0] (by decide +kernel) rfl ?_
    exact dq_retI (some .boolean) (by decide +kernel) rfl hh
def f118 (L : Nat) (xs : Nat → Int32) (zf : Value) (D : dD) (w : Nat) (As : List Value) (h : rm_H) : Option dR := match As with
  | [v0, .int i1] => (rm_rf v0).bind fun o0 => b118_0 L xs zf D w o0 i1 h
  | _ => none
theorem d118 {L : Nat} {xs : Nat → Int32} {zf : Value} {D : dD} {w k : Nat} (hD : dO L xs zf D k) (hz : zf.category = 1) (As : List Value) (h : rm_H) (r : dR) (hh : f118 L xs zf D w As h = some r) : dq L xs zf ah_M118 0 (lv_args 0 As) [] h (k + 1) r := by
  unfold f118 at hh
  split at hh
  · obtain ⟨o0, e0, hb0⟩ := db hh
    have e0 := rm_rf_v _ _ e0
    subst e0
    refine c118_0 hD hz _ _ _ _ _ ?_ ?_ hb0
    all_goals (simp only [la_r, la_i, la_j]; rfl)
  · cases hh
def b119_87 (L : Nat) (xs : Nat → Int32) (zf : Value) (D : dD) (w : Nat) (o0 : Option Nat) (o3 : Option Nat) (h : rm_H) : Option dR :=
  (dgR L xs h 0 [8] o0).bind fun p1 =>
  (dgI L xs h 7 [6] p1).bind fun x3 =>
  (dpF h 3 [12] o3 (.int x3)).bind fun h5 =>
  ((dcV L xs D 109 [8] o0 [.int 6] h5).bind dxV).bind fun h7 =>
  some (some (va_rf o3), h7)
theorem c119_87 {L : Nat} {xs : Nat → Int32} {zf : Value} {D : dD} {w k : Nat} (hD : dO L xs zf D k) (hz : zf.category = 1) : ∀ (o0 : Option Nat) (o3 : Option Nat) (lv : rm_L) (h : rm_H) (r : dR), rm_get lv 0 = some (va_rf o0) → rm_get lv 3 = some (va_rf o3) → b119_87 L xs zf D w  o0 o3 h = some r → dq L xs zf ah_M119 87 lv [] h (k + 1) r := by
  intro o0 o3 lv h r G0 G3 hh
  unfold b119_87 at hh
  refine dq_aln 3 88 (by decide +kernel) rfl G3 ?_
  refine dq_aln 0 89 (by decide +kernel) rfl G0 ?_
  obtain ⟨p1, q2, hh⟩ := db hh
  refine dq_gR 9 0 [8] 92 (by decide +kernel) rfl q2 ?_
  obtain ⟨x3, q4, hh⟩ := db hh
  refine dq_gI 58 7 [6] 95 (by decide +kernel) rfl q4 ?_
  obtain ⟨h5, q6, hh⟩ := db hh
  refine dq_put 189 3 [12] 98 (by decide +kernel) rfl q6 ?_
  refine dq_aln 0 99 (by decide +kernel) rfl G0 ?_
  refine dq_S (.bipush 6) 2 [] 101 _ [.int 6, va_rf o0] (by decide +kernel) rfl ?_
  obtain ⟨h7, q8, hh⟩ := db hh
  obtain ⟨a9, q10, q8⟩ := db q8
  rw [dq_xV q8] at q10
  refine dq_cvi hD 42 109 5 1 [8] o0 [.int 6] [] 104 [] (by decide +kernel) ap_109 ⟨⟨Nat.le_of_ble_eq_true rfl, by decide⟩, rfl, rfl⟩ (dq_ok8 [1, 1] [] (dc_r (dc_i dc_n)) dc_n (by decide +kernel)) (by decide +kernel) rfl q10 rfl ?_
  refine dq_aln 3 105 (by decide +kernel) rfl G3 ?_
  cases hh
  exact dq_retR (by decide +kernel) rfl
def b119_40 (L : Nat) (xs : Nat → Int32) (zf : Value) (D : dD) (w : Nat) : Nat → Option Nat → Option Nat → Int32 → Option Nat → Int32 → rm_H → Option dR
  | 0, _, _, _, _, _, _ => none
  | n + 1, o0, o1, i2, o3, i4, h =>
    if mx_f2 .ge i4 2000 = true then
      b119_87 L xs zf D w o0 o3 h
    else
      (dgR L xs h 0 [8] o0).bind fun p2 =>
      (dgI L xs h 6 [6] p2).bind fun x4 =>
      if mx_f2 .eq x4 6 = true then
        b119_87 L xs zf D w o0 o3 h
      else
        (dgR L xs h 0 [8] o0).bind fun p7 =>
        (dgI L xs h 8 [6] p7).bind fun x9 =>
        if mx_f2 .ne x9 (-1) = true then
          b119_87 L xs zf D w o0 o3 h
        else
          ((dcV L xs D 121 [8] o0 [va_rf o1, .int i2] h).bind dxR).bind fun p12 =>
          ((dcV L xs D 135 [12] o3 [va_rf p12.1] p12.2).bind dxV).bind fun h16 =>
          b119_40 L xs zf D w n o0 o1 i2 o3 (i4 + 1) h16
theorem c119_40 {L : Nat} {xs : Nat → Int32} {zf : Value} {D : dD} {w k : Nat} (hD : dO L xs zf D k) (hz : zf.category = 1) : ∀ (n : Nat) (o0 : Option Nat) (o1 : Option Nat) (i2 : Int32) (o3 : Option Nat) (i4 : Int32) (lv : rm_L) (h : rm_H) (r : dR), rm_get lv 0 = some (va_rf o0) → rm_get lv 1 = some (va_rf o1) → rm_get lv 2 = some (.int i2) → rm_get lv 3 = some (va_rf o3) → rm_get lv 4 = some (.int i4) → b119_40 L xs zf D w n  o0 o1 i2 o3 i4 h = some r → dq L xs zf ah_M119 40 lv [] h (k + 1) r := by
  intro n
  induction n with
  | zero =>
    intro o0 o1 i2 o3 i4 lv h r G0 G1 G2 G3 G4 hh
    cases hh
  | succ n ih =>
    intro o0 o1 i2 o3 i4 lv h r G0 G1 G2 G3 G4 hh
    rw [b119_40] at hh
    refine dq_il 4 42 (by decide +kernel) rfl G4 ?_
    refine dq_S (.sipush 2000) 3 [] 45 _ [.int 2000, .int i4] (by decide +kernel) rfl ?_
    rcases di hh with ⟨q1, hh⟩ | ⟨q1, hh⟩
    · refine dq_2 .ge 42 true 87 q1 (by decide +kernel) ?_
      exact c119_87 hD hz _ _ _ _ _ G0 G3 hh
    · refine dq_2 .ge 42 false 48 q1 (by decide +kernel) ?_
      refine dq_aln 0 49 (by decide +kernel) rfl G0 ?_
      obtain ⟨p2, q3, hh⟩ := db hh
      refine dq_gR 9 0 [8] 52 (by decide +kernel) rfl q3 ?_
      obtain ⟨x4, q5, hh⟩ := db hh
      refine dq_gI 24 6 [6] 55 (by decide +kernel) rfl q5 ?_
      refine dq_S (.bipush 6) 2 [] 57 _ [.int 6, .int x4] (by decide +kernel) rfl ?_
      rcases di hh with ⟨q6, hh⟩ | ⟨q6, hh⟩
      · refine dq_2 .eq 30 true 87 q6 (by decide +kernel) ?_
        exact c119_87 hD hz _ _ _ _ _ G0 G3 hh
      · refine dq_2 .eq 30 false 60 q6 (by decide +kernel) ?_
        refine dq_aln 0 61 (by decide +kernel) rfl G0 ?_
        obtain ⟨p7, q8, hh⟩ := db hh
        refine dq_gR 9 0 [8] 64 (by decide +kernel) rfl q8 ?_
        obtain ⟨x9, q10, hh⟩ := db hh
        refine dq_gI 49 8 [6] 67 (by decide +kernel) rfl q10 ?_
        refine dq_S (.iconst (-1)) 1 [] 68 _ [.int (-1), .int x9] (by decide +kernel) rfl ?_
        rcases di hh with ⟨q11, hh⟩ | ⟨q11, hh⟩
        · refine dq_2 .ne 19 true 87 q11 (by decide +kernel) ?_
          exact c119_87 hD hz _ _ _ _ _ G0 G3 hh
        · refine dq_2 .ne 19 false 71 q11 (by decide +kernel) ?_
          refine dq_aln 3 72 (by decide +kernel) rfl G3 ?_
          refine dq_aln 0 73 (by decide +kernel) rfl G0 ?_
          refine dq_aln 1 74 (by decide +kernel) rfl G1 ?_
          refine dq_iln 2 75 (by decide +kernel) rfl G2 ?_
          obtain ⟨p12, q13, hh⟩ := db hh
          obtain ⟨a14, q15, q13⟩ := db q13
          rw [dq_xR q13] at q15
          refine dq_cvi hD 182 121 5 2 [8] o0 [va_rf o1, .int i2] [va_rf o3] 78 [va_rf p12.1, va_rf o3] (by decide +kernel) ap_121 ⟨⟨Nat.le_of_ble_eq_true rfl, by decide⟩, rfl, rfl⟩ (dq_ok8 [1, 1, 1] [1] (dc_r (dc_r (dc_i dc_n))) (dc_r dc_n) (by decide +kernel)) (by decide +kernel) rfl q15 rfl ?_
          obtain ⟨h16, q17, hh⟩ := db hh
          obtain ⟨a18, q19, q17⟩ := db q17
          rw [dq_xV q17] at q19
          refine dq_cvi hD 185 135 5 1 [12] o3 [va_rf p12.1] [] 81 [] (by decide +kernel) ap_135 ⟨⟨Nat.le_of_ble_eq_true rfl, by decide⟩, rfl, rfl⟩ (dq_ok8 [1, 1] [] (dc_r (dc_r dc_n)) dc_n (by decide +kernel)) (by decide +kernel) rfl q19 rfl ?_
          refine dq_incy 4 1 1 84 (by decide +kernel) ⟨rfl, by decide +kernel, by decide +kernel⟩ G4 ?_
          have g20 := dg_ne (i := 4) (u := .int (i4 + 1)) (by decide) (Or.inl (by decide)) G0
          have g21 := dg_ne (i := 4) (u := .int (i4 + 1)) (by decide) (Or.inl (by decide)) G1
          have g22 := dg_ne (i := 4) (u := .int (i4 + 1)) (by decide) (Or.inl (by decide)) G2
          have g23 := dg_ne (i := 4) (u := .int (i4 + 1)) (by decide) (Or.inr (drc _)) G3
          have g24 := dg_eq (lv) 4 (.int (i4 + 1))
          refine dq_S (.goto (-44)) 3 [] 40 _ [] (by decide +kernel) rfl ?_
          exact ih _ _ _ _ _ _ _ _ g20 g21 g22 g23 g24 hh
def b119_0 (L : Nat) (xs : Nat → Int32) (zf : Value) (D : dD) (w : Nat) (o0 : Option Nat) (o1 : Option Nat) (i2 : Int32) (h : rm_H) : Option dR :=
  (some (h ++ [.inr (12, ah_DV 12)])).bind fun h1 =>
  (dgR L xs h1 0 [8] o0).bind fun p3 =>
  (dgI L xs h1 7 [6] p3).bind fun x5 =>
  ((dcN D 120 (some (21 + List.length h)) [.int 14, .int x5] h1).bind dxV).bind fun h7 =>
  if mx_f2 .le i2 24 = true then
    ((dcV L xs D 109 [8] o0 [.int 5] h7).bind dxV).bind fun h16 =>
    b119_40 L xs zf D w w o0 o1 i2 (some (21 + List.length h)) 0 h16
  else
    (dgR L xs h7 0 [8] o0).bind fun p25 =>
    ((dcV L xs D 95 [6] p25 [] h7).bind dxV).bind fun h27 =>
    some (some (va_rf (some (21 + List.length h))), h27)
theorem c119_0 {L : Nat} {xs : Nat → Int32} {zf : Value} {D : dD} {w k : Nat} (hD : dO L xs zf D k) (hz : zf.category = 1) : ∀ (o0 : Option Nat) (o1 : Option Nat) (i2 : Int32) (lv : rm_L) (h : rm_H) (r : dR), rm_get lv 0 = some (va_rf o0) → rm_get lv 1 = some (va_rf o1) → rm_get lv 2 = some (.int i2) → b119_0 L xs zf D w  o0 o1 i2 h = some r → dq L xs zf ah_M119 0 lv [] h (k + 1) r := by
  intro o0 o1 i2 lv h r G0 G1 G2 hh
  unfold b119_0 at hh
  obtain ⟨h1, q2, hh⟩ := db hh
  refine dq_new 178 12 3 (by decide +kernel) rfl ?_
  rw [Option.some.inj q2]
  refine dq_dup 4 (by decide +kernel) rfl ?_
  refine dq_S (.bipush 14) 2 [] 6 _ [.int 14, va_rf (some (21 + List.length h)), va_rf (some (21 + List.length h))] (by decide +kernel) rfl ?_
  refine dq_aln 0 7 (by decide +kernel) rfl G0 ?_
  obtain ⟨p3, q4, hh⟩ := db hh
  refine dq_gR 9 0 [8] 10 (by decide +kernel) rfl q4 ?_
  obtain ⟨x5, q6, hh⟩ := db hh
  refine dq_gI 58 7 [6] 13 (by decide +kernel) rfl q6 ?_
  obtain ⟨h7, q8, hh⟩ := db hh
  obtain ⟨a9, q10, q8⟩ := db q8
  rw [dq_xV q8] at q10
  refine dq_csp hD 180 120 2 [] (some (21 + List.length h)) [.int 14, .int x5] [va_rf (some (21 + List.length h))] 16 [va_rf (some (21 + List.length h))] (by decide +kernel) ap_120 ⟨Nat.le_of_ble_eq_true rfl, rfl, rfl⟩ (dq_ok8 [1, 1, 1] [1] (dc_r (dc_i (dc_i dc_n))) (dc_r dc_n) (by decide +kernel)) (by decide +kernel) rfl q10 rfl ?_
  refine dq_asn 3 17 (by decide +kernel) (by decide +kernel) ?_
  have g11 := dg_ne (i := 3) (u := va_rf (some (21 + List.length h))) (by decide) (Or.inl (by decide)) G0
  have g12 := dg_ne (i := 3) (u := va_rf (some (21 + List.length h))) (by decide) (Or.inl (by decide)) G1
  have g13 := dg_ne (i := 3) (u := va_rf (some (21 + List.length h))) (by decide) (Or.inr rfl) G2
  have g14 := dg_eq (lv) 3 (va_rf (some (21 + List.length h)))
  refine dq_iln 2 18 (by decide +kernel) rfl g13 ?_
  refine dq_S (.bipush 24) 2 [] 20 _ [.int 24, .int i2] (by decide +kernel) rfl ?_
  rcases di hh with ⟨q15, hh⟩ | ⟨q15, hh⟩
  · refine dq_2 .le 12 true 32 q15 (by decide +kernel) ?_
    refine dq_aln 0 33 (by decide +kernel) rfl g11 ?_
    refine dq_S (.iconst 5) 1 [] 34 _ [.int 5, va_rf o0] (by decide +kernel) rfl ?_
    obtain ⟨h16, q17, hh⟩ := db hh
    obtain ⟨a18, q19, q17⟩ := db q17
    rw [dq_xV q17] at q19
    refine dq_cvi hD 42 109 5 1 [8] o0 [.int 5] [] 37 [] (by decide +kernel) ap_109 ⟨⟨Nat.le_of_ble_eq_true rfl, by decide⟩, rfl, rfl⟩ (dq_ok8 [1, 1] [] (dc_r (dc_i dc_n)) dc_n (by decide +kernel)) (by decide +kernel) rfl q19 rfl ?_
    refine dq_S (.iconst 0) 1 [] 38 _ [.int 0] (by decide +kernel) rfl ?_
    refine dq_is 4 40 (by decide +kernel) (by decide +kernel) ?_
    have g20 := dg_ne (i := 4) (u := .int 0) (by decide) (Or.inl (by decide)) g11
    have g21 := dg_ne (i := 4) (u := .int 0) (by decide) (Or.inl (by decide)) g12
    have g22 := dg_ne (i := 4) (u := .int 0) (by decide) (Or.inl (by decide)) g13
    have g23 := dg_ne (i := 4) (u := .int 0) (by decide) (Or.inr (drc _)) g14
    have g24 := dg_eq (rm_set1 (lv) 3 (va_rf (some (21 + List.length h)))) 4 (.int 0)
    exact c119_40 hD hz _ _ _ _ _ _ _ _ _ g20 g21 g22 g23 g24 hh
  · refine dq_2 .le 12 false 23 q15 (by decide +kernel) ?_
    refine dq_aln 0 24 (by decide +kernel) rfl g11 ?_
    obtain ⟨p25, q26, hh⟩ := db hh
    refine dq_gR 9 0 [8] 27 (by decide +kernel) rfl q26 ?_
    obtain ⟨h27, q28, hh⟩ := db hh
    obtain ⟨a29, q30, q28⟩ := db q28
    rw [dq_xV q28] at q30
    refine dq_cvi hD 46 95 5 0 [6] p25 [] [] 30 [] (by decide +kernel) ap_95 ⟨⟨Nat.le_of_ble_eq_true rfl, by decide⟩, rfl, rfl⟩ (dq_ok8 [1] [] (dc_r dc_n) dc_n (by decide +kernel)) (by decide +kernel) rfl q30 rfl ?_
    refine dq_aln 3 31 (by decide +kernel) rfl g14 ?_
    cases hh
    exact dq_retR (by decide +kernel) rfl
def f119 (L : Nat) (xs : Nat → Int32) (zf : Value) (D : dD) (w : Nat) (As : List Value) (h : rm_H) : Option dR := match As with
  | [v0, v1, .int i2] => (rm_rf v0).bind fun o0 => (rm_rf v1).bind fun o1 => b119_0 L xs zf D w o0 o1 i2 h
  | _ => none
theorem d119 {L : Nat} {xs : Nat → Int32} {zf : Value} {D : dD} {w k : Nat} (hD : dO L xs zf D k) (hz : zf.category = 1) (As : List Value) (h : rm_H) (r : dR) (hh : f119 L xs zf D w As h = some r) : dq L xs zf ah_M119 0 (lv_args 0 As) [] h (k + 1) r := by
  unfold f119 at hh
  split at hh
  · obtain ⟨o0, e0, hb0⟩ := db hh
    have e0 := rm_rf_v _ _ e0
    obtain ⟨o1, e1, hb1⟩ := db hb0
    have e1 := rm_rf_v _ _ e1
    subst e0 e1
    refine c119_0 hD hz _ _ _ _ _ _ ?_ ?_ ?_ hb1
    all_goals (simp only [la_r, la_i, la_j]; rfl)
  · cases hh
def b120_0 (L : Nat) (xs : Nat → Int32) (zf : Value) (D : dD) (w : Nat) (o0 : Option Nat) (i1 : Int32) (i2 : Int32) (h : rm_H) : Option dR :=
  if dnl o0 = true then none else
  (dpF h 0 [12] o0 (.int i1)).bind fun h2 =>
  (dpF h2 1 [12] o0 (.int i2)).bind fun h4 =>
  (dpF h4 2 [12] o0 (va_rf (some 9))).bind fun h6 =>
  (dpF h6 3 [12] o0 (.int i2)).bind fun h8 =>
  (dpF h8 4 [12] o0 (.int 0)).bind fun h10 =>
  (dpF h10 5 [12] o0 (va_rf none)).bind fun h12 =>
  (dpF h12 6 [12] o0 (va_rf none)).bind fun h14 =>
  (dpF h14 7 [12] o0 (va_rf none)).bind fun h16 =>
  (dpF h16 8 [12] o0 (va_rf none)).bind fun h18 =>
  (dpF h18 9 [12] o0 (va_rf none)).bind fun h20 =>
  (dpF h20 10 [12] o0 (va_rf none)).bind fun h22 =>
  (dpF h22 11 [12] o0 (va_rf none)).bind fun h24 =>
  (dpF h24 12 [12] o0 (.int 0)).bind fun h26 =>
  some (none, h26)
theorem c120_0 {L : Nat} {xs : Nat → Int32} {zf : Value} {D : dD} {w k : Nat} (hD : dO L xs zf D k) (hz : zf.category = 1) : ∀ (o0 : Option Nat) (i1 : Int32) (i2 : Int32) (lv : rm_L) (h : rm_H) (r : dR), rm_get lv 0 = some (va_rf o0) → rm_get lv 1 = some (.int i1) → rm_get lv 2 = some (.int i2) → b120_0 L xs zf D w  o0 i1 i2 h = some r → dq L xs zf ah_M120 0 lv [] h (k + 1) r := by
  intro o0 i1 i2 lv h r G0 G1 G2 hh
  unfold b120_0 at hh
  refine dq_aln 0 1 (by decide +kernel) rfl G0 ?_
  rcases di hh with ⟨_, hh⟩ | ⟨q1, hh⟩
  · cases hh
  refine dq_obj 3 4 (by decide +kernel) (dc_s dc_n (by decide +kernel)) rfl q1 ?_
  refine dq_aln 0 5 (by decide +kernel) rfl G0 ?_
  refine dq_iln 1 6 (by decide +kernel) rfl G1 ?_
  obtain ⟨h2, q3, hh⟩ := db hh
  refine dq_put 9 0 [12] 9 (by decide +kernel) rfl q3 ?_
  refine dq_aln 0 10 (by decide +kernel) rfl G0 ?_
  refine dq_iln 2 11 (by decide +kernel) rfl G2 ?_
  obtain ⟨h4, q5, hh⟩ := db hh
  refine dq_put 15 1 [12] 14 (by decide +kernel) rfl q5 ?_
  refine dq_aln 0 15 (by decide +kernel) rfl G0 ?_
  refine dq_S (.ldc 18) 2 [1, 9] 17 _ [va_rf (some 9), va_rf o0] (by decide +kernel) rfl ?_
  obtain ⟨h6, q7, hh⟩ := db hh
  refine dq_put 20 2 [12] 20 (by decide +kernel) rfl q7 ?_
  refine dq_aln 0 21 (by decide +kernel) rfl G0 ?_
  refine dq_iln 2 22 (by decide +kernel) rfl G2 ?_
  obtain ⟨h8, q9, hh⟩ := db hh
  refine dq_put 24 3 [12] 25 (by decide +kernel) rfl q9 ?_
  refine dq_aln 0 26 (by decide +kernel) rfl G0 ?_
  refine dq_S (.iconst 0) 1 [] 27 _ [.int 0, va_rf o0] (by decide +kernel) rfl ?_
  obtain ⟨h10, q11, hh⟩ := db hh
  refine dq_put 27 4 [12] 30 (by decide +kernel) rfl q11 ?_
  refine dq_aln 0 31 (by decide +kernel) rfl G0 ?_
  refine dq_S (.aconst_null) 1 [] 32 _ [va_rf none, va_rf o0] (by decide +kernel) rfl ?_
  obtain ⟨h12, q13, hh⟩ := db hh
  refine dq_put 30 5 [12] 35 (by decide +kernel) rfl q13 ?_
  refine dq_aln 0 36 (by decide +kernel) rfl G0 ?_
  refine dq_S (.aconst_null) 1 [] 37 _ [va_rf none, va_rf o0] (by decide +kernel) rfl ?_
  obtain ⟨h14, q15, hh⟩ := db hh
  refine dq_put 34 6 [12] 40 (by decide +kernel) rfl q15 ?_
  refine dq_aln 0 41 (by decide +kernel) rfl G0 ?_
  refine dq_S (.aconst_null) 1 [] 42 _ [va_rf none, va_rf o0] (by decide +kernel) rfl ?_
  obtain ⟨h16, q17, hh⟩ := db hh
  refine dq_put 38 7 [12] 45 (by decide +kernel) rfl q17 ?_
  refine dq_aln 0 46 (by decide +kernel) rfl G0 ?_
  refine dq_S (.aconst_null) 1 [] 47 _ [va_rf none, va_rf o0] (by decide +kernel) rfl ?_
  obtain ⟨h18, q19, hh⟩ := db hh
  refine dq_put 41 8 [12] 50 (by decide +kernel) rfl q19 ?_
  refine dq_aln 0 51 (by decide +kernel) rfl G0 ?_
  refine dq_S (.aconst_null) 1 [] 52 _ [va_rf none, va_rf o0] (by decide +kernel) rfl ?_
  obtain ⟨h20, q21, hh⟩ := db hh
  refine dq_put 44 9 [12] 55 (by decide +kernel) rfl q21 ?_
  refine dq_aln 0 56 (by decide +kernel) rfl G0 ?_
  refine dq_S (.aconst_null) 1 [] 57 _ [va_rf none, va_rf o0] (by decide +kernel) rfl ?_
  obtain ⟨h22, q23, hh⟩ := db hh
  refine dq_put 47 10 [12] 60 (by decide +kernel) rfl q23 ?_
  refine dq_aln 0 61 (by decide +kernel) rfl G0 ?_
  refine dq_S (.aconst_null) 1 [] 62 _ [va_rf none, va_rf o0] (by decide +kernel) rfl ?_
  obtain ⟨h24, q25, hh⟩ := db hh
  refine dq_put 50 11 [12] 65 (by decide +kernel) rfl q25 ?_
  refine dq_aln 0 66 (by decide +kernel) rfl G0 ?_
  refine dq_S (.iconst 0) 1 [] 67 _ [.int 0, va_rf o0] (by decide +kernel) rfl ?_
  obtain ⟨h26, q27, hh⟩ := db hh
  refine dq_put 54 12 [12] 70 (by decide +kernel) rfl q27 ?_
  cases hh
  exact dq_ret0 (by decide +kernel) rfl
def f120 (L : Nat) (xs : Nat → Int32) (zf : Value) (D : dD) (w : Nat) (As : List Value) (h : rm_H) : Option dR := match As with
  | [v0, .int i1, .int i2] => (rm_rf v0).bind fun o0 => b120_0 L xs zf D w o0 i1 i2 h
  | _ => none
theorem d120 {L : Nat} {xs : Nat → Int32} {zf : Value} {D : dD} {w k : Nat} (hD : dO L xs zf D k) (hz : zf.category = 1) (As : List Value) (h : rm_H) (r : dR) (hh : f120 L xs zf D w As h = some r) : dq L xs zf ah_M120 0 (lv_args 0 As) [] h (k + 1) r := by
  unfold f120 at hh
  split at hh
  · obtain ⟨o0, e0, hb0⟩ := db hh
    have e0 := rm_rf_v _ _ e0
    subst e0
    refine c120_0 hD hz _ _ _ _ _ _ ?_ ?_ ?_ hb0
    all_goals (simp only [la_r, la_i, la_j]; rfl)
  · cases hh
def b121_0 (L : Nat) (xs : Nat → Int32) (zf : Value) (D : dD) (w : Nat) (o0 : Option Nat) (o1 : Option Nat) (i2 : Int32) (h : rm_H) : Option dR :=
  (dgR L xs h 0 [8] o0).bind fun p1 =>
  (dgI L xs h 6 [6] p1).bind fun x3 =>
  if dsw 25 31 x3 = true then
    ((dcV L xs D 141 [8] o0 [va_rf o1, .int i2] h).bind dxR).bind fun p6 =>
    some (some (va_rf p6.1), p6.2)
  else if x3 = 25 then
    ((dcV L xs D 122 [8] o0 [va_rf o1, .int i2] h).bind dxR).bind fun p11 =>
    some (some (va_rf p11.1), p11.2)
  else if x3 = 26 then
    ((dcV L xs D 139 [8] o0 [.int 16, va_rf o1, .int i2] h).bind dxR).bind fun p16 =>
    some (some (va_rf p16.1), p16.2)
  else if x3 = 27 then
    ((dcV L xs D 141 [8] o0 [va_rf o1, .int i2] h).bind dxR).bind fun p21 =>
    some (some (va_rf p21.1), p21.2)
  else if x3 = 28 then
    ((dcV L xs D 139 [8] o0 [.int 17, va_rf o1, .int i2] h).bind dxR).bind fun p26 =>
    some (some (va_rf p26.1), p26.2)
  else if x3 = 29 then
    ((dcV L xs D 140 [8] o0 [.int 19, va_rf o1, .int i2] h).bind dxR).bind fun p31 =>
    some (some (va_rf p31.1), p31.2)
  else if x3 = 30 then
    ((dcV L xs D 140 [8] o0 [.int 18, va_rf o1, .int i2] h).bind dxR).bind fun p36 =>
    some (some (va_rf p36.1), p36.2)
  else if x3 = 31 then
    ((dcV L xs D 140 [8] o0 [.int 20, va_rf o1, .int i2] h).bind dxR).bind fun p41 =>
    some (some (va_rf p41.1), p41.2)
  else none
theorem c121_0 {L : Nat} {xs : Nat → Int32} {zf : Value} {D : dD} {w k : Nat} (hD : dO L xs zf D k) (hz : zf.category = 1) : ∀ (o0 : Option Nat) (o1 : Option Nat) (i2 : Int32) (lv : rm_L) (h : rm_H) (r : dR), rm_get lv 0 = some (va_rf o0) → rm_get lv 1 = some (va_rf o1) → rm_get lv 2 = some (.int i2) → b121_0 L xs zf D w  o0 o1 i2 h = some r → dq L xs zf ah_M121 0 lv [] h (k + 1) r := by
  intro o0 o1 i2 lv h r G0 G1 G2 hh
  unfold b121_0 at hh
  refine dq_aln 0 1 (by decide +kernel) rfl G0 ?_
  obtain ⟨p1, q2, hh⟩ := db hh
  refine dq_gR 9 0 [8] 4 (by decide +kernel) rfl q2 ?_
  obtain ⟨x3, q4, hh⟩ := db hh
  refine dq_gI 24 6 [6] 7 (by decide +kernel) rfl q4 ?_
  rcases di hh with ⟨q5, hh⟩ | ⟨_, hh⟩
  · refine dq_sd 93 25 31 #[41, 48, 93, 57, 75, 66, 84] 41 100 (by decide +kernel) (by decide +kernel) q5 ?_
    refine dq_aln 0 101 (by decide +kernel) rfl G0 ?_
    refine dq_aln 1 102 (by decide +kernel) rfl G1 ?_
    refine dq_iln 2 103 (by decide +kernel) rfl G2 ?_
    obtain ⟨p6, q7, hh⟩ := db hh
    obtain ⟨a8, q9, q7⟩ := db q7
    rw [dq_xR q7] at q9
    refine dq_cvi hD 202 141 5 2 [8] o0 [va_rf o1, .int i2] [] 106 [va_rf p6.1] (by decide +kernel) ap_141 ⟨⟨Nat.le_of_ble_eq_true rfl, by decide⟩, rfl, rfl⟩ (dq_ok8 [1, 1, 1] [] (dc_r (dc_r (dc_i dc_n))) dc_n (by decide +kernel)) (by decide +kernel) rfl q9 rfl ?_
    cases hh
    exact dq_retR (by decide +kernel) rfl
  rcases dp hh with ⟨q10, hh⟩ | ⟨_, hh⟩
  · refine dq_eq 25 q10 ?_
    refine dq_S (.tableswitch 93 25 31 #[41, 48, 93, 57, 75, 66, 84]) 41 [] 48 _ [] (by decide +kernel) rfl ?_
    refine dq_aln 0 49 (by decide +kernel) rfl G0 ?_
    refine dq_aln 1 50 (by decide +kernel) rfl G1 ?_
    refine dq_iln 2 51 (by decide +kernel) rfl G2 ?_
    obtain ⟨p11, q12, hh⟩ := db hh
    obtain ⟨a13, q14, q12⟩ := db q12
    rw [dq_xR q12] at q14
    refine dq_cvi hD 192 122 5 2 [8] o0 [va_rf o1, .int i2] [] 54 [va_rf p11.1] (by decide +kernel) ap_122 ⟨⟨Nat.le_of_ble_eq_true rfl, by decide⟩, rfl, rfl⟩ (dq_ok8 [1, 1, 1] [] (dc_r (dc_r (dc_i dc_n))) dc_n (by decide +kernel)) (by decide +kernel) rfl q14 rfl ?_
    cases hh
    exact dq_retR (by decide +kernel) rfl
  rcases dp hh with ⟨q15, hh⟩ | ⟨_, hh⟩
  · refine dq_eq 26 q15 ?_
    refine dq_S (.tableswitch 93 25 31 #[41, 48, 93, 57, 75, 66, 84]) 41 [] 55 _ [] (by decide +kernel) rfl ?_
    refine dq_aln 0 56 (by decide +kernel) rfl G0 ?_
    refine dq_S (.bipush 16) 2 [] 58 _ [.int 16, va_rf o0] (by decide +kernel) rfl ?_
    refine dq_aln 1 59 (by decide +kernel) rfl G1 ?_
    refine dq_iln 2 60 (by decide +kernel) rfl G2 ?_
    obtain ⟨p16, q17, hh⟩ := db hh
    obtain ⟨a18, q19, q17⟩ := db q17
    rw [dq_xR q17] at q19
    refine dq_cvi hD 195 139 5 3 [8] o0 [.int 16, va_rf o1, .int i2] [] 63 [va_rf p16.1] (by decide +kernel) ap_139 ⟨⟨Nat.le_of_ble_eq_true rfl, by decide⟩, rfl, rfl⟩ (dq_ok8 [1, 1, 1, 1] [] (dc_r (dc_i (dc_r (dc_i dc_n)))) dc_n (by decide +kernel)) (by decide +kernel) rfl q19 rfl ?_
    cases hh
    exact dq_retR (by decide +kernel) rfl
  rcases dp hh with ⟨q20, hh⟩ | ⟨_, hh⟩
  · refine dq_eq 27 q20 ?_
    refine dq_S (.tableswitch 93 25 31 #[41, 48, 93, 57, 75, 66, 84]) 41 [] 100 _ [] (by decide +kernel) rfl ?_
    refine dq_aln 0 101 (by decide +kernel) rfl G0 ?_
    refine dq_aln 1 102 (by decide +kernel) rfl G1 ?_
    refine dq_iln 2 103 (by decide +kernel) rfl G2 ?_
    obtain ⟨p21, q22, hh⟩ := db hh
    obtain ⟨a23, q24, q22⟩ := db q22
    rw [dq_xR q22] at q24
    refine dq_cvi hD 202 141 5 2 [8] o0 [va_rf o1, .int i2] [] 106 [va_rf p21.1] (by decide +kernel) ap_141 ⟨⟨Nat.le_of_ble_eq_true rfl, by decide⟩, rfl, rfl⟩ (dq_ok8 [1, 1, 1] [] (dc_r (dc_r (dc_i dc_n))) dc_n (by decide +kernel)) (by decide +kernel) rfl q24 rfl ?_
    cases hh
    exact dq_retR (by decide +kernel) rfl
  rcases dp hh with ⟨q25, hh⟩ | ⟨_, hh⟩
  · refine dq_eq 28 q25 ?_
    refine dq_S (.tableswitch 93 25 31 #[41, 48, 93, 57, 75, 66, 84]) 41 [] 64 _ [] (by decide +kernel) rfl ?_
    refine dq_aln 0 65 (by decide +kernel) rfl G0 ?_
    refine dq_S (.bipush 17) 2 [] 67 _ [.int 17, va_rf o0] (by decide +kernel) rfl ?_
    refine dq_aln 1 68 (by decide +kernel) rfl G1 ?_
    refine dq_iln 2 69 (by decide +kernel) rfl G2 ?_
    obtain ⟨p26, q27, hh⟩ := db hh
    obtain ⟨a28, q29, q27⟩ := db q27
    rw [dq_xR q27] at q29
    refine dq_cvi hD 195 139 5 3 [8] o0 [.int 17, va_rf o1, .int i2] [] 72 [va_rf p26.1] (by decide +kernel) ap_139 ⟨⟨Nat.le_of_ble_eq_true rfl, by decide⟩, rfl, rfl⟩ (dq_ok8 [1, 1, 1, 1] [] (dc_r (dc_i (dc_r (dc_i dc_n)))) dc_n (by decide +kernel)) (by decide +kernel) rfl q29 rfl ?_
    cases hh
    exact dq_retR (by decide +kernel) rfl
  rcases dp hh with ⟨q30, hh⟩ | ⟨_, hh⟩
  · refine dq_eq 29 q30 ?_
    refine dq_S (.tableswitch 93 25 31 #[41, 48, 93, 57, 75, 66, 84]) 41 [] 82 _ [] (by decide +kernel) rfl ?_
    refine dq_aln 0 83 (by decide +kernel) rfl G0 ?_
    refine dq_S (.bipush 19) 2 [] 85 _ [.int 19, va_rf o0] (by decide +kernel) rfl ?_
    refine dq_aln 1 86 (by decide +kernel) rfl G1 ?_
    refine dq_iln 2 87 (by decide +kernel) rfl G2 ?_
    obtain ⟨p31, q32, hh⟩ := db hh
    obtain ⟨a33, q34, q32⟩ := db q32
    rw [dq_xR q32] at q34
    refine dq_cvi hD 199 140 5 3 [8] o0 [.int 19, va_rf o1, .int i2] [] 90 [va_rf p31.1] (by decide +kernel) ap_140 ⟨⟨Nat.le_of_ble_eq_true rfl, by decide⟩, rfl, rfl⟩ (dq_ok8 [1, 1, 1, 1] [] (dc_r (dc_i (dc_r (dc_i dc_n)))) dc_n (by decide +kernel)) (by decide +kernel) rfl q34 rfl ?_
    cases hh
    exact dq_retR (by decide +kernel) rfl
  rcases dp hh with ⟨q35, hh⟩ | ⟨_, hh⟩
  · refine dq_eq 30 q35 ?_
    refine dq_S (.tableswitch 93 25 31 #[41, 48, 93, 57, 75, 66, 84]) 41 [] 73 _ [] (by decide +kernel) rfl ?_
    refine dq_aln 0 74 (by decide +kernel) rfl G0 ?_
    refine dq_S (.bipush 18) 2 [] 76 _ [.int 18, va_rf o0] (by decide +kernel) rfl ?_
    refine dq_aln 1 77 (by decide +kernel) rfl G1 ?_
    refine dq_iln 2 78 (by decide +kernel) rfl G2 ?_
    obtain ⟨p36, q37, hh⟩ := db hh
    obtain ⟨a38, q39, q37⟩ := db q37
    rw [dq_xR q37] at q39
    refine dq_cvi hD 199 140 5 3 [8] o0 [.int 18, va_rf o1, .int i2] [] 81 [va_rf p36.1] (by decide +kernel) ap_140 ⟨⟨Nat.le_of_ble_eq_true rfl, by decide⟩, rfl, rfl⟩ (dq_ok8 [1, 1, 1, 1] [] (dc_r (dc_i (dc_r (dc_i dc_n)))) dc_n (by decide +kernel)) (by decide +kernel) rfl q39 rfl ?_
    cases hh
    exact dq_retR (by decide +kernel) rfl
  rcases dp hh with ⟨q40, hh⟩ | ⟨_, hh⟩
  · refine dq_eq 31 q40 ?_
    refine dq_S (.tableswitch 93 25 31 #[41, 48, 93, 57, 75, 66, 84]) 41 [] 91 _ [] (by decide +kernel) rfl ?_
    refine dq_aln 0 92 (by decide +kernel) rfl G0 ?_
    refine dq_S (.bipush 20) 2 [] 94 _ [.int 20, va_rf o0] (by decide +kernel) rfl ?_
    refine dq_aln 1 95 (by decide +kernel) rfl G1 ?_
    refine dq_iln 2 96 (by decide +kernel) rfl G2 ?_
    obtain ⟨p41, q42, hh⟩ := db hh
    obtain ⟨a43, q44, q42⟩ := db q42
    rw [dq_xR q42] at q44
    refine dq_cvi hD 199 140 5 3 [8] o0 [.int 20, va_rf o1, .int i2] [] 99 [va_rf p41.1] (by decide +kernel) ap_140 ⟨⟨Nat.le_of_ble_eq_true rfl, by decide⟩, rfl, rfl⟩ (dq_ok8 [1, 1, 1, 1] [] (dc_r (dc_i (dc_r (dc_i dc_n)))) dc_n (by decide +kernel)) (by decide +kernel) rfl q44 rfl ?_
    cases hh
    exact dq_retR (by decide +kernel) rfl
  cases hh
def f121 (L : Nat) (xs : Nat → Int32) (zf : Value) (D : dD) (w : Nat) (As : List Value) (h : rm_H) : Option dR := match As with
  | [v0, v1, .int i2] => (rm_rf v0).bind fun o0 => (rm_rf v1).bind fun o1 => b121_0 L xs zf D w o0 o1 i2 h
  | _ => none
theorem d121 {L : Nat} {xs : Nat → Int32} {zf : Value} {D : dD} {w k : Nat} (hD : dO L xs zf D k) (hz : zf.category = 1) (As : List Value) (h : rm_H) (r : dR) (hh : f121 L xs zf D w As h = some r) : dq L xs zf ah_M121 0 (lv_args 0 As) [] h (k + 1) r := by
  unfold f121 at hh
  split at hh
  · obtain ⟨o0, e0, hb0⟩ := db hh
    have e0 := rm_rf_v _ _ e0
    obtain ⟨o1, e1, hb1⟩ := db hb0
    have e1 := rm_rf_v _ _ e1
    subst e0 e1
    refine c121_0 hD hz _ _ _ _ _ _ ?_ ?_ ?_ hb1
    all_goals (simp only [la_r, la_i, la_j]; rfl)
  · cases hh
