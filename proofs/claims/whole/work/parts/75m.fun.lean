/-! METHODS AS FUNCTIONS, printed by wip/whole/gen_fun.py -/
def b340_27 (L : Nat) (xs : Nat → Int32) (zf : Value) (D : dD) (w : Nat) (s0 : Int32) (h : rm_H) : Option dR :=
  drI (some .boolean) s0 h
theorem c340_27 {L : Nat} {xs : Nat → Int32} {zf : Value} {D : dD} {w k : Nat} (hD : dO L xs zf D k) (hz : zf.category = 1) : ∀ (s0 : Int32) (lv : rm_L) (h : rm_H) (r : dR), b340_27 L xs zf D w  s0 h = some r → dq L xs zf ah_M340 27 lv [.int s0] h (k + 1) r := by
  intro s0 lv h r hh
  unfold b340_27 at hh
  exact dq_retI (some .boolean) (by decide +kernel) rfl hh
def b340_26 (L : Nat) (xs : Nat → Int32) (zf : Value) (D : dD) (w : Nat) (h : rm_H) : Option dR :=
  b340_27 L xs zf D w 0 h
theorem c340_26 {L : Nat} {xs : Nat → Int32} {zf : Value} {D : dD} {w k : Nat} (hD : dO L xs zf D k) (hz : zf.category = 1) : ∀ (lv : rm_L) (h : rm_H) (r : dR), b340_26 L xs zf D w  h = some r → dq L xs zf ah_M340 26 lv [] h (k + 1) r := by
  intro lv h r hh
  unfold b340_26 at hh
  refine dq_S (.iconst 0) 1 [] 27 _ [.int 0] (by decide +kernel) rfl ?_
  exact c340_27 hD hz _ _ _ _  hh
def b340_0 (L : Nat) (xs : Nat → Int32) (zf : Value) (D : dD) (w : Nat) (o0 : Option Nat) (i1 : Int32) (h : rm_H) : Option dR :=
  (dgR L xs h 11 [15] o0).bind fun p1 =>
  (daI L xs h p1 i1).bind fun x3 =>
  if mx_f2 .lt x3 10 = true then
    b340_26 L xs zf D w h
  else
    (dgR L xs h 11 [15] o0).bind fun p6 =>
    (daI L xs h p6 i1).bind fun x8 =>
    if mx_f2 .gt x8 13 = true then
      b340_26 L xs zf D w h
    else
      b340_27 L xs zf D w 1 h
theorem c340_0 {L : Nat} {xs : Nat → Int32} {zf : Value} {D : dD} {w k : Nat} (hD : dO L xs zf D k) (hz : zf.category = 1) : ∀ (o0 : Option Nat) (i1 : Int32) (lv : rm_L) (h : rm_H) (r : dR), rm_get lv 0 = some (va_rf o0) → rm_get lv 1 = some (.int i1) → b340_0 L xs zf D w  o0 i1 h = some r → dq L xs zf ah_M340 0 lv [] h (k + 1) r := by
  intro o0 i1 lv h r G0 G1 hh
  unfold b340_0 at hh
  refine dq_aln 0 1 (by decide +kernel) rfl G0 ?_
  obtain ⟨p1, q2, hh⟩ := db hh
  refine dq_gR 36 11 [15] 4 (by decide +kernel) rfl q2 ?_
  refine dq_iln 1 5 (by decide +kernel) rfl G1 ?_
  obtain ⟨x3, q4, hh⟩ := db hh
  refine dq_aI 6 (by decide +kernel) rfl q4 ?_
  refine dq_S (.bipush 10) 2 [] 8 _ [.int 10, .int x3] (by decide +kernel) rfl ?_
  rcases di hh with ⟨q5, hh⟩ | ⟨q5, hh⟩
  · refine dq_2 .lt 18 true 26 q5 (by decide +kernel) ?_
    exact c340_26 hD hz  _ _ _  hh
  · refine dq_2 .lt 18 false 11 q5 (by decide +kernel) ?_
    refine dq_aln 0 12 (by decide +kernel) rfl G0 ?_
    obtain ⟨p6, q7, hh⟩ := db hh
    refine dq_gR 36 11 [15] 15 (by decide +kernel) rfl q7 ?_
    refine dq_iln 1 16 (by decide +kernel) rfl G1 ?_
    obtain ⟨x8, q9, hh⟩ := db hh
    refine dq_aI 17 (by decide +kernel) rfl q9 ?_
    refine dq_S (.bipush 13) 2 [] 19 _ [.int 13, .int x8] (by decide +kernel) rfl ?_
    rcases di hh with ⟨q10, hh⟩ | ⟨q10, hh⟩
    · refine dq_2 .gt 7 true 26 q10 (by decide +kernel) ?_
      exact c340_26 hD hz  _ _ _  hh
    · refine dq_2 .gt 7 false 22 q10 (by decide +kernel) ?_
      refine dq_S (.iconst 1) 1 [] 23 _ [.int 1] (by decide +kernel) rfl ?_
      refine dq_S (.goto 4) 3 [] 27 _ [.int 1] (by decide +kernel) rfl ?_
      exact c340_27 hD hz _ _ _ _  hh
def f340 (L : Nat) (xs : Nat → Int32) (zf : Value) (D : dD) (w : Nat) (As : List Value) (h : rm_H) : Option dR := match As with
  | [v0, .int i1] => (rm_rf v0).bind fun o0 => b340_0 L xs zf D w o0 i1 h
  | _ => none
theorem d340 {L : Nat} {xs : Nat → Int32} {zf : Value} {D : dD} {w k : Nat} (hD : dO L xs zf D k) (hz : zf.category = 1) (As : List Value) (h : rm_H) (r : dR) (hh : f340 L xs zf D w As h = some r) : dq L xs zf ah_M340 0 (lv_args 0 As) [] h (k + 1) r := by
  unfold f340 at hh
  split at hh
  · obtain ⟨o0, e0, hb0⟩ := db hh
    have e0 := rm_rf_v _ _ e0
    subst e0
    refine c340_0 hD hz _ _ _ _ _ ?_ ?_ hb0
    all_goals (simp only [la_r, la_i, la_j]; rfl)
  · cases hh
def b341_39 (L : Nat) (xs : Nat → Int32) (zf : Value) (D : dD) (w : Nat) (h : rm_H) : Option dR :=
  some (none, h)
theorem c341_39 {L : Nat} {xs : Nat → Int32} {zf : Value} {D : dD} {w k : Nat} (hD : dO L xs zf D k) (hz : zf.category = 1) : ∀ (lv : rm_L) (h : rm_H) (r : dR), b341_39 L xs zf D w  h = some r → dq L xs zf ah_M341 39 lv [] h (k + 1) r := by
  intro lv h r hh
  unfold b341_39 at hh
  cases hh
  exact dq_ret0 (by decide +kernel) rfl
def b341_7 (L : Nat) (xs : Nat → Int32) (zf : Value) (D : dD) (w : Nat) : Nat → Option Nat → Int32 → rm_H → Option dR
  | 0, _, _, _ => none
  | n + 1, o0, i2, h =>
    if mx_f1 .eq i2 = true then
      b341_39 L xs zf D w h
    else
      (dgI L xs h 57 [15] o0).bind fun x2 =>
      if mx_f1 .ne x2 = true then
        b341_39 L xs zf D w h
      else
        (dgR L xs h 71 [15] o0).bind fun p5 =>
        ((dcV L xs D 338 [15] o0 [.int i2] h).bind dxI).bind fun x7 =>
        (dsI x7.2 p5 i2 x7.1).bind fun h11 =>
        (dgR L xs h11 15 [15] o0).bind fun p13 =>
        (daI L xs h11 p13 i2).bind fun x15 =>
        b341_7 L xs zf D w n o0 x15 h11
theorem c341_7 {L : Nat} {xs : Nat → Int32} {zf : Value} {D : dD} {w k : Nat} (hD : dO L xs zf D k) (hz : zf.category = 1) : ∀ (n : Nat) (o0 : Option Nat) (i2 : Int32) (lv : rm_L) (h : rm_H) (r : dR), rm_get lv 0 = some (va_rf o0) → rm_get lv 2 = some (.int i2) → b341_7 L xs zf D w n  o0 i2 h = some r → dq L xs zf ah_M341 7 lv [] h (k + 1) r := by
  intro n
  induction n with
  | zero =>
    intro o0 i2 lv h r G0 G2 hh
    cases hh
  | succ n ih =>
    intro o0 i2 lv h r G0 G2 hh
    rw [b341_7] at hh
    refine dq_iln 2 8 (by decide +kernel) rfl G2 ?_
    rcases di hh with ⟨q1, hh⟩ | ⟨q1, hh⟩
    · refine dq_1 .eq 31 true 39 q1 (by decide +kernel) ?_
      exact c341_39 hD hz  _ _ _  hh
    · refine dq_1 .eq 31 false 11 q1 (by decide +kernel) ?_
      refine dq_aln 0 12 (by decide +kernel) rfl G0 ?_
      obtain ⟨x2, q3, hh⟩ := db hh
      refine dq_gI 295 57 [15] 15 (by decide +kernel) rfl q3 ?_
      rcases di hh with ⟨q4, hh⟩ | ⟨q4, hh⟩
      · refine dq_1 .ne 24 true 39 q4 (by decide +kernel) ?_
        exact c341_39 hD hz  _ _ _  hh
      · refine dq_1 .ne 24 false 18 q4 (by decide +kernel) ?_
        refine dq_aln 0 19 (by decide +kernel) rfl G0 ?_
        obtain ⟨p5, q6, hh⟩ := db hh
        refine dq_gR 166 71 [15] 22 (by decide +kernel) rfl q6 ?_
        refine dq_iln 2 23 (by decide +kernel) rfl G2 ?_
        refine dq_aln 0 24 (by decide +kernel) rfl G0 ?_
        refine dq_iln 2 25 (by decide +kernel) rfl G2 ?_
        obtain ⟨x7, q8, hh⟩ := db hh
        obtain ⟨a9, q10, q8⟩ := db q8
        rw [dq_xI q8] at q10
        refine dq_cvi hD 459 338 5 1 [15] o0 [.int i2] [.int i2, va_rf p5] 28 [.int x7.1, .int i2, va_rf p5] (by decide +kernel) ap_338 ⟨⟨Nat.le_of_ble_eq_true rfl, by decide⟩, rfl, rfl⟩ (dq_ok8 [1, 1] [1, 1] (dc_r (dc_i dc_n)) (dc_i (dc_r dc_n)) (by decide +kernel)) (by decide +kernel) rfl q10 rfl ?_
        obtain ⟨h11, q12, hh⟩ := db hh
        refine dq_sI 29 (by decide +kernel) rfl q12 ?_
        refine dq_aln 0 30 (by decide +kernel) rfl G0 ?_
        obtain ⟨p13, q14, hh⟩ := db hh
        refine dq_gR 48 15 [15] 33 (by decide +kernel) rfl q14 ?_
        refine dq_iln 2 34 (by decide +kernel) rfl G2 ?_
        obtain ⟨x15, q16, hh⟩ := db hh
        refine dq_aI 35 (by decide +kernel) rfl q16 ?_
        refine dq_isn 2 36 (by decide +kernel) (by decide +kernel) ?_
        have g17 := dg_ne (i := 2) (u := .int x15) (by decide) (Or.inl (by decide)) G0
        have g18 := dg_eq (lv) 2 (.int x15)
        refine dq_S (.goto (-29)) 3 [] 7 _ [] (by decide +kernel) rfl ?_
        exact ih _ _ _ _ _ g17 g18 hh
def b341_0 (L : Nat) (xs : Nat → Int32) (zf : Value) (D : dD) (w : Nat) (o0 : Option Nat) (i1 : Int32) (h : rm_H) : Option dR :=
  (dgR L xs h 12 [15] o0).bind fun p1 =>
  (daI L xs h p1 i1).bind fun x3 =>
  b341_7 L xs zf D w w o0 x3 h
theorem c341_0 {L : Nat} {xs : Nat → Int32} {zf : Value} {D : dD} {w k : Nat} (hD : dO L xs zf D k) (hz : zf.category = 1) : ∀ (o0 : Option Nat) (i1 : Int32) (lv : rm_L) (h : rm_H) (r : dR), rm_get lv 0 = some (va_rf o0) → rm_get lv 1 = some (.int i1) → b341_0 L xs zf D w  o0 i1 h = some r → dq L xs zf ah_M341 0 lv [] h (k + 1) r := by
  intro o0 i1 lv h r G0 G1 hh
  unfold b341_0 at hh
  refine dq_aln 0 1 (by decide +kernel) rfl G0 ?_
  obtain ⟨p1, q2, hh⟩ := db hh
  refine dq_gR 39 12 [15] 4 (by decide +kernel) rfl q2 ?_
  refine dq_iln 1 5 (by decide +kernel) rfl G1 ?_
  obtain ⟨x3, q4, hh⟩ := db hh
  refine dq_aI 6 (by decide +kernel) rfl q4 ?_
  refine dq_isn 2 7 (by decide +kernel) (by decide +kernel) ?_
  have g5 := dg_ne (i := 2) (u := .int x3) (by decide) (Or.inl (by decide)) G0
  have g6 := dg_ne (i := 2) (u := .int x3) (by decide) (Or.inr rfl) G1
  have g7 := dg_eq (lv) 2 (.int x3)
  exact c341_7 hD hz _ _ _ _ _ _ g5 g7 hh
def f341 (L : Nat) (xs : Nat → Int32) (zf : Value) (D : dD) (w : Nat) (As : List Value) (h : rm_H) : Option dR := match As with
  | [v0, .int i1] => (rm_rf v0).bind fun o0 => b341_0 L xs zf D w o0 i1 h
  | _ => none
theorem d341 {L : Nat} {xs : Nat → Int32} {zf : Value} {D : dD} {w k : Nat} (hD : dO L xs zf D k) (hz : zf.category = 1) (As : List Value) (h : rm_H) (r : dR) (hh : f341 L xs zf D w As h = some r) : dq L xs zf ah_M341 0 (lv_args 0 As) [] h (k + 1) r := by
  unfold f341 at hh
  split at hh
  · obtain ⟨o0, e0, hb0⟩ := db hh
    have e0 := rm_rf_v _ _ e0
    subst e0
    refine c341_0 hD hz _ _ _ _ _ ?_ ?_ hb0
    all_goals (simp only [la_r, la_i, la_j]; rfl)
  · cases hh
def b342_37 (L : Nat) (xs : Nat → Int32) (zf : Value) (D : dD) (w : Nat) (s0 : Int32) (h : rm_H) : Option dR :=
  drI (some .int) s0 h
theorem c342_37 {L : Nat} {xs : Nat → Int32} {zf : Value} {D : dD} {w k : Nat} (hD : dO L xs zf D k) (hz : zf.category = 1) : ∀ (s0 : Int32) (lv : rm_L) (h : rm_H) (r : dR), b342_37 L xs zf D w  s0 h = some r → dq L xs zf ah_M342 37 lv [.int s0] h (k + 1) r := by
  intro s0 lv h r hh
  unfold b342_37 at hh
  exact dq_retI (some .int) (by decide +kernel) rfl hh
def b342_22 (L : Nat) (xs : Nat → Int32) (zf : Value) (D : dD) (w : Nat) (o0 : Option Nat) (i1 : Int32) (h : rm_H) : Option dR :=
  (dgR L xs h 13 [15] o0).bind fun p1 =>
  (daI L xs h p1 i1).bind fun x3 =>
  b342_37 L xs zf D w x3 h
theorem c342_22 {L : Nat} {xs : Nat → Int32} {zf : Value} {D : dD} {w k : Nat} (hD : dO L xs zf D k) (hz : zf.category = 1) : ∀ (o0 : Option Nat) (i1 : Int32) (lv : rm_L) (h : rm_H) (r : dR), rm_get lv 0 = some (va_rf o0) → rm_get lv 1 = some (.int i1) → b342_22 L xs zf D w  o0 i1 h = some r → dq L xs zf ah_M342 22 lv [] h (k + 1) r := by
  intro o0 i1 lv h r G0 G1 hh
  unfold b342_22 at hh
  refine dq_aln 0 23 (by decide +kernel) rfl G0 ?_
  obtain ⟨p1, q2, hh⟩ := db hh
  refine dq_gR 42 13 [15] 26 (by decide +kernel) rfl q2 ?_
  refine dq_iln 1 27 (by decide +kernel) rfl G1 ?_
  obtain ⟨x3, q4, hh⟩ := db hh
  refine dq_aI 28 (by decide +kernel) rfl q4 ?_
  refine dq_S (.goto 9) 3 [] 37 _ [.int x3] (by decide +kernel) rfl ?_
  exact c342_37 hD hz _ _ _ _  hh
def b342_0 (L : Nat) (xs : Nat → Int32) (zf : Value) (D : dD) (w : Nat) (o0 : Option Nat) (i1 : Int32) (h : rm_H) : Option dR :=
  (dgR L xs h 11 [15] o0).bind fun p1 =>
  (daI L xs h p1 i1).bind fun x3 =>
  if mx_f2 .eq x3 11 = true then
    b342_22 L xs zf D w o0 i1 h
  else
    (dgR L xs h 11 [15] o0).bind fun p6 =>
    (daI L xs h p6 i1).bind fun x8 =>
    if mx_f2 .ne x8 12 = true then
      (dgR L xs h 12 [15] o0).bind fun p11 =>
      (daI L xs h p11 i1).bind fun x13 =>
      b342_37 L xs zf D w x13 h
    else
      b342_22 L xs zf D w o0 i1 h
theorem c342_0 {L : Nat} {xs : Nat → Int32} {zf : Value} {D : dD} {w k : Nat} (hD : dO L xs zf D k) (hz : zf.category = 1) : ∀ (o0 : Option Nat) (i1 : Int32) (lv : rm_L) (h : rm_H) (r : dR), rm_get lv 0 = some (va_rf o0) → rm_get lv 1 = some (.int i1) → b342_0 L xs zf D w  o0 i1 h = some r → dq L xs zf ah_M342 0 lv [] h (k + 1) r := by
  intro o0 i1 lv h r G0 G1 hh
  unfold b342_0 at hh
  refine dq_aln 0 1 (by decide +kernel) rfl G0 ?_
  obtain ⟨p1, q2, hh⟩ := db hh
  refine dq_gR 36 11 [15] 4 (by decide +kernel) rfl q2 ?_
  refine dq_iln 1 5 (by decide +kernel) rfl G1 ?_
  obtain ⟨x3, q4, hh⟩ := db hh
  refine dq_aI 6 (by decide +kernel) rfl q4 ?_
  refine dq_S (.bipush 11) 2 [] 8 _ [.int 11, .int x3] (by decide +kernel) rfl ?_
  rcases di hh with ⟨q5, hh⟩ | ⟨q5, hh⟩
  · refine dq_2 .eq 14 true 22 q5 (by decide +kernel) ?_
    exact c342_22 hD hz _ _ _ _ _ G0 G1 hh
  · refine dq_2 .eq 14 false 11 q5 (by decide +kernel) ?_
    refine dq_aln 0 12 (by decide +kernel) rfl G0 ?_
    obtain ⟨p6, q7, hh⟩ := db hh
    refine dq_gR 36 11 [15] 15 (by decide +kernel) rfl q7 ?_
    refine dq_iln 1 16 (by decide +kernel) rfl G1 ?_
    obtain ⟨x8, q9, hh⟩ := db hh
    refine dq_aI 17 (by decide +kernel) rfl q9 ?_
    refine dq_S (.bipush 12) 2 [] 19 _ [.int 12, .int x8] (by decide +kernel) rfl ?_
    rcases di hh with ⟨q10, hh⟩ | ⟨q10, hh⟩
    · refine dq_2 .ne 12 true 31 q10 (by decide +kernel) ?_
      refine dq_aln 0 32 (by decide +kernel) rfl G0 ?_
      obtain ⟨p11, q12, hh⟩ := db hh
      refine dq_gR 39 12 [15] 35 (by decide +kernel) rfl q12 ?_
      refine dq_iln 1 36 (by decide +kernel) rfl G1 ?_
      obtain ⟨x13, q14, hh⟩ := db hh
      refine dq_aI 37 (by decide +kernel) rfl q14 ?_
      exact c342_37 hD hz _ _ _ _  hh
    · refine dq_2 .ne 12 false 22 q10 (by decide +kernel) ?_
      exact c342_22 hD hz _ _ _ _ _ G0 G1 hh
def f342 (L : Nat) (xs : Nat → Int32) (zf : Value) (D : dD) (w : Nat) (As : List Value) (h : rm_H) : Option dR := match As with
  | [v0, .int i1] => (rm_rf v0).bind fun o0 => b342_0 L xs zf D w o0 i1 h
  | _ => none
theorem d342 {L : Nat} {xs : Nat → Int32} {zf : Value} {D : dD} {w k : Nat} (hD : dO L xs zf D k) (hz : zf.category = 1) (As : List Value) (h : rm_H) (r : dR) (hh : f342 L xs zf D w As h = some r) : dq L xs zf ah_M342 0 (lv_args 0 As) [] h (k + 1) r := by
  unfold f342 at hh
  split at hh
  · obtain ⟨o0, e0, hb0⟩ := db hh
    have e0 := rm_rf_v _ _ e0
    subst e0
    refine c342_0 hD hz _ _ _ _ _ ?_ ?_ hb0
    all_goals (simp only [la_r, la_i, la_j]; rfl)
  · cases hh
def b343_129 (L : Nat) (xs : Nat → Int32) (zf : Value) (D : dD) (w : Nat) (o0 : Option Nat) (h : rm_H) : Option dR :=
  ((dcV L xs D 344 [15] o0 [.int 0] h).bind dxI).bind fun x1 =>
  drI (some .int) x1.1 x1.2
theorem c343_129 {L : Nat} {xs : Nat → Int32} {zf : Value} {D : dD} {w k : Nat} (hD : dO L xs zf D k) (hz : zf.category = 1) : ∀ (o0 : Option Nat) (lv : rm_L) (h : rm_H) (r : dR), rm_get lv 0 = some (va_rf o0) → b343_129 L xs zf D w  o0 h = some r → dq L xs zf ah_M343 129 lv [] h (k + 1) r := by
  intro o0 lv h r G0 hh
  unfold b343_129 at hh
  refine dq_aln 0 130 (by decide +kernel) rfl G0 ?_
  refine dq_S (.iconst 0) 1 [] 131 _ [.int 0, va_rf o0] (by decide +kernel) rfl ?_
  obtain ⟨x1, q2, hh⟩ := db hh
  obtain ⟨a3, q4, q2⟩ := db q2
  rw [dq_xI q2] at q4
  refine dq_cvi hD 478 344 5 1 [15] o0 [.int 0] [] 134 [.int x1.1] (by decide +kernel) ap_344 ⟨⟨Nat.le_of_ble_eq_true rfl, by decide⟩, rfl, rfl⟩ (dq_ok8 [1, 1] [] (dc_r (dc_i dc_n)) dc_n (by decide +kernel)) (by decide +kernel) rfl q4 rfl ?_
  exact dq_retI (some .int) (by decide +kernel) rfl hh
def b343_0 (L : Nat) (xs : Nat → Int32) (zf : Value) (D : dD) (w : Nat) (o0 : Option Nat) (i1 : Int32) (h : rm_H) : Option dR :=
  (dgR L xs h 11 [15] o0).bind fun p1 =>
  (daI L xs h p1 i1).bind fun x3 =>
  if dsw 1 8 x3 = true then
    ((dcV L xs D 360 [15] o0 [.int i1] h).bind dxI).bind fun x6 =>
    drI (some .int) x6.1 x6.2
  else if x3 = 1 then
    ((dcV L xs D 344 [15] o0 [.int 0] h).bind dxI).bind fun x11 =>
    drI (some .int) x11.1 x11.2
  else if x3 = 2 then
    ((dcV L xs D 344 [15] o0 [.int 1] h).bind dxI).bind fun x16 =>
    drI (some .int) x16.1 x16.2
  else if x3 = 3 then
    ((dcV L xs D 345 [15] o0 [.int i1] h).bind dxI).bind fun x21 =>
    drI (some .int) x21.1 x21.2
  else if x3 = 4 then
    ((dcV L xs D 348 [15] o0 [.int i1, .int 0] h).bind dxI).bind fun x26 =>
    drI (some .int) x26.1 x26.2
  else if x3 = 5 then
    ((dcV L xs D 348 [15] o0 [.int i1, .int 1] h).bind dxI).bind fun x31 =>
    drI (some .int) x31.1 x31.2
  else if x3 = 6 then
    (dgR L xs h 12 [15] o0).bind fun p36 =>
    (daI L xs h p36 i1).bind fun x38 =>
    ((dcV L xs D 339 [15] o0 [.int x38] h).bind dxI).bind fun x40 =>
    (dgR L xs x40.2 12 [15] o0).bind fun p47 =>
    (daI L xs x40.2 p47 i1).bind fun x49 =>
    ((dcV L xs D 350 [15] o0 [.int x49, .int x40.1] x40.2).bind dxI).bind fun x51 =>
    if mx_f1 .eq x51.1 = true then
      b343_129 L xs zf D w o0 x51.2
    else
      if mx_f1 .ne x40.1 = true then
        b343_129 L xs zf D w o0 x51.2
      else
        (dgR L xs x51.2 17 [15] o0).bind fun p57 =>
        (dgR L xs x51.2 12 [15] o0).bind fun p59 =>
        (daI L xs x51.2 p59 i1).bind fun x61 =>
        (daI L xs x51.2 p57 x61).bind fun x63 =>
        ((dcV L xs D 305 [15] o0 [.int 5, .int x63] x51.2).bind dxV).bind fun h65 =>
        b343_129 L xs zf D w o0 h65
  else if x3 = 7 then
    (dgR L xs h 12 [15] o0).bind fun p70 =>
    (daI L xs h p70 i1).bind fun x72 =>
    (dgR L xs h 13 [15] o0).bind fun p74 =>
    (daI L xs h p74 i1).bind fun x76 =>
    ((dcV L xs D 351 [15] o0 [.int x72, .int x76, .int 1] h).bind dxI).bind fun x78 =>
    ((dcV L xs D 344 [15] o0 [.int x78.1] x78.2).bind dxI).bind fun x82 =>
    drI (some .int) x82.1 x82.2
  else if x3 = 8 then
    ((dcV L xs D 357 [15] o0 [.int i1] h).bind dxI).bind fun x87 =>
    drI (some .int) x87.1 x87.2
  else none
theorem c343_0 {L : Nat} {xs : Nat → Int32} {zf : Value} {D : dD} {w k : Nat} (hD : dO L xs zf D k) (hz : zf.category = 1) : ∀ (o0 : Option Nat) (i1 : Int32) (lv : rm_L) (h : rm_H) (r : dR), rm_get lv 0 = some (va_rf o0) → rm_get lv 1 = some (.int i1) → b343_0 L xs zf D w  o0 i1 h = some r → dq L xs zf ah_M343 0 lv [] h (k + 1) r := by
  intro o0 i1 lv h r G0 G1 hh
  unfold b343_0 at hh
  refine dq_aln 0 1 (by decide +kernel) rfl G0 ?_
  obtain ⟨p1, q2, hh⟩ := db hh
  refine dq_gR 36 11 [15] 4 (by decide +kernel) rfl q2 ?_
  refine dq_iln 1 5 (by decide +kernel) rfl G1 ?_
  obtain ⟨x3, q4, hh⟩ := db hh
  refine dq_aI 6 (by decide +kernel) rfl q4 ?_
  rcases di hh with ⟨q5, hh⟩ | ⟨_, hh⟩
  · refine dq_sd 157 1 8 #[46, 52, 58, 64, 71, 78, 129, 151] 46 163 (by decide +kernel) (by decide +kernel) q5 ?_
    refine dq_aln 0 164 (by decide +kernel) rfl G0 ?_
    refine dq_iln 1 165 (by decide +kernel) rfl G1 ?_
    obtain ⟨x6, q7, hh⟩ := db hh
    obtain ⟨a8, q9, q7⟩ := db q7
    rw [dq_xI q7] at q9
    refine dq_cvi hD 495 360 5 1 [15] o0 [.int i1] [] 168 [.int x6.1] (by decide +kernel) ap_360 ⟨⟨Nat.le_of_ble_eq_true rfl, by decide⟩, rfl, rfl⟩ (dq_ok8 [1, 1] [] (dc_r (dc_i dc_n)) dc_n (by decide +kernel)) (by decide +kernel) rfl q9 rfl ?_
    exact dq_retI (some .int) (by decide +kernel) rfl hh
  rcases dp hh with ⟨q10, hh⟩ | ⟨_, hh⟩
  · refine dq_eq 1 q10 ?_
    refine dq_S (.tableswitch 157 1 8 #[46, 52, 58, 64, 71, 78, 129, 151]) 46 [] 52 _ [] (by decide +kernel) rfl ?_
    refine dq_aln 0 53 (by decide +kernel) rfl G0 ?_
    refine dq_S (.iconst 0) 1 [] 54 _ [.int 0, va_rf o0] (by decide +kernel) rfl ?_
    obtain ⟨x11, q12, hh⟩ := db hh
    obtain ⟨a13, q14, q12⟩ := db q12
    rw [dq_xI q12] at q14
    refine dq_cvi hD 478 344 5 1 [15] o0 [.int 0] [] 57 [.int x11.1] (by decide +kernel) ap_344 ⟨⟨Nat.le_of_ble_eq_true rfl, by decide⟩, rfl, rfl⟩ (dq_ok8 [1, 1] [] (dc_r (dc_i dc_n)) dc_n (by decide +kernel)) (by decide +kernel) rfl q14 rfl ?_
    exact dq_retI (some .int) (by decide +kernel) rfl hh
  rcases dp hh with ⟨q15, hh⟩ | ⟨_, hh⟩
  · refine dq_eq 2 q15 ?_
    refine dq_S (.tableswitch 157 1 8 #[46, 52, 58, 64, 71, 78, 129, 151]) 46 [] 58 _ [] (by decide +kernel) rfl ?_
    refine dq_aln 0 59 (by decide +kernel) rfl G0 ?_
    refine dq_S (.iconst 1) 1 [] 60 _ [.int 1, va_rf o0] (by decide +kernel) rfl ?_
    obtain ⟨x16, q17, hh⟩ := db hh
    obtain ⟨a18, q19, q17⟩ := db q17
    rw [dq_xI q17] at q19
    refine dq_cvi hD 478 344 5 1 [15] o0 [.int 1] [] 63 [.int x16.1] (by decide +kernel) ap_344 ⟨⟨Nat.le_of_ble_eq_true rfl, by decide⟩, rfl, rfl⟩ (dq_ok8 [1, 1] [] (dc_r (dc_i dc_n)) dc_n (by decide +kernel)) (by decide +kernel) rfl q19 rfl ?_
    exact dq_retI (some .int) (by decide +kernel) rfl hh
  rcases dp hh with ⟨q20, hh⟩ | ⟨_, hh⟩
  · refine dq_eq 3 q20 ?_
    refine dq_S (.tableswitch 157 1 8 #[46, 52, 58, 64, 71, 78, 129, 151]) 46 [] 64 _ [] (by decide +kernel) rfl ?_
    refine dq_aln 0 65 (by decide +kernel) rfl G0 ?_
    refine dq_iln 1 66 (by decide +kernel) rfl G1 ?_
    obtain ⟨x21, q22, hh⟩ := db hh
    obtain ⟨a23, q24, q22⟩ := db q22
    rw [dq_xI q22] at q24
    refine dq_cvi hD 481 345 5 1 [15] o0 [.int i1] [] 69 [.int x21.1] (by decide +kernel) ap_345 ⟨⟨Nat.le_of_ble_eq_true rfl, by decide⟩, rfl, rfl⟩ (dq_ok8 [1, 1] [] (dc_r (dc_i dc_n)) dc_n (by decide +kernel)) (by decide +kernel) rfl q24 rfl ?_
    exact dq_retI (some .int) (by decide +kernel) rfl hh
  rcases dp hh with ⟨q25, hh⟩ | ⟨_, hh⟩
  · refine dq_eq 4 q25 ?_
    refine dq_S (.tableswitch 157 1 8 #[46, 52, 58, 64, 71, 78, 129, 151]) 46 [] 70 _ [] (by decide +kernel) rfl ?_
    refine dq_aln 0 71 (by decide +kernel) rfl G0 ?_
    refine dq_iln 1 72 (by decide +kernel) rfl G1 ?_
    refine dq_S (.iconst 0) 1 [] 73 _ [.int 0, .int i1, va_rf o0] (by decide +kernel) rfl ?_
    obtain ⟨x26, q27, hh⟩ := db hh
    obtain ⟨a28, q29, q27⟩ := db q27
    rw [dq_xI q27] at q29
    refine dq_cvi hD 484 348 5 2 [15] o0 [.int i1, .int 0] [] 76 [.int x26.1] (by decide +kernel) ap_348 ⟨⟨Nat.le_of_ble_eq_true rfl, by decide⟩, rfl, rfl⟩ (dq_ok8 [1, 1, 1] [] (dc_r (dc_i (dc_i dc_n))) dc_n (by decide +kernel)) (by decide +kernel) rfl q29 rfl ?_
    exact dq_retI (some .int) (by decide +kernel) rfl hh
  rcases dp hh with ⟨q30, hh⟩ | ⟨_, hh⟩
  · refine dq_eq 5 q30 ?_
    refine dq_S (.tableswitch 157 1 8 #[46, 52, 58, 64, 71, 78, 129, 151]) 46 [] 77 _ [] (by decide +kernel) rfl ?_
    refine dq_aln 0 78 (by decide +kernel) rfl G0 ?_
    refine dq_iln 1 79 (by decide +kernel) rfl G1 ?_
    refine dq_S (.iconst 1) 1 [] 80 _ [.int 1, .int i1, va_rf o0] (by decide +kernel) rfl ?_
    obtain ⟨x31, q32, hh⟩ := db hh
    obtain ⟨a33, q34, q32⟩ := db q32
    rw [dq_xI q32] at q34
    refine dq_cvi hD 484 348 5 2 [15] o0 [.int i1, .int 1] [] 83 [.int x31.1] (by decide +kernel) ap_348 ⟨⟨Nat.le_of_ble_eq_true rfl, by decide⟩, rfl, rfl⟩ (dq_ok8 [1, 1, 1] [] (dc_r (dc_i (dc_i dc_n))) dc_n (by decide +kernel)) (by decide +kernel) rfl q34 rfl ?_
    exact dq_retI (some .int) (by decide +kernel) rfl hh
  rcases dp hh with ⟨q35, hh⟩ | ⟨_, hh⟩
  · refine dq_eq 6 q35 ?_
    refine dq_S (.tableswitch 157 1 8 #[46, 52, 58, 64, 71, 78, 129, 151]) 46 [] 84 _ [] (by decide +kernel) rfl ?_
    refine dq_aln 0 85 (by decide +kernel) rfl G0 ?_
    refine dq_aln 0 86 (by decide +kernel) rfl G0 ?_
    obtain ⟨p36, q37, hh⟩ := db hh
    refine dq_gR 39 12 [15] 89 (by decide +kernel) rfl q37 ?_
    refine dq_iln 1 90 (by decide +kernel) rfl G1 ?_
    obtain ⟨x38, q39, hh⟩ := db hh
    refine dq_aI 91 (by decide +kernel) rfl q39 ?_
    obtain ⟨x40, q41, hh⟩ := db hh
    obtain ⟨a42, q43, q41⟩ := db q41
    rw [dq_xI q41] at q43
    refine dq_cvi hD 453 339 5 1 [15] o0 [.int x38] [] 94 [.int x40.1] (by decide +kernel) ap_339 ⟨⟨Nat.le_of_ble_eq_true rfl, by decide⟩, rfl, rfl⟩ (dq_ok8 [1, 1] [] (dc_r (dc_i dc_n)) dc_n (by decide +kernel)) (by decide +kernel) rfl q43 rfl ?_
    refine dq_isn 2 95 (by decide +kernel) (by decide +kernel) ?_
    have g44 := dg_ne (i := 2) (u := .int x40.1) (by decide) (Or.inl (by decide)) G0
    have g45 := dg_ne (i := 2) (u := .int x40.1) (by decide) (Or.inr rfl) G1
    have g46 := dg_eq (lv) 2 (.int x40.1)
    refine dq_aln 0 96 (by decide +kernel) rfl g44 ?_
    refine dq_aln 0 97 (by decide +kernel) rfl g44 ?_
    obtain ⟨p47, q48, hh⟩ := db hh
    refine dq_gR 39 12 [15] 100 (by decide +kernel) rfl q48 ?_
    refine dq_iln 1 101 (by decide +kernel) rfl g45 ?_
    obtain ⟨x49, q50, hh⟩ := db hh
    refine dq_aI 102 (by decide +kernel) rfl q50 ?_
    refine dq_iln 2 103 (by decide +kernel) rfl g46 ?_
    obtain ⟨x51, q52, hh⟩ := db hh
    obtain ⟨a53, q54, q52⟩ := db q52
    rw [dq_xI q52] at q54
    refine dq_cvi hD 450 350 5 2 [15] o0 [.int x49, .int x40.1] [] 106 [.int x51.1] (by decide +kernel) ap_350 ⟨⟨Nat.le_of_ble_eq_true rfl, by decide⟩, rfl, rfl⟩ (dq_ok8 [1, 1, 1] [] (dc_r (dc_i (dc_i dc_n))) dc_n (by decide +kernel)) (by decide +kernel) rfl q54 rfl ?_
    rcases di hh with ⟨q55, hh⟩ | ⟨q55, hh⟩
    · refine dq_1 .eq 23 true 129 q55 (by decide +kernel) ?_
      exact c343_129 hD hz _ _ _ _ g44 hh
    · refine dq_1 .eq 23 false 109 q55 (by decide +kernel) ?_
      refine dq_iln 2 110 (by decide +kernel) rfl g46 ?_
      rcases di hh with ⟨q56, hh⟩ | ⟨q56, hh⟩
      · refine dq_1 .ne 19 true 129 q56 (by decide +kernel) ?_
        exact c343_129 hD hz _ _ _ _ g44 hh
      · refine dq_1 .ne 19 false 113 q56 (by decide +kernel) ?_
        refine dq_aln 0 114 (by decide +kernel) rfl g44 ?_
        refine dq_S (.iconst 5) 1 [] 115 _ [.int 5, va_rf o0] (by decide +kernel) rfl ?_
        refine dq_aln 0 116 (by decide +kernel) rfl g44 ?_
        obtain ⟨p57, q58, hh⟩ := db hh
        refine dq_gR 54 17 [15] 119 (by decide +kernel) rfl q58 ?_
        refine dq_aln 0 120 (by decide +kernel) rfl g44 ?_
        obtain ⟨p59, q60, hh⟩ := db hh
        refine dq_gR 39 12 [15] 123 (by decide +kernel) rfl q60 ?_
        refine dq_iln 1 124 (by decide +kernel) rfl g45 ?_
        obtain ⟨x61, q62, hh⟩ := db hh
        refine dq_aI 125 (by decide +kernel) rfl q62 ?_
        obtain ⟨x63, q64, hh⟩ := db hh
        refine dq_aI 126 (by decide +kernel) rfl q64 ?_
        obtain ⟨h65, q66, hh⟩ := db hh
        obtain ⟨a67, q68, q66⟩ := db q66
        rw [dq_xV q66] at q68
        refine dq_cvi hD 301 305 5 2 [15] o0 [.int 5, .int x63] [] 129 [] (by decide +kernel) ap_305 ⟨⟨Nat.le_of_ble_eq_true rfl, by decide⟩, rfl, rfl⟩ (dq_ok8 [1, 1, 1] [] (dc_r (dc_i (dc_i dc_n))) dc_n (by decide +kernel)) (by decide +kernel) rfl q68 rfl ?_
        exact c343_129 hD hz _ _ _ _ g44 hh
  rcases dp hh with ⟨q69, hh⟩ | ⟨_, hh⟩
  · refine dq_eq 7 q69 ?_
    refine dq_S (.tableswitch 157 1 8 #[46, 52, 58, 64, 71, 78, 129, 151]) 46 [] 135 _ [] (by decide +kernel) rfl ?_
    refine dq_aln 0 136 (by decide +kernel) rfl G0 ?_
    refine dq_aln 0 137 (by decide +kernel) rfl G0 ?_
    refine dq_aln 0 138 (by decide +kernel) rfl G0 ?_
    obtain ⟨p70, q71, hh⟩ := db hh
    refine dq_gR 39 12 [15] 141 (by decide +kernel) rfl q71 ?_
    refine dq_iln 1 142 (by decide +kernel) rfl G1 ?_
    obtain ⟨x72, q73, hh⟩ := db hh
    refine dq_aI 143 (by decide +kernel) rfl q73 ?_
    refine dq_aln 0 144 (by decide +kernel) rfl G0 ?_
    obtain ⟨p74, q75, hh⟩ := db hh
    refine dq_gR 42 13 [15] 147 (by decide +kernel) rfl q75 ?_
    refine dq_iln 1 148 (by decide +kernel) rfl G1 ?_
    obtain ⟨x76, q77, hh⟩ := db hh
    refine dq_aI 149 (by decide +kernel) rfl q77 ?_
    refine dq_S (.iconst 1) 1 [] 150 _ [.int 1, .int x76, .int x72, va_rf o0, va_rf o0] (by decide +kernel) rfl ?_
    obtain ⟨x78, q79, hh⟩ := db hh
    obtain ⟨a80, q81, q79⟩ := db q79
    rw [dq_xI q79] at q81
    refine dq_cvi hD 488 351 5 3 [15] o0 [.int x72, .int x76, .int 1] [va_rf o0] 153 [.int x78.1, va_rf o0] (by decide +kernel) ap_351 ⟨⟨Nat.le_of_ble_eq_true rfl, by decide⟩, rfl, rfl⟩ (dq_ok8 [1, 1, 1, 1] [1] (dc_r (dc_i (dc_i (dc_i dc_n)))) (dc_r dc_n) (by decide +kernel)) (by decide +kernel) rfl q81 rfl ?_
    obtain ⟨x82, q83, hh⟩ := db hh
    obtain ⟨a84, q85, q83⟩ := db q83
    rw [dq_xI q83] at q85
    refine dq_cvi hD 478 344 5 1 [15] o0 [.int x78.1] [] 156 [.int x82.1] (by decide +kernel) ap_344 ⟨⟨Nat.le_of_ble_eq_true rfl, by decide⟩, rfl, rfl⟩ (dq_ok8 [1, 1] [] (dc_r (dc_i dc_n)) dc_n (by decide +kernel)) (by decide +kernel) rfl q85 rfl ?_
    exact dq_retI (some .int) (by decide +kernel) rfl hh
  rcases dp hh with ⟨q86, hh⟩ | ⟨_, hh⟩
  · refine dq_eq 8 q86 ?_
    refine dq_S (.tableswitch 157 1 8 #[46, 52, 58, 64, 71, 78, 129, 151]) 46 [] 157 _ [] (by decide +kernel) rfl ?_
    refine dq_aln 0 158 (by decide +kernel) rfl G0 ?_
    refine dq_iln 1 159 (by decide +kernel) rfl G1 ?_
    obtain ⟨x87, q88, hh⟩ := db hh
    obtain ⟨a89, q90, q88⟩ := db q88
    rw [dq_xI q88] at q90
    refine dq_cvi hD 492 357 5 1 [15] o0 [.int i1] [] 162 [.int x87.1] (by decide +kernel) ap_357 ⟨⟨Nat.le_of_ble_eq_true rfl, by decide⟩, rfl, rfl⟩ (dq_ok8 [1, 1] [] (dc_r (dc_i dc_n)) dc_n (by decide +kernel)) (by decide +kernel) rfl q90 rfl ?_
    exact dq_retI (some .int) (by decide +kernel) rfl hh
  cases hh
def f343 (L : Nat) (xs : Nat → Int32) (zf : Value) (D : dD) (w : Nat) (As : List Value) (h : rm_H) : Option dR := match As with
  | [v0, .int i1] => (rm_rf v0).bind fun o0 => b343_0 L xs zf D w o0 i1 h
  | _ => none
theorem d343 {L : Nat} {xs : Nat → Int32} {zf : Value} {D : dD} {w k : Nat} (hD : dO L xs zf D k) (hz : zf.category = 1) (As : List Value) (h : rm_H) (r : dR) (hh : f343 L xs zf D w As h = some r) : dq L xs zf ah_M343 0 (lv_args 0 As) [] h (k + 1) r := by
  unfold f343 at hh
  split at hh
  · obtain ⟨o0, e0, hb0⟩ := db hh
    have e0 := rm_rf_v _ _ e0
    subst e0
    refine c343_0 hD hz _ _ _ _ _ ?_ ?_ hb0
    all_goals (simp only [la_r, la_i, la_j]; rfl)
  · cases hh
def b344_0 (L : Nat) (xs : Nat → Int32) (zf : Value) (D : dD) (w : Nat) (o0 : Option Nat) (i1 : Int32) (h : rm_H) : Option dR :=
  (dpF h 60 [15] o0 (.int 0)).bind fun h1 =>
  (dpF h1 61 [15] o0 (.int 0)).bind fun h3 =>
  drI (some .int) i1 h3
theorem c344_0 {L : Nat} {xs : Nat → Int32} {zf : Value} {D : dD} {w k : Nat} (hD : dO L xs zf D k) (hz : zf.category = 1) : ∀ (o0 : Option Nat) (i1 : Int32) (lv : rm_L) (h : rm_H) (r : dR), rm_get lv 0 = some (va_rf o0) → rm_get lv 1 = some (.int i1) → b344_0 L xs zf D w  o0 i1 h = some r → dq L xs zf ah_M344 0 lv [] h (k + 1) r := by
  intro o0 i1 lv h r G0 G1 hh
  unfold b344_0 at hh
  refine dq_aln 0 1 (by decide +kernel) rfl G0 ?_
  refine dq_S (.iconst 0) 1 [] 2 _ [.int 0, va_rf o0] (by decide +kernel) rfl ?_
  obtain ⟨h1, q2, hh⟩ := db hh
  refine dq_put 443 60 [15] 5 (by decide +kernel) rfl q2 ?_
  refine dq_aln 0 6 (by decide +kernel) rfl G0 ?_
  refine dq_S (.iconst 0) 1 [] 7 _ [.int 0, va_rf o0] (by decide +kernel) rfl ?_
  obtain ⟨h3, q4, hh⟩ := db hh
  refine dq_put 446 61 [15] 10 (by decide +kernel) rfl q4 ?_
  refine dq_iln 1 11 (by decide +kernel) rfl G1 ?_
  exact dq_retI (some .int) (by decide +kernel) rfl hh
def f344 (L : Nat) (xs : Nat → Int32) (zf : Value) (D : dD) (w : Nat) (As : List Value) (h : rm_H) : Option dR := match As with
  | [v0, .int i1] => (rm_rf v0).bind fun o0 => b344_0 L xs zf D w o0 i1 h
  | _ => none
theorem d344 {L : Nat} {xs : Nat → Int32} {zf : Value} {D : dD} {w k : Nat} (hD : dO L xs zf D k) (hz : zf.category = 1) (As : List Value) (h : rm_H) (r : dR) (hh : f344 L xs zf D w As h = some r) : dq L xs zf ah_M344 0 (lv_args 0 As) [] h (k + 1) r := by
  unfold f344 at hh
  split at hh
  · obtain ⟨o0, e0, hb0⟩ := db hh
    have e0 := rm_rf_v _ _ e0
    subst e0
    refine c344_0 hD hz _ _ _ _ _ ?_ ?_ hb0
    all_goals (simp only [la_r, la_i, la_j]; rfl)
  · cases hh
def b345_105 (L : Nat) (xs : Nat → Int32) (zf : Value) (D : dD) (w : Nat) (i2 : Int32) (i4 : Int32) (h : rm_H) : Option dR :=
  drI (some .int) ((8 * (i2 + 1)) + i4) h
theorem c345_105 {L : Nat} {xs : Nat → Int32} {zf : Value} {D : dD} {w k : Nat} (hD : dO L xs zf D k) (hz : zf.category = 1) : ∀ (i2 : Int32) (i4 : Int32) (lv : rm_L) (h : rm_H) (r : dR), rm_get lv 2 = some (.int i2) → rm_get lv 4 = some (.int i4) → b345_105 L xs zf D w  i2 i4 h = some r → dq L xs zf ah_M345 105 lv [] h (k + 1) r := by
  intro i2 i4 lv h r G2 G4 hh
  unfold b345_105 at hh
  refine dq_S (.bipush 8) 2 [] 107 _ [.int 8] (by decide +kernel) rfl ?_
  refine dq_iln 2 108 (by decide +kernel) rfl G2 ?_
  refine dq_S (.iconst 1) 1 [] 109 _ [.int 1, .int i2, .int 8] (by decide +kernel) rfl ?_
  refine dq_S (.iadd) 1 [] 110 _ [.int (i2 + 1), .int 8] (by decide +kernel) rfl ?_
  refine dq_S (.imul) 1 [] 111 _ [.int (8 * (i2 + 1))] (by decide +kernel) rfl ?_
  refine dq_il 4 113 (by decide +kernel) rfl G4 ?_
  refine dq_S (.iadd) 1 [] 114 _ [.int ((8 * (i2 + 1)) + i4)] (by decide +kernel) rfl ?_
  exact dq_retI (some .int) (by decide +kernel) rfl hh
def b345_66 (L : Nat) (xs : Nat → Int32) (zf : Value) (D : dD) (w : Nat) (o0 : Option Nat) (i1 : Int32) (i2 : Int32) (i3 : Int32) (i4 : Int32) (s0 : Int32) (s1 : Option Nat) (h : rm_H) : Option dR :=
  (dpF h 61 [15] s1 (.int s0)).bind fun h1 =>
  if mx_f1 .eq i3 = true then
    (dgI L xs h1 63 [15] o0).bind fun x4 =>
    if mx_f1 .le x4 = true then
      b345_105 L xs zf D w i2 i4 h1
    else
      if mx_f2 .eq i4 3 = true then
        b345_105 L xs zf D w i2 i4 h1
      else
        (dgR L xs h1 17 [15] o0).bind fun p8 =>
        (daI L xs h1 p8 i1).bind fun x10 =>
        ((dcV L xs D 347 [15] o0 [.int 6, .int x10] h1).bind dxI).bind fun x12 =>
        drI (some .int) x12.1 x12.2
  else
    ((dcV L xs D 346 [15] o0 [.int i2] h1).bind dxI).bind fun x16 =>
    drI (some .int) x16.1 x16.2
theorem c345_66 {L : Nat} {xs : Nat → Int32} {zf : Value} {D : dD} {w k : Nat} (hD : dO L xs zf D k) (hz : zf.category = 1) : ∀ (o0 : Option Nat) (i1 : Int32) (i2 : Int32) (i3 : Int32) (i4 : Int32) (s0 : Int32) (s1 : Option Nat) (lv : rm_L) (h : rm_H) (r : dR), rm_get lv 0 = some (va_rf o0) → rm_get lv 1 = some (.int i1) → rm_get lv 2 = some (.int i2) → rm_get lv 3 = some (.int i3) → rm_get lv 4 = some (.int i4) → b345_66 L xs zf D w  o0 i1 i2 i3 i4 s0 s1 h = some r → dq L xs zf ah_M345 66 lv [.int s0, va_rf s1] h (k + 1) r := by
  intro o0 i1 i2 i3 i4 s0 s1 lv h r G0 G1 G2 G3 G4 hh
  unfold b345_66 at hh
  obtain ⟨h1, q2, hh⟩ := db hh
  refine dq_put 446 61 [15] 69 (by decide +kernel) rfl q2 ?_
  refine dq_iln 3 70 (by decide +kernel) rfl G3 ?_
  rcases di hh with ⟨q3, hh⟩ | ⟨q3, hh⟩
  · refine dq_1 .eq 9 true 79 q3 (by decide +kernel) ?_
    refine dq_aln 0 80 (by decide +kernel) rfl G0 ?_
    obtain ⟨x4, q5, hh⟩ := db hh
    refine dq_gI 437 63 [15] 83 (by decide +kernel) rfl q5 ?_
    rcases di hh with ⟨q6, hh⟩ | ⟨q6, hh⟩
    · refine dq_1 .le 22 true 105 q6 (by decide +kernel) ?_
      exact c345_105 hD hz _ _ _ _ _ G2 G4 hh
    · refine dq_1 .le 22 false 86 q6 (by decide +kernel) ?_
      refine dq_il 4 88 (by decide +kernel) rfl G4 ?_
      refine dq_S (.iconst 3) 1 [] 89 _ [.int 3, .int i4] (by decide +kernel) rfl ?_
      rcases di hh with ⟨q7, hh⟩ | ⟨q7, hh⟩
      · refine dq_2 .eq 16 true 105 q7 (by decide +kernel) ?_
        exact c345_105 hD hz _ _ _ _ _ G2 G4 hh
      · refine dq_2 .eq 16 false 92 q7 (by decide +kernel) ?_
        refine dq_aln 0 93 (by decide +kernel) rfl G0 ?_
        refine dq_S (.bipush 6) 2 [] 95 _ [.int 6, va_rf o0] (by decide +kernel) rfl ?_
        refine dq_aln 0 96 (by decide +kernel) rfl G0 ?_
        obtain ⟨p8, q9, hh⟩ := db hh
        refine dq_gR 54 17 [15] 99 (by decide +kernel) rfl q9 ?_
        refine dq_iln 1 100 (by decide +kernel) rfl G1 ?_
        obtain ⟨x10, q11, hh⟩ := db hh
        refine dq_aI 101 (by decide +kernel) rfl q11 ?_
        obtain ⟨x12, q13, hh⟩ := db hh
        obtain ⟨a14, q15, q13⟩ := db q13
        rw [dq_xI q13] at q15
        refine dq_cvi hD 456 347 5 2 [15] o0 [.int 6, .int x10] [] 104 [.int x12.1] (by decide +kernel) ap_347 ⟨⟨Nat.le_of_ble_eq_true rfl, by decide⟩, rfl, rfl⟩ (dq_ok8 [1, 1, 1] [] (dc_r (dc_i (dc_i dc_n))) dc_n (by decide +kernel)) (by decide +kernel) rfl q15 rfl ?_
        exact dq_retI (some .int) (by decide +kernel) rfl hh
  · refine dq_1 .eq 9 false 73 q3 (by decide +kernel) ?_
    refine dq_aln 0 74 (by decide +kernel) rfl G0 ?_
    refine dq_iln 2 75 (by decide +kernel) rfl G2 ?_
    obtain ⟨x16, q17, hh⟩ := db hh
    obtain ⟨a18, q19, q17⟩ := db q17
    rw [dq_xI q17] at q19
    refine dq_cvi hD 501 346 5 1 [15] o0 [.int i2] [] 78 [.int x16.1] (by decide +kernel) ap_346 ⟨⟨Nat.le_of_ble_eq_true rfl, by decide⟩, rfl, rfl⟩ (dq_ok8 [1, 1] [] (dc_r (dc_i dc_n)) dc_n (by decide +kernel)) (by decide +kernel) rfl q19 rfl ?_
    exact dq_retI (some .int) (by decide +kernel) rfl hh
def b345_65 (L : Nat) (xs : Nat → Int32) (zf : Value) (D : dD) (w : Nat) (o0 : Option Nat) (i1 : Int32) (i2 : Int32) (i3 : Int32) (i4 : Int32) (s0 : Option Nat) (h : rm_H) : Option dR :=
  b345_66 L xs zf D w o0 i1 i2 i3 i4 0 s0 h
theorem c345_65 {L : Nat} {xs : Nat → Int32} {zf : Value} {D : dD} {w k : Nat} (hD : dO L xs zf D k) (hz : zf.category = 1) : ∀ (o0 : Option Nat) (i1 : Int32) (i2 : Int32) (i3 : Int32) (i4 : Int32) (s0 : Option Nat) (lv : rm_L) (h : rm_H) (r : dR), rm_get lv 0 = some (va_rf o0) → rm_get lv 1 = some (.int i1) → rm_get lv 2 = some (.int i2) → rm_get lv 3 = some (.int i3) → rm_get lv 4 = some (.int i4) → b345_65 L xs zf D w  o0 i1 i2 i3 i4 s0 h = some r → dq L xs zf ah_M345 65 lv [va_rf s0] h (k + 1) r := by
  intro o0 i1 i2 i3 i4 s0 lv h r G0 G1 G2 G3 G4 hh
  unfold b345_65 at hh
  refine dq_S (.iconst 0) 1 [] 66 _ [.int 0, va_rf s0] (by decide +kernel) rfl ?_
  exact c345_66 hD hz _ _ _ _ _ _ _ _ _ _ G0 G1 G2 G3 G4 hh
def b345_42 (L : Nat) (xs : Nat → Int32) (zf : Value) (D : dD) (w : Nat) (o0 : Option Nat) (i1 : Int32) (i2 : Int32) (i3 : Int32) (s0 : Int32) (h : rm_H) : Option dR :=
  (dpF h 60 [15] o0 (.int 1)).bind fun h6 =>
  if mx_f1 .eq i3 = true then
    b345_65 L xs zf D w o0 i1 i2 i3 s0 o0 h6
  else
    (dgI L xs h6 63 [15] o0).bind fun x9 =>
    if mx_f1 .ne x9 = true then
      b345_65 L xs zf D w o0 i1 i2 i3 s0 o0 h6
    else
      b345_66 L xs zf D w o0 i1 i2 i3 s0 1 o0 h6
theorem c345_42 {L : Nat} {xs : Nat → Int32} {zf : Value} {D : dD} {w k : Nat} (hD : dO L xs zf D k) (hz : zf.category = 1) : ∀ (o0 : Option Nat) (i1 : Int32) (i2 : Int32) (i3 : Int32) (s0 : Int32) (lv : rm_L) (h : rm_H) (r : dR), rm_get lv 0 = some (va_rf o0) → rm_get lv 1 = some (.int i1) → rm_get lv 2 = some (.int i2) → rm_get lv 3 = some (.int i3) → b345_42 L xs zf D w  o0 i1 i2 i3 s0 h = some r → dq L xs zf ah_M345 42 lv [.int s0] h (k + 1) r := by
  intro o0 i1 i2 i3 s0 lv h r G0 G1 G2 G3 hh
  unfold b345_42 at hh
  refine dq_is 4 44 (by decide +kernel) (by decide +kernel) ?_
  have g1 := dg_ne (i := 4) (u := .int s0) (by decide) (Or.inl (by decide)) G0
  have g2 := dg_ne (i := 4) (u := .int s0) (by decide) (Or.inl (by decide)) G1
  have g3 := dg_ne (i := 4) (u := .int s0) (by decide) (Or.inl (by decide)) G2
  have g4 := dg_ne (i := 4) (u := .int s0) (by decide) (Or.inr rfl) G3
  have g5 := dg_eq (lv) 4 (.int s0)
  refine dq_aln 0 45 (by decide +kernel) rfl g1 ?_
  refine dq_S (.iconst 1) 1 [] 46 _ [.int 1, va_rf o0] (by decide +kernel) rfl ?_
  obtain ⟨h6, q7, hh⟩ := db hh
  refine dq_put 443 60 [15] 49 (by decide +kernel) rfl q7 ?_
  refine dq_aln 0 50 (by decide +kernel) rfl g1 ?_
  refine dq_iln 3 51 (by decide +kernel) rfl g4 ?_
  rcases di hh with ⟨q8, hh⟩ | ⟨q8, hh⟩
  · refine dq_1 .eq 14 true 65 q8 (by decide +kernel) ?_
    exact c345_65 hD hz _ _ _ _ _ _ _ _ _ g1 g2 g3 g4 g5 hh
  · refine dq_1 .eq 14 false 54 q8 (by decide +kernel) ?_
    refine dq_aln 0 55 (by decide +kernel) rfl g1 ?_
    obtain ⟨x9, q10, hh⟩ := db hh
    refine dq_gI 437 63 [15] 58 (by decide +kernel) rfl q10 ?_
    rcases di hh with ⟨q11, hh⟩ | ⟨q11, hh⟩
    · refine dq_1 .ne 7 true 65 q11 (by decide +kernel) ?_
      exact c345_65 hD hz _ _ _ _ _ _ _ _ _ g1 g2 g3 g4 g5 hh
    · refine dq_1 .ne 7 false 61 q11 (by decide +kernel) ?_
      refine dq_S (.iconst 1) 1 [] 62 _ [.int 1, va_rf o0] (by decide +kernel) rfl ?_
      refine dq_S (.goto 4) 3 [] 66 _ [.int 1, va_rf o0] (by decide +kernel) rfl ?_
      exact c345_66 hD hz _ _ _ _ _ _ _ _ _ _ g1 g2 g3 g4 g5 hh
def b345_0 (L : Nat) (xs : Nat → Int32) (zf : Value) (D : dD) (w : Nat) (o0 : Option Nat) (i1 : Int32) (h : rm_H) : Option dR :=
  (dgR L xs h 44 [15] o0).bind fun p1 =>
  (dgI L xs h 66 [15] o0).bind fun x3 =>
  (daI L xs h p1 x3).bind fun x5 =>
  (dgR L xs h 37 [15] o0).bind fun p10 =>
  (daB L xs h p10 x5).bind fun x12 =>
  (dgR L xs h 43 [15] o0).bind fun p18 =>
  (dgI L xs h 66 [15] o0).bind fun x20 =>
  (daI L xs h p18 x20).bind fun x22 =>
  if mx_f1 .ne x22 = true then
    (dgR L xs h 45 [15] o0).bind fun p25 =>
    (dgI L xs h 66 [15] o0).bind fun x27 =>
    (daI L xs h p25 x27).bind fun x29 =>
    b345_42 L xs zf D w o0 i1 x5 x12 x29 h
  else
    b345_42 L xs zf D w o0 i1 x5 x12 2 h
theorem c345_0 {L : Nat} {xs : Nat → Int32} {zf : Value} {D : dD} {w k : Nat} (hD : dO L xs zf D k) (hz : zf.category = 1) : ∀ (o0 : Option Nat) (i1 : Int32) (lv : rm_L) (h : rm_H) (r : dR), rm_get lv 0 = some (va_rf o0) → rm_get lv 1 = some (.int i1) → b345_0 L xs zf D w  o0 i1 h = some r → dq L xs zf ah_M345 0 lv [] h (k + 1) r := by
  intro o0 i1 lv h r G0 G1 hh
  unfold b345_0 at hh
  refine dq_aln 0 1 (by decide +kernel) rfl G0 ?_
  obtain ⟨p1, q2, hh⟩ := db hh
  refine dq_gR 118 44 [15] 4 (by decide +kernel) rfl q2 ?_
  refine dq_aln 0 5 (by decide +kernel) rfl G0 ?_
  obtain ⟨x3, q4, hh⟩ := db hh
  refine dq_gI 498 66 [15] 8 (by decide +kernel) rfl q4 ?_
  obtain ⟨x5, q6, hh⟩ := db hh
  refine dq_aI 9 (by decide +kernel) rfl q6 ?_
  refine dq_isn 2 10 (by decide +kernel) (by decide +kernel) ?_
  have g7 := dg_ne (i := 2) (u := .int x5) (by decide) (Or.inl (by decide)) G0
  have g8 := dg_ne (i := 2) (u := .int x5) (by decide) (Or.inr rfl) G1
  have g9 := dg_eq (lv) 2 (.int x5)
  refine dq_aln 0 11 (by decide +kernel) rfl g7 ?_
  obtain ⟨p10, q11, hh⟩ := db hh
  refine dq_gR 102 37 [15] 14 (by decide +kernel) rfl q11 ?_
  refine dq_iln 2 15 (by decide +kernel) rfl g9 ?_
  obtain ⟨x12, q13, hh⟩ := db hh
  refine dq_aB 16 (by decide +kernel) rfl q13 ?_
  refine dq_isn 3 17 (by decide +kernel) (by decide +kernel) ?_
  have g14 := dg_ne (i := 3) (u := .int x12) (by decide) (Or.inl (by decide)) g7
  have g15 := dg_ne (i := 3) (u := .int x12) (by decide) (Or.inl (by decide)) g8
  have g16 := dg_ne (i := 3) (u := .int x12) (by decide) (Or.inr rfl) g9
  have g17 := dg_eq (rm_set1 (lv) 2 (.int x5)) 3 (.int x12)
  refine dq_aln 0 18 (by decide +kernel) rfl g14 ?_
  obtain ⟨p18, q19, hh⟩ := db hh
  refine dq_gR 115 43 [15] 21 (by decide +kernel) rfl q19 ?_
  refine dq_aln 0 22 (by decide +kernel) rfl g14 ?_
  obtain ⟨x20, q21, hh⟩ := db hh
  refine dq_gI 498 66 [15] 25 (by decide +kernel) rfl q21 ?_
  obtain ⟨x22, q23, hh⟩ := db hh
  refine dq_aI 26 (by decide +kernel) rfl q23 ?_
  rcases di hh with ⟨q24, hh⟩ | ⟨q24, hh⟩
  · refine dq_1 .ne 7 true 33 q24 (by decide +kernel) ?_
    refine dq_aln 0 34 (by decide +kernel) rfl g14 ?_
    obtain ⟨p25, q26, hh⟩ := db hh
    refine dq_gR 121 45 [15] 37 (by decide +kernel) rfl q26 ?_
    refine dq_aln 0 38 (by decide +kernel) rfl g14 ?_
    obtain ⟨x27, q28, hh⟩ := db hh
    refine dq_gI 498 66 [15] 41 (by decide +kernel) rfl q28 ?_
    obtain ⟨x29, q30, hh⟩ := db hh
    refine dq_aI 42 (by decide +kernel) rfl q30 ?_
    exact c345_42 hD hz _ _ _ _ _ _ _ _ g14 g15 g16 g17 hh
  · refine dq_1 .ne 7 false 29 q24 (by decide +kernel) ?_
    refine dq_S (.iconst 2) 1 [] 30 _ [.int 2] (by decide +kernel) rfl ?_
    refine dq_S (.goto 12) 3 [] 42 _ [.int 2] (by decide +kernel) rfl ?_
    exact c345_42 hD hz _ _ _ _ _ _ _ _ g14 g15 g16 g17 hh
def f345 (L : Nat) (xs : Nat → Int32) (zf : Value) (D : dD) (w : Nat) (As : List Value) (h : rm_H) : Option dR := match As with
  | [v0, .int i1] => (rm_rf v0).bind fun o0 => b345_0 L xs zf D w o0 i1 h
  | _ => none
theorem d345 {L : Nat} {xs : Nat → Int32} {zf : Value} {D : dD} {w k : Nat} (hD : dO L xs zf D k) (hz : zf.category = 1) (As : List Value) (h : rm_H) (r : dR) (hh : f345 L xs zf D w As h = some r) : dq L xs zf ah_M345 0 (lv_args 0 As) [] h (k + 1) r := by
  unfold f345 at hh
  split at hh
  · obtain ⟨o0, e0, hb0⟩ := db hh
    have e0 := rm_rf_v _ _ e0
    subst e0
    refine c345_0 hD hz _ _ _ _ _ ?_ ?_ hb0
    all_goals (simp only [la_r, la_i, la_j]; rfl)
  · cases hh
def b346_0 (L : Nat) (xs : Nat → Int32) (zf : Value) (D : dD) (w : Nat) (i1 : Int32) (h : rm_H) : Option dR :=
  drI (some .int) ((8 * (i1 + 1)) + 5) h
theorem c346_0 {L : Nat} {xs : Nat → Int32} {zf : Value} {D : dD} {w k : Nat} (hD : dO L xs zf D k) (hz : zf.category = 1) : ∀ (i1 : Int32) (lv : rm_L) (h : rm_H) (r : dR), rm_get lv 1 = some (.int i1) → b346_0 L xs zf D w  i1 h = some r → dq L xs zf ah_M346 0 lv [] h (k + 1) r := by
  intro i1 lv h r G1 hh
  unfold b346_0 at hh
  refine dq_S (.bipush 8) 2 [] 2 _ [.int 8] (by decide +kernel) rfl ?_
  refine dq_iln 1 3 (by decide +kernel) rfl G1 ?_
  refine dq_S (.iconst 1) 1 [] 4 _ [.int 1, .int i1, .int 8] (by decide +kernel) rfl ?_
  refine dq_S (.iadd) 1 [] 5 _ [.int (i1 + 1), .int 8] (by decide +kernel) rfl ?_
  refine dq_S (.imul) 1 [] 6 _ [.int (8 * (i1 + 1))] (by decide +kernel) rfl ?_
  refine dq_S (.iconst 5) 1 [] 7 _ [.int 5, .int (8 * (i1 + 1))] (by decide +kernel) rfl ?_
  refine dq_S (.iadd) 1 [] 8 _ [.int ((8 * (i1 + 1)) + 5)] (by decide +kernel) rfl ?_
  exact dq_retI (some .int) (by decide +kernel) rfl hh
def f346 (L : Nat) (xs : Nat → Int32) (zf : Value) (D : dD) (w : Nat) (As : List Value) (h : rm_H) : Option dR := match As with
  | [v0, .int i1] => (rm_rf v0).bind fun u0 => b346_0 L xs zf D w i1 h
  | _ => none
theorem d346 {L : Nat} {xs : Nat → Int32} {zf : Value} {D : dD} {w k : Nat} (hD : dO L xs zf D k) (hz : zf.category = 1) (As : List Value) (h : rm_H) (r : dR) (hh : f346 L xs zf D w As h = some r) : dq L xs zf ah_M346 0 (lv_args 0 As) [] h (k + 1) r := by
  unfold f346 at hh
  split at hh
  · obtain ⟨u0, e0, hb0⟩ := db hh
    have e0 := rm_rf_v _ _ e0
    subst e0
    refine c346_0 hD hz _ _ _ _ ?_ hb0
    all_goals (simp only [la_r, la_i, la_j]; rfl)
  · cases hh
def b347_0 (L : Nat) (xs : Nat → Int32) (zf : Value) (D : dD) (w : Nat) (o0 : Option Nat) (i1 : Int32) (i2 : Int32) (h : rm_H) : Option dR :=
  ((dcV L xs D 305 [15] o0 [.int i1, .int i2] h).bind dxV).bind fun h1 =>
  drI (some .int) (-1) h1
theorem c347_0 {L : Nat} {xs : Nat → Int32} {zf : Value} {D : dD} {w k : Nat} (hD : dO L xs zf D k) (hz : zf.category = 1) : ∀ (o0 : Option Nat) (i1 : Int32) (i2 : Int32) (lv : rm_L) (h : rm_H) (r : dR), rm_get lv 0 = some (va_rf o0) → rm_get lv 1 = some (.int i1) → rm_get lv 2 = some (.int i2) → b347_0 L xs zf D w  o0 i1 i2 h = some r → dq L xs zf ah_M347 0 lv [] h (k + 1) r := by
  intro o0 i1 i2 lv h r G0 G1 G2 hh
  unfold b347_0 at hh
  refine dq_aln 0 1 (by decide +kernel) rfl G0 ?_
  refine dq_iln 1 2 (by decide +kernel) rfl G1 ?_
  refine dq_iln 2 3 (by decide +kernel) rfl G2 ?_
  obtain ⟨h1, q2, hh⟩ := db hh
  obtain ⟨a3, q4, q2⟩ := db q2
  rw [dq_xV q2] at q4
  refine dq_cvi hD 301 305 5 2 [15] o0 [.int i1, .int i2] [] 6 [] (by decide +kernel) ap_305 ⟨⟨Nat.le_of_ble_eq_true rfl, by decide⟩, rfl, rfl⟩ (dq_ok8 [1, 1, 1] [] (dc_r (dc_i (dc_i dc_n))) dc_n (by decide +kernel)) (by decide +kernel) rfl q4 rfl ?_
  refine dq_S (.iconst (-1)) 1 [] 7 _ [.int (-1)] (by decide +kernel) rfl ?_
  exact dq_retI (some .int) (by decide +kernel) rfl hh
def f347 (L : Nat) (xs : Nat → Int32) (zf : Value) (D : dD) (w : Nat) (As : List Value) (h : rm_H) : Option dR := match As with
  | [v0, .int i1, .int i2] => (rm_rf v0).bind fun o0 => b347_0 L xs zf D w o0 i1 i2 h
  | _ => none
theorem d347 {L : Nat} {xs : Nat → Int32} {zf : Value} {D : dD} {w k : Nat} (hD : dO L xs zf D k) (hz : zf.category = 1) (As : List Value) (h : rm_H) (r : dR) (hh : f347 L xs zf D w As h = some r) : dq L xs zf ah_M347 0 (lv_args 0 As) [] h (k + 1) r := by
  unfold f347 at hh
  split at hh
  · obtain ⟨o0, e0, hb0⟩ := db hh
    have e0 := rm_rf_v _ _ e0
    subst e0
    refine c347_0 hD hz _ _ _ _ _ _ ?_ ?_ ?_ hb0
    all_goals (simp only [la_r, la_i, la_j]; rfl)
  · cases hh
def b348_181 (L : Nat) (xs : Nat → Int32) (zf : Value) (D : dD) (w : Nat) (i5 : Int32) (h : rm_H) : Option dR :=
  drI (some .int) i5 h
theorem c348_181 {L : Nat} {xs : Nat → Int32} {zf : Value} {D : dD} {w k : Nat} (hD : dO L xs zf D k) (hz : zf.category = 1) : ∀ (i5 : Int32) (lv : rm_L) (h : rm_H) (r : dR), rm_get lv 5 = some (.int i5) → b348_181 L xs zf D w  i5 h = some r → dq L xs zf ah_M348 181 lv [] h (k + 1) r := by
  intro i5 lv h r G5 hh
  unfold b348_181 at hh
  refine dq_il 5 183 (by decide +kernel) rfl G5 ?_
  exact dq_retI (some .int) (by decide +kernel) rfl hh
def b348_163 (L : Nat) (xs : Nat → Int32) (zf : Value) (D : dD) (w : Nat) (o0 : Option Nat) (i2 : Int32) (i4 : Int32) (i5 : Int32) (s0 : Int32) (s1 : Option Nat) (h : rm_H) : Option dR :=
  (dpF h 60 [15] s1 (.int s0)).bind fun h1 =>
  if mx_f1 .eq i2 = true then
    b348_181 L xs zf D w i5 h1
  else
    (dgI L xs h1 64 [15] o0).bind fun x4 =>
    (dpF h1 64 [15] o0 (.int (x4 ||| i4))).bind fun h6 =>
    b348_181 L xs zf D w i5 h6
theorem c348_163 {L : Nat} {xs : Nat → Int32} {zf : Value} {D : dD} {w k : Nat} (hD : dO L xs zf D k) (hz : zf.category = 1) : ∀ (o0 : Option Nat) (i2 : Int32) (i4 : Int32) (i5 : Int32) (s0 : Int32) (s1 : Option Nat) (lv : rm_L) (h : rm_H) (r : dR), rm_get lv 0 = some (va_rf o0) → rm_get lv 2 = some (.int i2) → rm_get lv 4 = some (.int i4) → rm_get lv 5 = some (.int i5) → b348_163 L xs zf D w  o0 i2 i4 i5 s0 s1 h = some r → dq L xs zf ah_M348 163 lv [.int s0, va_rf s1] h (k + 1) r := by
  intro o0 i2 i4 i5 s0 s1 lv h r G0 G2 G4 G5 hh
  unfold b348_163 at hh
  obtain ⟨h1, q2, hh⟩ := db hh
  refine dq_put 443 60 [15] 166 (by decide +kernel) rfl q2 ?_
  refine dq_iln 2 167 (by decide +kernel) rfl G2 ?_
  rcases di hh with ⟨q3, hh⟩ | ⟨q3, hh⟩
  · refine dq_1 .eq 14 true 181 q3 (by decide +kernel) ?_
    exact c348_181 hD hz _ _ _ _ G5 hh
  · refine dq_1 .eq 14 false 170 q3 (by decide +kernel) ?_
    refine dq_aln 0 171 (by decide +kernel) rfl G0 ?_
    refine dq_dup 172 (by decide +kernel) rfl ?_
    obtain ⟨x4, q5, hh⟩ := db hh
    refine dq_gI 440 64 [15] 175 (by decide +kernel) rfl q5 ?_
    refine dq_il 4 177 (by decide +kernel) rfl G4 ?_
    refine dq_S (.ior) 1 [] 178 _ [.int (x4 ||| i4), va_rf o0] (by decide +kernel) rfl ?_
    obtain ⟨h6, q7, hh⟩ := db hh
    refine dq_put 440 64 [15] 181 (by decide +kernel) rfl q7 ?_
    exact c348_181 hD hz _ _ _ _ G5 hh
def b348_136 (L : Nat) (xs : Nat → Int32) (zf : Value) (D : dD) (w : Nat) (o0 : Option Nat) (i1 : Int32) (i2 : Int32) (i3 : Int32) (i4 : Int32) (i5 : Int32) (h : rm_H) : Option dR :=
  (dgR L xs h 20 [15] o0).bind fun p1 =>
  (dgR L xs h 68 [15] o0).bind fun p3 =>
  (daI L xs h p3 i3).bind fun x5 =>
  (dsI h p1 i1 x5).bind fun h7 =>
  (dpF h7 61 [15] o0 (.int 0)).bind fun h9 =>
  if mx_f1 .eq i2 = true then
    b348_163 L xs zf D w o0 i2 i4 i5 2 o0 h9
  else
    b348_163 L xs zf D w o0 i2 i4 i5 0 o0 h9
theorem c348_136 {L : Nat} {xs : Nat → Int32} {zf : Value} {D : dD} {w k : Nat} (hD : dO L xs zf D k) (hz : zf.category = 1) : ∀ (o0 : Option Nat) (i1 : Int32) (i2 : Int32) (i3 : Int32) (i4 : Int32) (i5 : Int32) (lv : rm_L) (h : rm_H) (r : dR), rm_get lv 0 = some (va_rf o0) → rm_get lv 1 = some (.int i1) → rm_get lv 2 = some (.int i2) → rm_get lv 3 = some (.int i3) → rm_get lv 4 = some (.int i4) → rm_get lv 5 = some (.int i5) → b348_136 L xs zf D w  o0 i1 i2 i3 i4 i5 h = some r → dq L xs zf ah_M348 136 lv [] h (k + 1) r := by
  intro o0 i1 i2 i3 i4 i5 lv h r G0 G1 G2 G3 G4 G5 hh
  unfold b348_136 at hh
  refine dq_aln 0 137 (by decide +kernel) rfl G0 ?_
  obtain ⟨p1, q2, hh⟩ := db hh
  refine dq_gR 63 20 [15] 140 (by decide +kernel) rfl q2 ?_
  refine dq_iln 1 141 (by decide +kernel) rfl G1 ?_
  refine dq_aln 0 142 (by decide +kernel) rfl G0 ?_
  obtain ⟨p3, q4, hh⟩ := db hh
  refine dq_gR 157 68 [15] 145 (by decide +kernel) rfl q4 ?_
  refine dq_iln 3 146 (by decide +kernel) rfl G3 ?_
  obtain ⟨x5, q6, hh⟩ := db hh
  refine dq_aI 147 (by decide +kernel) rfl q6 ?_
  obtain ⟨h7, q8, hh⟩ := db hh
  refine dq_sI 148 (by decide +kernel) rfl q8 ?_
  refine dq_aln 0 149 (by decide +kernel) rfl G0 ?_
  refine dq_S (.iconst 0) 1 [] 150 _ [.int 0, va_rf o0] (by decide +kernel) rfl ?_
  obtain ⟨h9, q10, hh⟩ := db hh
  refine dq_put 446 61 [15] 153 (by decide +kernel) rfl q10 ?_
  refine dq_aln 0 154 (by decide +kernel) rfl G0 ?_
  refine dq_iln 2 155 (by decide +kernel) rfl G2 ?_
  rcases di hh with ⟨q11, hh⟩ | ⟨q11, hh⟩
  · refine dq_1 .eq 7 true 162 q11 (by decide +kernel) ?_
    refine dq_S (.iconst 2) 1 [] 163 _ [.int 2, va_rf o0] (by decide +kernel) rfl ?_
    exact c348_163 hD hz _ _ _ _ _ _ _ _ _ G0 G2 G4 G5 hh
  · refine dq_1 .eq 7 false 158 q11 (by decide +kernel) ?_
    refine dq_S (.iconst 0) 1 [] 159 _ [.int 0, va_rf o0] (by decide +kernel) rfl ?_
    refine dq_S (.goto 4) 3 [] 163 _ [.int 0, va_rf o0] (by decide +kernel) rfl ?_
    exact c348_163 hD hz _ _ _ _ _ _ _ _ _ G0 G2 G4 G5 hh
def b348_103 (L : Nat) (xs : Nat → Int32) (zf : Value) (D : dD) (w : Nat) (o0 : Option Nat) (i1 : Int32) (i2 : Int32) (i3 : Int32) (i4 : Int32) (i5 : Int32) (s0 : Int32) (h : rm_H) : Option dR :=
  (dgR L xs h 70 [15] o0).bind fun p8 =>
  (daI L xs h p8 i3).bind fun x10 =>
  (dgI L xs h 63 [15] o0).bind fun x12 =>
  if mx_f2 .ge x10 x12 = true then
    b348_136 L xs zf D w o0 i1 i2 i3 i4 i5 h
  else
    if mx_f1 .ne s0 = true then
      b348_136 L xs zf D w o0 i1 i2 i3 i4 i5 h
    else
      (dgR L xs h 18 [15] o0).bind fun p16 =>
      (daI L xs h p16 i1).bind fun x18 =>
      ((dcV L xs D 347 [15] o0 [.int 6, .int x18] h).bind dxI).bind fun x20 =>
      drI (some .int) x20.1 x20.2
theorem c348_103 {L : Nat} {xs : Nat → Int32} {zf : Value} {D : dD} {w k : Nat} (hD : dO L xs zf D k) (hz : zf.category = 1) : ∀ (o0 : Option Nat) (i1 : Int32) (i2 : Int32) (i3 : Int32) (i4 : Int32) (i5 : Int32) (s0 : Int32) (lv : rm_L) (h : rm_H) (r : dR), rm_get lv 0 = some (va_rf o0) → rm_get lv 1 = some (.int i1) → rm_get lv 2 = some (.int i2) → rm_get lv 3 = some (.int i3) → rm_get lv 4 = some (.int i4) → rm_get lv 5 = some (.int i5) → b348_103 L xs zf D w  o0 i1 i2 i3 i4 i5 s0 h = some r → dq L xs zf ah_M348 103 lv [.int s0] h (k + 1) r := by
  intro o0 i1 i2 i3 i4 i5 s0 lv h r G0 G1 G2 G3 G4 G5 hh
  unfold b348_103 at hh
  refine dq_is 6 105 (by decide +kernel) (by decide +kernel) ?_
  have g1 := dg_ne (i := 6) (u := .int s0) (by decide) (Or.inl (by decide)) G0
  have g2 := dg_ne (i := 6) (u := .int s0) (by decide) (Or.inl (by decide)) G1
  have g3 := dg_ne (i := 6) (u := .int s0) (by decide) (Or.inl (by decide)) G2
  have g4 := dg_ne (i := 6) (u := .int s0) (by decide) (Or.inl (by decide)) G3
  have g5 := dg_ne (i := 6) (u := .int s0) (by decide) (Or.inl (by decide)) G4
  have g6 := dg_ne (i := 6) (u := .int s0) (by decide) (Or.inr rfl) G5
  have g7 := dg_eq (lv) 6 (.int s0)
  refine dq_aln 0 106 (by decide +kernel) rfl g1 ?_
  obtain ⟨p8, q9, hh⟩ := db hh
  refine dq_gR 163 70 [15] 109 (by decide +kernel) rfl q9 ?_
  refine dq_iln 3 110 (by decide +kernel) rfl g4 ?_
  obtain ⟨x10, q11, hh⟩ := db hh
  refine dq_aI 111 (by decide +kernel) rfl q11 ?_
  refine dq_aln 0 112 (by decide +kernel) rfl g1 ?_
  obtain ⟨x12, q13, hh⟩ := db hh
  refine dq_gI 437 63 [15] 115 (by decide +kernel) rfl q13 ?_
  rcases di hh with ⟨q14, hh⟩ | ⟨q14, hh⟩
  · refine dq_2 .ge 21 true 136 q14 (by decide +kernel) ?_
    exact c348_136 hD hz _ _ _ _ _ _ _ _ _ g1 g2 g3 g4 g5 g6 hh
  · refine dq_2 .ge 21 false 118 q14 (by decide +kernel) ?_
    refine dq_il 6 120 (by decide +kernel) rfl g7 ?_
    rcases di hh with ⟨q15, hh⟩ | ⟨q15, hh⟩
    · refine dq_1 .ne 16 true 136 q15 (by decide +kernel) ?_
      exact c348_136 hD hz _ _ _ _ _ _ _ _ _ g1 g2 g3 g4 g5 g6 hh
    · refine dq_1 .ne 16 false 123 q15 (by decide +kernel) ?_
      refine dq_aln 0 124 (by decide +kernel) rfl g1 ?_
      refine dq_S (.bipush 6) 2 [] 126 _ [.int 6, va_rf o0] (by decide +kernel) rfl ?_
      refine dq_aln 0 127 (by decide +kernel) rfl g1 ?_
      obtain ⟨p16, q17, hh⟩ := db hh
      refine dq_gR 57 18 [15] 130 (by decide +kernel) rfl q17 ?_
      refine dq_iln 1 131 (by decide +kernel) rfl g2 ?_
      obtain ⟨x18, q19, hh⟩ := db hh
      refine dq_aI 132 (by decide +kernel) rfl q19 ?_
      obtain ⟨x20, q21, hh⟩ := db hh
      obtain ⟨a22, q23, q21⟩ := db q21
      rw [dq_xI q21] at q23
      refine dq_cvi hD 456 347 5 2 [15] o0 [.int 6, .int x18] [] 135 [.int x20.1] (by decide +kernel) ap_347 ⟨⟨Nat.le_of_ble_eq_true rfl, by decide⟩, rfl, rfl⟩ (dq_ok8 [1, 1, 1] [] (dc_r (dc_i (dc_i dc_n))) dc_n (by decide +kernel)) (by decide +kernel) rfl q23 rfl ?_
      exact dq_retI (some .int) (by decide +kernel) rfl hh
def b348_98 (L : Nat) (xs : Nat → Int32) (zf : Value) (D : dD) (w : Nat) (o0 : Option Nat) (i1 : Int32) (i2 : Int32) (i3 : Int32) (i4 : Int32) (i5 : Int32) (h : rm_H) : Option dR :=
  b348_103 L xs zf D w o0 i1 i2 i3 i4 i5 1 h
theorem c348_98 {L : Nat} {xs : Nat → Int32} {zf : Value} {D : dD} {w k : Nat} (hD : dO L xs zf D k) (hz : zf.category = 1) : ∀ (o0 : Option Nat) (i1 : Int32) (i2 : Int32) (i3 : Int32) (i4 : Int32) (i5 : Int32) (lv : rm_L) (h : rm_H) (r : dR), rm_get lv 0 = some (va_rf o0) → rm_get lv 1 = some (.int i1) → rm_get lv 2 = some (.int i2) → rm_get lv 3 = some (.int i3) → rm_get lv 4 = some (.int i4) → rm_get lv 5 = some (.int i5) → b348_98 L xs zf D w  o0 i1 i2 i3 i4 i5 h = some r → dq L xs zf ah_M348 98 lv [] h (k + 1) r := by
  intro o0 i1 i2 i3 i4 i5 lv h r G0 G1 G2 G3 G4 G5 hh
  unfold b348_98 at hh
  refine dq_S (.iconst 1) 1 [] 99 _ [.int 1] (by decide +kernel) rfl ?_
  refine dq_S (.goto 4) 3 [] 103 _ [.int 1] (by decide +kernel) rfl ?_
  exact c348_103 hD hz _ _ _ _ _ _ _ _ _ _ G0 G1 G2 G3 G4 G5 hh
def b348_102 (L : Nat) (xs : Nat → Int32) (zf : Value) (D : dD) (w : Nat) (o0 : Option Nat) (i1 : Int32) (i2 : Int32) (i3 : Int32) (i4 : Int32) (i5 : Int32) (h : rm_H) : Option dR :=
  b348_103 L xs zf D w o0 i1 i2 i3 i4 i5 0 h
theorem c348_102 {L : Nat} {xs : Nat → Int32} {zf : Value} {D : dD} {w k : Nat} (hD : dO L xs zf D k) (hz : zf.category = 1) : ∀ (o0 : Option Nat) (i1 : Int32) (i2 : Int32) (i3 : Int32) (i4 : Int32) (i5 : Int32) (lv : rm_L) (h : rm_H) (r : dR), rm_get lv 0 = some (va_rf o0) → rm_get lv 1 = some (.int i1) → rm_get lv 2 = some (.int i2) → rm_get lv 3 = some (.int i3) → rm_get lv 4 = some (.int i4) → rm_get lv 5 = some (.int i5) → b348_102 L xs zf D w  o0 i1 i2 i3 i4 i5 h = some r → dq L xs zf ah_M348 102 lv [] h (k + 1) r := by
  intro o0 i1 i2 i3 i4 i5 lv h r G0 G1 G2 G3 G4 G5 hh
  unfold b348_102 at hh
  refine dq_S (.iconst 0) 1 [] 103 _ [.int 0] (by decide +kernel) rfl ?_
  exact c348_103 hD hz _ _ _ _ _ _ _ _ _ _ G0 G1 G2 G3 G4 G5 hh
def b348_0 (L : Nat) (xs : Nat → Int32) (zf : Value) (D : dD) (w : Nat) (o0 : Option Nat) (i1 : Int32) (i2 : Int32) (h : rm_H) : Option dR :=
  (dgR L xs h 23 [15] o0).bind fun p1 =>
  (daJ L xs h p1 i1).bind fun y3 =>
  ((dcV L xs D 349 [15] o0 [.long y3] h).bind dxI).bind fun x5 =>
  if mx_f2 .ne x5.1 (-1) = true then
    (dgR L xs x5.2 68 [15] o0).bind fun p14 =>
    (daI L xs x5.2 p14 x5.1).bind fun x16 =>
    (dgI L xs x5.2 64 [15] o0).bind fun x23 =>
    if mx_f1 .eq (x23 &&& ((1 : Int32) <<< (x16 &&& 31))) = true then
      (dgR L xs x5.2 69 [15] o0).bind fun p26 =>
      (daI L xs x5.2 p26 x5.1).bind fun x28 =>
      ((D 333 [.int x28] x5.2).bind dxI).bind fun x36 =>
      if mx_f1 .eq x36.1 = true then
        b348_98 L xs zf D w o0 i1 i2 x5.1 ((1 : Int32) <<< (x16 &&& 31)) x28 x36.2
      else
        if mx_f2 .eq (x28 - x28 / 8 * 8) 3 = true then
          b348_98 L xs zf D w o0 i1 i2 x5.1 ((1 : Int32) <<< (x16 &&& 31)) x28 x36.2
        else
          if mx_f1 .eq i2 = true then
            b348_102 L xs zf D w o0 i1 i2 x5.1 ((1 : Int32) <<< (x16 &&& 31)) x28 x36.2
          else
            if mx_f1 .ne (x28 - x28 / 8 * 8) = true then
              b348_102 L xs zf D w o0 i1 i2 x5.1 ((1 : Int32) <<< (x16 &&& 31)) x28 x36.2
            else
              b348_98 L xs zf D w o0 i1 i2 x5.1 ((1 : Int32) <<< (x16 &&& 31)) x28 x36.2
    else
      (dgR L xs x5.2 18 [15] o0).bind fun p44 =>
      (daI L xs x5.2 p44 i1).bind fun x46 =>
      ((dcV L xs D 347 [15] o0 [.int 7, .int x46] x5.2).bind dxI).bind fun x48 =>
      drI (some .int) x48.1 x48.2
  else
    (dgR L xs x5.2 18 [15] o0).bind fun p52 =>
    (daI L xs x5.2 p52 i1).bind fun x54 =>
    ((dcV L xs D 347 [15] o0 [.int 3, .int x54] x5.2).bind dxI).bind fun x56 =>
    drI (some .int) x56.1 x56.2
theorem c348_0 {L : Nat} {xs : Nat → Int32} {zf : Value} {D : dD} {w k : Nat} (hD : dO L xs zf D k) (hz : zf.category = 1) : ∀ (o0 : Option Nat) (i1 : Int32) (i2 : Int32) (lv : rm_L) (h : rm_H) (r : dR), rm_get lv 0 = some (va_rf o0) → rm_get lv 1 = some (.int i1) → rm_get lv 2 = some (.int i2) → b348_0 L xs zf D w  o0 i1 i2 h = some r → dq L xs zf ah_M348 0 lv [] h (k + 1) r := by
  intro o0 i1 i2 lv h r G0 G1 G2 hh
  unfold b348_0 at hh
  refine dq_aln 0 1 (by decide +kernel) rfl G0 ?_
  refine dq_aln 0 2 (by decide +kernel) rfl G0 ?_
  obtain ⟨p1, q2, hh⟩ := db hh
  refine dq_gR 72 23 [15] 5 (by decide +kernel) rfl q2 ?_
  refine dq_iln 1 6 (by decide +kernel) rfl G1 ?_
  obtain ⟨y3, q4, hh⟩ := db hh
  refine dq_aJ 7 (by decide +kernel) rfl q4 ?_
  obtain ⟨x5, q6, hh⟩ := db hh
  obtain ⟨a7, q8, q6⟩ := db q6
  rw [dq_xI q6] at q8
  refine dq_cvi hD 504 349 5 1 [15] o0 [.long y3] [] 10 [.int x5.1] (by decide +kernel) ap_349 ⟨⟨Nat.le_of_ble_eq_true rfl, by decide⟩, rfl, rfl⟩ (dq_ok8 [1, 2] [] (dc_r (dc_j dc_n)) dc_n (by decide +kernel)) (by decide +kernel) rfl q8 rfl ?_
  refine dq_isn 3 11 (by decide +kernel) (by decide +kernel) ?_
  have g9 := dg_ne (i := 3) (u := .int x5.1) (by decide) (Or.inl (by decide)) G0
  have g10 := dg_ne (i := 3) (u := .int x5.1) (by decide) (Or.inl (by decide)) G1
  have g11 := dg_ne (i := 3) (u := .int x5.1) (by decide) (Or.inr rfl) G2
  have g12 := dg_eq (lv) 3 (.int x5.1)
  refine dq_iln 3 12 (by decide +kernel) rfl g12 ?_
  refine dq_S (.iconst (-1)) 1 [] 13 _ [.int (-1), .int x5.1] (by decide +kernel) rfl ?_
  rcases di hh with ⟨q13, hh⟩ | ⟨q13, hh⟩
  · refine dq_2 .ne 15 true 28 q13 (by decide +kernel) ?_
    refine dq_S (.iconst 1) 1 [] 29 _ [.int 1] (by decide +kernel) rfl ?_
    refine dq_aln 0 30 (by decide +kernel) rfl g9 ?_
    obtain ⟨p14, q15, hh⟩ := db hh
    refine dq_gR 157 68 [15] 33 (by decide +kernel) rfl q15 ?_
    refine dq_iln 3 34 (by decide +kernel) rfl g12 ?_
    obtain ⟨x16, q17, hh⟩ := db hh
    refine dq_aI 35 (by decide +kernel) rfl q17 ?_
    refine dq_S (.ishl) 1 [] 36 _ [.int ((1 : Int32) <<< (x16 &&& 31))] (by decide +kernel) rfl ?_
    refine dq_is 4 38 (by decide +kernel) (by decide +kernel) ?_
    have g18 := dg_ne (i := 4) (u := .int ((1 : Int32) <<< (x16 &&& 31))) (by decide) (Or.inl (by decide)) g9
    have g19 := dg_ne (i := 4) (u := .int ((1 : Int32) <<< (x16 &&& 31))) (by decide) (Or.inl (by decide)) g10
    have g20 := dg_ne (i := 4) (u := .int ((1 : Int32) <<< (x16 &&& 31))) (by decide) (Or.inl (by decide)) g11
    have g21 := dg_ne (i := 4) (u := .int ((1 : Int32) <<< (x16 &&& 31))) (by decide) (Or.inr rfl) g12
    have g22 := dg_eq (rm_set1 (lv) 3 (.int x5.1)) 4 (.int ((1 : Int32) <<< (x16 &&& 31)))
    refine dq_aln 0 39 (by decide +kernel) rfl g18 ?_
    obtain ⟨x23, q24, hh⟩ := db hh
    refine dq_gI 440 64 [15] 42 (by decide +kernel) rfl q24 ?_
    refine dq_il 4 44 (by decide +kernel) rfl g22 ?_
    refine dq_S (.iand) 1 [] 45 _ [.int (x23 &&& ((1 : Int32) <<< (x16 &&& 31)))] (by decide +kernel) rfl ?_
    rcases di hh with ⟨q25, hh⟩ | ⟨q25, hh⟩
    · refine dq_1 .eq 16 true 61 q25 (by decide +kernel) ?_
      refine dq_aln 0 62 (by decide +kernel) rfl g18 ?_
      obtain ⟨p26, q27, hh⟩ := db hh
      refine dq_gR 160 69 [15] 65 (by decide +kernel) rfl q27 ?_
      refine dq_iln 3 66 (by decide +kernel) rfl g21 ?_
      obtain ⟨x28, q29, hh⟩ := db hh
      refine dq_aI 67 (by decide +kernel) rfl q29 ?_
      refine dq_is 5 69 (by decide +kernel) (by decide +kernel) ?_
      have g30 := dg_ne (i := 5) (u := .int x28) (by decide) (Or.inl (by decide)) g18
      have g31 := dg_ne (i := 5) (u := .int x28) (by decide) (Or.inl (by decide)) g19
      have g32 := dg_ne (i := 5) (u := .int x28) (by decide) (Or.inl (by decide)) g20
      have g33 := dg_ne (i := 5) (u := .int x28) (by decide) (Or.inl (by decide)) g21
      have g34 := dg_ne (i := 5) (u := .int x28) (by decide) (Or.inr rfl) g22
      have g35 := dg_eq (rm_set1 (rm_set1 (lv) 3 (.int x5.1)) 4 (.int ((1 : Int32) <<< (x16 &&& 31)))) 5 (.int x28)
      refine dq_il 5 71 (by decide +kernel) rfl g35 ?_
      obtain ⟨x36, q37, hh⟩ := db hh
      obtain ⟨a38, q39, q37⟩ := db q37
      rw [dq_xI q37] at q39
      refine dq_cst hD 400 333 0 1 [.int x28] [] 74 [.int x36.1] (by decide +kernel) ap_333 ⟨⟨Nat.le_of_ble_eq_true rfl, by decide⟩, rfl, rfl⟩ (dq_ok8 [1] [] (dc_i dc_n) dc_n (by decide +kernel)) (by decide +kernel) rfl q39 rfl ?_
      rcases di hh with ⟨q40, hh⟩ | ⟨q40, hh⟩
      · refine dq_1 .eq 24 true 98 q40 (by decide +kernel) ?_
        exact c348_98 hD hz _ _ _ _ _ _ _ _ _ g30 g31 g32 g33 g34 g35 hh
      · refine dq_1 .eq 24 false 77 q40 (by decide +kernel) ?_
        refine dq_il 5 79 (by decide +kernel) rfl g35 ?_
        refine dq_S (.bipush 8) 2 [] 81 _ [.int 8, .int x28] (by decide +kernel) rfl ?_
        refine dq_rem 82 (by decide) (by decide +kernel) rfl ?_
        refine dq_S (.iconst 3) 1 [] 83 _ [.int 3, .int (x28 - x28 / 8 * 8)] (by decide +kernel) rfl ?_
        rcases di hh with ⟨q41, hh⟩ | ⟨q41, hh⟩
        · refine dq_2 .eq 15 true 98 q41 (by decide +kernel) ?_
          exact c348_98 hD hz _ _ _ _ _ _ _ _ _ g30 g31 g32 g33 g34 g35 hh
        · refine dq_2 .eq 15 false 86 q41 (by decide +kernel) ?_
          refine dq_iln 2 87 (by decide +kernel) rfl g32 ?_
          rcases di hh with ⟨q42, hh⟩ | ⟨q42, hh⟩
          · refine dq_1 .eq 15 true 102 q42 (by decide +kernel) ?_
            exact c348_102 hD hz _ _ _ _ _ _ _ _ _ g30 g31 g32 g33 g34 g35 hh
          · refine dq_1 .eq 15 false 90 q42 (by decide +kernel) ?_
            refine dq_il 5 92 (by decide +kernel) rfl g35 ?_
            refine dq_S (.bipush 8) 2 [] 94 _ [.int 8, .int x28] (by decide +kernel) rfl ?_
            refine dq_rem 95 (by decide) (by decide +kernel) rfl ?_
            rcases di hh with ⟨q43, hh⟩ | ⟨q43, hh⟩
            · refine dq_1 .ne 7 true 102 q43 (by decide +kernel) ?_
              exact c348_102 hD hz _ _ _ _ _ _ _ _ _ g30 g31 g32 g33 g34 g35 hh
            · refine dq_1 .ne 7 false 98 q43 (by decide +kernel) ?_
              exact c348_98 hD hz _ _ _ _ _ _ _ _ _ g30 g31 g32 g33 g34 g35 hh
    · refine dq_1 .eq 16 false 48 q25 (by decide +kernel) ?_
      refine dq_aln 0 49 (by decide +kernel) rfl g18 ?_
      refine dq_S (.bipush 7) 2 [] 51 _ [.int 7, va_rf o0] (by decide +kernel) rfl ?_
      refine dq_aln 0 52 (by decide +kernel) rfl g18 ?_
      obtain ⟨p44, q45, hh⟩ := db hh
      refine dq_gR 57 18 [15] 55 (by decide +kernel) rfl q45 ?_
      refine dq_iln 1 56 (by decide +kernel) rfl g19 ?_
      obtain ⟨x46, q47, hh⟩ := db hh
      refine dq_aI 57 (by decide +kernel) rfl q47 ?_
      obtain ⟨x48, q49, hh⟩ := db hh
      obtain ⟨a50, q51, q49⟩ := db q49
      rw [dq_xI q49] at q51
      refine dq_cvi hD 456 347 5 2 [15] o0 [.int 7, .int x46] [] 60 [.int x48.1] (by decide +kernel) ap_347 ⟨⟨Nat.le_of_ble_eq_true rfl, by decide⟩, rfl, rfl⟩ (dq_ok8 [1, 1, 1] [] (dc_r (dc_i (dc_i dc_n))) dc_n (by decide +kernel)) (by decide +kernel) rfl q51 rfl ?_
      exact dq_retI (some .int) (by decide +kernel) rfl hh
  · refine dq_2 .ne 15 false 16 q13 (by decide +kernel) ?_
    refine dq_aln 0 17 (by decide +kernel) rfl g9 ?_
    refine dq_S (.iconst 3) 1 [] 18 _ [.int 3, va_rf o0] (by decide +kernel) rfl ?_
    refine dq_aln 0 19 (by decide +kernel) rfl g9 ?_
    obtain ⟨p52, q53, hh⟩ := db hh
    refine dq_gR 57 18 [15] 22 (by decide +kernel) rfl q53 ?_
    refine dq_iln 1 23 (by decide +kernel) rfl g10 ?_
    obtain ⟨x54, q55, hh⟩ := db hh
    refine dq_aI 24 (by decide +kernel) rfl q55 ?_
    obtain ⟨x56, q57, hh⟩ := db hh
    obtain ⟨a58, q59, q57⟩ := db q57
    rw [dq_xI q57] at q59
    refine dq_cvi hD 456 347 5 2 [15] o0 [.int 3, .int x54] [] 27 [.int x56.1] (by decide +kernel) ap_347 ⟨⟨Nat.le_of_ble_eq_true rfl, by decide⟩, rfl, rfl⟩ (dq_ok8 [1, 1, 1] [] (dc_r (dc_i (dc_i dc_n))) dc_n (by decide +kernel)) (by decide +kernel) rfl q59 rfl ?_
    exact dq_retI (some .int) (by decide +kernel) rfl hh
def f348 (L : Nat) (xs : Nat → Int32) (zf : Value) (D : dD) (w : Nat) (As : List Value) (h : rm_H) : Option dR := match As with
  | [v0, .int i1, .int i2] => (rm_rf v0).bind fun o0 => b348_0 L xs zf D w o0 i1 i2 h
  | _ => none
theorem d348 {L : Nat} {xs : Nat → Int32} {zf : Value} {D : dD} {w k : Nat} (hD : dO L xs zf D k) (hz : zf.category = 1) (As : List Value) (h : rm_H) (r : dR) (hh : f348 L xs zf D w As h = some r) : dq L xs zf ah_M348 0 (lv_args 0 As) [] h (k + 1) r := by
  unfold f348 at hh
  split at hh
  · obtain ⟨o0, e0, hb0⟩ := db hh
    have e0 := rm_rf_v _ _ e0
    subst e0
    refine c348_0 hD hz _ _ _ _ _ _ ?_ ?_ ?_ hb0
    all_goals (simp only [la_r, la_i, la_j]; rfl)
  · cases hh
def b349_7 (L : Nat) (xs : Nat → Int32) (zf : Value) (D : dD) (w : Nat) : Nat → Option Nat → Int64 → Int32 → rm_H → Option dR
  | 0, _, _, _, _ => none
  | n + 1, o0, j1, i3, h =>
    if mx_f1 .lt i3 = true then
      drI (some .int) (-1) h
    else
      (dgR L xs h 67 [15] o0).bind fun p2 =>
      (daJ L xs h p2 i3).bind fun y4 =>
      if mx_f1 .ne (lg_cmp y4 j1) = true then
        b349_7 L xs zf D w n o0 j1 (i3 + (-1)) h
      else
        drI (some .int) i3 h
theorem c349_7 {L : Nat} {xs : Nat → Int32} {zf : Value} {D : dD} {w k : Nat} (hD : dO L xs zf D k) (hz : zf.category = 1) : ∀ (n : Nat) (o0 : Option Nat) (j1 : Int64) (i3 : Int32) (lv : rm_L) (h : rm_H) (r : dR), rm_get lv 0 = some (va_rf o0) → rm_get lv 1 = some (.long j1) → rm_get lv 3 = some (.int i3) → b349_7 L xs zf D w n  o0 j1 i3 h = some r → dq L xs zf ah_M349 7 lv [] h (k + 1) r := by
  intro n
  induction n with
  | zero =>
    intro o0 j1 i3 lv h r G0 G1 G3 hh
    cases hh
  | succ n ih =>
    intro o0 j1 i3 lv h r G0 G1 G3 hh
    rw [b349_7] at hh
    refine dq_iln 3 8 (by decide +kernel) rfl G3 ?_
    rcases di hh with ⟨q1, hh⟩ | ⟨q1, hh⟩
    · refine dq_1 .lt 22 true 30 q1 (by decide +kernel) ?_
      refine dq_S (.iconst (-1)) 1 [] 31 _ [.int (-1)] (by decide +kernel) rfl ?_
      exact dq_retI (some .int) (by decide +kernel) rfl hh
    · refine dq_1 .lt 22 false 11 q1 (by decide +kernel) ?_
      refine dq_aln 0 12 (by decide +kernel) rfl G0 ?_
      obtain ⟨p2, q3, hh⟩ := db hh
      refine dq_gR 154 67 [15] 15 (by decide +kernel) rfl q3 ?_
      refine dq_iln 3 16 (by decide +kernel) rfl G3 ?_
      obtain ⟨y4, q5, hh⟩ := db hh
      refine dq_aJ 17 (by decide +kernel) rfl q5 ?_
      refine dq_lln 1 18 (by decide +kernel) rfl G1 ?_
      refine dq_S (.lcmp) 1 [] 19 _ [.int (lg_cmp y4 j1)] (by decide +kernel) rfl ?_
      rcases di hh with ⟨q6, hh⟩ | ⟨q6, hh⟩
      · refine dq_1 .ne 5 true 24 q6 (by decide +kernel) ?_
        refine dq_incy 3 (-1) (-1) 27 (by decide +kernel) ⟨rfl, by decide +kernel, by decide +kernel⟩ G3 ?_
        have g7 := dg_ne (i := 3) (u := .int (i3 + (-1))) (by decide) (Or.inl (by decide)) G0
        have g8 := dg_ne (i := 3) (u := .int (i3 + (-1))) (by decide) (Or.inl (by decide)) G1
        have g9 := dg_eq (lv) 3 (.int (i3 + (-1)))
        refine dq_S (.goto (-20)) 3 [] 7 _ [] (by decide +kernel) rfl ?_
        exact ih _ _ _ _ _ _ g7 g8 g9 hh
      · refine dq_1 .ne 5 false 22 q6 (by decide +kernel) ?_
        refine dq_iln 3 23 (by decide +kernel) rfl G3 ?_
        exact dq_retI (some .int) (by decide +kernel) rfl hh
def b349_0 (L : Nat) (xs : Nat → Int32) (zf : Value) (D : dD) (w : Nat) (o0 : Option Nat) (j1 : Int64) (h : rm_H) : Option dR :=
  (dgI L xs h 62 [15] o0).bind fun x1 =>
  b349_7 L xs zf D w w o0 j1 (x1 - 1) h
theorem c349_0 {L : Nat} {xs : Nat → Int32} {zf : Value} {D : dD} {w k : Nat} (hD : dO L xs zf D k) (hz : zf.category = 1) : ∀ (o0 : Option Nat) (j1 : Int64) (lv : rm_L) (h : rm_H) (r : dR), rm_get lv 0 = some (va_rf o0) → rm_get lv 1 = some (.long j1) → b349_0 L xs zf D w  o0 j1 h = some r → dq L xs zf ah_M349 0 lv [] h (k + 1) r := by
  intro o0 j1 lv h r G0 G1 hh
  unfold b349_0 at hh
  refine dq_aln 0 1 (by decide +kernel) rfl G0 ?_
  obtain ⟨x1, q2, hh⟩ := db hh
  refine dq_gI 434 62 [15] 4 (by decide +kernel) rfl q2 ?_
  refine dq_S (.iconst 1) 1 [] 5 _ [.int 1, .int x1] (by decide +kernel) rfl ?_
  refine dq_S (.isub) 1 [] 6 _ [.int (x1 - 1)] (by decide +kernel) rfl ?_
  refine dq_isn 3 7 (by decide +kernel) (by decide +kernel) ?_
  have g3 := dg_ne (i := 3) (u := .int (x1 - 1)) (by decide) (Or.inl (by decide)) G0
  have g4 := dg_ne (i := 3) (u := .int (x1 - 1)) (by decide) (Or.inl (by decide)) G1
  have g5 := dg_eq (lv) 3 (.int (x1 - 1))
  exact c349_7 hD hz _ _ _ _ _ _ _ g3 g4 g5 hh
def f349 (L : Nat) (xs : Nat → Int32) (zf : Value) (D : dD) (w : Nat) (As : List Value) (h : rm_H) : Option dR := match As with
  | [v0, .long j1] => (rm_rf v0).bind fun o0 => b349_0 L xs zf D w o0 j1 h
  | _ => none
theorem d349 {L : Nat} {xs : Nat → Int32} {zf : Value} {D : dD} {w k : Nat} (hD : dO L xs zf D k) (hz : zf.category = 1) (As : List Value) (h : rm_H) (r : dR) (hh : f349 L xs zf D w As h = some r) : dq L xs zf ah_M349 0 (lv_args 0 As) [] h (k + 1) r := by
  unfold f349 at hh
  split at hh
  · obtain ⟨o0, e0, hb0⟩ := db hh
    have e0 := rm_rf_v _ _ e0
    subst e0
    refine c349_0 hD hz _ _ _ _ _ ?_ ?_ hb0
    all_goals (simp only [la_r, la_i, la_j]; rfl)
  · cases hh
def b350_36 (L : Nat) (xs : Nat → Int32) (zf : Value) (D : dD) (w : Nat) (s0 : Int32) (h : rm_H) : Option dR :=
  drI (some .boolean) s0 h
theorem c350_36 {L : Nat} {xs : Nat → Int32} {zf : Value} {D : dD} {w k : Nat} (hD : dO L xs zf D k) (hz : zf.category = 1) : ∀ (s0 : Int32) (lv : rm_L) (h : rm_H) (r : dR), b350_36 L xs zf D w  s0 h = some r → dq L xs zf ah_M350 36 lv [.int s0] h (k + 1) r := by
  intro s0 lv h r hh
  unfold b350_36 at hh
  exact dq_retI (some .boolean) (by decide +kernel) rfl hh
def b350_24 (L : Nat) (xs : Nat → Int32) (zf : Value) (D : dD) (w : Nat) (o0 : Option Nat) (h : rm_H) : Option dR :=
  (dgI L xs h 57 [15] o0).bind fun x1 =>
  if mx_f1 .ne x1 = true then
    b350_36 L xs zf D w 0 h
  else
    b350_36 L xs zf D w 1 h
theorem c350_24 {L : Nat} {xs : Nat → Int32} {zf : Value} {D : dD} {w k : Nat} (hD : dO L xs zf D k) (hz : zf.category = 1) : ∀ (o0 : Option Nat) (lv : rm_L) (h : rm_H) (r : dR), rm_get lv 0 = some (va_rf o0) → b350_24 L xs zf D w  o0 h = some r → dq L xs zf ah_M350 24 lv [] h (k + 1) r := by
  intro o0 lv h r G0 hh
  unfold b350_24 at hh
  refine dq_aln 0 25 (by decide +kernel) rfl G0 ?_
  obtain ⟨x1, q2, hh⟩ := db hh
  refine dq_gI 295 57 [15] 28 (by decide +kernel) rfl q2 ?_
  rcases di hh with ⟨q3, hh⟩ | ⟨q3, hh⟩
  · refine dq_1 .ne 7 true 35 q3 (by decide +kernel) ?_
    refine dq_S (.iconst 0) 1 [] 36 _ [.int 0] (by decide +kernel) rfl ?_
    exact c350_36 hD hz _ _ _ _  hh
  · refine dq_1 .ne 7 false 31 q3 (by decide +kernel) ?_
    refine dq_S (.iconst 1) 1 [] 32 _ [.int 1] (by decide +kernel) rfl ?_
    refine dq_S (.goto 4) 3 [] 36 _ [.int 1] (by decide +kernel) rfl ?_
    exact c350_36 hD hz _ _ _ _  hh
def b350_0 (L : Nat) (xs : Nat → Int32) (zf : Value) (D : dD) (w : Nat) (o0 : Option Nat) (i1 : Int32) (i2 : Int32) (h : rm_H) : Option dR :=
  (dgI L xs h 57 [15] o0).bind fun x1 =>
  if mx_f1 .ne x1 = true then
    b350_24 L xs zf D w o0 h
  else
    if mx_f2 .ne i2 (-1) = true then
      b350_24 L xs zf D w o0 h
    else
      (dgR L xs h 17 [15] o0).bind fun p5 =>
      (daI L xs h p5 i1).bind fun x7 =>
      ((dcV L xs D 305 [15] o0 [.int 8, .int x7] h).bind dxV).bind fun h9 =>
      b350_24 L xs zf D w o0 h9
theorem c350_0 {L : Nat} {xs : Nat → Int32} {zf : Value} {D : dD} {w k : Nat} (hD : dO L xs zf D k) (hz : zf.category = 1) : ∀ (o0 : Option Nat) (i1 : Int32) (i2 : Int32) (lv : rm_L) (h : rm_H) (r : dR), rm_get lv 0 = some (va_rf o0) → rm_get lv 1 = some (.int i1) → rm_get lv 2 = some (.int i2) → b350_0 L xs zf D w  o0 i1 i2 h = some r → dq L xs zf ah_M350 0 lv [] h (k + 1) r := by
  intro o0 i1 i2 lv h r G0 G1 G2 hh
  unfold b350_0 at hh
  refine dq_aln 0 1 (by decide +kernel) rfl G0 ?_
  obtain ⟨x1, q2, hh⟩ := db hh
  refine dq_gI 295 57 [15] 4 (by decide +kernel) rfl q2 ?_
  rcases di hh with ⟨q3, hh⟩ | ⟨q3, hh⟩
  · refine dq_1 .ne 20 true 24 q3 (by decide +kernel) ?_
    exact c350_24 hD hz _ _ _ _ G0 hh
  · refine dq_1 .ne 20 false 7 q3 (by decide +kernel) ?_
    refine dq_iln 2 8 (by decide +kernel) rfl G2 ?_
    refine dq_S (.iconst (-1)) 1 [] 9 _ [.int (-1), .int i2] (by decide +kernel) rfl ?_
    rcases di hh with ⟨q4, hh⟩ | ⟨q4, hh⟩
    · refine dq_2 .ne 15 true 24 q4 (by decide +kernel) ?_
      exact c350_24 hD hz _ _ _ _ G0 hh
    · refine dq_2 .ne 15 false 12 q4 (by decide +kernel) ?_
      refine dq_aln 0 13 (by decide +kernel) rfl G0 ?_
      refine dq_S (.bipush 8) 2 [] 15 _ [.int 8, va_rf o0] (by decide +kernel) rfl ?_
      refine dq_aln 0 16 (by decide +kernel) rfl G0 ?_
      obtain ⟨p5, q6, hh⟩ := db hh
      refine dq_gR 54 17 [15] 19 (by decide +kernel) rfl q6 ?_
      refine dq_iln 1 20 (by decide +kernel) rfl G1 ?_
      obtain ⟨x7, q8, hh⟩ := db hh
      refine dq_aI 21 (by decide +kernel) rfl q8 ?_
      obtain ⟨h9, q10, hh⟩ := db hh
      obtain ⟨a11, q12, q10⟩ := db q10
      rw [dq_xV q10] at q12
      refine dq_cvi hD 301 305 5 2 [15] o0 [.int 8, .int x7] [] 24 [] (by decide +kernel) ap_305 ⟨⟨Nat.le_of_ble_eq_true rfl, by decide⟩, rfl, rfl⟩ (dq_ok8 [1, 1, 1] [] (dc_r (dc_i (dc_i dc_n))) dc_n (by decide +kernel)) (by decide +kernel) rfl q12 rfl ?_
      exact c350_24 hD hz _ _ _ _ G0 hh
def f350 (L : Nat) (xs : Nat → Int32) (zf : Value) (D : dD) (w : Nat) (As : List Value) (h : rm_H) : Option dR := match As with
  | [v0, .int i1, .int i2] => (rm_rf v0).bind fun o0 => b350_0 L xs zf D w o0 i1 i2 h
  | _ => none
theorem d350 {L : Nat} {xs : Nat → Int32} {zf : Value} {D : dD} {w k : Nat} (hD : dO L xs zf D k) (hz : zf.category = 1) (As : List Value) (h : rm_H) (r : dR) (hh : f350 L xs zf D w As h = some r) : dq L xs zf ah_M350 0 (lv_args 0 As) [] h (k + 1) r := by
  unfold f350 at hh
  split at hh
  · obtain ⟨o0, e0, hb0⟩ := db hh
    have e0 := rm_rf_v _ _ e0
    subst e0
    refine c350_0 hD hz _ _ _ _ _ _ ?_ ?_ ?_ hb0
    all_goals (simp only [la_r, la_i, la_j]; rfl)
  · cases hh
def b351_155 (L : Nat) (xs : Nat → Int32) (zf : Value) (D : dD) (w : Nat) (o0 : Option Nat) (i1 : Int32) (h : rm_H) : Option dR :=
  (dgR L xs h 18 [15] o0).bind fun p1 =>
  (daI L xs h p1 i1).bind fun x3 =>
  ((dcV L xs D 347 [15] o0 [.int 6, .int x3] h).bind dxI).bind fun x5 =>
  drI (some .int) x5.1 x5.2
theorem c351_155 {L : Nat} {xs : Nat → Int32} {zf : Value} {D : dD} {w k : Nat} (hD : dO L xs zf D k) (hz : zf.category = 1) : ∀ (o0 : Option Nat) (i1 : Int32) (lv : rm_L) (h : rm_H) (r : dR), rm_get lv 0 = some (va_rf o0) → rm_get lv 1 = some (.int i1) → b351_155 L xs zf D w  o0 i1 h = some r → dq L xs zf ah_M351 155 lv [] h (k + 1) r := by
  intro o0 i1 lv h r G0 G1 hh
  unfold b351_155 at hh
  refine dq_aln 0 156 (by decide +kernel) rfl G0 ?_
  refine dq_S (.bipush 6) 2 [] 158 _ [.int 6, va_rf o0] (by decide +kernel) rfl ?_
  refine dq_aln 0 159 (by decide +kernel) rfl G0 ?_
  obtain ⟨p1, q2, hh⟩ := db hh
  refine dq_gR 57 18 [15] 162 (by decide +kernel) rfl q2 ?_
  refine dq_iln 1 163 (by decide +kernel) rfl G1 ?_
  obtain ⟨x3, q4, hh⟩ := db hh
  refine dq_aI 164 (by decide +kernel) rfl q4 ?_
  obtain ⟨x5, q6, hh⟩ := db hh
  obtain ⟨a7, q8, q6⟩ := db q6
  rw [dq_xI q6] at q8
  refine dq_cvi hD 456 347 5 2 [15] o0 [.int 6, .int x3] [] 167 [.int x5.1] (by decide +kernel) ap_347 ⟨⟨Nat.le_of_ble_eq_true rfl, by decide⟩, rfl, rfl⟩ (dq_ok8 [1, 1, 1] [] (dc_r (dc_i (dc_i dc_n))) dc_n (by decide +kernel)) (by decide +kernel) rfl q8 rfl ?_
  exact dq_retI (some .int) (by decide +kernel) rfl hh
def b351_276 (L : Nat) (xs : Nat → Int32) (zf : Value) (D : dD) (w : Nat) (i9 : Int32) (h : rm_H) : Option dR :=
  drI (some .int) i9 h
theorem c351_276 {L : Nat} {xs : Nat → Int32} {zf : Value} {D : dD} {w k : Nat} (hD : dO L xs zf D k) (hz : zf.category = 1) : ∀ (i9 : Int32) (lv : rm_L) (h : rm_H) (r : dR), rm_get lv 9 = some (.int i9) → b351_276 L xs zf D w  i9 h = some r → dq L xs zf ah_M351 276 lv [] h (k + 1) r := by
  intro i9 lv h r G9 hh
  unfold b351_276 at hh
  refine dq_il 9 278 (by decide +kernel) rfl G9 ?_
  exact dq_retI (some .int) (by decide +kernel) rfl hh
def b351_323 (L : Nat) (xs : Nat → Int32) (zf : Value) (D : dD) (w : Nat) (s0 : Int32) (h : rm_H) : Option dR :=
  drI (some .int) s0 h
theorem c351_323 {L : Nat} {xs : Nat → Int32} {zf : Value} {D : dD} {w k : Nat} (hD : dO L xs zf D k) (hz : zf.category = 1) : ∀ (s0 : Int32) (lv : rm_L) (h : rm_H) (r : dR), b351_323 L xs zf D w  s0 h = some r → dq L xs zf ah_M351 323 lv [.int s0] h (k + 1) r := by
  intro s0 lv h r hh
  unfold b351_323 at hh
  exact dq_retI (some .int) (by decide +kernel) rfl hh
def b351_228 (L : Nat) (xs : Nat → Int32) (zf : Value) (D : dD) (w : Nat) (o0 : Option Nat) (i1 : Int32) (i2 : Int32) (i3 : Int32) (i6 : Int32) (i7 : Int32) (i8 : Int32) (i9 : Int32) (s0 : Int32) (h : rm_H) : Option dR :=
  if mx_f1 .ne s0 = true then
    (dgR L xs h 20 [15] o0).bind fun p11 =>
    (dgR L xs h 35 [15] o0).bind fun p13 =>
    (daI L xs h p13 i6).bind fun x15 =>
    (dsI h p11 i1 (i8 - x15)).bind fun h17 =>
    if mx_f1 .eq i3 = true then
      b351_276 L xs zf D w i9 h17
    else
      ((D 333 [.int i9] h17).bind dxI).bind fun x20 =>
      if mx_f1 .ne x20.1 = true then
        ((D 292 [.int i7, .int (i9 - i9 / 8 * 8)] x20.2).bind dxI).bind fun x25 =>
        if mx_f2 .ne x25.1 (-1) = true then
          b351_323 L xs zf D w ((i9 - (i9 - i9 / 8 * 8)) + x25.1) x25.2
        else
          (dgR L xs x25.2 18 [15] o0).bind fun p40 =>
          (daI L xs x25.2 p40 i1).bind fun x42 =>
          ((dcV L xs D 347 [15] o0 [.int 6, .int x42] x25.2).bind dxI).bind fun x44 =>
          b351_323 L xs zf D w x44.1 x44.2
      else
        b351_276 L xs zf D w i9 x20.2
  else
    (dgR L xs h 17 [15] o0).bind fun p48 =>
    (daI L xs h p48 i2).bind fun x50 =>
    ((dcV L xs D 347 [15] o0 [.int 6, .int x50] h).bind dxI).bind fun x52 =>
    drI (some .int) x52.1 x52.2
theorem c351_228 {L : Nat} {xs : Nat → Int32} {zf : Value} {D : dD} {w k : Nat} (hD : dO L xs zf D k) (hz : zf.category = 1) : ∀ (o0 : Option Nat) (i1 : Int32) (i2 : Int32) (i3 : Int32) (i6 : Int32) (i7 : Int32) (i8 : Int32) (i9 : Int32) (s0 : Int32) (lv : rm_L) (h : rm_H) (r : dR), rm_get lv 0 = some (va_rf o0) → rm_get lv 1 = some (.int i1) → rm_get lv 2 = some (.int i2) → rm_get lv 3 = some (.int i3) → rm_get lv 6 = some (.int i6) → rm_get lv 7 = some (.int i7) → rm_get lv 8 = some (.int i8) → rm_get lv 9 = some (.int i9) → b351_228 L xs zf D w  o0 i1 i2 i3 i6 i7 i8 i9 s0 h = some r → dq L xs zf ah_M351 228 lv [.int s0] h (k + 1) r := by
  intro o0 i1 i2 i3 i6 i7 i8 i9 s0 lv h r G0 G1 G2 G3 G6 G7 G8 G9 hh
  unfold b351_228 at hh
  refine dq_is 10 230 (by decide +kernel) (by decide +kernel) ?_
  have g1 := dg_ne (i := 10) (u := .int s0) (by decide) (Or.inl (by decide)) G0
  have g2 := dg_ne (i := 10) (u := .int s0) (by decide) (Or.inl (by decide)) G1
  have g3 := dg_ne (i := 10) (u := .int s0) (by decide) (Or.inl (by decide)) G2
  have g4 := dg_ne (i := 10) (u := .int s0) (by decide) (Or.inl (by decide)) G3
  have g5 := dg_ne (i := 10) (u := .int s0) (by decide) (Or.inl (by decide)) G6
  have g6 := dg_ne (i := 10) (u := .int s0) (by decide) (Or.inl (by decide)) G7
  have g7 := dg_ne (i := 10) (u := .int s0) (by decide) (Or.inl (by decide)) G8
  have g8 := dg_ne (i := 10) (u := .int s0) (by decide) (Or.inr rfl) G9
  have g9 := dg_eq (lv) 10 (.int s0)
  refine dq_il 10 232 (by decide +kernel) rfl g9 ?_
  rcases di hh with ⟨q10, hh⟩ | ⟨q10, hh⟩
  · refine dq_1 .ne 16 true 248 q10 (by decide +kernel) ?_
    refine dq_aln 0 249 (by decide +kernel) rfl g1 ?_
    obtain ⟨p11, q12, hh⟩ := db hh
    refine dq_gR 63 20 [15] 252 (by decide +kernel) rfl q12 ?_
    refine dq_iln 1 253 (by decide +kernel) rfl g2 ?_
    refine dq_il 8 255 (by decide +kernel) rfl g7 ?_
    refine dq_aln 0 256 (by decide +kernel) rfl g1 ?_
    obtain ⟨p13, q14, hh⟩ := db hh
    refine dq_gR 96 35 [15] 259 (by decide +kernel) rfl q14 ?_
    refine dq_il 6 261 (by decide +kernel) rfl g5 ?_
    obtain ⟨x15, q16, hh⟩ := db hh
    refine dq_aI 262 (by decide +kernel) rfl q16 ?_
    refine dq_S (.isub) 1 [] 263 _ [.int (i8 - x15), .int i1, va_rf p11] (by decide +kernel) rfl ?_
    obtain ⟨h17, q18, hh⟩ := db hh
    refine dq_sI 264 (by decide +kernel) rfl q18 ?_
    refine dq_iln 3 265 (by decide +kernel) rfl g4 ?_
    rcases di hh with ⟨q19, hh⟩ | ⟨q19, hh⟩
    · refine dq_1 .eq 11 true 276 q19 (by decide +kernel) ?_
      exact c351_276 hD hz _ _ _ _ g8 hh
    · refine dq_1 .eq 11 false 268 q19 (by decide +kernel) ?_
      refine dq_il 9 270 (by decide +kernel) rfl g8 ?_
      obtain ⟨x20, q21, hh⟩ := db hh
      obtain ⟨a22, q23, q21⟩ := db q21
      rw [dq_xI q21] at q23
      refine dq_cst hD 400 333 0 1 [.int i9] [] 273 [.int x20.1] (by decide +kernel) ap_333 ⟨⟨Nat.le_of_ble_eq_true rfl, by decide⟩, rfl, rfl⟩ (dq_ok8 [1] [] (dc_i dc_n) dc_n (by decide +kernel)) (by decide +kernel) rfl q23 rfl ?_
      rcases di hh with ⟨q24, hh⟩ | ⟨q24, hh⟩
      · refine dq_1 .ne 6 true 279 q24 (by decide +kernel) ?_
        refine dq_il 7 281 (by decide +kernel) rfl g6 ?_
        refine dq_il 9 283 (by decide +kernel) rfl g8 ?_
        refine dq_S (.bipush 8) 2 [] 285 _ [.int 8, .int i9, .int i7] (by decide +kernel) rfl ?_
        refine dq_rem 286 (by decide) (by decide +kernel) rfl ?_
        obtain ⟨x25, q26, hh⟩ := db hh
        obtain ⟨a27, q28, q26⟩ := db q26
        rw [dq_xI q26] at q28
        refine dq_cst hD 428 292 0 2 [.int i7, .int (i9 - i9 / 8 * 8)] [] 289 [.int x25.1] (by decide +kernel) ap_292 ⟨⟨Nat.le_of_ble_eq_true rfl, by decide⟩, rfl, rfl⟩ (dq_ok8 [1, 1] [] (dc_i (dc_i dc_n)) dc_n (by decide +kernel)) (by decide +kernel) rfl q28 rfl ?_
        refine dq_is 11 291 (by decide +kernel) (by decide +kernel) ?_
        have g29 := dg_ne (i := 11) (u := .int x25.1) (by decide) (Or.inl (by decide)) g1
        have g30 := dg_ne (i := 11) (u := .int x25.1) (by decide) (Or.inl (by decide)) g2
        have g31 := dg_ne (i := 11) (u := .int x25.1) (by decide) (Or.inl (by decide)) g3
        have g32 := dg_ne (i := 11) (u := .int x25.1) (by decide) (Or.inl (by decide)) g4
        have g33 := dg_ne (i := 11) (u := .int x25.1) (by decide) (Or.inl (by decide)) g5
        have g34 := dg_ne (i := 11) (u := .int x25.1) (by decide) (Or.inl (by decide)) g6
        have g35 := dg_ne (i := 11) (u := .int x25.1) (by decide) (Or.inl (by decide)) g7
        have g36 := dg_ne (i := 11) (u := .int x25.1) (by decide) (Or.inl (by decide)) g8
        have g37 := dg_ne (i := 11) (u := .int x25.1) (by decide) (Or.inr rfl) g9
        have g38 := dg_eq (rm_set1 (lv) 10 (.int s0)) 11 (.int x25.1)
        refine dq_il 11 293 (by decide +kernel) rfl g38 ?_
        refine dq_S (.iconst (-1)) 1 [] 294 _ [.int (-1), .int x25.1] (by decide +kernel) rfl ?_
        rcases di hh with ⟨q39, hh⟩ | ⟨q39, hh⟩
        · refine dq_2 .ne 18 true 312 q39 (by decide +kernel) ?_
          refine dq_il 9 314 (by decide +kernel) rfl g36 ?_
          refine dq_il 9 316 (by decide +kernel) rfl g36 ?_
          refine dq_S (.bipush 8) 2 [] 318 _ [.int 8, .int i9, .int i9] (by decide +kernel) rfl ?_
          refine dq_rem 319 (by decide) (by decide +kernel) rfl ?_
          refine dq_S (.isub) 1 [] 320 _ [.int (i9 - (i9 - i9 / 8 * 8))] (by decide +kernel) rfl ?_
          refine dq_il 11 322 (by decide +kernel) rfl g38 ?_
          refine dq_S (.iadd) 1 [] 323 _ [.int ((i9 - (i9 - i9 / 8 * 8)) + x25.1)] (by decide +kernel) rfl ?_
          exact c351_323 hD hz _ _ _ _  hh
        · refine dq_2 .ne 18 false 297 q39 (by decide +kernel) ?_
          refine dq_aln 0 298 (by decide +kernel) rfl g29 ?_
          refine dq_S (.bipush 6) 2 [] 300 _ [.int 6, va_rf o0] (by decide +kernel) rfl ?_
          refine dq_aln 0 301 (by decide +kernel) rfl g29 ?_
          obtain ⟨p40, q41, hh⟩ := db hh
          refine dq_gR 57 18 [15] 304 (by decide +kernel) rfl q41 ?_
          refine dq_iln 1 305 (by decide +kernel) rfl g30 ?_
          obtain ⟨x42, q43, hh⟩ := db hh
          refine dq_aI 306 (by decide +kernel) rfl q43 ?_
          obtain ⟨x44, q45, hh⟩ := db hh
          obtain ⟨a46, q47, q45⟩ := db q45
          rw [dq_xI q45] at q47
          refine dq_cvi hD 456 347 5 2 [15] o0 [.int 6, .int x42] [] 309 [.int x44.1] (by decide +kernel) ap_347 ⟨⟨Nat.le_of_ble_eq_true rfl, by decide⟩, rfl, rfl⟩ (dq_ok8 [1, 1, 1] [] (dc_r (dc_i (dc_i dc_n))) dc_n (by decide +kernel)) (by decide +kernel) rfl q47 rfl ?_
          refine dq_S (.goto 14) 3 [] 323 _ [.int x44.1] (by decide +kernel) rfl ?_
          exact c351_323 hD hz _ _ _ _  hh
      · refine dq_1 .ne 6 false 276 q24 (by decide +kernel) ?_
        exact c351_276 hD hz _ _ _ _ g8 hh
  · refine dq_1 .ne 16 false 235 q10 (by decide +kernel) ?_
    refine dq_aln 0 236 (by decide +kernel) rfl g1 ?_
    refine dq_S (.bipush 6) 2 [] 238 _ [.int 6, va_rf o0] (by decide +kernel) rfl ?_
    refine dq_aln 0 239 (by decide +kernel) rfl g1 ?_
    obtain ⟨p48, q49, hh⟩ := db hh
    refine dq_gR 54 17 [15] 242 (by decide +kernel) rfl q49 ?_
    refine dq_iln 2 243 (by decide +kernel) rfl g3 ?_
    obtain ⟨x50, q51, hh⟩ := db hh
    refine dq_aI 244 (by decide +kernel) rfl q51 ?_
    obtain ⟨x52, q53, hh⟩ := db hh
    obtain ⟨a54, q55, q53⟩ := db q53
    rw [dq_xI q53] at q55
    refine dq_cvi hD 456 347 5 2 [15] o0 [.int 6, .int x50] [] 247 [.int x52.1] (by decide +kernel) ap_347 ⟨⟨Nat.le_of_ble_eq_true rfl, by decide⟩, rfl, rfl⟩ (dq_ok8 [1, 1, 1] [] (dc_r (dc_i (dc_i dc_n))) dc_n (by decide +kernel)) (by decide +kernel) rfl q55 rfl ?_
    exact dq_retI (some .int) (by decide +kernel) rfl hh
def b351_223 (L : Nat) (xs : Nat → Int32) (zf : Value) (D : dD) (w : Nat) (o0 : Option Nat) (i1 : Int32) (i2 : Int32) (i3 : Int32) (i6 : Int32) (i7 : Int32) (i8 : Int32) (i9 : Int32) (h : rm_H) : Option dR :=
  b351_228 L xs zf D w o0 i1 i2 i3 i6 i7 i8 i9 1 h
theorem c351_223 {L : Nat} {xs : Nat → Int32} {zf : Value} {D : dD} {w k : Nat} (hD : dO L xs zf D k) (hz : zf.category = 1) : ∀ (o0 : Option Nat) (i1 : Int32) (i2 : Int32) (i3 : Int32) (i6 : Int32) (i7 : Int32) (i8 : Int32) (i9 : Int32) (lv : rm_L) (h : rm_H) (r : dR), rm_get lv 0 = some (va_rf o0) → rm_get lv 1 = some (.int i1) → rm_get lv 2 = some (.int i2) → rm_get lv 3 = some (.int i3) → rm_get lv 6 = some (.int i6) → rm_get lv 7 = some (.int i7) → rm_get lv 8 = some (.int i8) → rm_get lv 9 = some (.int i9) → b351_223 L xs zf D w  o0 i1 i2 i3 i6 i7 i8 i9 h = some r → dq L xs zf ah_M351 223 lv [] h (k + 1) r := by
  intro o0 i1 i2 i3 i6 i7 i8 i9 lv h r G0 G1 G2 G3 G6 G7 G8 G9 hh
  unfold b351_223 at hh
  refine dq_S (.iconst 1) 1 [] 224 _ [.int 1] (by decide +kernel) rfl ?_
  refine dq_S (.goto 4) 3 [] 228 _ [.int 1] (by decide +kernel) rfl ?_
  exact c351_228 hD hz _ _ _ _ _ _ _ _ _ _ _ _ G0 G1 G2 G3 G6 G7 G8 G9 hh
def b351_0 (L : Nat) (xs : Nat → Int32) (zf : Value) (D : dD) (w : Nat) (o0 : Option Nat) (i1 : Int32) (i2 : Int32) (i3 : Int32) (h : rm_H) : Option dR :=
  ((dcV L xs D 338 [15] o0 [.int i2] h).bind dxI).bind fun x1 =>
  (dgI L xs x1.2 57 [15] o0).bind fun x10 =>
  if mx_f1 .le x10 = true then
    (dgR L xs x1.2 11 [15] o0).bind fun p13 =>
    (daI L xs x1.2 p13 i1).bind fun x15 =>
    if mx_f2 .ne x15 4 = true then
      (dgR L xs x1.2 11 [15] o0).bind fun p18 =>
      (daI L xs x1.2 p18 i1).bind fun x20 =>
      if mx_f2 .eq x20 10 = true then
        (dgR L xs x1.2 12 [15] o0).bind fun p23 =>
        (daI L xs x1.2 p23 i1).bind fun x25 =>
        ((dcV L xs D 339 [15] o0 [.int x25] x1.2).bind dxI).bind fun x27 =>
        (dgI L xs x27.2 57 [15] o0).bind fun x37 =>
        if mx_f1 .le x37 = true then
          (dgR L xs x27.2 12 [15] o0).bind fun p40 =>
          (daI L xs x27.2 p40 i1).bind fun x42 =>
          ((dcV L xs D 354 [15] o0 [.int x42, .int x27.1] x27.2).bind dxI).bind fun x44 =>
          if mx_f2 .ne x44.1 (-1) = true then
            ((dcV L xs D 355 [15] o0 [.int x27.1] x44.2).bind dxI).bind fun x56 =>
            (dgR L xs x56.2 23 [15] o0).bind fun p68 =>
            (daJ L xs x56.2 p68 i1).bind fun y70 =>
            ((dcV L xs D 356 [15] o0 [.int x44.1, .long y70] x56.2).bind dxI).bind fun x72 =>
            if mx_f2 .ne x72.1 (-1) = true then
              if mx_f2 .eq x56.1 3 = true then
                b351_155 L xs zf D w o0 i1 x72.2
              else
                if mx_f2 .ne x56.1 4 = true then
                  (dgR L xs x72.2 30 [15] o0).bind fun p88 =>
                  (dgR L xs x72.2 41 [15] o0).bind fun p90 =>
                  (daI L xs x72.2 p90 x72.1).bind fun x92 =>
                  (daI L xs x72.2 p88 x92).bind fun x94 =>
                  ((dcV L xs D 353 [15] o0 [.int i2, .int x1.1, .int x94] x72.2).bind dxI).bind fun x106 =>
                  if mx_f1 .ne x106.1 = true then
                    if mx_f2 .eq x1.1 1 = true then
                      b351_223 L xs zf D w o0 i1 i2 i3 x44.1 x56.1 x72.1 x94 x106.2
                    else
                      ((D 331 [.int x1.1] x106.2).bind dxI).bind fun x112 =>
                      if mx_f1 .ne x112.1 = true then
                        b351_223 L xs zf D w o0 i1 i2 i3 x44.1 x56.1 x72.1 x94 x112.2
                      else
                        ((D 293 [.int x56.1, .int (x1.1 - x1.1 / 8 * 8)] x112.2).bind dxI).bind fun x117 =>
                        if mx_f1 .eq x117.1 = true then
                          b351_228 L xs zf D w o0 i1 i2 i3 x44.1 x56.1 x72.1 x94 0 x117.2
                        else
                          b351_223 L xs zf D w o0 i1 i2 i3 x44.1 x56.1 x72.1 x94 x117.2
                  else
                    drI (some .int) (-1) x106.2
                else
                  b351_155 L xs zf D w o0 i1 x72.2
            else
              (dgR L xs x72.2 18 [15] o0).bind fun p122 =>
              (daI L xs x72.2 p122 i1).bind fun x124 =>
              ((dcV L xs D 347 [15] o0 [.int 3, .int x124] x72.2).bind dxI).bind fun x126 =>
              drI (some .int) x126.1 x126.2
          else
            drI (some .int) (-1) x44.2
        else
          drI (some .int) (-1) x27.2
      else
        (dgR L xs x1.2 17 [15] o0).bind fun p130 =>
        (daI L xs x1.2 p130 i1).bind fun x132 =>
        ((dcV L xs D 347 [15] o0 [.int 8, .int x132] x1.2).bind dxI).bind fun x134 =>
        drI (some .int) x134.1 x134.2
    else
      ((dcV L xs D 352 [15] o0 [.int i1, .int i2, .int x1.1, .int i3] x1.2).bind dxI).bind fun x138 =>
      drI (some .int) x138.1 x138.2
  else
    drI (some .int) (-1) x1.2
theorem c351_0 {L : Nat} {xs : Nat → Int32} {zf : Value} {D : dD} {w k : Nat} (hD : dO L xs zf D k) (hz : zf.category = 1) : ∀ (o0 : Option Nat) (i1 : Int32) (i2 : Int32) (i3 : Int32) (lv : rm_L) (h : rm_H) (r : dR), rm_get lv 0 = some (va_rf o0) → rm_get lv 1 = some (.int i1) → rm_get lv 2 = some (.int i2) → rm_get lv 3 = some (.int i3) → b351_0 L xs zf D w  o0 i1 i2 i3 h = some r → dq L xs zf ah_M351 0 lv [] h (k + 1) r := by
  intro o0 i1 i2 i3 lv h r G0 G1 G2 G3 hh
  unfold b351_0 at hh
  refine dq_aln 0 1 (by decide +kernel) rfl G0 ?_
  refine dq_iln 2 2 (by decide +kernel) rfl G2 ?_
  obtain ⟨x1, q2, hh⟩ := db hh
  obtain ⟨a3, q4, q2⟩ := db q2
  rw [dq_xI q2] at q4
  refine dq_cvi hD 459 338 5 1 [15] o0 [.int i2] [] 5 [.int x1.1] (by decide +kernel) ap_338 ⟨⟨Nat.le_of_ble_eq_true rfl, by decide⟩, rfl, rfl⟩ (dq_ok8 [1, 1] [] (dc_r (dc_i dc_n)) dc_n (by decide +kernel)) (by decide +kernel) rfl q4 rfl ?_
  refine dq_is 4 7 (by decide +kernel) (by decide +kernel) ?_
  have g5 := dg_ne (i := 4) (u := .int x1.1) (by decide) (Or.inl (by decide)) G0
  have g6 := dg_ne (i := 4) (u := .int x1.1) (by decide) (Or.inl (by decide)) G1
  have g7 := dg_ne (i := 4) (u := .int x1.1) (by decide) (Or.inl (by decide)) G2
  have g8 := dg_ne (i := 4) (u := .int x1.1) (by decide) (Or.inr rfl) G3
  have g9 := dg_eq (lv) 4 (.int x1.1)
  refine dq_aln 0 8 (by decide +kernel) rfl g5 ?_
  obtain ⟨x10, q11, hh⟩ := db hh
  refine dq_gI 295 57 [15] 11 (by decide +kernel) rfl q11 ?_
  rcases di hh with ⟨q12, hh⟩ | ⟨q12, hh⟩
  · refine dq_1 .le 5 true 16 q12 (by decide +kernel) ?_
    refine dq_aln 0 17 (by decide +kernel) rfl g5 ?_
    obtain ⟨p13, q14, hh⟩ := db hh
    refine dq_gR 36 11 [15] 20 (by decide +kernel) rfl q14 ?_
    refine dq_iln 1 21 (by decide +kernel) rfl g6 ?_
    obtain ⟨x15, q16, hh⟩ := db hh
    refine dq_aI 22 (by decide +kernel) rfl q16 ?_
    refine dq_S (.iconst 4) 1 [] 23 _ [.int 4, .int x15] (by decide +kernel) rfl ?_
    rcases di hh with ⟨q17, hh⟩ | ⟨q17, hh⟩
    · refine dq_2 .ne 13 true 36 q17 (by decide +kernel) ?_
      refine dq_aln 0 37 (by decide +kernel) rfl g5 ?_
      obtain ⟨p18, q19, hh⟩ := db hh
      refine dq_gR 36 11 [15] 40 (by decide +kernel) rfl q19 ?_
      refine dq_iln 1 41 (by decide +kernel) rfl g6 ?_
      obtain ⟨x20, q21, hh⟩ := db hh
      refine dq_aI 42 (by decide +kernel) rfl q21 ?_
      refine dq_S (.bipush 10) 2 [] 44 _ [.int 10, .int x20] (by decide +kernel) rfl ?_
      rcases di hh with ⟨q22, hh⟩ | ⟨q22, hh⟩
      · refine dq_2 .eq 16 true 60 q22 (by decide +kernel) ?_
        refine dq_aln 0 61 (by decide +kernel) rfl g5 ?_
        refine dq_aln 0 62 (by decide +kernel) rfl g5 ?_
        obtain ⟨p23, q24, hh⟩ := db hh
        refine dq_gR 39 12 [15] 65 (by decide +kernel) rfl q24 ?_
        refine dq_iln 1 66 (by decide +kernel) rfl g6 ?_
        obtain ⟨x25, q26, hh⟩ := db hh
        refine dq_aI 67 (by decide +kernel) rfl q26 ?_
        obtain ⟨x27, q28, hh⟩ := db hh
        obtain ⟨a29, q30, q28⟩ := db q28
        rw [dq_xI q28] at q30
        refine dq_cvi hD 453 339 5 1 [15] o0 [.int x25] [] 70 [.int x27.1] (by decide +kernel) ap_339 ⟨⟨Nat.le_of_ble_eq_true rfl, by decide⟩, rfl, rfl⟩ (dq_ok8 [1, 1] [] (dc_r (dc_i dc_n)) dc_n (by decide +kernel)) (by decide +kernel) rfl q30 rfl ?_
        refine dq_is 5 72 (by decide +kernel) (by decide +kernel) ?_
        have g31 := dg_ne (i := 5) (u := .int x27.1) (by decide) (Or.inl (by decide)) g5
        have g32 := dg_ne (i := 5) (u := .int x27.1) (by decide) (Or.inl (by decide)) g6
        have g33 := dg_ne (i := 5) (u := .int x27.1) (by decide) (Or.inl (by decide)) g7
        have g34 := dg_ne (i := 5) (u := .int x27.1) (by decide) (Or.inl (by decide)) g8
        have g35 := dg_ne (i := 5) (u := .int x27.1) (by decide) (Or.inr rfl) g9
        have g36 := dg_eq (rm_set1 (lv) 4 (.int x1.1)) 5 (.int x27.1)
        refine dq_aln 0 73 (by decide +kernel) rfl g31 ?_
        obtain ⟨x37, q38, hh⟩ := db hh
        refine dq_gI 295 57 [15] 76 (by decide +kernel) rfl q38 ?_
        rcases di hh with ⟨q39, hh⟩ | ⟨q39, hh⟩
        · refine dq_1 .le 5 true 81 q39 (by decide +kernel) ?_
          refine dq_aln 0 82 (by decide +kernel) rfl g31 ?_
          refine dq_aln 0 83 (by decide +kernel) rfl g31 ?_
          obtain ⟨p40, q41, hh⟩ := db hh
          refine dq_gR 39 12 [15] 86 (by decide +kernel) rfl q41 ?_
          refine dq_iln 1 87 (by decide +kernel) rfl g32 ?_
          obtain ⟨x42, q43, hh⟩ := db hh
          refine dq_aI 88 (by decide +kernel) rfl q43 ?_
          refine dq_il 5 90 (by decide +kernel) rfl g36 ?_
          obtain ⟨x44, q45, hh⟩ := db hh
          obtain ⟨a46, q47, q45⟩ := db q45
          rw [dq_xI q45] at q47
          refine dq_cvi hD 535 354 5 2 [15] o0 [.int x42, .int x27.1] [] 93 [.int x44.1] (by decide +kernel) ap_354 ⟨⟨Nat.le_of_ble_eq_true rfl, by decide⟩, rfl, rfl⟩ (dq_ok8 [1, 1, 1] [] (dc_r (dc_i (dc_i dc_n))) dc_n (by decide +kernel)) (by decide +kernel) rfl q47 rfl ?_
          refine dq_is 6 95 (by decide +kernel) (by decide +kernel) ?_
          have g48 := dg_ne (i := 6) (u := .int x44.1) (by decide) (Or.inl (by decide)) g31
          have g49 := dg_ne (i := 6) (u := .int x44.1) (by decide) (Or.inl (by decide)) g32
          have g50 := dg_ne (i := 6) (u := .int x44.1) (by decide) (Or.inl (by decide)) g33
          have g51 := dg_ne (i := 6) (u := .int x44.1) (by decide) (Or.inl (by decide)) g34
          have g52 := dg_ne (i := 6) (u := .int x44.1) (by decide) (Or.inl (by decide)) g35
          have g53 := dg_ne (i := 6) (u := .int x44.1) (by decide) (Or.inr rfl) g36
          have g54 := dg_eq (rm_set1 (rm_set1 (lv) 4 (.int x1.1)) 5 (.int x27.1)) 6 (.int x44.1)
          refine dq_il 6 97 (by decide +kernel) rfl g54 ?_
          refine dq_S (.iconst (-1)) 1 [] 98 _ [.int (-1), .int x44.1] (by decide +kernel) rfl ?_
          rcases di hh with ⟨q55, hh⟩ | ⟨q55, hh⟩
          · refine dq_2 .ne 5 true 103 q55 (by decide +kernel) ?_
            refine dq_aln 0 104 (by decide +kernel) rfl g48 ?_
            refine dq_il 5 106 (by decide +kernel) rfl g53 ?_
            obtain ⟨x56, q57, hh⟩ := db hh
            obtain ⟨a58, q59, q57⟩ := db q57
            rw [dq_xI q57] at q59
            refine dq_cvi hD 542 355 5 1 [15] o0 [.int x27.1] [] 109 [.int x56.1] (by decide +kernel) ap_355 ⟨⟨Nat.le_of_ble_eq_true rfl, by decide⟩, rfl, rfl⟩ (dq_ok8 [1, 1] [] (dc_r (dc_i dc_n)) dc_n (by decide +kernel)) (by decide +kernel) rfl q59 rfl ?_
            refine dq_is 7 111 (by decide +kernel) (by decide +kernel) ?_
            have g60 := dg_ne (i := 7) (u := .int x56.1) (by decide) (Or.inl (by decide)) g48
            have g61 := dg_ne (i := 7) (u := .int x56.1) (by decide) (Or.inl (by decide)) g49
            have g62 := dg_ne (i := 7) (u := .int x56.1) (by decide) (Or.inl (by decide)) g50
            have g63 := dg_ne (i := 7) (u := .int x56.1) (by decide) (Or.inl (by decide)) g51
            have g64 := dg_ne (i := 7) (u := .int x56.1) (by decide) (Or.inl (by decide)) g52
            have g65 := dg_ne (i := 7) (u := .int x56.1) (by decide) (Or.inl (by decide)) g53
            have g66 := dg_ne (i := 7) (u := .int x56.1) (by decide) (Or.inr rfl) g54
            have g67 := dg_eq (rm_set1 (rm_set1 (rm_set1 (lv) 4 (.int x1.1)) 5 (.int x27.1)) 6 (.int x44.1)) 7 (.int x56.1)
            refine dq_aln 0 112 (by decide +kernel) rfl g60 ?_
            refine dq_il 6 114 (by decide +kernel) rfl g66 ?_
            refine dq_aln 0 115 (by decide +kernel) rfl g60 ?_
            obtain ⟨p68, q69, hh⟩ := db hh
            refine dq_gR 72 23 [15] 118 (by decide +kernel) rfl q69 ?_
            refine dq_iln 1 119 (by decide +kernel) rfl g61 ?_
            obtain ⟨y70, q71, hh⟩ := db hh
            refine dq_aJ 120 (by decide +kernel) rfl q71 ?_
            obtain ⟨x72, q73, hh⟩ := db hh
            obtain ⟨a74, q75, q73⟩ := db q73
            rw [dq_xI q73] at q75
            refine dq_cvi hD 538 356 5 2 [15] o0 [.int x44.1, .long y70] [] 123 [.int x72.1] (by decide +kernel) ap_356 ⟨⟨Nat.le_of_ble_eq_true rfl, by decide⟩, rfl, rfl⟩ (dq_ok8 [1, 1, 2] [] (dc_r (dc_i (dc_j dc_n))) dc_n (by decide +kernel)) (by decide +kernel) rfl q75 rfl ?_
            refine dq_is 8 125 (by decide +kernel) (by decide +kernel) ?_
            have g76 := dg_ne (i := 8) (u := .int x72.1) (by decide) (Or.inl (by decide)) g60
            have g77 := dg_ne (i := 8) (u := .int x72.1) (by decide) (Or.inl (by decide)) g61
            have g78 := dg_ne (i := 8) (u := .int x72.1) (by decide) (Or.inl (by decide)) g62
            have g79 := dg_ne (i := 8) (u := .int x72.1) (by decide) (Or.inl (by decide)) g63
            have g80 := dg_ne (i := 8) (u := .int x72.1) (by decide) (Or.inl (by decide)) g64
            have g81 := dg_ne (i := 8) (u := .int x72.1) (by decide) (Or.inl (by decide)) g65
            have g82 := dg_ne (i := 8) (u := .int x72.1) (by decide) (Or.inl (by decide)) g66
            have g83 := dg_ne (i := 8) (u := .int x72.1) (by decide) (Or.inr rfl) g67
            have g84 := dg_eq (rm_set1 (rm_set1 (rm_set1 (rm_set1 (lv) 4 (.int x1.1)) 5 (.int x27.1)) 6 (.int x44.1)) 7 (.int x56.1)) 8 (.int x72.1)
            refine dq_il 8 127 (by decide +kernel) rfl g84 ?_
            refine dq_S (.iconst (-1)) 1 [] 128 _ [.int (-1), .int x72.1] (by decide +kernel) rfl ?_
            rcases di hh with ⟨q85, hh⟩ | ⟨q85, hh⟩
            · refine dq_2 .ne 15 true 143 q85 (by decide +kernel) ?_
              refine dq_il 7 145 (by decide +kernel) rfl g83 ?_
              refine dq_S (.iconst 3) 1 [] 146 _ [.int 3, .int x56.1] (by decide +kernel) rfl ?_
              rcases di hh with ⟨q86, hh⟩ | ⟨q86, hh⟩
              · refine dq_2 .eq 9 true 155 q86 (by decide +kernel) ?_
                exact c351_155 hD hz _ _ _ _ _ g76 g77 hh
              · refine dq_2 .eq 9 false 149 q86 (by decide +kernel) ?_
                refine dq_il 7 151 (by decide +kernel) rfl g83 ?_
                refine dq_S (.iconst 4) 1 [] 152 _ [.int 4, .int x56.1] (by decide +kernel) rfl ?_
                rcases di hh with ⟨q87, hh⟩ | ⟨q87, hh⟩
                · refine dq_2 .ne 16 true 168 q87 (by decide +kernel) ?_
                  refine dq_aln 0 169 (by decide +kernel) rfl g76 ?_
                  obtain ⟨p88, q89, hh⟩ := db hh
                  refine dq_gR 84 30 [15] 172 (by decide +kernel) rfl q89 ?_
                  refine dq_aln 0 173 (by decide +kernel) rfl g76 ?_
                  obtain ⟨p90, q91, hh⟩ := db hh
                  refine dq_gR 112 41 [15] 176 (by decide +kernel) rfl q91 ?_
                  refine dq_il 8 178 (by decide +kernel) rfl g84 ?_
                  obtain ⟨x92, q93, hh⟩ := db hh
                  refine dq_aI 179 (by decide +kernel) rfl q93 ?_
                  obtain ⟨x94, q95, hh⟩ := db hh
                  refine dq_aI 180 (by decide +kernel) rfl q95 ?_
                  refine dq_is 9 182 (by decide +kernel) (by decide +kernel) ?_
                  have g96 := dg_ne (i := 9) (u := .int x94) (by decide) (Or.inl (by decide)) g76
                  have g97 := dg_ne (i := 9) (u := .int x94) (by decide) (Or.inl (by decide)) g77
                  have g98 := dg_ne (i := 9) (u := .int x94) (by decide) (Or.inl (by decide)) g78
                  have g99 := dg_ne (i := 9) (u := .int x94) (by decide) (Or.inl (by decide)) g79
                  have g100 := dg_ne (i := 9) (u := .int x94) (by decide) (Or.inl (by decide)) g80
                  have g101 := dg_ne (i := 9) (u := .int x94) (by decide) (Or.inl (by decide)) g81
                  have g102 := dg_ne (i := 9) (u := .int x94) (by decide) (Or.inl (by decide)) g82
                  have g103 := dg_ne (i := 9) (u := .int x94) (by decide) (Or.inl (by decide)) g83
                  have g104 := dg_ne (i := 9) (u := .int x94) (by decide) (Or.inr rfl) g84
                  have g105 := dg_eq (rm_set1 (rm_set1 (rm_set1 (rm_set1 (rm_set1 (lv) 4 (.int x1.1)) 5 (.int x27.1)) 6 (.int x44.1)) 7 (.int x56.1)) 8 (.int x72.1)) 9 (.int x94)
                  refine dq_aln 0 183 (by decide +kernel) rfl g96 ?_
                  refine dq_iln 2 184 (by decide +kernel) rfl g98 ?_
                  refine dq_il 4 186 (by decide +kernel) rfl g100 ?_
                  refine dq_il 9 188 (by decide +kernel) rfl g105 ?_
                  obtain ⟨x106, q107, hh⟩ := db hh
                  obtain ⟨a108, q109, q107⟩ := db q107
                  rw [dq_xI q107] at q109
                  refine dq_cvi hD 507 353 5 3 [15] o0 [.int i2, .int x1.1, .int x94] [] 191 [.int x106.1] (by decide +kernel) ap_353 ⟨⟨Nat.le_of_ble_eq_true rfl, by decide⟩, rfl, rfl⟩ (dq_ok8 [1, 1, 1, 1] [] (dc_r (dc_i (dc_i (dc_i dc_n)))) dc_n (by decide +kernel)) (by decide +kernel) rfl q109 rfl ?_
                  rcases di hh with ⟨q110, hh⟩ | ⟨q110, hh⟩
                  · refine dq_1 .ne 5 true 196 q110 (by decide +kernel) ?_
                    refine dq_il 4 198 (by decide +kernel) rfl g100 ?_
                    refine dq_S (.iconst 1) 1 [] 199 _ [.int 1, .int x1.1] (by decide +kernel) rfl ?_
                    rcases di hh with ⟨q111, hh⟩ | ⟨q111, hh⟩
                    · refine dq_2 .eq 24 true 223 q111 (by decide +kernel) ?_
                      exact c351_223 hD hz _ _ _ _ _ _ _ _ _ _ _ g96 g97 g98 g99 g102 g103 g104 g105 hh
                    · refine dq_2 .eq 24 false 202 q111 (by decide +kernel) ?_
                      refine dq_il 4 204 (by decide +kernel) rfl g100 ?_
                      obtain ⟨x112, q113, hh⟩ := db hh
                      obtain ⟨a114, q115, q113⟩ := db q113
                      rw [dq_xI q113] at q115
                      refine dq_cst hD 418 331 0 1 [.int x1.1] [] 207 [.int x112.1] (by decide +kernel) ap_331 ⟨⟨Nat.le_of_ble_eq_true rfl, by decide⟩, rfl, rfl⟩ (dq_ok8 [1] [] (dc_i dc_n) dc_n (by decide +kernel)) (by decide +kernel) rfl q115 rfl ?_
                      rcases di hh with ⟨q116, hh⟩ | ⟨q116, hh⟩
                      · refine dq_1 .ne 16 true 223 q116 (by decide +kernel) ?_
                        exact c351_223 hD hz _ _ _ _ _ _ _ _ _ _ _ g96 g97 g98 g99 g102 g103 g104 g105 hh
                      · refine dq_1 .ne 16 false 210 q116 (by decide +kernel) ?_
                        refine dq_il 7 212 (by decide +kernel) rfl g103 ?_
                        refine dq_il 4 214 (by decide +kernel) rfl g100 ?_
                        refine dq_S (.bipush 8) 2 [] 216 _ [.int 8, .int x1.1, .int x56.1] (by decide +kernel) rfl ?_
                        refine dq_rem 217 (by decide) (by decide +kernel) rfl ?_
                        obtain ⟨x117, q118, hh⟩ := db hh
                        obtain ⟨a119, q120, q118⟩ := db q118
                        rw [dq_xI q118] at q120
                        refine dq_cst hD 431 293 0 2 [.int x56.1, .int (x1.1 - x1.1 / 8 * 8)] [] 220 [.int x117.1] (by decide +kernel) ap_293 ⟨⟨Nat.le_of_ble_eq_true rfl, by decide⟩, rfl, rfl⟩ (dq_ok8 [1, 1] [] (dc_i (dc_i dc_n)) dc_n (by decide +kernel)) (by decide +kernel) rfl q120 rfl ?_
                        rcases di hh with ⟨q121, hh⟩ | ⟨q121, hh⟩
                        · refine dq_1 .eq 7 true 227 q121 (by decide +kernel) ?_
                          refine dq_S (.iconst 0) 1 [] 228 _ [.int 0] (by decide +kernel) rfl ?_
                          exact c351_228 hD hz _ _ _ _ _ _ _ _ _ _ _ _ g96 g97 g98 g99 g102 g103 g104 g105 hh
                        · refine dq_1 .eq 7 false 223 q121 (by decide +kernel) ?_
                          exact c351_223 hD hz _ _ _ _ _ _ _ _ _ _ _ g96 g97 g98 g99 g102 g103 g104 g105 hh
                  · refine dq_1 .ne 5 false 194 q110 (by decide +kernel) ?_
                    refine dq_S (.iconst (-1)) 1 [] 195 _ [.int (-1)] (by decide +kernel) rfl ?_
                    exact dq_retI (some .int) (by decide +kernel) rfl hh
                · refine dq_2 .ne 16 false 155 q87 (by decide +kernel) ?_
                  exact c351_155 hD hz _ _ _ _ _ g76 g77 hh
            · refine dq_2 .ne 15 false 131 q85 (by decide +kernel) ?_
              refine dq_aln 0 132 (by decide +kernel) rfl g76 ?_
              refine dq_S (.iconst 3) 1 [] 133 _ [.int 3, va_rf o0] (by decide +kernel) rfl ?_
              refine dq_aln 0 134 (by decide +kernel) rfl g76 ?_
              obtain ⟨p122, q123, hh⟩ := db hh
              refine dq_gR 57 18 [15] 137 (by decide +kernel) rfl q123 ?_
              refine dq_iln 1 138 (by decide +kernel) rfl g77 ?_
              obtain ⟨x124, q125, hh⟩ := db hh
              refine dq_aI 139 (by decide +kernel) rfl q125 ?_
              obtain ⟨x126, q127, hh⟩ := db hh
              obtain ⟨a128, q129, q127⟩ := db q127
              rw [dq_xI q127] at q129
              refine dq_cvi hD 456 347 5 2 [15] o0 [.int 3, .int x124] [] 142 [.int x126.1] (by decide +kernel) ap_347 ⟨⟨Nat.le_of_ble_eq_true rfl, by decide⟩, rfl, rfl⟩ (dq_ok8 [1, 1, 1] [] (dc_r (dc_i (dc_i dc_n))) dc_n (by decide +kernel)) (by decide +kernel) rfl q129 rfl ?_
              exact dq_retI (some .int) (by decide +kernel) rfl hh
          · refine dq_2 .ne 5 false 101 q55 (by decide +kernel) ?_
            refine dq_S (.iconst (-1)) 1 [] 102 _ [.int (-1)] (by decide +kernel) rfl ?_
            exact dq_retI (some .int) (by decide +kernel) rfl hh
        · refine dq_1 .le 5 false 79 q39 (by decide +kernel) ?_
          refine dq_S (.iconst (-1)) 1 [] 80 _ [.int (-1)] (by decide +kernel) rfl ?_
          exact dq_retI (some .int) (by decide +kernel) rfl hh
      · refine dq_2 .eq 16 false 47 q22 (by decide +kernel) ?_
        refine dq_aln 0 48 (by decide +kernel) rfl g5 ?_
        refine dq_S (.bipush 8) 2 [] 50 _ [.int 8, va_rf o0] (by decide +kernel) rfl ?_
        refine dq_aln 0 51 (by decide +kernel) rfl g5 ?_
        obtain ⟨p130, q131, hh⟩ := db hh
        refine dq_gR 54 17 [15] 54 (by decide +kernel) rfl q131 ?_
        refine dq_iln 1 55 (by decide +kernel) rfl g6 ?_
        obtain ⟨x132, q133, hh⟩ := db hh
        refine dq_aI 56 (by decide +kernel) rfl q133 ?_
        obtain ⟨x134, q135, hh⟩ := db hh
        obtain ⟨a136, q137, q135⟩ := db q135
        rw [dq_xI q135] at q137
        refine dq_cvi hD 456 347 5 2 [15] o0 [.int 8, .int x132] [] 59 [.int x134.1] (by decide +kernel) ap_347 ⟨⟨Nat.le_of_ble_eq_true rfl, by decide⟩, rfl, rfl⟩ (dq_ok8 [1, 1, 1] [] (dc_r (dc_i (dc_i dc_n))) dc_n (by decide +kernel)) (by decide +kernel) rfl q137 rfl ?_
        exact dq_retI (some .int) (by decide +kernel) rfl hh
    · refine dq_2 .ne 13 false 26 q17 (by decide +kernel) ?_
      refine dq_aln 0 27 (by decide +kernel) rfl g5 ?_
      refine dq_iln 1 28 (by decide +kernel) rfl g6 ?_
      refine dq_iln 2 29 (by decide +kernel) rfl g7 ?_
      refine dq_il 4 31 (by decide +kernel) rfl g9 ?_
      refine dq_iln 3 32 (by decide +kernel) rfl g8 ?_
      obtain ⟨x138, q139, hh⟩ := db hh
      obtain ⟨a140, q141, q139⟩ := db q139
      rw [dq_xI q139] at q141
      refine dq_cvi hD 552 352 5 4 [15] o0 [.int i1, .int i2, .int x1.1, .int i3] [] 35 [.int x138.1] (by decide +kernel) ap_352 ⟨⟨Nat.le_of_ble_eq_true rfl, by decide⟩, rfl, rfl⟩ (dq_ok8 [1, 1, 1, 1, 1] [] (dc_r (dc_i (dc_i (dc_i (dc_i dc_n))))) dc_n (by decide +kernel)) (by decide +kernel) rfl q141 rfl ?_
      exact dq_retI (some .int) (by decide +kernel) rfl hh
  · refine dq_1 .le 5 false 14 q12 (by decide +kernel) ?_
    refine dq_S (.iconst (-1)) 1 [] 15 _ [.int (-1)] (by decide +kernel) rfl ?_
    exact dq_retI (some .int) (by decide +kernel) rfl hh
def f351 (L : Nat) (xs : Nat → Int32) (zf : Value) (D : dD) (w : Nat) (As : List Value) (h : rm_H) : Option dR := match As with
  | [v0, .int i1, .int i2, .int i3] => (rm_rf v0).bind fun o0 => b351_0 L xs zf D w o0 i1 i2 i3 h
  | _ => none
theorem d351 {L : Nat} {xs : Nat → Int32} {zf : Value} {D : dD} {w k : Nat} (hD : dO L xs zf D k) (hz : zf.category = 1) (As : List Value) (h : rm_H) (r : dR) (hh : f351 L xs zf D w As h = some r) : dq L xs zf ah_M351 0 (lv_args 0 As) [] h (k + 1) r := by
  unfold f351 at hh
  split at hh
  · obtain ⟨o0, e0, hb0⟩ := db hh
    have e0 := rm_rf_v _ _ e0
    subst e0
    refine c351_0 hD hz _ _ _ _ _ _ _ ?_ ?_ ?_ ?_ hb0
    all_goals (simp only [la_r, la_i, la_j]; rfl)
  · cases hh
def b352_69 (L : Nat) (xs : Nat → Int32) (zf : Value) (D : dD) (w : Nat) (o0 : Option Nat) (i1 : Int32) (i2 : Int32) (i3 : Int32) (i5 : Int32) (i6 : Int32) (h : rm_H) : Option dR :=
  (dgR L xs h 70 [15] o0).bind fun p1 =>
  (daI L xs h p1 i5).bind fun x3 =>
  (dgI L xs h 63 [15] o0).bind fun x5 =>
  if mx_f2 .ge x3 x5 = true then
    (dgR L xs h 69 [15] o0).bind fun p8 =>
    (daI L xs h p8 i5).bind fun x10 =>
    ((dcV L xs D 353 [15] o0 [.int i2, .int i3, .int x10] h).bind dxI).bind fun x12 =>
    if mx_f1 .ne x12.1 = true then
      (dgI L xs x12.2 64 [15] o0).bind fun x17 =>
      (dpF x12.2 64 [15] o0 (.int (x17 &&& (i6 ^^^ (-1))))).bind fun h19 =>
      (dgR L xs h19 20 [15] o0).bind fun p21 =>
      (dgR L xs h19 68 [15] o0).bind fun p23 =>
      (daI L xs h19 p23 i5).bind fun x25 =>
      (dsI h19 p21 i1 x25).bind fun h27 =>
      (dgR L xs h27 69 [15] o0).bind fun p29 =>
      (daI L xs h27 p29 i5).bind fun x31 =>
      drI (some .int) x31 h27
    else
      drI (some .int) (-1) x12.2
  else
    (dgR L xs h 17 [15] o0).bind fun p33 =>
    (daI L xs h p33 i1).bind fun x35 =>
    ((dcV L xs D 347 [15] o0 [.int 6, .int x35] h).bind dxI).bind fun x37 =>
    drI (some .int) x37.1 x37.2
theorem c352_69 {L : Nat} {xs : Nat → Int32} {zf : Value} {D : dD} {w k : Nat} (hD : dO L xs zf D k) (hz : zf.category = 1) : ∀ (o0 : Option Nat) (i1 : Int32) (i2 : Int32) (i3 : Int32) (i5 : Int32) (i6 : Int32) (lv : rm_L) (h : rm_H) (r : dR), rm_get lv 0 = some (va_rf o0) → rm_get lv 1 = some (.int i1) → rm_get lv 2 = some (.int i2) → rm_get lv 3 = some (.int i3) → rm_get lv 5 = some (.int i5) → rm_get lv 6 = some (.int i6) → b352_69 L xs zf D w  o0 i1 i2 i3 i5 i6 h = some r → dq L xs zf ah_M352 69 lv [] h (k + 1) r := by
  intro o0 i1 i2 i3 i5 i6 lv h r G0 G1 G2 G3 G5 G6 hh
  unfold b352_69 at hh
  refine dq_aln 0 70 (by decide +kernel) rfl G0 ?_
  obtain ⟨p1, q2, hh⟩ := db hh
  refine dq_gR 163 70 [15] 73 (by decide +kernel) rfl q2 ?_
  refine dq_il 5 75 (by decide +kernel) rfl G5 ?_
  obtain ⟨x3, q4, hh⟩ := db hh
  refine dq_aI 76 (by decide +kernel) rfl q4 ?_
  refine dq_aln 0 77 (by decide +kernel) rfl G0 ?_
  obtain ⟨x5, q6, hh⟩ := db hh
  refine dq_gI 437 63 [15] 80 (by decide +kernel) rfl q6 ?_
  rcases di hh with ⟨q7, hh⟩ | ⟨q7, hh⟩
  · refine dq_2 .ge 16 true 96 q7 (by decide +kernel) ?_
    refine dq_aln 0 97 (by decide +kernel) rfl G0 ?_
    refine dq_iln 2 98 (by decide +kernel) rfl G2 ?_
    refine dq_iln 3 99 (by decide +kernel) rfl G3 ?_
    refine dq_aln 0 100 (by decide +kernel) rfl G0 ?_
    obtain ⟨p8, q9, hh⟩ := db hh
    refine dq_gR 160 69 [15] 103 (by decide +kernel) rfl q9 ?_
    refine dq_il 5 105 (by decide +kernel) rfl G5 ?_
    obtain ⟨x10, q11, hh⟩ := db hh
    refine dq_aI 106 (by decide +kernel) rfl q11 ?_
    obtain ⟨x12, q13, hh⟩ := db hh
    obtain ⟨a14, q15, q13⟩ := db q13
    rw [dq_xI q13] at q15
    refine dq_cvi hD 507 353 5 3 [15] o0 [.int i2, .int i3, .int x10] [] 109 [.int x12.1] (by decide +kernel) ap_353 ⟨⟨Nat.le_of_ble_eq_true rfl, by decide⟩, rfl, rfl⟩ (dq_ok8 [1, 1, 1, 1] [] (dc_r (dc_i (dc_i (dc_i dc_n)))) dc_n (by decide +kernel)) (by decide +kernel) rfl q15 rfl ?_
    rcases di hh with ⟨q16, hh⟩ | ⟨q16, hh⟩
    · refine dq_1 .ne 5 true 114 q16 (by decide +kernel) ?_
      refine dq_aln 0 115 (by decide +kernel) rfl G0 ?_
      refine dq_dup 116 (by decide +kernel) rfl ?_
      obtain ⟨x17, q18, hh⟩ := db hh
      refine dq_gI 440 64 [15] 119 (by decide +kernel) rfl q18 ?_
      refine dq_il 6 121 (by decide +kernel) rfl G6 ?_
      refine dq_S (.iconst (-1)) 1 [] 122 _ [.int (-1), .int i6, .int x17, va_rf o0] (by decide +kernel) rfl ?_
      refine dq_S (.ixor) 1 [] 123 _ [.int (i6 ^^^ (-1)), .int x17, va_rf o0] (by decide +kernel) rfl ?_
      refine dq_S (.iand) 1 [] 124 _ [.int (x17 &&& (i6 ^^^ (-1))), va_rf o0] (by decide +kernel) rfl ?_
      obtain ⟨h19, q20, hh⟩ := db hh
      refine dq_put 440 64 [15] 127 (by decide +kernel) rfl q20 ?_
      refine dq_aln 0 128 (by decide +kernel) rfl G0 ?_
      obtain ⟨p21, q22, hh⟩ := db hh
      refine dq_gR 63 20 [15] 131 (by decide +kernel) rfl q22 ?_
      refine dq_iln 1 132 (by decide +kernel) rfl G1 ?_
      refine dq_aln 0 133 (by decide +kernel) rfl G0 ?_
      obtain ⟨p23, q24, hh⟩ := db hh
      refine dq_gR 157 68 [15] 136 (by decide +kernel) rfl q24 ?_
      refine dq_il 5 138 (by decide +kernel) rfl G5 ?_
      obtain ⟨x25, q26, hh⟩ := db hh
      refine dq_aI 139 (by decide +kernel) rfl q26 ?_
      obtain ⟨h27, q28, hh⟩ := db hh
      refine dq_sI 140 (by decide +kernel) rfl q28 ?_
      refine dq_aln 0 141 (by decide +kernel) rfl G0 ?_
      obtain ⟨p29, q30, hh⟩ := db hh
      refine dq_gR 160 69 [15] 144 (by decide +kernel) rfl q30 ?_
      refine dq_il 5 146 (by decide +kernel) rfl G5 ?_
      obtain ⟨x31, q32, hh⟩ := db hh
      refine dq_aI 147 (by decide +kernel) rfl q32 ?_
      exact dq_retI (some .int) (by decide +kernel) rfl hh
    · refine dq_1 .ne 5 false 112 q16 (by decide +kernel) ?_
      refine dq_S (.iconst (-1)) 1 [] 113 _ [.int (-1)] (by decide +kernel) rfl ?_
      exact dq_retI (some .int) (by decide +kernel) rfl hh
  · refine dq_2 .ge 16 false 83 q7 (by decide +kernel) ?_
    refine dq_aln 0 84 (by decide +kernel) rfl G0 ?_
    refine dq_S (.bipush 6) 2 [] 86 _ [.int 6, va_rf o0] (by decide +kernel) rfl ?_
    refine dq_aln 0 87 (by decide +kernel) rfl G0 ?_
    obtain ⟨p33, q34, hh⟩ := db hh
    refine dq_gR 54 17 [15] 90 (by decide +kernel) rfl q34 ?_
    refine dq_iln 1 91 (by decide +kernel) rfl G1 ?_
    obtain ⟨x35, q36, hh⟩ := db hh
    refine dq_aI 92 (by decide +kernel) rfl q36 ?_
    obtain ⟨x37, q38, hh⟩ := db hh
    obtain ⟨a39, q40, q38⟩ := db q38
    rw [dq_xI q38] at q40
    refine dq_cvi hD 456 347 5 2 [15] o0 [.int 6, .int x35] [] 95 [.int x37.1] (by decide +kernel) ap_347 ⟨⟨Nat.le_of_ble_eq_true rfl, by decide⟩, rfl, rfl⟩ (dq_ok8 [1, 1, 1] [] (dc_r (dc_i (dc_i dc_n))) dc_n (by decide +kernel)) (by decide +kernel) rfl q40 rfl ?_
    exact dq_retI (some .int) (by decide +kernel) rfl hh
def b352_0 (L : Nat) (xs : Nat → Int32) (zf : Value) (D : dD) (w : Nat) (o0 : Option Nat) (i1 : Int32) (i2 : Int32) (i3 : Int32) (i4 : Int32) (h : rm_H) : Option dR :=
  (dgR L xs h 23 [15] o0).bind fun p1 =>
  (daJ L xs h p1 i1).bind fun y3 =>
  ((dcV L xs D 349 [15] o0 [.long y3] h).bind dxI).bind fun x5 =>
  if mx_f2 .ne x5.1 (-1) = true then
    (dgR L xs x5.2 68 [15] o0).bind fun p16 =>
    (daI L xs x5.2 p16 x5.1).bind fun x18 =>
    if mx_f1 .eq i4 = true then
      b352_69 L xs zf D w o0 i1 i2 i3 x5.1 ((1 : Int32) <<< (x18 &&& 31)) x5.2
    else
      (dgI L xs x5.2 64 [15] o0).bind fun x28 =>
      if mx_f1 .eq (x28 &&& ((1 : Int32) <<< (x18 &&& 31))) = true then
        b352_69 L xs zf D w o0 i1 i2 i3 x5.1 ((1 : Int32) <<< (x18 &&& 31)) x5.2
      else
        (dgR L xs x5.2 17 [15] o0).bind fun p31 =>
        (daI L xs x5.2 p31 i1).bind fun x33 =>
        ((dcV L xs D 347 [15] o0 [.int 7, .int x33] x5.2).bind dxI).bind fun x35 =>
        drI (some .int) x35.1 x35.2
  else
    (dgR L xs x5.2 17 [15] o0).bind fun p39 =>
    (daI L xs x5.2 p39 i1).bind fun x41 =>
    ((dcV L xs D 347 [15] o0 [.int 3, .int x41] x5.2).bind dxI).bind fun x43 =>
    drI (some .int) x43.1 x43.2
theorem c352_0 {L : Nat} {xs : Nat → Int32} {zf : Value} {D : dD} {w k : Nat} (hD : dO L xs zf D k) (hz : zf.category = 1) : ∀ (o0 : Option Nat) (i1 : Int32) (i2 : Int32) (i3 : Int32) (i4 : Int32) (lv : rm_L) (h : rm_H) (r : dR), rm_get lv 0 = some (va_rf o0) → rm_get lv 1 = some (.int i1) → rm_get lv 2 = some (.int i2) → rm_get lv 3 = some (.int i3) → rm_get lv 4 = some (.int i4) → b352_0 L xs zf D w  o0 i1 i2 i3 i4 h = some r → dq L xs zf ah_M352 0 lv [] h (k + 1) r := by
  intro o0 i1 i2 i3 i4 lv h r G0 G1 G2 G3 G4 hh
  unfold b352_0 at hh
  refine dq_aln 0 1 (by decide +kernel) rfl G0 ?_
  refine dq_aln 0 2 (by decide +kernel) rfl G0 ?_
  obtain ⟨p1, q2, hh⟩ := db hh
  refine dq_gR 72 23 [15] 5 (by decide +kernel) rfl q2 ?_
  refine dq_iln 1 6 (by decide +kernel) rfl G1 ?_
  obtain ⟨y3, q4, hh⟩ := db hh
  refine dq_aJ 7 (by decide +kernel) rfl q4 ?_
  obtain ⟨x5, q6, hh⟩ := db hh
  obtain ⟨a7, q8, q6⟩ := db q6
  rw [dq_xI q6] at q8
  refine dq_cvi hD 504 349 5 1 [15] o0 [.long y3] [] 10 [.int x5.1] (by decide +kernel) ap_349 ⟨⟨Nat.le_of_ble_eq_true rfl, by decide⟩, rfl, rfl⟩ (dq_ok8 [1, 2] [] (dc_r (dc_j dc_n)) dc_n (by decide +kernel)) (by decide +kernel) rfl q8 rfl ?_
  refine dq_is 5 12 (by decide +kernel) (by decide +kernel) ?_
  have g9 := dg_ne (i := 5) (u := .int x5.1) (by decide) (Or.inl (by decide)) G0
  have g10 := dg_ne (i := 5) (u := .int x5.1) (by decide) (Or.inl (by decide)) G1
  have g11 := dg_ne (i := 5) (u := .int x5.1) (by decide) (Or.inl (by decide)) G2
  have g12 := dg_ne (i := 5) (u := .int x5.1) (by decide) (Or.inl (by decide)) G3
  have g13 := dg_ne (i := 5) (u := .int x5.1) (by decide) (Or.inr rfl) G4
  have g14 := dg_eq (lv) 5 (.int x5.1)
  refine dq_il 5 14 (by decide +kernel) rfl g14 ?_
  refine dq_S (.iconst (-1)) 1 [] 15 _ [.int (-1), .int x5.1] (by decide +kernel) rfl ?_
  rcases di hh with ⟨q15, hh⟩ | ⟨q15, hh⟩
  · refine dq_2 .ne 15 true 30 q15 (by decide +kernel) ?_
    refine dq_S (.iconst 1) 1 [] 31 _ [.int 1] (by decide +kernel) rfl ?_
    refine dq_aln 0 32 (by decide +kernel) rfl g9 ?_
    obtain ⟨p16, q17, hh⟩ := db hh
    refine dq_gR 157 68 [15] 35 (by decide +kernel) rfl q17 ?_
    refine dq_il 5 37 (by decide +kernel) rfl g14 ?_
    obtain ⟨x18, q19, hh⟩ := db hh
    refine dq_aI 38 (by decide +kernel) rfl q19 ?_
    refine dq_S (.ishl) 1 [] 39 _ [.int ((1 : Int32) <<< (x18 &&& 31))] (by decide +kernel) rfl ?_
    refine dq_is 6 41 (by decide +kernel) (by decide +kernel) ?_
    have g20 := dg_ne (i := 6) (u := .int ((1 : Int32) <<< (x18 &&& 31))) (by decide) (Or.inl (by decide)) g9
    have g21 := dg_ne (i := 6) (u := .int ((1 : Int32) <<< (x18 &&& 31))) (by decide) (Or.inl (by decide)) g10
    have g22 := dg_ne (i := 6) (u := .int ((1 : Int32) <<< (x18 &&& 31))) (by decide) (Or.inl (by decide)) g11
    have g23 := dg_ne (i := 6) (u := .int ((1 : Int32) <<< (x18 &&& 31))) (by decide) (Or.inl (by decide)) g12
    have g24 := dg_ne (i := 6) (u := .int ((1 : Int32) <<< (x18 &&& 31))) (by decide) (Or.inl (by decide)) g13
    have g25 := dg_ne (i := 6) (u := .int ((1 : Int32) <<< (x18 &&& 31))) (by decide) (Or.inr rfl) g14
    have g26 := dg_eq (rm_set1 (lv) 5 (.int x5.1)) 6 (.int ((1 : Int32) <<< (x18 &&& 31)))
    refine dq_il 4 43 (by decide +kernel) rfl g24 ?_
    rcases di hh with ⟨q27, hh⟩ | ⟨q27, hh⟩
    · refine dq_1 .eq 26 true 69 q27 (by decide +kernel) ?_
      exact c352_69 hD hz _ _ _ _ _ _ _ _ _ g20 g21 g22 g23 g25 g26 hh
    · refine dq_1 .eq 26 false 46 q27 (by decide +kernel) ?_
      refine dq_aln 0 47 (by decide +kernel) rfl g20 ?_
      obtain ⟨x28, q29, hh⟩ := db hh
      refine dq_gI 440 64 [15] 50 (by decide +kernel) rfl q29 ?_
      refine dq_il 6 52 (by decide +kernel) rfl g26 ?_
      refine dq_S (.iand) 1 [] 53 _ [.int (x28 &&& ((1 : Int32) <<< (x18 &&& 31)))] (by decide +kernel) rfl ?_
      rcases di hh with ⟨q30, hh⟩ | ⟨q30, hh⟩
      · refine dq_1 .eq 16 true 69 q30 (by decide +kernel) ?_
        exact c352_69 hD hz _ _ _ _ _ _ _ _ _ g20 g21 g22 g23 g25 g26 hh
      · refine dq_1 .eq 16 false 56 q30 (by decide +kernel) ?_
        refine dq_aln 0 57 (by decide +kernel) rfl g20 ?_
        refine dq_S (.bipush 7) 2 [] 59 _ [.int 7, va_rf o0] (by decide +kernel) rfl ?_
        refine dq_aln 0 60 (by decide +kernel) rfl g20 ?_
        obtain ⟨p31, q32, hh⟩ := db hh
        refine dq_gR 54 17 [15] 63 (by decide +kernel) rfl q32 ?_
        refine dq_iln 1 64 (by decide +kernel) rfl g21 ?_
        obtain ⟨x33, q34, hh⟩ := db hh
        refine dq_aI 65 (by decide +kernel) rfl q34 ?_
        obtain ⟨x35, q36, hh⟩ := db hh
        obtain ⟨a37, q38, q36⟩ := db q36
        rw [dq_xI q36] at q38
        refine dq_cvi hD 456 347 5 2 [15] o0 [.int 7, .int x33] [] 68 [.int x35.1] (by decide +kernel) ap_347 ⟨⟨Nat.le_of_ble_eq_true rfl, by decide⟩, rfl, rfl⟩ (dq_ok8 [1, 1, 1] [] (dc_r (dc_i (dc_i dc_n))) dc_n (by decide +kernel)) (by decide +kernel) rfl q38 rfl ?_
        exact dq_retI (some .int) (by decide +kernel) rfl hh
  · refine dq_2 .ne 15 false 18 q15 (by decide +kernel) ?_
    refine dq_aln 0 19 (by decide +kernel) rfl g9 ?_
    refine dq_S (.iconst 3) 1 [] 20 _ [.int 3, va_rf o0] (by decide +kernel) rfl ?_
    refine dq_aln 0 21 (by decide +kernel) rfl g9 ?_
    obtain ⟨p39, q40, hh⟩ := db hh
    refine dq_gR 54 17 [15] 24 (by decide +kernel) rfl q40 ?_
    refine dq_iln 1 25 (by decide +kernel) rfl g10 ?_
    obtain ⟨x41, q42, hh⟩ := db hh
    refine dq_aI 26 (by decide +kernel) rfl q42 ?_
    obtain ⟨x43, q44, hh⟩ := db hh
    obtain ⟨a45, q46, q44⟩ := db q44
    rw [dq_xI q44] at q46
    refine dq_cvi hD 456 347 5 2 [15] o0 [.int 3, .int x41] [] 29 [.int x43.1] (by decide +kernel) ap_347 ⟨⟨Nat.le_of_ble_eq_true rfl, by decide⟩, rfl, rfl⟩ (dq_ok8 [1, 1, 1] [] (dc_r (dc_i (dc_i dc_n))) dc_n (by decide +kernel)) (by decide +kernel) rfl q46 rfl ?_
    exact dq_retI (some .int) (by decide +kernel) rfl hh
def f352 (L : Nat) (xs : Nat → Int32) (zf : Value) (D : dD) (w : Nat) (As : List Value) (h : rm_H) : Option dR := match As with
  | [v0, .int i1, .int i2, .int i3, .int i4] => (rm_rf v0).bind fun o0 => b352_0 L xs zf D w o0 i1 i2 i3 i4 h
  | _ => none
theorem d352 {L : Nat} {xs : Nat → Int32} {zf : Value} {D : dD} {w k : Nat} (hD : dO L xs zf D k) (hz : zf.category = 1) (As : List Value) (h : rm_H) (r : dR) (hh : f352 L xs zf D w As h = some r) : dq L xs zf ah_M352 0 (lv_args 0 As) [] h (k + 1) r := by
  unfold f352 at hh
  split at hh
  · obtain ⟨o0, e0, hb0⟩ := db hh
    have e0 := rm_rf_v _ _ e0
    subst e0
    refine c352_0 hD hz _ _ _ _ _ _ _ _ ?_ ?_ ?_ ?_ ?_ hb0
    all_goals (simp only [la_r, la_i, la_j]; rfl)
  · cases hh
def b353_109 (L : Nat) (xs : Nat → Int32) (zf : Value) (D : dD) (w : Nat) (i5 : Int32) (h : rm_H) : Option dR :=
  drI (some .boolean) i5 h
theorem c353_109 {L : Nat} {xs : Nat → Int32} {zf : Value} {D : dD} {w k : Nat} (hD : dO L xs zf D k) (hz : zf.category = 1) : ∀ (i5 : Int32) (lv : rm_L) (h : rm_H) (r : dR), rm_get lv 5 = some (.int i5) → b353_109 L xs zf D w  i5 h = some r → dq L xs zf ah_M353 109 lv [] h (k + 1) r := by
  intro i5 lv h r G5 hh
  unfold b353_109 at hh
  refine dq_il 5 111 (by decide +kernel) rfl G5 ?_
  exact dq_retI (some .boolean) (by decide +kernel) rfl hh
def b353_100 (L : Nat) (xs : Nat → Int32) (zf : Value) (D : dD) (w : Nat) (o0 : Option Nat) (i1 : Int32) (i5 : Int32) (s0 : Int32) (s1 : Option Nat) (h : rm_H) : Option dR :=
  (dgR L xs h 17 [15] o0).bind fun p1 =>
  (daI L xs h p1 i1).bind fun x3 =>
  ((dcV L xs D 305 [15] s1 [.int s0, .int x3] h).bind dxV).bind fun h5 =>
  b353_109 L xs zf D w i5 h5
theorem c353_100 {L : Nat} {xs : Nat → Int32} {zf : Value} {D : dD} {w k : Nat} (hD : dO L xs zf D k) (hz : zf.category = 1) : ∀ (o0 : Option Nat) (i1 : Int32) (i5 : Int32) (s0 : Int32) (s1 : Option Nat) (lv : rm_L) (h : rm_H) (r : dR), rm_get lv 0 = some (va_rf o0) → rm_get lv 1 = some (.int i1) → rm_get lv 5 = some (.int i5) → b353_100 L xs zf D w  o0 i1 i5 s0 s1 h = some r → dq L xs zf ah_M353 100 lv [.int s0, va_rf s1] h (k + 1) r := by
  intro o0 i1 i5 s0 s1 lv h r G0 G1 G5 hh
  unfold b353_100 at hh
  refine dq_aln 0 101 (by decide +kernel) rfl G0 ?_
  obtain ⟨p1, q2, hh⟩ := db hh
  refine dq_gR 54 17 [15] 104 (by decide +kernel) rfl q2 ?_
  refine dq_iln 1 105 (by decide +kernel) rfl G1 ?_
  obtain ⟨x3, q4, hh⟩ := db hh
  refine dq_aI 106 (by decide +kernel) rfl q4 ?_
  obtain ⟨h5, q6, hh⟩ := db hh
  obtain ⟨a7, q8, q6⟩ := db q6
  rw [dq_xV q6] at q8
  refine dq_cvi hD 301 305 5 2 [15] s1 [.int s0, .int x3] [] 109 [] (by decide +kernel) ap_305 ⟨⟨Nat.le_of_ble_eq_true rfl, by decide⟩, rfl, rfl⟩ (dq_ok8 [1, 1, 1] [] (dc_r (dc_i (dc_i dc_n))) dc_n (by decide +kernel)) (by decide +kernel) rfl q8 rfl ?_
  exact c353_109 hD hz _ _ _ _ G5 hh
def b353_81 (L : Nat) (xs : Nat → Int32) (zf : Value) (D : dD) (w : Nat) (o0 : Option Nat) (i1 : Int32) (i4 : Int32) (s0 : Int32) (h : rm_H) : Option dR :=
  if mx_f1 .ne s0 = true then
    b353_109 L xs zf D w s0 h
  else
    if mx_f1 .eq i4 = true then
      b353_100 L xs zf D w o0 i1 s0 5 o0 h
    else
      b353_100 L xs zf D w o0 i1 s0 6 o0 h
theorem c353_81 {L : Nat} {xs : Nat → Int32} {zf : Value} {D : dD} {w k : Nat} (hD : dO L xs zf D k) (hz : zf.category = 1) : ∀ (o0 : Option Nat) (i1 : Int32) (i4 : Int32) (s0 : Int32) (lv : rm_L) (h : rm_H) (r : dR), rm_get lv 0 = some (va_rf o0) → rm_get lv 1 = some (.int i1) → rm_get lv 4 = some (.int i4) → b353_81 L xs zf D w  o0 i1 i4 s0 h = some r → dq L xs zf ah_M353 81 lv [.int s0] h (k + 1) r := by
  intro o0 i1 i4 s0 lv h r G0 G1 G4 hh
  unfold b353_81 at hh
  refine dq_is 5 83 (by decide +kernel) (by decide +kernel) ?_
  have g1 := dg_ne (i := 5) (u := .int s0) (by decide) (Or.inl (by decide)) G0
  have g2 := dg_ne (i := 5) (u := .int s0) (by decide) (Or.inl (by decide)) G1
  have g3 := dg_ne (i := 5) (u := .int s0) (by decide) (Or.inr rfl) G4
  have g4 := dg_eq (lv) 5 (.int s0)
  refine dq_il 5 85 (by decide +kernel) rfl g4 ?_
  rcases di hh with ⟨q5, hh⟩ | ⟨q5, hh⟩
  · refine dq_1 .ne 24 true 109 q5 (by decide +kernel) ?_
    exact c353_109 hD hz _ _ _ _ g4 hh
  · refine dq_1 .ne 24 false 88 q5 (by decide +kernel) ?_
    refine dq_aln 0 89 (by decide +kernel) rfl g1 ?_
    refine dq_il 4 91 (by decide +kernel) rfl g3 ?_
    rcases di hh with ⟨q6, hh⟩ | ⟨q6, hh⟩
    · refine dq_1 .eq 8 true 99 q6 (by decide +kernel) ?_
      refine dq_S (.iconst 5) 1 [] 100 _ [.int 5, va_rf o0] (by decide +kernel) rfl ?_
      exact c353_100 hD hz _ _ _ _ _ _ _ _ g1 g2 g4 hh
    · refine dq_1 .eq 8 false 94 q6 (by decide +kernel) ?_
      refine dq_S (.bipush 6) 2 [] 96 _ [.int 6, va_rf o0] (by decide +kernel) rfl ?_
      refine dq_S (.goto 4) 3 [] 100 _ [.int 6, va_rf o0] (by decide +kernel) rfl ?_
      exact c353_100 hD hz _ _ _ _ _ _ _ _ g1 g2 g4 hh
def b353_76 (L : Nat) (xs : Nat → Int32) (zf : Value) (D : dD) (w : Nat) (o0 : Option Nat) (i1 : Int32) (i4 : Int32) (h : rm_H) : Option dR :=
  b353_81 L xs zf D w o0 i1 i4 1 h
theorem c353_76 {L : Nat} {xs : Nat → Int32} {zf : Value} {D : dD} {w k : Nat} (hD : dO L xs zf D k) (hz : zf.category = 1) : ∀ (o0 : Option Nat) (i1 : Int32) (i4 : Int32) (lv : rm_L) (h : rm_H) (r : dR), rm_get lv 0 = some (va_rf o0) → rm_get lv 1 = some (.int i1) → rm_get lv 4 = some (.int i4) → b353_76 L xs zf D w  o0 i1 i4 h = some r → dq L xs zf ah_M353 76 lv [] h (k + 1) r := by
  intro o0 i1 i4 lv h r G0 G1 G4 hh
  unfold b353_76 at hh
  refine dq_S (.iconst 1) 1 [] 77 _ [.int 1] (by decide +kernel) rfl ?_
  refine dq_S (.goto 4) 3 [] 81 _ [.int 1] (by decide +kernel) rfl ?_
  exact c353_81 hD hz _ _ _ _ _ _ _ G0 G1 G4 hh
def b353_80 (L : Nat) (xs : Nat → Int32) (zf : Value) (D : dD) (w : Nat) (o0 : Option Nat) (i1 : Int32) (i4 : Int32) (h : rm_H) : Option dR :=
  b353_81 L xs zf D w o0 i1 i4 0 h
theorem c353_80 {L : Nat} {xs : Nat → Int32} {zf : Value} {D : dD} {w k : Nat} (hD : dO L xs zf D k) (hz : zf.category = 1) : ∀ (o0 : Option Nat) (i1 : Int32) (i4 : Int32) (lv : rm_L) (h : rm_H) (r : dR), rm_get lv 0 = some (va_rf o0) → rm_get lv 1 = some (.int i1) → rm_get lv 4 = some (.int i4) → b353_80 L xs zf D w  o0 i1 i4 h = some r → dq L xs zf ah_M353 80 lv [] h (k + 1) r := by
  intro o0 i1 i4 lv h r G0 G1 G4 hh
  unfold b353_80 at hh
  refine dq_S (.iconst 0) 1 [] 81 _ [.int 0] (by decide +kernel) rfl ?_
  exact c353_81 hD hz _ _ _ _ _ _ _ G0 G1 G4 hh
def b353_39 (L : Nat) (xs : Nat → Int32) (zf : Value) (D : dD) (w : Nat) (o0 : Option Nat) (i1 : Int32) (i2 : Int32) (i3 : Int32) (s0 : Int32) (h : rm_H) : Option dR :=
  if mx_f1 .eq s0 = true then
    if mx_f2 .eq i2 i3 = true then
      b353_76 L xs zf D w o0 i1 s0 h
    else
      if mx_f2 .ne i2 1 = true then
        b353_80 L xs zf D w o0 i1 s0 h
      else
        if mx_f2 .lt i3 8 = true then
          b353_80 L xs zf D w o0 i1 s0 h
        else
          b353_76 L xs zf D w o0 i1 s0 h
  else
    ((D 290 [.int (i2 - i2 / 8 * 8), .int (i3 - i3 / 8 * 8)] h).bind dxI).bind fun x10 =>
    b353_81 L xs zf D w o0 i1 s0 x10.1 x10.2
theorem c353_39 {L : Nat} {xs : Nat → Int32} {zf : Value} {D : dD} {w k : Nat} (hD : dO L xs zf D k) (hz : zf.category = 1) : ∀ (o0 : Option Nat) (i1 : Int32) (i2 : Int32) (i3 : Int32) (s0 : Int32) (lv : rm_L) (h : rm_H) (r : dR), rm_get lv 0 = some (va_rf o0) → rm_get lv 1 = some (.int i1) → rm_get lv 2 = some (.int i2) → rm_get lv 3 = some (.int i3) → b353_39 L xs zf D w  o0 i1 i2 i3 s0 h = some r → dq L xs zf ah_M353 39 lv [.int s0] h (k + 1) r := by
  intro o0 i1 i2 i3 s0 lv h r G0 G1 G2 G3 hh
  unfold b353_39 at hh
  refine dq_is 4 41 (by decide +kernel) (by decide +kernel) ?_
  have g1 := dg_ne (i := 4) (u := .int s0) (by decide) (Or.inl (by decide)) G0
  have g2 := dg_ne (i := 4) (u := .int s0) (by decide) (Or.inl (by decide)) G1
  have g3 := dg_ne (i := 4) (u := .int s0) (by decide) (Or.inl (by decide)) G2
  have g4 := dg_ne (i := 4) (u := .int s0) (by decide) (Or.inr rfl) G3
  have g5 := dg_eq (lv) 4 (.int s0)
  refine dq_il 4 43 (by decide +kernel) rfl g5 ?_
  rcases di hh with ⟨q6, hh⟩ | ⟨q6, hh⟩
  · refine dq_1 .eq 17 true 60 q6 (by decide +kernel) ?_
    refine dq_iln 2 61 (by decide +kernel) rfl g3 ?_
    refine dq_iln 3 62 (by decide +kernel) rfl g4 ?_
    rcases di hh with ⟨q7, hh⟩ | ⟨q7, hh⟩
    · refine dq_2 .eq 14 true 76 q7 (by decide +kernel) ?_
      exact c353_76 hD hz _ _ _ _ _ _ g1 g2 g5 hh
    · refine dq_2 .eq 14 false 65 q7 (by decide +kernel) ?_
      refine dq_iln 2 66 (by decide +kernel) rfl g3 ?_
      refine dq_S (.iconst 1) 1 [] 67 _ [.int 1, .int i2] (by decide +kernel) rfl ?_
      rcases di hh with ⟨q8, hh⟩ | ⟨q8, hh⟩
      · refine dq_2 .ne 13 true 80 q8 (by decide +kernel) ?_
        exact c353_80 hD hz _ _ _ _ _ _ g1 g2 g5 hh
      · refine dq_2 .ne 13 false 70 q8 (by decide +kernel) ?_
        refine dq_iln 3 71 (by decide +kernel) rfl g4 ?_
        refine dq_S (.bipush 8) 2 [] 73 _ [.int 8, .int i3] (by decide +kernel) rfl ?_
        rcases di hh with ⟨q9, hh⟩ | ⟨q9, hh⟩
        · refine dq_2 .lt 7 true 80 q9 (by decide +kernel) ?_
          exact c353_80 hD hz _ _ _ _ _ _ g1 g2 g5 hh
        · refine dq_2 .lt 7 false 76 q9 (by decide +kernel) ?_
          exact c353_76 hD hz _ _ _ _ _ _ g1 g2 g5 hh
  · refine dq_1 .eq 17 false 46 q6 (by decide +kernel) ?_
    refine dq_iln 2 47 (by decide +kernel) rfl g3 ?_
    refine dq_S (.bipush 8) 2 [] 49 _ [.int 8, .int i2] (by decide +kernel) rfl ?_
    refine dq_rem 50 (by decide) (by decide +kernel) rfl ?_
    refine dq_iln 3 51 (by decide +kernel) rfl g4 ?_
    refine dq_S (.bipush 8) 2 [] 53 _ [.int 8, .int i3, .int (i2 - i2 / 8 * 8)] (by decide +kernel) rfl ?_
    refine dq_rem 54 (by decide) (by decide +kernel) rfl ?_
    obtain ⟨x10, q11, hh⟩ := db hh
    obtain ⟨a12, q13, q11⟩ := db q11
    rw [dq_xI q11] at q13
    refine dq_cst hD 421 290 0 2 [.int (i2 - i2 / 8 * 8), .int (i3 - i3 / 8 * 8)] [] 57 [.int x10.1] (by decide +kernel) ap_290 ⟨⟨Nat.le_of_ble_eq_true rfl, by decide⟩, rfl, rfl⟩ (dq_ok8 [1, 1] [] (dc_i (dc_i dc_n)) dc_n (by decide +kernel)) (by decide +kernel) rfl q13 rfl ?_
    refine dq_S (.goto 24) 3 [] 81 _ [.int x10.1] (by decide +kernel) rfl ?_
    exact c353_81 hD hz _ _ _ _ _ _ _ g1 g2 g5 hh
def b353_38 (L : Nat) (xs : Nat → Int32) (zf : Value) (D : dD) (w : Nat) (o0 : Option Nat) (i1 : Int32) (i2 : Int32) (i3 : Int32) (h : rm_H) : Option dR :=
  b353_39 L xs zf D w o0 i1 i2 i3 0 h
theorem c353_38 {L : Nat} {xs : Nat → Int32} {zf : Value} {D : dD} {w k : Nat} (hD : dO L xs zf D k) (hz : zf.category = 1) : ∀ (o0 : Option Nat) (i1 : Int32) (i2 : Int32) (i3 : Int32) (lv : rm_L) (h : rm_H) (r : dR), rm_get lv 0 = some (va_rf o0) → rm_get lv 1 = some (.int i1) → rm_get lv 2 = some (.int i2) → rm_get lv 3 = some (.int i3) → b353_38 L xs zf D w  o0 i1 i2 i3 h = some r → dq L xs zf ah_M353 38 lv [] h (k + 1) r := by
  intro o0 i1 i2 i3 lv h r G0 G1 G2 G3 hh
  unfold b353_38 at hh
  refine dq_S (.iconst 0) 1 [] 39 _ [.int 0] (by decide +kernel) rfl ?_
  exact c353_39 hD hz _ _ _ _ _ _ _ _ G0 G1 G2 G3 hh
def b353_0 (L : Nat) (xs : Nat → Int32) (zf : Value) (D : dD) (w : Nat) (o0 : Option Nat) (i1 : Int32) (i2 : Int32) (i3 : Int32) (h : rm_H) : Option dR :=
  (dgI L xs h 57 [15] o0).bind fun x1 =>
  if mx_f1 .le x1 = true then
    ((D 333 [.int i2] h).bind dxI).bind fun x4 =>
    if mx_f1 .eq x4.1 = true then
      b353_38 L xs zf D w o0 i1 i2 i3 x4.2
    else
      ((D 333 [.int i3] x4.2).bind dxI).bind fun x9 =>
      if mx_f1 .eq x9.1 = true then
        b353_38 L xs zf D w o0 i1 i2 i3 x9.2
      else
        if mx_f2 .ne (i2 / 8) (i3 / 8) = true then
          b353_38 L xs zf D w o0 i1 i2 i3 x9.2
        else
          b353_39 L xs zf D w o0 i1 i2 i3 1 x9.2
  else
    drI (some .boolean) 0 h
theorem c353_0 {L : Nat} {xs : Nat → Int32} {zf : Value} {D : dD} {w k : Nat} (hD : dO L xs zf D k) (hz : zf.category = 1) : ∀ (o0 : Option Nat) (i1 : Int32) (i2 : Int32) (i3 : Int32) (lv : rm_L) (h : rm_H) (r : dR), rm_get lv 0 = some (va_rf o0) → rm_get lv 1 = some (.int i1) → rm_get lv 2 = some (.int i2) → rm_get lv 3 = some (.int i3) → b353_0 L xs zf D w  o0 i1 i2 i3 h = some r → dq L xs zf ah_M353 0 lv [] h (k + 1) r := by
  intro o0 i1 i2 i3 lv h r G0 G1 G2 G3 hh
  unfold b353_0 at hh
  refine dq_aln 0 1 (by decide +kernel) rfl G0 ?_
  obtain ⟨x1, q2, hh⟩ := db hh
  refine dq_gI 295 57 [15] 4 (by decide +kernel) rfl q2 ?_
  rcases di hh with ⟨q3, hh⟩ | ⟨q3, hh⟩
  · refine dq_1 .le 5 true 9 q3 (by decide +kernel) ?_
    refine dq_iln 2 10 (by decide +kernel) rfl G2 ?_
    obtain ⟨x4, q5, hh⟩ := db hh
    obtain ⟨a6, q7, q5⟩ := db q5
    rw [dq_xI q5] at q7
    refine dq_cst hD 400 333 0 1 [.int i2] [] 13 [.int x4.1] (by decide +kernel) ap_333 ⟨⟨Nat.le_of_ble_eq_true rfl, by decide⟩, rfl, rfl⟩ (dq_ok8 [1] [] (dc_i dc_n) dc_n (by decide +kernel)) (by decide +kernel) rfl q7 rfl ?_
    rcases di hh with ⟨q8, hh⟩ | ⟨q8, hh⟩
    · refine dq_1 .eq 25 true 38 q8 (by decide +kernel) ?_
      exact c353_38 hD hz _ _ _ _ _ _ _ G0 G1 G2 G3 hh
    · refine dq_1 .eq 25 false 16 q8 (by decide +kernel) ?_
      refine dq_iln 3 17 (by decide +kernel) rfl G3 ?_
      obtain ⟨x9, q10, hh⟩ := db hh
      obtain ⟨a11, q12, q10⟩ := db q10
      rw [dq_xI q10] at q12
      refine dq_cst hD 400 333 0 1 [.int i3] [] 20 [.int x9.1] (by decide +kernel) ap_333 ⟨⟨Nat.le_of_ble_eq_true rfl, by decide⟩, rfl, rfl⟩ (dq_ok8 [1] [] (dc_i dc_n) dc_n (by decide +kernel)) (by decide +kernel) rfl q12 rfl ?_
      rcases di hh with ⟨q13, hh⟩ | ⟨q13, hh⟩
      · refine dq_1 .eq 18 true 38 q13 (by decide +kernel) ?_
        exact c353_38 hD hz _ _ _ _ _ _ _ G0 G1 G2 G3 hh
      · refine dq_1 .eq 18 false 23 q13 (by decide +kernel) ?_
        refine dq_iln 2 24 (by decide +kernel) rfl G2 ?_
        refine dq_S (.bipush 8) 2 [] 26 _ [.int 8, .int i2] (by decide +kernel) rfl ?_
        refine dq_div 27 (by decide) (by decide +kernel) rfl ?_
        refine dq_iln 3 28 (by decide +kernel) rfl G3 ?_
        refine dq_S (.bipush 8) 2 [] 30 _ [.int 8, .int i3, .int (i2 / 8)] (by decide +kernel) rfl ?_
        refine dq_div 31 (by decide) (by decide +kernel) rfl ?_
        rcases di hh with ⟨q14, hh⟩ | ⟨q14, hh⟩
        · refine dq_2 .ne 7 true 38 q14 (by decide +kernel) ?_
          exact c353_38 hD hz _ _ _ _ _ _ _ G0 G1 G2 G3 hh
        · refine dq_2 .ne 7 false 34 q14 (by decide +kernel) ?_
          refine dq_S (.iconst 1) 1 [] 35 _ [.int 1] (by decide +kernel) rfl ?_
          refine dq_S (.goto 4) 3 [] 39 _ [.int 1] (by decide +kernel) rfl ?_
          exact c353_39 hD hz _ _ _ _ _ _ _ _ G0 G1 G2 G3 hh
  · refine dq_1 .le 5 false 7 q3 (by decide +kernel) ?_
    refine dq_S (.iconst 0) 1 [] 8 _ [.int 0] (by decide +kernel) rfl ?_
    exact dq_retI (some .boolean) (by decide +kernel) rfl hh
def f353 (L : Nat) (xs : Nat → Int32) (zf : Value) (D : dD) (w : Nat) (As : List Value) (h : rm_H) : Option dR := match As with
  | [v0, .int i1, .int i2, .int i3] => (rm_rf v0).bind fun o0 => b353_0 L xs zf D w o0 i1 i2 i3 h
  | _ => none
theorem d353 {L : Nat} {xs : Nat → Int32} {zf : Value} {D : dD} {w k : Nat} (hD : dO L xs zf D k) (hz : zf.category = 1) (As : List Value) (h : rm_H) (r : dR) (hh : f353 L xs zf D w As h = some r) : dq L xs zf ah_M353 0 (lv_args 0 As) [] h (k + 1) r := by
  unfold f353 at hh
  split at hh
  · obtain ⟨o0, e0, hb0⟩ := db hh
    have e0 := rm_rf_v _ _ e0
    subst e0
    refine c353_0 hD hz _ _ _ _ _ _ _ ?_ ?_ ?_ ?_ hb0
    all_goals (simp only [la_r, la_i, la_j]; rfl)
  · cases hh
def b354_38 (L : Nat) (xs : Nat → Int32) (zf : Value) (D : dD) (w : Nat) (i2 : Int32) (h : rm_H) : Option dR :=
  drI (some .int) ((i2 / 8) - 1) h
theorem c354_38 {L : Nat} {xs : Nat → Int32} {zf : Value} {D : dD} {w k : Nat} (hD : dO L xs zf D k) (hz : zf.category = 1) : ∀ (i2 : Int32) (lv : rm_L) (h : rm_H) (r : dR), rm_get lv 2 = some (.int i2) → b354_38 L xs zf D w  i2 h = some r → dq L xs zf ah_M354 38 lv [] h (k + 1) r := by
  intro i2 lv h r G2 hh
  unfold b354_38 at hh
  refine dq_iln 2 39 (by decide +kernel) rfl G2 ?_
  refine dq_S (.bipush 8) 2 [] 41 _ [.int 8, .int i2] (by decide +kernel) rfl ?_
  refine dq_div 42 (by decide) (by decide +kernel) rfl ?_
  refine dq_S (.iconst 1) 1 [] 43 _ [.int 1, .int (i2 / 8)] (by decide +kernel) rfl ?_
  refine dq_S (.isub) 1 [] 44 _ [.int ((i2 / 8) - 1)] (by decide +kernel) rfl ?_
  exact dq_retI (some .int) (by decide +kernel) rfl hh
def b354_0 (L : Nat) (xs : Nat → Int32) (zf : Value) (D : dD) (w : Nat) (o0 : Option Nat) (i1 : Int32) (i2 : Int32) (h : rm_H) : Option dR :=
  ((dcV L xs D 350 [15] o0 [.int i1, .int i2] h).bind dxI).bind fun x1 =>
  if mx_f1 .ne x1.1 = true then
    (dgI L xs x1.2 61 [15] o0).bind fun x6 =>
    if mx_f1 .ne x6 = true then
      b354_38 L xs zf D w i2 x1.2
    else
      ((D 333 [.int i2] x1.2).bind dxI).bind fun x9 =>
      if mx_f1 .ne x9.1 = true then
        b354_38 L xs zf D w i2 x9.2
      else
        (dgR L xs x9.2 17 [15] o0).bind fun p14 =>
        (daI L xs x9.2 p14 i1).bind fun x16 =>
        ((dcV L xs D 305 [15] o0 [.int 5, .int x16] x9.2).bind dxV).bind fun h18 =>
        drI (some .int) (-1) h18
  else
    drI (some .int) (-1) x1.2
theorem c354_0 {L : Nat} {xs : Nat → Int32} {zf : Value} {D : dD} {w k : Nat} (hD : dO L xs zf D k) (hz : zf.category = 1) : ∀ (o0 : Option Nat) (i1 : Int32) (i2 : Int32) (lv : rm_L) (h : rm_H) (r : dR), rm_get lv 0 = some (va_rf o0) → rm_get lv 1 = some (.int i1) → rm_get lv 2 = some (.int i2) → b354_0 L xs zf D w  o0 i1 i2 h = some r → dq L xs zf ah_M354 0 lv [] h (k + 1) r := by
  intro o0 i1 i2 lv h r G0 G1 G2 hh
  unfold b354_0 at hh
  refine dq_aln 0 1 (by decide +kernel) rfl G0 ?_
  refine dq_iln 1 2 (by decide +kernel) rfl G1 ?_
  refine dq_iln 2 3 (by decide +kernel) rfl G2 ?_
  obtain ⟨x1, q2, hh⟩ := db hh
  obtain ⟨a3, q4, q2⟩ := db q2
  rw [dq_xI q2] at q4
  refine dq_cvi hD 450 350 5 2 [15] o0 [.int i1, .int i2] [] 6 [.int x1.1] (by decide +kernel) ap_350 ⟨⟨Nat.le_of_ble_eq_true rfl, by decide⟩, rfl, rfl⟩ (dq_ok8 [1, 1, 1] [] (dc_r (dc_i (dc_i dc_n))) dc_n (by decide +kernel)) (by decide +kernel) rfl q4 rfl ?_
  rcases di hh with ⟨q5, hh⟩ | ⟨q5, hh⟩
  · refine dq_1 .ne 5 true 11 q5 (by decide +kernel) ?_
    refine dq_aln 0 12 (by decide +kernel) rfl G0 ?_
    obtain ⟨x6, q7, hh⟩ := db hh
    refine dq_gI 446 61 [15] 15 (by decide +kernel) rfl q7 ?_
    rcases di hh with ⟨q8, hh⟩ | ⟨q8, hh⟩
    · refine dq_1 .ne 23 true 38 q8 (by decide +kernel) ?_
      exact c354_38 hD hz _ _ _ _ G2 hh
    · refine dq_1 .ne 23 false 18 q8 (by decide +kernel) ?_
      refine dq_iln 2 19 (by decide +kernel) rfl G2 ?_
      obtain ⟨x9, q10, hh⟩ := db hh
      obtain ⟨a11, q12, q10⟩ := db q10
      rw [dq_xI q10] at q12
      refine dq_cst hD 400 333 0 1 [.int i2] [] 22 [.int x9.1] (by decide +kernel) ap_333 ⟨⟨Nat.le_of_ble_eq_true rfl, by decide⟩, rfl, rfl⟩ (dq_ok8 [1] [] (dc_i dc_n) dc_n (by decide +kernel)) (by decide +kernel) rfl q12 rfl ?_
      rcases di hh with ⟨q13, hh⟩ | ⟨q13, hh⟩
      · refine dq_1 .ne 16 true 38 q13 (by decide +kernel) ?_
        exact c354_38 hD hz _ _ _ _ G2 hh
      · refine dq_1 .ne 16 false 25 q13 (by decide +kernel) ?_
        refine dq_aln 0 26 (by decide +kernel) rfl G0 ?_
        refine dq_S (.iconst 5) 1 [] 27 _ [.int 5, va_rf o0] (by decide +kernel) rfl ?_
        refine dq_aln 0 28 (by decide +kernel) rfl G0 ?_
        obtain ⟨p14, q15, hh⟩ := db hh
        refine dq_gR 54 17 [15] 31 (by decide +kernel) rfl q15 ?_
        refine dq_iln 1 32 (by decide +kernel) rfl G1 ?_
        obtain ⟨x16, q17, hh⟩ := db hh
        refine dq_aI 33 (by decide +kernel) rfl q17 ?_
        obtain ⟨h18, q19, hh⟩ := db hh
        obtain ⟨a20, q21, q19⟩ := db q19
        rw [dq_xV q19] at q21
        refine dq_cvi hD 301 305 5 2 [15] o0 [.int 5, .int x16] [] 36 [] (by decide +kernel) ap_305 ⟨⟨Nat.le_of_ble_eq_true rfl, by decide⟩, rfl, rfl⟩ (dq_ok8 [1, 1, 1] [] (dc_r (dc_i (dc_i dc_n))) dc_n (by decide +kernel)) (by decide +kernel) rfl q21 rfl ?_
        refine dq_S (.iconst (-1)) 1 [] 37 _ [.int (-1)] (by decide +kernel) rfl ?_
        exact dq_retI (some .int) (by decide +kernel) rfl hh
  · refine dq_1 .ne 5 false 9 q5 (by decide +kernel) ?_
    refine dq_S (.iconst (-1)) 1 [] 10 _ [.int (-1)] (by decide +kernel) rfl ?_
    exact dq_retI (some .int) (by decide +kernel) rfl hh
def f354 (L : Nat) (xs : Nat → Int32) (zf : Value) (D : dD) (w : Nat) (As : List Value) (h : rm_H) : Option dR := match As with
  | [v0, .int i1, .int i2] => (rm_rf v0).bind fun o0 => b354_0 L xs zf D w o0 i1 i2 h
  | _ => none
theorem d354 {L : Nat} {xs : Nat → Int32} {zf : Value} {D : dD} {w k : Nat} (hD : dO L xs zf D k) (hz : zf.category = 1) (As : List Value) (h : rm_H) (r : dR) (hh : f354 L xs zf D w As h = some r) : dq L xs zf ah_M354 0 (lv_args 0 As) [] h (k + 1) r := by
  unfold f354 at hh
  split at hh
  · obtain ⟨o0, e0, hb0⟩ := db hh
    have e0 := rm_rf_v _ _ e0
    subst e0
    refine c354_0 hD hz _ _ _ _ _ _ ?_ ?_ ?_ hb0
    all_goals (simp only [la_r, la_i, la_j]; rfl)
  · cases hh
def b355_15 (L : Nat) (xs : Nat → Int32) (zf : Value) (D : dD) (w : Nat) (s0 : Int32) (h : rm_H) : Option dR :=
  drI (some .int) s0 h
theorem c355_15 {L : Nat} {xs : Nat → Int32} {zf : Value} {D : dD} {w k : Nat} (hD : dO L xs zf D k) (hz : zf.category = 1) : ∀ (s0 : Int32) (lv : rm_L) (h : rm_H) (r : dR), b355_15 L xs zf D w  s0 h = some r → dq L xs zf ah_M355 15 lv [.int s0] h (k + 1) r := by
  intro s0 lv h r hh
  unfold b355_15 at hh
  exact dq_retI (some .int) (by decide +kernel) rfl hh
def b355_0 (L : Nat) (xs : Nat → Int32) (zf : Value) (D : dD) (w : Nat) (o0 : Option Nat) (i1 : Int32) (h : rm_H) : Option dR :=
  (dgI L xs h 61 [15] o0).bind fun x1 =>
  if mx_f1 .eq x1 = true then
    b355_15 L xs zf D w (i1 - i1 / 8 * 8) h
  else
    b355_15 L xs zf D w 2 h
theorem c355_0 {L : Nat} {xs : Nat → Int32} {zf : Value} {D : dD} {w k : Nat} (hD : dO L xs zf D k) (hz : zf.category = 1) : ∀ (o0 : Option Nat) (i1 : Int32) (lv : rm_L) (h : rm_H) (r : dR), rm_get lv 0 = some (va_rf o0) → rm_get lv 1 = some (.int i1) → b355_0 L xs zf D w  o0 i1 h = some r → dq L xs zf ah_M355 0 lv [] h (k + 1) r := by
  intro o0 i1 lv h r G0 G1 hh
  unfold b355_0 at hh
  refine dq_aln 0 1 (by decide +kernel) rfl G0 ?_
  obtain ⟨x1, q2, hh⟩ := db hh
  refine dq_gI 446 61 [15] 4 (by decide +kernel) rfl q2 ?_
  rcases di hh with ⟨q3, hh⟩ | ⟨q3, hh⟩
  · refine dq_1 .eq 7 true 11 q3 (by decide +kernel) ?_
    refine dq_iln 1 12 (by decide +kernel) rfl G1 ?_
    refine dq_S (.bipush 8) 2 [] 14 _ [.int 8, .int i1] (by decide +kernel) rfl ?_
    refine dq_rem 15 (by decide) (by decide +kernel) rfl ?_
    exact c355_15 hD hz _ _ _ _  hh
  · refine dq_1 .eq 7 false 7 q3 (by decide +kernel) ?_
    refine dq_S (.iconst 2) 1 [] 8 _ [.int 2] (by decide +kernel) rfl ?_
    refine dq_S (.goto 7) 3 [] 15 _ [.int 2] (by decide +kernel) rfl ?_
    exact c355_15 hD hz _ _ _ _  hh
def f355 (L : Nat) (xs : Nat → Int32) (zf : Value) (D : dD) (w : Nat) (As : List Value) (h : rm_H) : Option dR := match As with
  | [v0, .int i1] => (rm_rf v0).bind fun o0 => b355_0 L xs zf D w o0 i1 h
  | _ => none
theorem d355 {L : Nat} {xs : Nat → Int32} {zf : Value} {D : dD} {w k : Nat} (hD : dO L xs zf D k) (hz : zf.category = 1) (As : List Value) (h : rm_H) (r : dR) (hh : f355 L xs zf D w As h = some r) : dq L xs zf ah_M355 0 (lv_args 0 As) [] h (k + 1) r := by
  unfold f355 at hh
  split at hh
  · obtain ⟨o0, e0, hb0⟩ := db hh
    have e0 := rm_rf_v _ _ e0
    subst e0
    refine c355_0 hD hz _ _ _ _ _ ?_ ?_ hb0
    all_goals (simp only [la_r, la_i, la_j]; rfl)
  · cases hh
def b356_8 (L : Nat) (xs : Nat → Int32) (zf : Value) (D : dD) (w : Nat) : Nat → Option Nat → Int32 → Int64 → Int32 → rm_H → Option dR
  | 0, _, _, _, _, _ => none
  | n + 1, o0, i1, j2, i4, h =>
    (dgR L xs h 35 [15] o0).bind fun p1 =>
    (daI L xs h p1 (i1 + 1)).bind fun x3 =>
    if mx_f2 .ge i4 x3 = true then
      drI (some .int) (-1) h
    else
      (dgR L xs h 39 [15] o0).bind fun p6 =>
      (daJ L xs h p6 i4).bind fun y8 =>
      if mx_f1 .ne (lg_cmp y8 j2) = true then
        b356_8 L xs zf D w n o0 i1 j2 (i4 + 1) h
      else
        drI (some .int) i4 h
theorem c356_8 {L : Nat} {xs : Nat → Int32} {zf : Value} {D : dD} {w k : Nat} (hD : dO L xs zf D k) (hz : zf.category = 1) : ∀ (n : Nat) (o0 : Option Nat) (i1 : Int32) (j2 : Int64) (i4 : Int32) (lv : rm_L) (h : rm_H) (r : dR), rm_get lv 0 = some (va_rf o0) → rm_get lv 1 = some (.int i1) → rm_get lv 2 = some (.long j2) → rm_get lv 4 = some (.int i4) → b356_8 L xs zf D w n  o0 i1 j2 i4 h = some r → dq L xs zf ah_M356 8 lv [] h (k + 1) r := by
  intro n
  induction n with
  | zero =>
    intro o0 i1 j2 i4 lv h r G0 G1 G2 G4 hh
    cases hh
  | succ n ih =>
    intro o0 i1 j2 i4 lv h r G0 G1 G2 G4 hh
    rw [b356_8] at hh
    refine dq_il 4 10 (by decide +kernel) rfl G4 ?_
    refine dq_aln 0 11 (by decide +kernel) rfl G0 ?_
    obtain ⟨p1, q2, hh⟩ := db hh
    refine dq_gR 96 35 [15] 14 (by decide +kernel) rfl q2 ?_
    refine dq_iln 1 15 (by decide +kernel) rfl G1 ?_
    refine dq_S (.iconst 1) 1 [] 16 _ [.int 1, .int i1, va_rf p1, .int i4] (by decide +kernel) rfl ?_
    refine dq_S (.iadd) 1 [] 17 _ [.int (i1 + 1), va_rf p1, .int i4] (by decide +kernel) rfl ?_
    obtain ⟨x3, q4, hh⟩ := db hh
    refine dq_aI 18 (by decide +kernel) rfl q4 ?_
    rcases di hh with ⟨q5, hh⟩ | ⟨q5, hh⟩
    · refine dq_2 .ge 24 true 42 q5 (by decide +kernel) ?_
      refine dq_S (.iconst (-1)) 1 [] 43 _ [.int (-1)] (by decide +kernel) rfl ?_
      exact dq_retI (some .int) (by decide +kernel) rfl hh
    · refine dq_2 .ge 24 false 21 q5 (by decide +kernel) ?_
      refine dq_aln 0 22 (by decide +kernel) rfl G0 ?_
      obtain ⟨p6, q7, hh⟩ := db hh
      refine dq_gR 106 39 [15] 25 (by decide +kernel) rfl q7 ?_
      refine dq_il 4 27 (by decide +kernel) rfl G4 ?_
      obtain ⟨y8, q9, hh⟩ := db hh
      refine dq_aJ 28 (by decide +kernel) rfl q9 ?_
      refine dq_lln 2 29 (by decide +kernel) rfl G2 ?_
      refine dq_S (.lcmp) 1 [] 30 _ [.int (lg_cmp y8 j2)] (by decide +kernel) rfl ?_
      rcases di hh with ⟨q10, hh⟩ | ⟨q10, hh⟩
      · refine dq_1 .ne 6 true 36 q10 (by decide +kernel) ?_
        refine dq_incy 4 1 1 39 (by decide +kernel) ⟨rfl, by decide +kernel, by decide +kernel⟩ G4 ?_
        have g11 := dg_ne (i := 4) (u := .int (i4 + 1)) (by decide) (Or.inl (by decide)) G0
        have g12 := dg_ne (i := 4) (u := .int (i4 + 1)) (by decide) (Or.inl (by decide)) G1
        have g13 := dg_ne (i := 4) (u := .int (i4 + 1)) (by decide) (Or.inl (by decide)) G2
        have g14 := dg_eq (lv) 4 (.int (i4 + 1))
        refine dq_S (.goto (-31)) 3 [] 8 _ [] (by decide +kernel) rfl ?_
        exact ih _ _ _ _ _ _ _ g11 g12 g13 g14 hh
      · refine dq_1 .ne 6 false 33 q10 (by decide +kernel) ?_
        refine dq_il 4 35 (by decide +kernel) rfl G4 ?_
        exact dq_retI (some .int) (by decide +kernel) rfl hh
def b356_0 (L : Nat) (xs : Nat → Int32) (zf : Value) (D : dD) (w : Nat) (o0 : Option Nat) (i1 : Int32) (j2 : Int64) (h : rm_H) : Option dR :=
  (dgR L xs h 35 [15] o0).bind fun p1 =>
  (daI L xs h p1 i1).bind fun x3 =>
  b356_8 L xs zf D w w o0 i1 j2 x3 h
theorem c356_0 {L : Nat} {xs : Nat → Int32} {zf : Value} {D : dD} {w k : Nat} (hD : dO L xs zf D k) (hz : zf.category = 1) : ∀ (o0 : Option Nat) (i1 : Int32) (j2 : Int64) (lv : rm_L) (h : rm_H) (r : dR), rm_get lv 0 = some (va_rf o0) → rm_get lv 1 = some (.int i1) → rm_get lv 2 = some (.long j2) → b356_0 L xs zf D w  o0 i1 j2 h = some r → dq L xs zf ah_M356 0 lv [] h (k + 1) r := by
  intro o0 i1 j2 lv h r G0 G1 G2 hh
  unfold b356_0 at hh
  refine dq_aln 0 1 (by decide +kernel) rfl G0 ?_
  obtain ⟨p1, q2, hh⟩ := db hh
  refine dq_gR 96 35 [15] 4 (by decide +kernel) rfl q2 ?_
  refine dq_iln 1 5 (by decide +kernel) rfl G1 ?_
  obtain ⟨x3, q4, hh⟩ := db hh
  refine dq_aI 6 (by decide +kernel) rfl q4 ?_
  refine dq_is 4 8 (by decide +kernel) (by decide +kernel) ?_
  have g5 := dg_ne (i := 4) (u := .int x3) (by decide) (Or.inl (by decide)) G0
  have g6 := dg_ne (i := 4) (u := .int x3) (by decide) (Or.inl (by decide)) G1
  have g7 := dg_ne (i := 4) (u := .int x3) (by decide) (Or.inl (by decide)) G2
  have g8 := dg_eq (lv) 4 (.int x3)
  exact c356_8 hD hz _ _ _ _ _ _ _ _ g5 g6 g7 g8 hh
def f356 (L : Nat) (xs : Nat → Int32) (zf : Value) (D : dD) (w : Nat) (As : List Value) (h : rm_H) : Option dR := match As with
  | [v0, .int i1, .long j2] => (rm_rf v0).bind fun o0 => b356_0 L xs zf D w o0 i1 j2 h
  | _ => none
theorem d356 {L : Nat} {xs : Nat → Int32} {zf : Value} {D : dD} {w k : Nat} (hD : dO L xs zf D k) (hz : zf.category = 1) (As : List Value) (h : rm_H) (r : dR) (hh : f356 L xs zf D w As h = some r) : dq L xs zf ah_M356 0 (lv_args 0 As) [] h (k + 1) r := by
  unfold f356 at hh
  split at hh
  · obtain ⟨o0, e0, hb0⟩ := db hh
    have e0 := rm_rf_v _ _ e0
    subst e0
    refine c356_0 hD hz _ _ _ _ _ _ ?_ ?_ ?_ hb0
    all_goals (simp only [la_r, la_i, la_j]; rfl)
  · cases hh
def b357_63 (L : Nat) (xs : Nat → Int32) (zf : Value) (D : dD) (w : Nat) (h : rm_H) : Option dR :=
  drI (some .int) (-1) h
theorem c357_63 {L : Nat} {xs : Nat → Int32} {zf : Value} {D : dD} {w k : Nat} (hD : dO L xs zf D k) (hz : zf.category = 1) : ∀ (lv : rm_L) (h : rm_H) (r : dR), b357_63 L xs zf D w  h = some r → dq L xs zf ah_M357 63 lv [] h (k + 1) r := by
  intro lv h r hh
  unfold b357_63 at hh
  refine dq_S (.iconst (-1)) 1 [] 64 _ [.int (-1)] (by decide +kernel) rfl ?_
  exact dq_retI (some .int) (by decide +kernel) rfl hh
def b357_134 (L : Nat) (xs : Nat → Int32) (zf : Value) (D : dD) (w : Nat) (o0 : Option Nat) (i2 : Int32) (i4 : Int32) (h : rm_H) : Option dR :=
  ((dcV L xs D 344 [15] o0 [.int ((8 * (i2 + 1)) + i4)] h).bind dxI).bind fun x1 =>
  drI (some .int) x1.1 x1.2
theorem c357_134 {L : Nat} {xs : Nat → Int32} {zf : Value} {D : dD} {w k : Nat} (hD : dO L xs zf D k) (hz : zf.category = 1) : ∀ (o0 : Option Nat) (i2 : Int32) (i4 : Int32) (lv : rm_L) (h : rm_H) (r : dR), rm_get lv 0 = some (va_rf o0) → rm_get lv 2 = some (.int i2) → rm_get lv 4 = some (.int i4) → b357_134 L xs zf D w  o0 i2 i4 h = some r → dq L xs zf ah_M357 134 lv [] h (k + 1) r := by
  intro o0 i2 i4 lv h r G0 G2 G4 hh
  unfold b357_134 at hh
  refine dq_aln 0 135 (by decide +kernel) rfl G0 ?_
  refine dq_S (.bipush 8) 2 [] 137 _ [.int 8, va_rf o0] (by decide +kernel) rfl ?_
  refine dq_iln 2 138 (by decide +kernel) rfl G2 ?_
  refine dq_S (.iconst 1) 1 [] 139 _ [.int 1, .int i2, .int 8, va_rf o0] (by decide +kernel) rfl ?_
  refine dq_S (.iadd) 1 [] 140 _ [.int (i2 + 1), .int 8, va_rf o0] (by decide +kernel) rfl ?_
  refine dq_S (.imul) 1 [] 141 _ [.int (8 * (i2 + 1)), va_rf o0] (by decide +kernel) rfl ?_
  refine dq_il 4 143 (by decide +kernel) rfl G4 ?_
  refine dq_S (.iadd) 1 [] 144 _ [.int ((8 * (i2 + 1)) + i4), va_rf o0] (by decide +kernel) rfl ?_
  obtain ⟨x1, q2, hh⟩ := db hh
  obtain ⟨a3, q4, q2⟩ := db q2
  rw [dq_xI q2] at q4
  refine dq_cvi hD 478 344 5 1 [15] o0 [.int ((8 * (i2 + 1)) + i4)] [] 147 [.int x1.1] (by decide +kernel) ap_344 ⟨⟨Nat.le_of_ble_eq_true rfl, by decide⟩, rfl, rfl⟩ (dq_ok8 [1, 1] [] (dc_r (dc_i dc_n)) dc_n (by decide +kernel)) (by decide +kernel) rfl q4 rfl ?_
  exact dq_retI (some .int) (by decide +kernel) rfl hh
def b357_106 (L : Nat) (xs : Nat → Int32) (zf : Value) (D : dD) (w : Nat) (o0 : Option Nat) (i1 : Int32) (i2 : Int32) (i3 : Int32) (i4 : Int32) (s0 : Int32) (h : rm_H) : Option dR :=
  if mx_f1 .eq s0 = true then
    b357_134 L xs zf D w o0 i2 i4 h
  else
    ((dcV L xs D 359 [15] o0 [.int i3] h).bind dxI).bind fun x8 =>
    if mx_f1 .ne x8.1 = true then
      b357_134 L xs zf D w o0 i2 i4 x8.2
    else
      (dgR L xs x8.2 17 [15] o0).bind fun p13 =>
      (daI L xs x8.2 p13 i1).bind fun x15 =>
      ((dcV L xs D 347 [15] o0 [.int 6, .int x15] x8.2).bind dxI).bind fun x17 =>
      drI (some .int) x17.1 x17.2
theorem c357_106 {L : Nat} {xs : Nat → Int32} {zf : Value} {D : dD} {w k : Nat} (hD : dO L xs zf D k) (hz : zf.category = 1) : ∀ (o0 : Option Nat) (i1 : Int32) (i2 : Int32) (i3 : Int32) (i4 : Int32) (s0 : Int32) (lv : rm_L) (h : rm_H) (r : dR), rm_get lv 0 = some (va_rf o0) → rm_get lv 1 = some (.int i1) → rm_get lv 2 = some (.int i2) → rm_get lv 3 = some (.int i3) → rm_get lv 4 = some (.int i4) → b357_106 L xs zf D w  o0 i1 i2 i3 i4 s0 h = some r → dq L xs zf ah_M357 106 lv [.int s0] h (k + 1) r := by
  intro o0 i1 i2 i3 i4 s0 lv h r G0 G1 G2 G3 G4 hh
  unfold b357_106 at hh
  refine dq_is 5 108 (by decide +kernel) (by decide +kernel) ?_
  have g1 := dg_ne (i := 5) (u := .int s0) (by decide) (Or.inl (by decide)) G0
  have g2 := dg_ne (i := 5) (u := .int s0) (by decide) (Or.inl (by decide)) G1
  have g3 := dg_ne (i := 5) (u := .int s0) (by decide) (Or.inl (by decide)) G2
  have g4 := dg_ne (i := 5) (u := .int s0) (by decide) (Or.inl (by decide)) G3
  have g5 := dg_ne (i := 5) (u := .int s0) (by decide) (Or.inr rfl) G4
  have g6 := dg_eq (lv) 5 (.int s0)
  refine dq_il 5 110 (by decide +kernel) rfl g6 ?_
  rcases di hh with ⟨q7, hh⟩ | ⟨q7, hh⟩
  · refine dq_1 .eq 24 true 134 q7 (by decide +kernel) ?_
    exact c357_134 hD hz _ _ _ _ _ _ g1 g3 g5 hh
  · refine dq_1 .eq 24 false 113 q7 (by decide +kernel) ?_
    refine dq_aln 0 114 (by decide +kernel) rfl g1 ?_
    refine dq_iln 3 115 (by decide +kernel) rfl g4 ?_
    obtain ⟨x8, q9, hh⟩ := db hh
    obtain ⟨a10, q11, q9⟩ := db q9
    rw [dq_xI q9] at q11
    refine dq_cvi hD 514 359 5 1 [15] o0 [.int i3] [] 118 [.int x8.1] (by decide +kernel) ap_359 ⟨⟨Nat.le_of_ble_eq_true rfl, by decide⟩, rfl, rfl⟩ (dq_ok8 [1, 1] [] (dc_r (dc_i dc_n)) dc_n (by decide +kernel)) (by decide +kernel) rfl q11 rfl ?_
    rcases di hh with ⟨q12, hh⟩ | ⟨q12, hh⟩
    · refine dq_1 .ne 16 true 134 q12 (by decide +kernel) ?_
      exact c357_134 hD hz _ _ _ _ _ _ g1 g3 g5 hh
    · refine dq_1 .ne 16 false 121 q12 (by decide +kernel) ?_
      refine dq_aln 0 122 (by decide +kernel) rfl g1 ?_
      refine dq_S (.bipush 6) 2 [] 124 _ [.int 6, va_rf o0] (by decide +kernel) rfl ?_
      refine dq_aln 0 125 (by decide +kernel) rfl g1 ?_
      obtain ⟨p13, q14, hh⟩ := db hh
      refine dq_gR 54 17 [15] 128 (by decide +kernel) rfl q14 ?_
      refine dq_iln 1 129 (by decide +kernel) rfl g2 ?_
      obtain ⟨x15, q16, hh⟩ := db hh
      refine dq_aI 130 (by decide +kernel) rfl q16 ?_
      obtain ⟨x17, q18, hh⟩ := db hh
      obtain ⟨a19, q20, q18⟩ := db q18
      rw [dq_xI q18] at q20
      refine dq_cvi hD 456 347 5 2 [15] o0 [.int 6, .int x15] [] 133 [.int x17.1] (by decide +kernel) ap_347 ⟨⟨Nat.le_of_ble_eq_true rfl, by decide⟩, rfl, rfl⟩ (dq_ok8 [1, 1, 1] [] (dc_r (dc_i (dc_i dc_n))) dc_n (by decide +kernel)) (by decide +kernel) rfl q20 rfl ?_
      exact dq_retI (some .int) (by decide +kernel) rfl hh
def b357_101 (L : Nat) (xs : Nat → Int32) (zf : Value) (D : dD) (w : Nat) (o0 : Option Nat) (i1 : Int32) (i2 : Int32) (i3 : Int32) (i4 : Int32) (h : rm_H) : Option dR :=
  b357_106 L xs zf D w o0 i1 i2 i3 i4 1 h
theorem c357_101 {L : Nat} {xs : Nat → Int32} {zf : Value} {D : dD} {w k : Nat} (hD : dO L xs zf D k) (hz : zf.category = 1) : ∀ (o0 : Option Nat) (i1 : Int32) (i2 : Int32) (i3 : Int32) (i4 : Int32) (lv : rm_L) (h : rm_H) (r : dR), rm_get lv 0 = some (va_rf o0) → rm_get lv 1 = some (.int i1) → rm_get lv 2 = some (.int i2) → rm_get lv 3 = some (.int i3) → rm_get lv 4 = some (.int i4) → b357_101 L xs zf D w  o0 i1 i2 i3 i4 h = some r → dq L xs zf ah_M357 101 lv [] h (k + 1) r := by
  intro o0 i1 i2 i3 i4 lv h r G0 G1 G2 G3 G4 hh
  unfold b357_101 at hh
  refine dq_S (.iconst 1) 1 [] 102 _ [.int 1] (by decide +kernel) rfl ?_
  refine dq_S (.goto 4) 3 [] 106 _ [.int 1] (by decide +kernel) rfl ?_
  exact c357_106 hD hz _ _ _ _ _ _ _ _ _ G0 G1 G2 G3 G4 hh
def b357_34 (L : Nat) (xs : Nat → Int32) (zf : Value) (D : dD) (w : Nat) (o0 : Option Nat) (i1 : Int32) (i2 : Int32) (i3 : Int32) (s0 : Int32) (h : rm_H) : Option dR :=
  ((dcV L xs D 341 [15] o0 [.int i1] h).bind dxV).bind fun h6 =>
  (dgI L xs h6 57 [15] o0).bind fun x10 =>
  if mx_f1 .gt x10 = true then
    b357_63 L xs zf D w h6
  else
    (dgR L xs h6 18 [15] o0).bind fun p13 =>
    (daI L xs h6 p13 i1).bind fun x15 =>
    ((dcV L xs D 358 [15] o0 [.int i1, .int i3, .int x15] h6).bind dxI).bind fun x17 =>
    if mx_f1 .ne x17.1 = true then
      (dgR L xs x17.2 37 [15] o0).bind fun p22 =>
      (daB L xs x17.2 p22 i2).bind fun x24 =>
      if mx_f1 .eq x24 = true then
        if mx_f1 .eq s0 = true then
          b357_101 L xs zf D w o0 i1 i2 i3 s0 x17.2
        else
          if mx_f2 .eq s0 1 = true then
            b357_101 L xs zf D w o0 i1 i2 i3 s0 x17.2
          else
            if mx_f2 .ne s0 3 = true then
              b357_106 L xs zf D w o0 i1 i2 i3 s0 0 x17.2
            else
              b357_101 L xs zf D w o0 i1 i2 i3 s0 x17.2
      else
        ((dcV L xs D 346 [15] o0 [.int i2] x17.2).bind dxI).bind fun x30 =>
        ((dcV L xs D 344 [15] o0 [.int x30.1] x30.2).bind dxI).bind fun x34 =>
        drI (some .int) x34.1 x34.2
    else
      b357_63 L xs zf D w x17.2
theorem c357_34 {L : Nat} {xs : Nat → Int32} {zf : Value} {D : dD} {w k : Nat} (hD : dO L xs zf D k) (hz : zf.category = 1) : ∀ (o0 : Option Nat) (i1 : Int32) (i2 : Int32) (i3 : Int32) (s0 : Int32) (lv : rm_L) (h : rm_H) (r : dR), rm_get lv 0 = some (va_rf o0) → rm_get lv 1 = some (.int i1) → rm_get lv 2 = some (.int i2) → rm_get lv 3 = some (.int i3) → b357_34 L xs zf D w  o0 i1 i2 i3 s0 h = some r → dq L xs zf ah_M357 34 lv [.int s0] h (k + 1) r := by
  intro o0 i1 i2 i3 s0 lv h r G0 G1 G2 G3 hh
  unfold b357_34 at hh
  refine dq_is 4 36 (by decide +kernel) (by decide +kernel) ?_
  have g1 := dg_ne (i := 4) (u := .int s0) (by decide) (Or.inl (by decide)) G0
  have g2 := dg_ne (i := 4) (u := .int s0) (by decide) (Or.inl (by decide)) G1
  have g3 := dg_ne (i := 4) (u := .int s0) (by decide) (Or.inl (by decide)) G2
  have g4 := dg_ne (i := 4) (u := .int s0) (by decide) (Or.inr rfl) G3
  have g5 := dg_eq (lv) 4 (.int s0)
  refine dq_aln 0 37 (by decide +kernel) rfl g1 ?_
  refine dq_iln 1 38 (by decide +kernel) rfl g2 ?_
  obtain ⟨h6, q7, hh⟩ := db hh
  obtain ⟨a8, q9, q7⟩ := db q7
  rw [dq_xV q7] at q9
  refine dq_cvi hD 465 341 5 1 [15] o0 [.int i1] [] 41 [] (by decide +kernel) ap_341 ⟨⟨Nat.le_of_ble_eq_true rfl, by decide⟩, rfl, rfl⟩ (dq_ok8 [1, 1] [] (dc_r (dc_i dc_n)) dc_n (by decide +kernel)) (by decide +kernel) rfl q9 rfl ?_
  refine dq_aln 0 42 (by decide +kernel) rfl g1 ?_
  obtain ⟨x10, q11, hh⟩ := db hh
  refine dq_gI 295 57 [15] 45 (by decide +kernel) rfl q11 ?_
  rcases di hh with ⟨q12, hh⟩ | ⟨q12, hh⟩
  · refine dq_1 .gt 18 true 63 q12 (by decide +kernel) ?_
    exact c357_63 hD hz  _ _ _  hh
  · refine dq_1 .gt 18 false 48 q12 (by decide +kernel) ?_
    refine dq_aln 0 49 (by decide +kernel) rfl g1 ?_
    refine dq_iln 1 50 (by decide +kernel) rfl g2 ?_
    refine dq_iln 3 51 (by decide +kernel) rfl g4 ?_
    refine dq_aln 0 52 (by decide +kernel) rfl g1 ?_
    obtain ⟨p13, q14, hh⟩ := db hh
    refine dq_gR 57 18 [15] 55 (by decide +kernel) rfl q14 ?_
    refine dq_iln 1 56 (by decide +kernel) rfl g2 ?_
    obtain ⟨x15, q16, hh⟩ := db hh
    refine dq_aI 57 (by decide +kernel) rfl q16 ?_
    obtain ⟨x17, q18, hh⟩ := db hh
    obtain ⟨a19, q20, q18⟩ := db q18
    rw [dq_xI q18] at q20
    refine dq_cvi hD 511 358 5 3 [15] o0 [.int i1, .int i3, .int x15] [] 60 [.int x17.1] (by decide +kernel) ap_358 ⟨⟨Nat.le_of_ble_eq_true rfl, by decide⟩, rfl, rfl⟩ (dq_ok8 [1, 1, 1, 1] [] (dc_r (dc_i (dc_i (dc_i dc_n)))) dc_n (by decide +kernel)) (by decide +kernel) rfl q20 rfl ?_
    rcases di hh with ⟨q21, hh⟩ | ⟨q21, hh⟩
    · refine dq_1 .ne 5 true 65 q21 (by decide +kernel) ?_
      refine dq_aln 0 66 (by decide +kernel) rfl g1 ?_
      obtain ⟨p22, q23, hh⟩ := db hh
      refine dq_gR 102 37 [15] 69 (by decide +kernel) rfl q23 ?_
      refine dq_iln 2 70 (by decide +kernel) rfl g3 ?_
      obtain ⟨x24, q25, hh⟩ := db hh
      refine dq_aB 71 (by decide +kernel) rfl q25 ?_
      rcases di hh with ⟨q26, hh⟩ | ⟨q26, hh⟩
      · refine dq_1 .eq 13 true 84 q26 (by decide +kernel) ?_
        refine dq_il 4 86 (by decide +kernel) rfl g5 ?_
        rcases di hh with ⟨q27, hh⟩ | ⟨q27, hh⟩
        · refine dq_1 .eq 15 true 101 q27 (by decide +kernel) ?_
          exact c357_101 hD hz _ _ _ _ _ _ _ _ g1 g2 g3 g4 g5 hh
        · refine dq_1 .eq 15 false 89 q27 (by decide +kernel) ?_
          refine dq_il 4 91 (by decide +kernel) rfl g5 ?_
          refine dq_S (.iconst 1) 1 [] 92 _ [.int 1, .int s0] (by decide +kernel) rfl ?_
          rcases di hh with ⟨q28, hh⟩ | ⟨q28, hh⟩
          · refine dq_2 .eq 9 true 101 q28 (by decide +kernel) ?_
            exact c357_101 hD hz _ _ _ _ _ _ _ _ g1 g2 g3 g4 g5 hh
          · refine dq_2 .eq 9 false 95 q28 (by decide +kernel) ?_
            refine dq_il 4 97 (by decide +kernel) rfl g5 ?_
            refine dq_S (.iconst 3) 1 [] 98 _ [.int 3, .int s0] (by decide +kernel) rfl ?_
            rcases di hh with ⟨q29, hh⟩ | ⟨q29, hh⟩
            · refine dq_2 .ne 7 true 105 q29 (by decide +kernel) ?_
              refine dq_S (.iconst 0) 1 [] 106 _ [.int 0] (by decide +kernel) rfl ?_
              exact c357_106 hD hz _ _ _ _ _ _ _ _ _ g1 g2 g3 g4 g5 hh
            · refine dq_2 .ne 7 false 101 q29 (by decide +kernel) ?_
              exact c357_101 hD hz _ _ _ _ _ _ _ _ g1 g2 g3 g4 g5 hh
      · refine dq_1 .eq 13 false 74 q26 (by decide +kernel) ?_
        refine dq_aln 0 75 (by decide +kernel) rfl g1 ?_
        refine dq_aln 0 76 (by decide +kernel) rfl g1 ?_
        refine dq_iln 2 77 (by decide +kernel) rfl g3 ?_
        obtain ⟨x30, q31, hh⟩ := db hh
        obtain ⟨a32, q33, q31⟩ := db q31
        rw [dq_xI q31] at q33
        refine dq_cvi hD 501 346 5 1 [15] o0 [.int i2] [va_rf o0] 80 [.int x30.1, va_rf o0] (by decide +kernel) ap_346 ⟨⟨Nat.le_of_ble_eq_true rfl, by decide⟩, rfl, rfl⟩ (dq_ok8 [1, 1] [1] (dc_r (dc_i dc_n)) (dc_r dc_n) (by decide +kernel)) (by decide +kernel) rfl q33 rfl ?_
        obtain ⟨x34, q35, hh⟩ := db hh
        obtain ⟨a36, q37, q35⟩ := db q35
        rw [dq_xI q35] at q37
        refine dq_cvi hD 478 344 5 1 [15] o0 [.int x30.1] [] 83 [.int x34.1] (by decide +kernel) ap_344 ⟨⟨Nat.le_of_ble_eq_true rfl, by decide⟩, rfl, rfl⟩ (dq_ok8 [1, 1] [] (dc_r (dc_i dc_n)) dc_n (by decide +kernel)) (by decide +kernel) rfl q37 rfl ?_
        exact dq_retI (some .int) (by decide +kernel) rfl hh
    · refine dq_1 .ne 5 false 63 q21 (by decide +kernel) ?_
      exact c357_63 hD hz  _ _ _  hh
def b357_0 (L : Nat) (xs : Nat → Int32) (zf : Value) (D : dD) (w : Nat) (o0 : Option Nat) (i1 : Int32) (h : rm_H) : Option dR :=
  (dgR L xs h 20 [15] o0).bind fun p1 =>
  (daI L xs h p1 i1).bind fun x3 =>
  (dgR L xs h 36 [15] o0).bind fun p8 =>
  (daI L xs h p8 x3).bind fun x10 =>
  (dgR L xs h 21 [15] o0).bind fun p16 =>
  (daI L xs h p16 i1).bind fun x18 =>
  if mx_f2 .ne x18 (-1) = true then
    (dgR L xs h 21 [15] o0).bind fun p21 =>
    (daI L xs h p21 i1).bind fun x23 =>
    b357_34 L xs zf D w o0 i1 x3 x10 x23 h
  else
    b357_34 L xs zf D w o0 i1 x3 x10 2 h
theorem c357_0 {L : Nat} {xs : Nat → Int32} {zf : Value} {D : dD} {w k : Nat} (hD : dO L xs zf D k) (hz : zf.category = 1) : ∀ (o0 : Option Nat) (i1 : Int32) (lv : rm_L) (h : rm_H) (r : dR), rm_get lv 0 = some (va_rf o0) → rm_get lv 1 = some (.int i1) → b357_0 L xs zf D w  o0 i1 h = some r → dq L xs zf ah_M357 0 lv [] h (k + 1) r := by
  intro o0 i1 lv h r G0 G1 hh
  unfold b357_0 at hh
  refine dq_aln 0 1 (by decide +kernel) rfl G0 ?_
  obtain ⟨p1, q2, hh⟩ := db hh
  refine dq_gR 63 20 [15] 4 (by decide +kernel) rfl q2 ?_
  refine dq_iln 1 5 (by decide +kernel) rfl G1 ?_
  obtain ⟨x3, q4, hh⟩ := db hh
  refine dq_aI 6 (by decide +kernel) rfl q4 ?_
  refine dq_isn 2 7 (by decide +kernel) (by decide +kernel) ?_
  have g5 := dg_ne (i := 2) (u := .int x3) (by decide) (Or.inl (by decide)) G0
  have g6 := dg_ne (i := 2) (u := .int x3) (by decide) (Or.inr rfl) G1
  have g7 := dg_eq (lv) 2 (.int x3)
  refine dq_aln 0 8 (by decide +kernel) rfl g5 ?_
  obtain ⟨p8, q9, hh⟩ := db hh
  refine dq_gR 99 36 [15] 11 (by decide +kernel) rfl q9 ?_
  refine dq_iln 2 12 (by decide +kernel) rfl g7 ?_
  obtain ⟨x10, q11, hh⟩ := db hh
  refine dq_aI 13 (by decide +kernel) rfl q11 ?_
  refine dq_isn 3 14 (by decide +kernel) (by decide +kernel) ?_
  have g12 := dg_ne (i := 3) (u := .int x10) (by decide) (Or.inl (by decide)) g5
  have g13 := dg_ne (i := 3) (u := .int x10) (by decide) (Or.inl (by decide)) g6
  have g14 := dg_ne (i := 3) (u := .int x10) (by decide) (Or.inr rfl) g7
  have g15 := dg_eq (rm_set1 (lv) 2 (.int x3)) 3 (.int x10)
  refine dq_aln 0 15 (by decide +kernel) rfl g12 ?_
  obtain ⟨p16, q17, hh⟩ := db hh
  refine dq_gR 66 21 [15] 18 (by decide +kernel) rfl q17 ?_
  refine dq_iln 1 19 (by decide +kernel) rfl g13 ?_
  obtain ⟨x18, q19, hh⟩ := db hh
  refine dq_aI 20 (by decide +kernel) rfl q19 ?_
  refine dq_S (.iconst (-1)) 1 [] 21 _ [.int (-1), .int x18] (by decide +kernel) rfl ?_
  rcases di hh with ⟨q20, hh⟩ | ⟨q20, hh⟩
  · refine dq_2 .ne 7 true 28 q20 (by decide +kernel) ?_
    refine dq_aln 0 29 (by decide +kernel) rfl g12 ?_
    obtain ⟨p21, q22, hh⟩ := db hh
    refine dq_gR 66 21 [15] 32 (by decide +kernel) rfl q22 ?_
    refine dq_iln 1 33 (by decide +kernel) rfl g13 ?_
    obtain ⟨x23, q24, hh⟩ := db hh
    refine dq_aI 34 (by decide +kernel) rfl q24 ?_
    exact c357_34 hD hz _ _ _ _ _ _ _ _ g12 g13 g14 g15 hh
  · refine dq_2 .ne 7 false 24 q20 (by decide +kernel) ?_
    refine dq_S (.iconst 2) 1 [] 25 _ [.int 2] (by decide +kernel) rfl ?_
    refine dq_S (.goto 9) 3 [] 34 _ [.int 2] (by decide +kernel) rfl ?_
    exact c357_34 hD hz _ _ _ _ _ _ _ _ g12 g13 g14 g15 hh
def f357 (L : Nat) (xs : Nat → Int32) (zf : Value) (D : dD) (w : Nat) (As : List Value) (h : rm_H) : Option dR := match As with
  | [v0, .int i1] => (rm_rf v0).bind fun o0 => b357_0 L xs zf D w o0 i1 h
  | _ => none
theorem d357 {L : Nat} {xs : Nat → Int32} {zf : Value} {D : dD} {w k : Nat} (hD : dO L xs zf D k) (hz : zf.category = 1) (As : List Value) (h : rm_H) (r : dR) (hh : f357 L xs zf D w As h = some r) : dq L xs zf ah_M357 0 (lv_args 0 As) [] h (k + 1) r := by
  unfold f357 at hh
  split at hh
  · obtain ⟨o0, e0, hb0⟩ := db hh
    have e0 := rm_rf_v _ _ e0
    subst e0
    refine c357_0 hD hz _ _ _ _ _ ?_ ?_ hb0
    all_goals (simp only [la_r, la_i, la_j]; rfl)
  · cases hh
def b358_104 (L : Nat) (xs : Nat → Int32) (zf : Value) (D : dD) (w : Nat) (i5 : Int32) (h : rm_H) : Option dR :=
  drI (some .boolean) i5 h
theorem c358_104 {L : Nat} {xs : Nat → Int32} {zf : Value} {D : dD} {w k : Nat} (hD : dO L xs zf D k) (hz : zf.category = 1) : ∀ (i5 : Int32) (lv : rm_L) (h : rm_H) (r : dR), rm_get lv 5 = some (.int i5) → b358_104 L xs zf D w  i5 h = some r → dq L xs zf ah_M358 104 lv [] h (k + 1) r := by
  intro i5 lv h r G5 hh
  unfold b358_104 at hh
  refine dq_il 5 106 (by decide +kernel) rfl G5 ?_
  exact dq_retI (some .boolean) (by decide +kernel) rfl hh
def b358_52 (L : Nat) (xs : Nat → Int32) (zf : Value) (D : dD) (w : Nat) : Nat → Option Nat → Int32 → Int32 → Int32 → rm_H → Option dR
  | 0, _, _, _, _, _ => none
  | n + 1, o0, i4, i5, i6, h =>
    if mx_f1 .eq i6 = true then
      b358_104 L xs zf D w i5 h
    else
      if mx_f1 .eq i5 = true then
        b358_104 L xs zf D w i5 h
      else
        (dgR L xs h 71 [15] o0).bind fun p3 =>
        (daI L xs h p3 i6).bind fun x5 =>
        (dgR L xs h 30 [15] o0).bind fun p7 =>
        (dgR L xs h 55 [15] o0).bind fun p9 =>
        (daI L xs h p9 i4).bind fun x11 =>
        (daI L xs h p7 x11).bind fun x13 =>
        ((dcV L xs D 353 [15] o0 [.int i6, .int x5, .int x13] h).bind dxI).bind fun x15 =>
        (dgR L xs x15.2 15 [15] o0).bind fun p27 =>
        (daI L xs x15.2 p27 i6).bind fun x29 =>
        b358_52 L xs zf D w n o0 (i4 + 1) x15.1 x29 x15.2
theorem c358_52 {L : Nat} {xs : Nat → Int32} {zf : Value} {D : dD} {w k : Nat} (hD : dO L xs zf D k) (hz : zf.category = 1) : ∀ (n : Nat) (o0 : Option Nat) (i4 : Int32) (i5 : Int32) (i6 : Int32) (lv : rm_L) (h : rm_H) (r : dR), rm_get lv 0 = some (va_rf o0) → rm_get lv 4 = some (.int i4) → rm_get lv 5 = some (.int i5) → rm_get lv 6 = some (.int i6) → b358_52 L xs zf D w n  o0 i4 i5 i6 h = some r → dq L xs zf ah_M358 52 lv [] h (k + 1) r := by
  intro n
  induction n with
  | zero =>
    intro o0 i4 i5 i6 lv h r G0 G4 G5 G6 hh
    cases hh
  | succ n ih =>
    intro o0 i4 i5 i6 lv h r G0 G4 G5 G6 hh
    rw [b358_52] at hh
    refine dq_il 6 54 (by decide +kernel) rfl G6 ?_
    rcases di hh with ⟨q1, hh⟩ | ⟨q1, hh⟩
    · refine dq_1 .eq 50 true 104 q1 (by decide +kernel) ?_
      exact c358_104 hD hz _ _ _ _ G5 hh
    · refine dq_1 .eq 50 false 57 q1 (by decide +kernel) ?_
      refine dq_il 5 59 (by decide +kernel) rfl G5 ?_
      rcases di hh with ⟨q2, hh⟩ | ⟨q2, hh⟩
      · refine dq_1 .eq 45 true 104 q2 (by decide +kernel) ?_
        exact c358_104 hD hz _ _ _ _ G5 hh
      · refine dq_1 .eq 45 false 62 q2 (by decide +kernel) ?_
        refine dq_aln 0 63 (by decide +kernel) rfl G0 ?_
        refine dq_il 6 65 (by decide +kernel) rfl G6 ?_
        refine dq_aln 0 66 (by decide +kernel) rfl G0 ?_
        obtain ⟨p3, q4, hh⟩ := db hh
        refine dq_gR 166 71 [15] 69 (by decide +kernel) rfl q4 ?_
        refine dq_il 6 71 (by decide +kernel) rfl G6 ?_
        obtain ⟨x5, q6, hh⟩ := db hh
        refine dq_aI 72 (by decide +kernel) rfl q6 ?_
        refine dq_aln 0 73 (by decide +kernel) rfl G0 ?_
        obtain ⟨p7, q8, hh⟩ := db hh
        refine dq_gR 84 30 [15] 76 (by decide +kernel) rfl q8 ?_
        refine dq_aln 0 77 (by decide +kernel) rfl G0 ?_
        obtain ⟨p9, q10, hh⟩ := db hh
        refine dq_gR 148 55 [15] 80 (by decide +kernel) rfl q10 ?_
        refine dq_il 4 82 (by decide +kernel) rfl G4 ?_
        obtain ⟨x11, q12, hh⟩ := db hh
        refine dq_aI 83 (by decide +kernel) rfl q12 ?_
        obtain ⟨x13, q14, hh⟩ := db hh
        refine dq_aI 84 (by decide +kernel) rfl q14 ?_
        obtain ⟨x15, q16, hh⟩ := db hh
        obtain ⟨a17, q18, q16⟩ := db q16
        rw [dq_xI q16] at q18
        refine dq_cvi hD 507 353 5 3 [15] o0 [.int i6, .int x5, .int x13] [] 87 [.int x15.1] (by decide +kernel) ap_353 ⟨⟨Nat.le_of_ble_eq_true rfl, by decide⟩, rfl, rfl⟩ (dq_ok8 [1, 1, 1, 1] [] (dc_r (dc_i (dc_i (dc_i dc_n)))) dc_n (by decide +kernel)) (by decide +kernel) rfl q18 rfl ?_
        refine dq_is 5 89 (by decide +kernel) (by decide +kernel) ?_
        have g19 := dg_ne (i := 5) (u := .int x15.1) (by decide) (Or.inl (by decide)) G0
        have g20 := dg_ne (i := 5) (u := .int x15.1) (by decide) (Or.inr rfl) G4
        have g21 := dg_ne (i := 5) (u := .int x15.1) (by decide) (Or.inl (by decide)) G6
        have g22 := dg_eq (lv) 5 (.int x15.1)
        refine dq_incy 4 1 1 92 (by decide +kernel) ⟨rfl, by decide +kernel, by decide +kernel⟩ g20 ?_
        have g23 := dg_ne (i := 4) (u := .int (i4 + 1)) (by decide) (Or.inl (by decide)) g19
        have g24 := dg_ne (i := 4) (u := .int (i4 + 1)) (by decide) (Or.inl (by decide)) g21
        have g25 := dg_ne (i := 4) (u := .int (i4 + 1)) (by decide) (Or.inl (by decide)) g22
        have g26 := dg_eq (rm_set1 (lv) 5 (.int x15.1)) 4 (.int (i4 + 1))
        refine dq_aln 0 93 (by decide +kernel) rfl g23 ?_
        obtain ⟨p27, q28, hh⟩ := db hh
        refine dq_gR 48 15 [15] 96 (by decide +kernel) rfl q28 ?_
        refine dq_il 6 98 (by decide +kernel) rfl g24 ?_
        obtain ⟨x29, q30, hh⟩ := db hh
        refine dq_aI 99 (by decide +kernel) rfl q30 ?_
        refine dq_is 6 101 (by decide +kernel) (by decide +kernel) ?_
        have g31 := dg_ne (i := 6) (u := .int x29) (by decide) (Or.inl (by decide)) g23
        have g32 := dg_ne (i := 6) (u := .int x29) (by decide) (Or.inr rfl) g25
        have g33 := dg_ne (i := 6) (u := .int x29) (by decide) (Or.inl (by decide)) g26
        have g34 := dg_eq (rm_set1 (rm_set1 (lv) 5 (.int x15.1)) 4 (.int (i4 + 1))) 6 (.int x29)
        refine dq_S (.goto (-49)) 3 [] 52 _ [] (by decide +kernel) rfl ?_
        exact ih _ _ _ _ _ _ _ g31 g33 g32 g34 hh
def b358_0 (L : Nat) (xs : Nat → Int32) (zf : Value) (D : dD) (w : Nat) (o0 : Option Nat) (i1 : Int32) (i2 : Int32) (i3 : Int32) (h : rm_H) : Option dR :=
  (dgR L xs h 19 [15] o0).bind fun p1 =>
  (daI L xs h p1 i1).bind fun x3 =>
  (dgR L xs h 50 [15] o0).bind fun p5 =>
  (daI L xs h p5 (i2 + 1)).bind fun x7 =>
  (dgR L xs h 50 [15] o0).bind fun p9 =>
  (daI L xs h p9 i2).bind fun x11 =>
  if mx_f2 .eq x3 (x7 - x11) = true then
    (dgR L xs h 50 [15] o0).bind fun p14 =>
    (daI L xs h p14 i2).bind fun x16 =>
    (dgR L xs h 12 [15] o0).bind fun p29 =>
    (daI L xs h p29 i1).bind fun x31 =>
    b358_52 L xs zf D w w o0 x16 1 x31 h
  else
    ((dcV L xs D 305 [15] o0 [.int 8, .int i3] h).bind dxV).bind fun h40 =>
    drI (some .boolean) 0 h40
theorem c358_0 {L : Nat} {xs : Nat → Int32} {zf : Value} {D : dD} {w k : Nat} (hD : dO L xs zf D k) (hz : zf.category = 1) : ∀ (o0 : Option Nat) (i1 : Int32) (i2 : Int32) (i3 : Int32) (lv : rm_L) (h : rm_H) (r : dR), rm_get lv 0 = some (va_rf o0) → rm_get lv 1 = some (.int i1) → rm_get lv 2 = some (.int i2) → rm_get lv 3 = some (.int i3) → b358_0 L xs zf D w  o0 i1 i2 i3 h = some r → dq L xs zf ah_M358 0 lv [] h (k + 1) r := by
  intro o0 i1 i2 i3 lv h r G0 G1 G2 G3 hh
  unfold b358_0 at hh
  refine dq_aln 0 1 (by decide +kernel) rfl G0 ?_
  obtain ⟨p1, q2, hh⟩ := db hh
  refine dq_gR 60 19 [15] 4 (by decide +kernel) rfl q2 ?_
  refine dq_iln 1 5 (by decide +kernel) rfl G1 ?_
  obtain ⟨x3, q4, hh⟩ := db hh
  refine dq_aI 6 (by decide +kernel) rfl q4 ?_
  refine dq_aln 0 7 (by decide +kernel) rfl G0 ?_
  obtain ⟨p5, q6, hh⟩ := db hh
  refine dq_gR 136 50 [15] 10 (by decide +kernel) rfl q6 ?_
  refine dq_iln 2 11 (by decide +kernel) rfl G2 ?_
  refine dq_S (.iconst 1) 1 [] 12 _ [.int 1, .int i2, va_rf p5, .int x3] (by decide +kernel) rfl ?_
  refine dq_S (.iadd) 1 [] 13 _ [.int (i2 + 1), va_rf p5, .int x3] (by decide +kernel) rfl ?_
  obtain ⟨x7, q8, hh⟩ := db hh
  refine dq_aI 14 (by decide +kernel) rfl q8 ?_
  refine dq_aln 0 15 (by decide +kernel) rfl G0 ?_
  obtain ⟨p9, q10, hh⟩ := db hh
  refine dq_gR 136 50 [15] 18 (by decide +kernel) rfl q10 ?_
  refine dq_iln 2 19 (by decide +kernel) rfl G2 ?_
  obtain ⟨x11, q12, hh⟩ := db hh
  refine dq_aI 20 (by decide +kernel) rfl q12 ?_
  refine dq_S (.isub) 1 [] 21 _ [.int (x7 - x11), .int x3] (by decide +kernel) rfl ?_
  rcases di hh with ⟨q13, hh⟩ | ⟨q13, hh⟩
  · refine dq_2 .eq 12 true 33 q13 (by decide +kernel) ?_
    refine dq_aln 0 34 (by decide +kernel) rfl G0 ?_
    obtain ⟨p14, q15, hh⟩ := db hh
    refine dq_gR 136 50 [15] 37 (by decide +kernel) rfl q15 ?_
    refine dq_iln 2 38 (by decide +kernel) rfl G2 ?_
    obtain ⟨x16, q17, hh⟩ := db hh
    refine dq_aI 39 (by decide +kernel) rfl q17 ?_
    refine dq_is 4 41 (by decide +kernel) (by decide +kernel) ?_
    have g18 := dg_ne (i := 4) (u := .int x16) (by decide) (Or.inl (by decide)) G0
    have g19 := dg_ne (i := 4) (u := .int x16) (by decide) (Or.inl (by decide)) G1
    have g20 := dg_ne (i := 4) (u := .int x16) (by decide) (Or.inl (by decide)) G2
    have g21 := dg_ne (i := 4) (u := .int x16) (by decide) (Or.inr rfl) G3
    have g22 := dg_eq (lv) 4 (.int x16)
    refine dq_S (.iconst 1) 1 [] 42 _ [.int 1] (by decide +kernel) rfl ?_
    refine dq_is 5 44 (by decide +kernel) (by decide +kernel) ?_
    have g23 := dg_ne (i := 5) (u := .int 1) (by decide) (Or.inl (by decide)) g18
    have g24 := dg_ne (i := 5) (u := .int 1) (by decide) (Or.inl (by decide)) g19
    have g25 := dg_ne (i := 5) (u := .int 1) (by decide) (Or.inl (by decide)) g20
    have g26 := dg_ne (i := 5) (u := .int 1) (by decide) (Or.inl (by decide)) g21
    have g27 := dg_ne (i := 5) (u := .int 1) (by decide) (Or.inr rfl) g22
    have g28 := dg_eq (rm_set1 (lv) 4 (.int x16)) 5 (.int 1)
    refine dq_aln 0 45 (by decide +kernel) rfl g23 ?_
    obtain ⟨p29, q30, hh⟩ := db hh
    refine dq_gR 39 12 [15] 48 (by decide +kernel) rfl q30 ?_
    refine dq_iln 1 49 (by decide +kernel) rfl g24 ?_
    obtain ⟨x31, q32, hh⟩ := db hh
    refine dq_aI 50 (by decide +kernel) rfl q32 ?_
    refine dq_is 6 52 (by decide +kernel) (by decide +kernel) ?_
    have g33 := dg_ne (i := 6) (u := .int x31) (by decide) (Or.inl (by decide)) g23
    have g34 := dg_ne (i := 6) (u := .int x31) (by decide) (Or.inl (by decide)) g24
    have g35 := dg_ne (i := 6) (u := .int x31) (by decide) (Or.inl (by decide)) g25
    have g36 := dg_ne (i := 6) (u := .int x31) (by decide) (Or.inl (by decide)) g26
    have g37 := dg_ne (i := 6) (u := .int x31) (by decide) (Or.inl (by decide)) g27
    have g38 := dg_ne (i := 6) (u := .int x31) (by decide) (Or.inr rfl) g28
    have g39 := dg_eq (rm_set1 (rm_set1 (lv) 4 (.int x16)) 5 (.int 1)) 6 (.int x31)
    exact c358_52 hD hz _ _ _ _ _ _ _ _ g33 g37 g38 g39 hh
  · refine dq_2 .eq 12 false 24 q13 (by decide +kernel) ?_
    refine dq_aln 0 25 (by decide +kernel) rfl G0 ?_
    refine dq_S (.bipush 8) 2 [] 27 _ [.int 8, va_rf o0] (by decide +kernel) rfl ?_
    refine dq_iln 3 28 (by decide +kernel) rfl G3 ?_
    obtain ⟨h40, q41, hh⟩ := db hh
    obtain ⟨a42, q43, q41⟩ := db q41
    rw [dq_xV q41] at q43
    refine dq_cvi hD 301 305 5 2 [15] o0 [.int 8, .int i3] [] 31 [] (by decide +kernel) ap_305 ⟨⟨Nat.le_of_ble_eq_true rfl, by decide⟩, rfl, rfl⟩ (dq_ok8 [1, 1, 1] [] (dc_r (dc_i (dc_i dc_n))) dc_n (by decide +kernel)) (by decide +kernel) rfl q43 rfl ?_
    refine dq_S (.iconst 0) 1 [] 32 _ [.int 0] (by decide +kernel) rfl ?_
    exact dq_retI (some .boolean) (by decide +kernel) rfl hh
def f358 (L : Nat) (xs : Nat → Int32) (zf : Value) (D : dD) (w : Nat) (As : List Value) (h : rm_H) : Option dR := match As with
  | [v0, .int i1, .int i2, .int i3] => (rm_rf v0).bind fun o0 => b358_0 L xs zf D w o0 i1 i2 i3 h
  | _ => none
theorem d358 {L : Nat} {xs : Nat → Int32} {zf : Value} {D : dD} {w k : Nat} (hD : dO L xs zf D k) (hz : zf.category = 1) (As : List Value) (h : rm_H) (r : dR) (hh : f358 L xs zf D w As h = some r) : dq L xs zf ah_M358 0 (lv_args 0 As) [] h (k + 1) r := by
  unfold f358 at hh
  split at hh
  · obtain ⟨o0, e0, hb0⟩ := db hh
    have e0 := rm_rf_v _ _ e0
    subst e0
    refine c358_0 hD hz _ _ _ _ _ _ _ ?_ ?_ ?_ ?_ hb0
    all_goals (simp only [la_r, la_i, la_j]; rfl)
  · cases hh
def b359_47 (L : Nat) (xs : Nat → Int32) (zf : Value) (D : dD) (w : Nat) (K9 : Option Nat → Int32 → Int32 → Int32 → rm_H → Option dR) (o0 : Option Nat) (i1 : Int32) (i3 : Int32) (s0 : Int32) (h : rm_H) : Option dR :=
  K9 o0 i1 s0 (i3 + 1) h
theorem c359_47 {L : Nat} {xs : Nat → Int32} {zf : Value} {D : dD} {w k : Nat} {K9 : Option Nat → Int32 → Int32 → Int32 → rm_H → Option dR} (hD : dO L xs zf D k) (hz : zf.category = 1) (hK9 : ∀ (o0 : Option Nat) (i1 : Int32) (i2 : Int32) (i3 : Int32) (lv : rm_L) (h : rm_H) (r : dR), rm_get lv 0 = some (va_rf o0) → rm_get lv 1 = some (.int i1) → rm_get lv 2 = some (.int i2) → rm_get lv 3 = some (.int i3) → K9 o0 i1 i2 i3 h = some r → dq L xs zf ah_M359 9 lv [] h (k + 1) r) : ∀ (o0 : Option Nat) (i1 : Int32) (i3 : Int32) (s0 : Int32) (lv : rm_L) (h : rm_H) (r : dR), rm_get lv 0 = some (va_rf o0) → rm_get lv 1 = some (.int i1) → rm_get lv 3 = some (.int i3) → b359_47 L xs zf D w K9  o0 i1 i3 s0 h = some r → dq L xs zf ah_M359 47 lv [.int s0] h (k + 1) r := by
  intro o0 i1 i3 s0 lv h r G0 G1 G3 hh
  unfold b359_47 at hh
  refine dq_isn 2 48 (by decide +kernel) (by decide +kernel) ?_
  have g1 := dg_ne (i := 2) (u := .int s0) (by decide) (Or.inl (by decide)) G0
  have g2 := dg_ne (i := 2) (u := .int s0) (by decide) (Or.inr rfl) G1
  have g3 := dg_ne (i := 2) (u := .int s0) (by decide) (Or.inl (by decide)) G3
  have g4 := dg_eq (lv) 2 (.int s0)
  refine dq_incy 3 1 1 51 (by decide +kernel) ⟨rfl, by decide +kernel, by decide +kernel⟩ g3 ?_
  have g5 := dg_ne (i := 3) (u := .int (i3 + 1)) (by decide) (Or.inl (by decide)) g1
  have g6 := dg_ne (i := 3) (u := .int (i3 + 1)) (by decide) (Or.inl (by decide)) g2
  have g7 := dg_ne (i := 3) (u := .int (i3 + 1)) (by decide) (Or.inr rfl) g4
  have g8 := dg_eq (rm_set1 (lv) 2 (.int s0)) 3 (.int (i3 + 1))
  refine dq_S (.goto (-42)) 3 [] 9 _ [] (by decide +kernel) rfl ?_
  exact hK9 _ _ _ _ _ _ _ g5 g6 g7 g8 hh
def b359_46 (L : Nat) (xs : Nat → Int32) (zf : Value) (D : dD) (w : Nat) (K9 : Option Nat → Int32 → Int32 → Int32 → rm_H → Option dR) (o0 : Option Nat) (i1 : Int32) (i3 : Int32) (h : rm_H) : Option dR :=
  b359_47 L xs zf D w K9 o0 i1 i3 0 h
theorem c359_46 {L : Nat} {xs : Nat → Int32} {zf : Value} {D : dD} {w k : Nat} {K9 : Option Nat → Int32 → Int32 → Int32 → rm_H → Option dR} (hD : dO L xs zf D k) (hz : zf.category = 1) (hK9 : ∀ (o0 : Option Nat) (i1 : Int32) (i2 : Int32) (i3 : Int32) (lv : rm_L) (h : rm_H) (r : dR), rm_get lv 0 = some (va_rf o0) → rm_get lv 1 = some (.int i1) → rm_get lv 2 = some (.int i2) → rm_get lv 3 = some (.int i3) → K9 o0 i1 i2 i3 h = some r → dq L xs zf ah_M359 9 lv [] h (k + 1) r) : ∀ (o0 : Option Nat) (i1 : Int32) (i3 : Int32) (lv : rm_L) (h : rm_H) (r : dR), rm_get lv 0 = some (va_rf o0) → rm_get lv 1 = some (.int i1) → rm_get lv 3 = some (.int i3) → b359_46 L xs zf D w K9  o0 i1 i3 h = some r → dq L xs zf ah_M359 46 lv [] h (k + 1) r := by
  intro o0 i1 i3 lv h r G0 G1 G3 hh
  unfold b359_46 at hh
  refine dq_S (.iconst 0) 1 [] 47 _ [.int 0] (by decide +kernel) rfl ?_
  exact c359_47 hD hz hK9 _ _ _ _ _ _ _ G0 G1 G3 hh
def b359_9 (L : Nat) (xs : Nat → Int32) (zf : Value) (D : dD) (w : Nat) : Nat → Option Nat → Int32 → Int32 → Int32 → rm_H → Option dR
  | 0, _, _, _, _, _ => none
  | n + 1, o0, i1, i2, i3, h =>
    (dgR L xs h 50 [15] o0).bind fun p1 =>
    (daI L xs h p1 (i1 + 1)).bind fun x3 =>
    if mx_f2 .ge i3 x3 = true then
      drI (some .boolean) i2 h
    else
      if mx_f1 .eq i2 = true then
        b359_46 L xs zf D w (b359_9 L xs zf D w n) o0 i1 i3 h
      else
        (dgR L xs h 30 [15] o0).bind fun p7 =>
        (dgR L xs h 55 [15] o0).bind fun p9 =>
        (daI L xs h p9 i3).bind fun x11 =>
        (daI L xs h p7 x11).bind fun x13 =>
        ((D 331 [.int x13] h).bind dxI).bind fun x15 =>
        if mx_f1 .eq x15.1 = true then
          b359_46 L xs zf D w (b359_9 L xs zf D w n) o0 i1 i3 x15.2
        else
          b359_47 L xs zf D w (b359_9 L xs zf D w n) o0 i1 i3 1 x15.2
theorem c359_9 {L : Nat} {xs : Nat → Int32} {zf : Value} {D : dD} {w k : Nat} (hD : dO L xs zf D k) (hz : zf.category = 1) : ∀ (n : Nat) (o0 : Option Nat) (i1 : Int32) (i2 : Int32) (i3 : Int32) (lv : rm_L) (h : rm_H) (r : dR), rm_get lv 0 = some (va_rf o0) → rm_get lv 1 = some (.int i1) → rm_get lv 2 = some (.int i2) → rm_get lv 3 = some (.int i3) → b359_9 L xs zf D w n  o0 i1 i2 i3 h = some r → dq L xs zf ah_M359 9 lv [] h (k + 1) r := by
  intro n
  induction n with
  | zero =>
    intro o0 i1 i2 i3 lv h r G0 G1 G2 G3 hh
    cases hh
  | succ n ih =>
    intro o0 i1 i2 i3 lv h r G0 G1 G2 G3 hh
    rw [b359_9] at hh
    refine dq_iln 3 10 (by decide +kernel) rfl G3 ?_
    refine dq_aln 0 11 (by decide +kernel) rfl G0 ?_
    obtain ⟨p1, q2, hh⟩ := db hh
    refine dq_gR 136 50 [15] 14 (by decide +kernel) rfl q2 ?_
    refine dq_iln 1 15 (by decide +kernel) rfl G1 ?_
    refine dq_S (.iconst 1) 1 [] 16 _ [.int 1, .int i1, va_rf p1, .int i3] (by decide +kernel) rfl ?_
    refine dq_S (.iadd) 1 [] 17 _ [.int (i1 + 1), va_rf p1, .int i3] (by decide +kernel) rfl ?_
    obtain ⟨x3, q4, hh⟩ := db hh
    refine dq_aI 18 (by decide +kernel) rfl q4 ?_
    rcases di hh with ⟨q5, hh⟩ | ⟨q5, hh⟩
    · refine dq_2 .ge 36 true 54 q5 (by decide +kernel) ?_
      refine dq_iln 2 55 (by decide +kernel) rfl G2 ?_
      exact dq_retI (some .boolean) (by decide +kernel) rfl hh
    · refine dq_2 .ge 36 false 21 q5 (by decide +kernel) ?_
      refine dq_iln 2 22 (by decide +kernel) rfl G2 ?_
      rcases di hh with ⟨q6, hh⟩ | ⟨q6, hh⟩
      · refine dq_1 .eq 24 true 46 q6 (by decide +kernel) ?_
        exact c359_46 hD hz ih _ _ _ _ _ _ G0 G1 G3 hh
      · refine dq_1 .eq 24 false 25 q6 (by decide +kernel) ?_
        refine dq_aln 0 26 (by decide +kernel) rfl G0 ?_
        obtain ⟨p7, q8, hh⟩ := db hh
        refine dq_gR 84 30 [15] 29 (by decide +kernel) rfl q8 ?_
        refine dq_aln 0 30 (by decide +kernel) rfl G0 ?_
        obtain ⟨p9, q10, hh⟩ := db hh
        refine dq_gR 148 55 [15] 33 (by decide +kernel) rfl q10 ?_
        refine dq_iln 3 34 (by decide +kernel) rfl G3 ?_
        obtain ⟨x11, q12, hh⟩ := db hh
        refine dq_aI 35 (by decide +kernel) rfl q12 ?_
        obtain ⟨x13, q14, hh⟩ := db hh
        refine dq_aI 36 (by decide +kernel) rfl q14 ?_
        obtain ⟨x15, q16, hh⟩ := db hh
        obtain ⟨a17, q18, q16⟩ := db q16
        rw [dq_xI q16] at q18
        refine dq_cst hD 418 331 0 1 [.int x13] [] 39 [.int x15.1] (by decide +kernel) ap_331 ⟨⟨Nat.le_of_ble_eq_true rfl, by decide⟩, rfl, rfl⟩ (dq_ok8 [1] [] (dc_i dc_n) dc_n (by decide +kernel)) (by decide +kernel) rfl q18 rfl ?_
        rcases di hh with ⟨q19, hh⟩ | ⟨q19, hh⟩
        · refine dq_1 .eq 7 true 46 q19 (by decide +kernel) ?_
          exact c359_46 hD hz ih _ _ _ _ _ _ G0 G1 G3 hh
        · refine dq_1 .eq 7 false 42 q19 (by decide +kernel) ?_
          refine dq_S (.iconst 1) 1 [] 43 _ [.int 1] (by decide +kernel) rfl ?_
          refine dq_S (.goto 4) 3 [] 47 _ [.int 1] (by decide +kernel) rfl ?_
          exact c359_47 hD hz ih _ _ _ _ _ _ _ G0 G1 G3 hh
def b359_0 (L : Nat) (xs : Nat → Int32) (zf : Value) (D : dD) (w : Nat) (o0 : Option Nat) (i1 : Int32) (h : rm_H) : Option dR :=
  (dgR L xs h 50 [15] o0).bind fun p4 =>
  (daI L xs h p4 i1).bind fun x6 =>
  b359_9 L xs zf D w w o0 i1 1 x6 h
theorem c359_0 {L : Nat} {xs : Nat → Int32} {zf : Value} {D : dD} {w k : Nat} (hD : dO L xs zf D k) (hz : zf.category = 1) : ∀ (o0 : Option Nat) (i1 : Int32) (lv : rm_L) (h : rm_H) (r : dR), rm_get lv 0 = some (va_rf o0) → rm_get lv 1 = some (.int i1) → b359_0 L xs zf D w  o0 i1 h = some r → dq L xs zf ah_M359 0 lv [] h (k + 1) r := by
  intro o0 i1 lv h r G0 G1 hh
  unfold b359_0 at hh
  refine dq_S (.iconst 1) 1 [] 1 _ [.int 1] (by decide +kernel) rfl ?_
  refine dq_isn 2 2 (by decide +kernel) (by decide +kernel) ?_
  have g1 := dg_ne (i := 2) (u := .int 1) (by decide) (Or.inl (by decide)) G0
  have g2 := dg_ne (i := 2) (u := .int 1) (by decide) (Or.inr rfl) G1
  have g3 := dg_eq (lv) 2 (.int 1)
  refine dq_aln 0 3 (by decide +kernel) rfl g1 ?_
  obtain ⟨p4, q5, hh⟩ := db hh
  refine dq_gR 136 50 [15] 6 (by decide +kernel) rfl q5 ?_
  refine dq_iln 1 7 (by decide +kernel) rfl g2 ?_
  obtain ⟨x6, q7, hh⟩ := db hh
  refine dq_aI 8 (by decide +kernel) rfl q7 ?_
  refine dq_isn 3 9 (by decide +kernel) (by decide +kernel) ?_
  have g8 := dg_ne (i := 3) (u := .int x6) (by decide) (Or.inl (by decide)) g1
  have g9 := dg_ne (i := 3) (u := .int x6) (by decide) (Or.inl (by decide)) g2
  have g10 := dg_ne (i := 3) (u := .int x6) (by decide) (Or.inr rfl) g3
  have g11 := dg_eq (rm_set1 (lv) 2 (.int 1)) 3 (.int x6)
  exact c359_9 hD hz _ _ _ _ _ _ _ _ g8 g9 g10 g11 hh
def f359 (L : Nat) (xs : Nat → Int32) (zf : Value) (D : dD) (w : Nat) (As : List Value) (h : rm_H) : Option dR := match As with
  | [v0, .int i1] => (rm_rf v0).bind fun o0 => b359_0 L xs zf D w o0 i1 h
  | _ => none
theorem d359 {L : Nat} {xs : Nat → Int32} {zf : Value} {D : dD} {w k : Nat} (hD : dO L xs zf D k) (hz : zf.category = 1) (As : List Value) (h : rm_H) (r : dR) (hh : f359 L xs zf D w As h = some r) : dq L xs zf ah_M359 0 (lv_args 0 As) [] h (k + 1) r := by
  unfold f359 at hh
  split at hh
  · obtain ⟨o0, e0, hb0⟩ := db hh
    have e0 := rm_rf_v _ _ e0
    subst e0
    refine c359_0 hD hz _ _ _ _ _ ?_ ?_ hb0
    all_goals (simp only [la_r, la_i, la_j]; rfl)
  · cases hh
def b360_84 (L : Nat) (xs : Nat → Int32) (zf : Value) (D : dD) (w : Nat) (s0 : Int32) (s1 : Int32) (s2 : Option Nat) (h : rm_H) : Option dR :=
  ((dcV L xs D 344 [15] s2 [.int (s1 + s0)] h).bind dxI).bind fun x1 =>
  drI (some .int) x1.1 x1.2
theorem c360_84 {L : Nat} {xs : Nat → Int32} {zf : Value} {D : dD} {w k : Nat} (hD : dO L xs zf D k) (hz : zf.category = 1) : ∀ (s0 : Int32) (s1 : Int32) (s2 : Option Nat) (lv : rm_L) (h : rm_H) (r : dR), b360_84 L xs zf D w  s0 s1 s2 h = some r → dq L xs zf ah_M360 84 lv [.int s0, .int s1, va_rf s2] h (k + 1) r := by
  intro s0 s1 s2 lv h r hh
  unfold b360_84 at hh
  refine dq_S (.iadd) 1 [] 85 _ [.int (s1 + s0), va_rf s2] (by decide +kernel) rfl ?_
  obtain ⟨x1, q2, hh⟩ := db hh
  obtain ⟨a3, q4, q2⟩ := db q2
  rw [dq_xI q2] at q4
  refine dq_cvi hD 478 344 5 1 [15] s2 [.int (s1 + s0)] [] 88 [.int x1.1] (by decide +kernel) ap_344 ⟨⟨Nat.le_of_ble_eq_true rfl, by decide⟩, rfl, rfl⟩ (dq_ok8 [1, 1] [] (dc_r (dc_i dc_n)) dc_n (by decide +kernel)) (by decide +kernel) rfl q4 rfl ?_
  exact dq_retI (some .int) (by decide +kernel) rfl hh
def b360_0 (L : Nat) (xs : Nat → Int32) (zf : Value) (D : dD) (w : Nat) (o0 : Option Nat) (i1 : Int32) (h : rm_H) : Option dR :=
  (dgI L xs h 63 [15] o0).bind fun x1 =>
  (dpF h 63 [15] o0 (.int (x1 + 1))).bind fun h3 =>
  (dgR L xs h3 12 [15] o0).bind fun p5 =>
  (daI L xs h3 p5 i1).bind fun x7 =>
  ((dcV L xs D 336 [15] o0 [.int x7, .int 2] h3).bind dxV).bind fun h9 =>
  (dgI L xs h9 63 [15] o0).bind fun x13 =>
  (dpF h9 63 [15] o0 (.int (x13 - 1))).bind fun h15 =>
  (dgI L xs h15 57 [15] o0).bind fun x17 =>
  if mx_f1 .le x17 = true then
    (dgI L xs h15 65 [15] o0).bind fun x20 =>
    (dgI L xs h15 65 [15] o0).bind fun x25 =>
    ((D 333 [.int x25] h15).bind dxI).bind fun x27 =>
    if mx_f1 .ne x27.1 = true then
      (dgI L xs x27.2 65 [15] o0).bind fun x32 =>
      if mx_f2 .ge (x20 - x20 / 8 * 8) 3 = true then
        b360_84 L xs zf D w 3 (x32 - (x20 - x20 / 8 * 8)) o0 x27.2
      else
        b360_84 L xs zf D w 0 (x32 - (x20 - x20 / 8 * 8)) o0 x27.2
    else
      (dgI L xs x27.2 65 [15] o0).bind fun x35 =>
      ((dcV L xs D 344 [15] o0 [.int x35] x27.2).bind dxI).bind fun x37 =>
      drI (some .int) x37.1 x37.2
  else
    drI (some .int) (-1) h15
theorem c360_0 {L : Nat} {xs : Nat → Int32} {zf : Value} {D : dD} {w k : Nat} (hD : dO L xs zf D k) (hz : zf.category = 1) : ∀ (o0 : Option Nat) (i1 : Int32) (lv : rm_L) (h : rm_H) (r : dR), rm_get lv 0 = some (va_rf o0) → rm_get lv 1 = some (.int i1) → b360_0 L xs zf D w  o0 i1 h = some r → dq L xs zf ah_M360 0 lv [] h (k + 1) r := by
  intro o0 i1 lv h r G0 G1 hh
  unfold b360_0 at hh
  refine dq_aln 0 1 (by decide +kernel) rfl G0 ?_
  refine dq_dup 2 (by decide +kernel) rfl ?_
  obtain ⟨x1, q2, hh⟩ := db hh
  refine dq_gI 437 63 [15] 5 (by decide +kernel) rfl q2 ?_
  refine dq_S (.iconst 1) 1 [] 6 _ [.int 1, .int x1, va_rf o0] (by decide +kernel) rfl ?_
  refine dq_S (.iadd) 1 [] 7 _ [.int (x1 + 1), va_rf o0] (by decide +kernel) rfl ?_
  obtain ⟨h3, q4, hh⟩ := db hh
  refine dq_put 437 63 [15] 10 (by decide +kernel) rfl q4 ?_
  refine dq_aln 0 11 (by decide +kernel) rfl G0 ?_
  refine dq_aln 0 12 (by decide +kernel) rfl G0 ?_
  obtain ⟨p5, q6, hh⟩ := db hh
  refine dq_gR 39 12 [15] 15 (by decide +kernel) rfl q6 ?_
  refine dq_iln 1 16 (by decide +kernel) rfl G1 ?_
  obtain ⟨x7, q8, hh⟩ := db hh
  refine dq_aI 17 (by decide +kernel) rfl q8 ?_
  refine dq_S (.iconst 2) 1 [] 18 _ [.int 2, .int x7, va_rf o0] (by decide +kernel) rfl ?_
  obtain ⟨h9, q10, hh⟩ := db hh
  obtain ⟨a11, q12, q10⟩ := db q10
  rw [dq_xV q10] at q12
  refine dq_cvi hD 517 336 5 2 [15] o0 [.int x7, .int 2] [] 21 [] (by decide +kernel) ap_336 ⟨⟨Nat.le_of_ble_eq_true rfl, by decide⟩, rfl, rfl⟩ (dq_ok8 [1, 1, 1] [] (dc_r (dc_i (dc_i dc_n))) dc_n (by decide +kernel)) (by decide +kernel) rfl q12 rfl ?_
  refine dq_aln 0 22 (by decide +kernel) rfl G0 ?_
  refine dq_dup 23 (by decide +kernel) rfl ?_
  obtain ⟨x13, q14, hh⟩ := db hh
  refine dq_gI 437 63 [15] 26 (by decide +kernel) rfl q14 ?_
  refine dq_S (.iconst 1) 1 [] 27 _ [.int 1, .int x13, va_rf o0] (by decide +kernel) rfl ?_
  refine dq_S (.isub) 1 [] 28 _ [.int (x13 - 1), va_rf o0] (by decide +kernel) rfl ?_
  obtain ⟨h15, q16, hh⟩ := db hh
  refine dq_put 437 63 [15] 31 (by decide +kernel) rfl q16 ?_
  refine dq_aln 0 32 (by decide +kernel) rfl G0 ?_
  obtain ⟨x17, q18, hh⟩ := db hh
  refine dq_gI 295 57 [15] 35 (by decide +kernel) rfl q18 ?_
  rcases di hh with ⟨q19, hh⟩ | ⟨q19, hh⟩
  · refine dq_1 .le 5 true 40 q19 (by decide +kernel) ?_
    refine dq_aln 0 41 (by decide +kernel) rfl G0 ?_
    obtain ⟨x20, q21, hh⟩ := db hh
    refine dq_gI 520 65 [15] 44 (by decide +kernel) rfl q21 ?_
    refine dq_S (.bipush 8) 2 [] 46 _ [.int 8, .int x20] (by decide +kernel) rfl ?_
    refine dq_rem 47 (by decide) (by decide +kernel) rfl ?_
    refine dq_isn 2 48 (by decide +kernel) (by decide +kernel) ?_
    have g22 := dg_ne (i := 2) (u := .int (x20 - x20 / 8 * 8)) (by decide) (Or.inl (by decide)) G0
    have g23 := dg_ne (i := 2) (u := .int (x20 - x20 / 8 * 8)) (by decide) (Or.inr rfl) G1
    have g24 := dg_eq (lv) 2 (.int (x20 - x20 / 8 * 8))
    refine dq_aln 0 49 (by decide +kernel) rfl g22 ?_
    obtain ⟨x25, q26, hh⟩ := db hh
    refine dq_gI 520 65 [15] 52 (by decide +kernel) rfl q26 ?_
    obtain ⟨x27, q28, hh⟩ := db hh
    obtain ⟨a29, q30, q28⟩ := db q28
    rw [dq_xI q28] at q30
    refine dq_cst hD 400 333 0 1 [.int x25] [] 55 [.int x27.1] (by decide +kernel) ap_333 ⟨⟨Nat.le_of_ble_eq_true rfl, by decide⟩, rfl, rfl⟩ (dq_ok8 [1] [] (dc_i dc_n) dc_n (by decide +kernel)) (by decide +kernel) rfl q30 rfl ?_
    rcases di hh with ⟨q31, hh⟩ | ⟨q31, hh⟩
    · refine dq_1 .ne 12 true 67 q31 (by decide +kernel) ?_
      refine dq_aln 0 68 (by decide +kernel) rfl g22 ?_
      refine dq_aln 0 69 (by decide +kernel) rfl g22 ?_
      obtain ⟨x32, q33, hh⟩ := db hh
      refine dq_gI 520 65 [15] 72 (by decide +kernel) rfl q33 ?_
      refine dq_iln 2 73 (by decide +kernel) rfl g24 ?_
      refine dq_S (.isub) 1 [] 74 _ [.int (x32 - (x20 - x20 / 8 * 8)), va_rf o0] (by decide +kernel) rfl ?_
      refine dq_iln 2 75 (by decide +kernel) rfl g24 ?_
      refine dq_S (.iconst 3) 1 [] 76 _ [.int 3, .int (x20 - x20 / 8 * 8), .int (x32 - (x20 - x20 / 8 * 8)), va_rf o0] (by decide +kernel) rfl ?_
      rcases di hh with ⟨q34, hh⟩ | ⟨q34, hh⟩
      · refine dq_2 .ge 7 true 83 q34 (by decide +kernel) ?_
        refine dq_S (.iconst 3) 1 [] 84 _ [.int 3, .int (x32 - (x20 - x20 / 8 * 8)), va_rf o0] (by decide +kernel) rfl ?_
        exact c360_84 hD hz _ _ _ _ _ _  hh
      · refine dq_2 .ge 7 false 79 q34 (by decide +kernel) ?_
        refine dq_S (.iconst 0) 1 [] 80 _ [.int 0, .int (x32 - (x20 - x20 / 8 * 8)), va_rf o0] (by decide +kernel) rfl ?_
        refine dq_S (.goto 4) 3 [] 84 _ [.int 0, .int (x32 - (x20 - x20 / 8 * 8)), va_rf o0] (by decide +kernel) rfl ?_
        exact c360_84 hD hz _ _ _ _ _ _  hh
    · refine dq_1 .ne 12 false 58 q31 (by decide +kernel) ?_
      refine dq_aln 0 59 (by decide +kernel) rfl g22 ?_
      refine dq_aln 0 60 (by decide +kernel) rfl g22 ?_
      obtain ⟨x35, q36, hh⟩ := db hh
      refine dq_gI 520 65 [15] 63 (by decide +kernel) rfl q36 ?_
      obtain ⟨x37, q38, hh⟩ := db hh
      obtain ⟨a39, q40, q38⟩ := db q38
      rw [dq_xI q38] at q40
      refine dq_cvi hD 478 344 5 1 [15] o0 [.int x35] [] 66 [.int x37.1] (by decide +kernel) ap_344 ⟨⟨Nat.le_of_ble_eq_true rfl, by decide⟩, rfl, rfl⟩ (dq_ok8 [1, 1] [] (dc_r (dc_i dc_n)) dc_n (by decide +kernel)) (by decide +kernel) rfl q40 rfl ?_
      exact dq_retI (some .int) (by decide +kernel) rfl hh
  · refine dq_1 .le 5 false 38 q19 (by decide +kernel) ?_
    refine dq_S (.iconst (-1)) 1 [] 39 _ [.int (-1)] (by decide +kernel) rfl ?_
    exact dq_retI (some .int) (by decide +kernel) rfl hh
def f360 (L : Nat) (xs : Nat → Int32) (zf : Value) (D : dD) (w : Nat) (As : List Value) (h : rm_H) : Option dR := match As with
  | [v0, .int i1] => (rm_rf v0).bind fun o0 => b360_0 L xs zf D w o0 i1 h
  | _ => none
theorem d360 {L : Nat} {xs : Nat → Int32} {zf : Value} {D : dD} {w k : Nat} (hD : dO L xs zf D k) (hz : zf.category = 1) (As : List Value) (h : rm_H) (r : dR) (hh : f360 L xs zf D w As h = some r) : dq L xs zf ah_M360 0 (lv_args 0 As) [] h (k + 1) r := by
  unfold f360 at hh
  split at hh
  · obtain ⟨o0, e0, hb0⟩ := db hh
    have e0 := rm_rf_v _ _ e0
    subst e0
    refine c360_0 hD hz _ _ _ _ _ ?_ ?_ hb0
    all_goals (simp only [la_r, la_i, la_j]; rfl)
  · cases hh
