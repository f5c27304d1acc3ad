/-! METHODS AS FUNCTIONS, printed by wip/whole/gen_fun.py -/
def b44_0 (L : Nat) (xs : Nat → Int32) (zf : Value) (D : dD) (w : Nat) (o0 : Option Nat) (i1 : Int32) (h : rm_H) : Option dR :=
  if dnl o0 = true then none else
  (dpF h 0 [4] o0 (.int i1)).bind fun h2 =>
  (some (h2 ++ [.inr (5, ah_DV 5)])).bind fun h4 =>
  ((dcN D 45 (some (21 + List.length h2)) [] h4).bind dxV).bind fun h6 =>
  (dpF h6 1 [4] o0 (va_rf (some (21 + List.length h2)))).bind fun h10 =>
  (some (h10 ++ [.inr (5, ah_DV 5)])).bind fun h12 =>
  ((dcN D 45 (some (21 + List.length h10)) [] h12).bind dxV).bind fun h14 =>
  (dpF h14 2 [4] o0 (va_rf (some (21 + List.length h10)))).bind fun h18 =>
  (some (h18 ++ [.inr (5, ah_DV 5)])).bind fun h20 =>
  ((dcN D 45 (some (21 + List.length h18)) [] h20).bind dxV).bind fun h22 =>
  (dpF h22 3 [4] o0 (va_rf (some (21 + List.length h18)))).bind fun h26 =>
  (dpF h26 4 [4] o0 (.int 0)).bind fun h28 =>
  (dpF h28 5 [4] o0 (.int 0)).bind fun h30 =>
  (dpF h30 6 [4] o0 (va_rf none)).bind fun h32 =>
  (dpF h32 7 [4] o0 (.int 0)).bind fun h34 =>
  (dpF h34 8 [4] o0 (.int (-1))).bind fun h36 =>
  (dnI 0 64 h36).bind fun h38 =>
  (dpF h38 9 [4] o0 (va_rf (some (21 + List.length h36)))).bind fun h40 =>
  (dnI 0 64 h40).bind fun h42 =>
  (dpF h42 10 [4] o0 (va_rf (some (21 + List.length h40)))).bind fun h44 =>
  (dpF h44 11 [4] o0 (.int 0)).bind fun h46 =>
  some (none, h46)
theorem c44_0 {L : Nat} {xs : Nat → Int32} {zf : Value} {D : dD} {w k : Nat} (hD : dO L xs zf D k) (hz : zf.category = 1) : ∀ (o0 : Option Nat) (i1 : Int32) (lv : rm_L) (h : rm_H) (r : dR), rm_get lv 0 = some (va_rf o0) → rm_get lv 1 = some (.int i1) → b44_0 L xs zf D w  o0 i1 h = some r → dq L xs zf ah_M44 0 lv [] h (k + 1) r := by
  intro o0 i1 lv h r G0 G1 hh
  unfold b44_0 at hh
  refine dq_aln 0 1 (by decide +kernel) rfl G0 ?_
  rcases di hh with ⟨_, hh⟩ | ⟨q1, hh⟩
  · cases hh
  refine dq_obj 3 4 (by decide +kernel) (dc_s dc_n (by decide +kernel)) rfl q1 ?_
  refine dq_aln 0 5 (by decide +kernel) rfl G0 ?_
  refine dq_iln 1 6 (by decide +kernel) rfl G1 ?_
  obtain ⟨h2, q3, hh⟩ := db hh
  refine dq_put 9 0 [4] 9 (by decide +kernel) rfl q3 ?_
  refine dq_aln 0 10 (by decide +kernel) rfl G0 ?_
  obtain ⟨h4, q5, hh⟩ := db hh
  refine dq_new 15 5 13 (by decide +kernel) rfl ?_
  rw [Option.some.inj q5]
  refine dq_dup 14 (by decide +kernel) rfl ?_
  obtain ⟨h6, q7, hh⟩ := db hh
  obtain ⟨a8, q9, q7⟩ := db q7
  rw [dq_xV q7] at q9
  refine dq_csp hD 17 45 0 [] (some (21 + List.length h2)) [] [va_rf (some (21 + List.length h2)), va_rf o0] 17 [va_rf (some (21 + List.length h2)), va_rf o0] (by decide +kernel) ap_45 ⟨Nat.le_of_ble_eq_true rfl, rfl, rfl⟩ (dq_ok8 [1] [1, 1] (dc_r dc_n) (dc_r (dc_r dc_n)) (by decide +kernel)) (by decide +kernel) rfl q9 rfl ?_
  obtain ⟨h10, q11, hh⟩ := db hh
  refine dq_put 18 1 [4] 20 (by decide +kernel) rfl q11 ?_
  refine dq_aln 0 21 (by decide +kernel) rfl G0 ?_
  obtain ⟨h12, q13, hh⟩ := db hh
  refine dq_new 15 5 24 (by decide +kernel) rfl ?_
  rw [Option.some.inj q13]
  refine dq_dup 25 (by decide +kernel) rfl ?_
  obtain ⟨h14, q15, hh⟩ := db hh
  obtain ⟨a16, q17, q15⟩ := db q15
  rw [dq_xV q15] at q17
  refine dq_csp hD 17 45 0 [] (some (21 + List.length h10)) [] [va_rf (some (21 + List.length h10)), va_rf o0] 28 [va_rf (some (21 + List.length h10)), va_rf o0] (by decide +kernel) ap_45 ⟨Nat.le_of_ble_eq_true rfl, rfl, rfl⟩ (dq_ok8 [1] [1, 1] (dc_r dc_n) (dc_r (dc_r dc_n)) (by decide +kernel)) (by decide +kernel) rfl q17 rfl ?_
  obtain ⟨h18, q19, hh⟩ := db hh
  refine dq_put 22 2 [4] 31 (by decide +kernel) rfl q19 ?_
  refine dq_aln 0 32 (by decide +kernel) rfl G0 ?_
  obtain ⟨h20, q21, hh⟩ := db hh
  refine dq_new 15 5 35 (by decide +kernel) rfl ?_
  rw [Option.some.inj q21]
  refine dq_dup 36 (by decide +kernel) rfl ?_
  obtain ⟨h22, q23, hh⟩ := db hh
  obtain ⟨a24, q25, q23⟩ := db q23
  rw [dq_xV q23] at q25
  refine dq_csp hD 17 45 0 [] (some (21 + List.length h18)) [] [va_rf (some (21 + List.length h18)), va_rf o0] 39 [va_rf (some (21 + List.length h18)), va_rf o0] (by decide +kernel) ap_45 ⟨Nat.le_of_ble_eq_true rfl, rfl, rfl⟩ (dq_ok8 [1] [1, 1] (dc_r dc_n) (dc_r (dc_r dc_n)) (by decide +kernel)) (by decide +kernel) rfl q25 rfl ?_
  obtain ⟨h26, q27, hh⟩ := db hh
  refine dq_put 25 3 [4] 42 (by decide +kernel) rfl q27 ?_
  refine dq_aln 0 43 (by decide +kernel) rfl G0 ?_
  refine dq_S (.iconst 0) 1 [] 44 _ [.int 0, va_rf o0] (by decide +kernel) rfl ?_
  obtain ⟨h28, q29, hh⟩ := db hh
  refine dq_put 28 4 [4] 47 (by decide +kernel) rfl q29 ?_
  refine dq_aln 0 48 (by decide +kernel) rfl G0 ?_
  refine dq_S (.iconst 0) 1 [] 49 _ [.int 0, va_rf o0] (by decide +kernel) rfl ?_
  obtain ⟨h30, q31, hh⟩ := db hh
  refine dq_put 31 5 [4] 52 (by decide +kernel) rfl q31 ?_
  refine dq_aln 0 53 (by decide +kernel) rfl G0 ?_
  refine dq_S (.aconst_null) 1 [] 54 _ [va_rf none, va_rf o0] (by decide +kernel) rfl ?_
  obtain ⟨h32, q33, hh⟩ := db hh
  refine dq_put 34 6 [4] 57 (by decide +kernel) rfl q33 ?_
  refine dq_aln 0 58 (by decide +kernel) rfl G0 ?_
  refine dq_S (.iconst 0) 1 [] 59 _ [.int 0, va_rf o0] (by decide +kernel) rfl ?_
  obtain ⟨h34, q35, hh⟩ := db hh
  refine dq_put 38 7 [4] 62 (by decide +kernel) rfl q35 ?_
  refine dq_aln 0 63 (by decide +kernel) rfl G0 ?_
  refine dq_S (.iconst (-1)) 1 [] 64 _ [.int (-1), va_rf o0] (by decide +kernel) rfl ?_
  obtain ⟨h36, q37, hh⟩ := db hh
  refine dq_put 41 8 [4] 67 (by decide +kernel) rfl q37 ?_
  refine dq_aln 0 68 (by decide +kernel) rfl G0 ?_
  refine dq_S (.bipush 64) 2 [] 70 _ [.int 64, va_rf o0] (by decide +kernel) rfl ?_
  obtain ⟨h38, q39, hh⟩ := db hh
  refine dq_nI .int 0 72 ⟨Or.inl rfl, rfl⟩ (by decide +kernel) rfl q39 ?_
  obtain ⟨h40, q41, hh⟩ := db hh
  refine dq_put 44 9 [4] 75 (by decide +kernel) rfl q41 ?_
  refine dq_aln 0 76 (by decide +kernel) rfl G0 ?_
  refine dq_S (.bipush 64) 2 [] 78 _ [.int 64, va_rf o0] (by decide +kernel) rfl ?_
  obtain ⟨h42, q43, hh⟩ := db hh
  refine dq_nI .int 0 80 ⟨Or.inl rfl, rfl⟩ (by decide +kernel) rfl q43 ?_
  obtain ⟨h44, q45, hh⟩ := db hh
  refine dq_put 48 10 [4] 83 (by decide +kernel) rfl q45 ?_
  refine dq_aln 0 84 (by decide +kernel) rfl G0 ?_
  refine dq_S (.iconst 0) 1 [] 85 _ [.int 0, va_rf o0] (by decide +kernel) rfl ?_
  obtain ⟨h46, q47, hh⟩ := db hh
  refine dq_put 51 11 [4] 88 (by decide +kernel) rfl q47 ?_
  cases hh
  exact dq_ret0 (by decide +kernel) rfl
def f44 (L : Nat) (xs : Nat → Int32) (zf : Value) (D : dD) (w : Nat) (As : List Value) (h : rm_H) : Option dR := match As with
  | [v0, .int i1] => (rm_rf v0).bind fun o0 => b44_0 L xs zf D w o0 i1 h
  | _ => none
theorem d44 {L : Nat} {xs : Nat → Int32} {zf : Value} {D : dD} {w k : Nat} (hD : dO L xs zf D k) (hz : zf.category = 1) (As : List Value) (h : rm_H) (r : dR) (hh : f44 L xs zf D w As h = some r) : dq L xs zf ah_M44 0 (lv_args 0 As) [] h (k + 1) r := by
  unfold f44 at hh
  split at hh
  · obtain ⟨o0, e0, hb0⟩ := db hh
    have e0 := rm_rf_v _ _ e0
    subst e0
    refine c44_0 hD hz _ _ _ _ _ ?_ ?_ hb0
    all_goals (simp only [la_r, la_i, la_j]; rfl)
  · cases hh
def b45_0 (L : Nat) (xs : Nat → Int32) (zf : Value) (D : dD) (w : Nat) (o0 : Option Nat) (h : rm_H) : Option dR :=
  ((dcN D 46 o0 [] h).bind dxV).bind fun h1 =>
  (dpF h1 0 [5] o0 (va_rf (some 5))).bind fun h5 =>
  some (none, h5)
theorem c45_0 {L : Nat} {xs : Nat → Int32} {zf : Value} {D : dD} {w k : Nat} (hD : dO L xs zf D k) (hz : zf.category = 1) : ∀ (o0 : Option Nat) (lv : rm_L) (h : rm_H) (r : dR), rm_get lv 0 = some (va_rf o0) → b45_0 L xs zf D w  o0 h = some r → dq L xs zf ah_M45 0 lv [] h (k + 1) r := by
  intro o0 lv h r G0 hh
  unfold b45_0 at hh
  refine dq_aln 0 1 (by decide +kernel) rfl G0 ?_
  obtain ⟨h1, q2, hh⟩ := db hh
  obtain ⟨a3, q4, q2⟩ := db q2
  rw [dq_xV q2] at q4
  refine dq_csp hD 1 46 0 [] o0 [] [] 4 [] (by decide +kernel) ap_46 ⟨Nat.le_of_ble_eq_true rfl, rfl, rfl⟩ (dq_ok8 [1] [] (dc_r dc_n) dc_n (by decide +kernel)) (by decide +kernel) rfl q4 rfl ?_
  refine dq_aln 0 5 (by decide +kernel) rfl G0 ?_
  refine dq_S (.getstatic 39) 3 [5] 8 _ [va_rf (some 5), va_rf o0] (by decide +kernel) rfl ?_
  obtain ⟨h5, q6, hh⟩ := db hh
  refine dq_put 9 0 [5] 11 (by decide +kernel) rfl q6 ?_
  cases hh
  exact dq_ret0 (by decide +kernel) rfl
def f45 (L : Nat) (xs : Nat → Int32) (zf : Value) (D : dD) (w : Nat) (As : List Value) (h : rm_H) : Option dR := match As with
  | [v0] => (rm_rf v0).bind fun o0 => b45_0 L xs zf D w o0 h
  | _ => none
theorem d45 {L : Nat} {xs : Nat → Int32} {zf : Value} {D : dD} {w k : Nat} (hD : dO L xs zf D k) (hz : zf.category = 1) (As : List Value) (h : rm_H) (r : dR) (hh : f45 L xs zf D w As h = some r) : dq L xs zf ah_M45 0 (lv_args 0 As) [] h (k + 1) r := by
  unfold f45 at hh
  split at hh
  · obtain ⟨o0, e0, hb0⟩ := db hh
    have e0 := rm_rf_v _ _ e0
    subst e0
    refine c45_0 hD hz _ _ _ _ ?_ hb0
    all_goals (simp only [la_r, la_i, la_j]; rfl)
  · cases hh
def b46_0 (L : Nat) (xs : Nat → Int32) (zf : Value) (D : dD) (w : Nat) (o0 : Option Nat) (h : rm_H) : Option dR :=
  ((dcN D 47 o0 [] h).bind dxV).bind fun h1 =>
  (dpF h1 2 [5] o0 (.int 0)).bind fun h5 =>
  some (none, h5)
theorem c46_0 {L : Nat} {xs : Nat → Int32} {zf : Value} {D : dD} {w k : Nat} (hD : dO L xs zf D k) (hz : zf.category = 1) : ∀ (o0 : Option Nat) (lv : rm_L) (h : rm_H) (r : dR), rm_get lv 0 = some (va_rf o0) → b46_0 L xs zf D w  o0 h = some r → dq L xs zf ah_M46 0 lv [] h (k + 1) r := by
  intro o0 lv h r G0 hh
  unfold b46_0 at hh
  refine dq_aln 0 1 (by decide +kernel) rfl G0 ?_
  obtain ⟨h1, q2, hh⟩ := db hh
  obtain ⟨a3, q4, q2⟩ := db q2
  rw [dq_xV q2] at q4
  refine dq_csp hD 1 47 0 [] o0 [] [] 4 [] (by decide +kernel) ap_47 ⟨Nat.le_of_ble_eq_true rfl, rfl, rfl⟩ (dq_ok8 [1] [] (dc_r dc_n) dc_n (by decide +kernel)) (by decide +kernel) rfl q4 rfl ?_
  refine dq_aln 0 5 (by decide +kernel) rfl G0 ?_
  refine dq_S (.iconst 0) 1 [] 6 _ [.int 0, va_rf o0] (by decide +kernel) rfl ?_
  obtain ⟨h5, q6, hh⟩ := db hh
  refine dq_put 7 2 [5] 9 (by decide +kernel) rfl q6 ?_
  cases hh
  exact dq_ret0 (by decide +kernel) rfl
def f46 (L : Nat) (xs : Nat → Int32) (zf : Value) (D : dD) (w : Nat) (As : List Value) (h : rm_H) : Option dR := match As with
  | [v0] => (rm_rf v0).bind fun o0 => b46_0 L xs zf D w o0 h
  | _ => none
theorem d46 {L : Nat} {xs : Nat → Int32} {zf : Value} {D : dD} {w k : Nat} (hD : dO L xs zf D k) (hz : zf.category = 1) (As : List Value) (h : rm_H) (r : dR) (hh : f46 L xs zf D w As h = some r) : dq L xs zf ah_M46 0 (lv_args 0 As) [] h (k + 1) r := by
  unfold f46 at hh
  split at hh
  · obtain ⟨o0, e0, hb0⟩ := db hh
    have e0 := rm_rf_v _ _ e0
    subst e0
    refine c46_0 hD hz _ _ _ _ ?_ hb0
    all_goals (simp only [la_r, la_i, la_j]; rfl)
  · cases hh
def b47_0 (L : Nat) (xs : Nat → Int32) (zf : Value) (D : dD) (w : Nat) (o0 : Option Nat) (h : rm_H) : Option dR :=
  if dnl o0 = true then none else
  some (none, h)
theorem c47_0 {L : Nat} {xs : Nat → Int32} {zf : Value} {D : dD} {w k : Nat} (hD : dO L xs zf D k) (hz : zf.category = 1) : ∀ (o0 : Option Nat) (lv : rm_L) (h : rm_H) (r : dR), rm_get lv 0 = some (va_rf o0) → b47_0 L xs zf D w  o0 h = some r → dq L xs zf ah_M47 0 lv [] h (k + 1) r := by
  intro o0 lv h r G0 hh
  unfold b47_0 at hh
  refine dq_aln 0 1 (by decide +kernel) rfl G0 ?_
  rcases di hh with ⟨_, hh⟩ | ⟨q1, hh⟩
  · cases hh
  refine dq_obj 1 4 (by decide +kernel) (dc_s dc_n (by decide +kernel)) rfl q1 ?_
  cases hh
  exact dq_ret0 (by decide +kernel) rfl
def f47 (L : Nat) (xs : Nat → Int32) (zf : Value) (D : dD) (w : Nat) (As : List Value) (h : rm_H) : Option dR := match As with
  | [v0] => (rm_rf v0).bind fun o0 => b47_0 L xs zf D w o0 h
  | _ => none
theorem d47 {L : Nat} {xs : Nat → Int32} {zf : Value} {D : dD} {w k : Nat} (hD : dO L xs zf D k) (hz : zf.category = 1) (As : List Value) (h : rm_H) (r : dR) (hh : f47 L xs zf D w As h = some r) : dq L xs zf ah_M47 0 (lv_args 0 As) [] h (k + 1) r := by
  unfold f47 at hh
  split at hh
  · obtain ⟨o0, e0, hb0⟩ := db hh
    have e0 := rm_rf_v _ _ e0
    subst e0
    refine c47_0 hD hz _ _ _ _ ?_ hb0
    all_goals (simp only [la_r, la_i, la_j]; rfl)
  · cases hh
def b48_0 (L : Nat) (xs : Nat → Int32) (zf : Value) (D : dD) (w : Nat) (o0 : Option Nat) (h : rm_H) : Option dR :=
  (some (h ++ [.inr (7, ah_DV 7)])).bind fun h1 =>
  ((dcN D 49 (some (21 + List.length h)) [va_rf o0] h1).bind dxV).bind fun h3 =>
  some (some (va_rf (some (21 + List.length h))), h3)
theorem c48_0 {L : Nat} {xs : Nat → Int32} {zf : Value} {D : dD} {w k : Nat} (hD : dO L xs zf D k) (hz : zf.category = 1) : ∀ (o0 : Option Nat) (lv : rm_L) (h : rm_H) (r : dR), rm_get lv 0 = some (va_rf o0) → b48_0 L xs zf D w  o0 h = some r → dq L xs zf ah_M48 0 lv [] h (k + 1) r := by
  intro o0 lv h r G0 hh
  unfold b48_0 at hh
  obtain ⟨h1, q2, hh⟩ := db hh
  refine dq_new 18 7 3 (by decide +kernel) rfl ?_
  rw [Option.some.inj q2]
  refine dq_dup 4 (by decide +kernel) rfl ?_
  refine dq_aln 0 5 (by decide +kernel) rfl G0 ?_
  obtain ⟨h3, q4, hh⟩ := db hh
  obtain ⟨a5, q6, q4⟩ := db q4
  rw [dq_xV q4] at q6
  refine dq_csp hD 137 49 1 [] (some (21 + List.length h)) [va_rf o0] [va_rf (some (21 + List.length h))] 8 [va_rf (some (21 + List.length h))] (by decide +kernel) ap_49 ⟨Nat.le_of_ble_eq_true rfl, rfl, rfl⟩ (dq_ok8 [1, 1] [1] (dc_r (dc_r dc_n)) (dc_r dc_n) (by decide +kernel)) (by decide +kernel) rfl q6 rfl ?_
  cases hh
  exact dq_retR (by decide +kernel) rfl
def f48 (L : Nat) (xs : Nat → Int32) (zf : Value) (D : dD) (w : Nat) (As : List Value) (h : rm_H) : Option dR := match As with
  | [v0] => (rm_rf v0).bind fun o0 => b48_0 L xs zf D w o0 h
  | _ => none
theorem d48 {L : Nat} {xs : Nat → Int32} {zf : Value} {D : dD} {w k : Nat} (hD : dO L xs zf D k) (hz : zf.category = 1) (As : List Value) (h : rm_H) (r : dR) (hh : f48 L xs zf D w As h = some r) : dq L xs zf ah_M48 0 (lv_args 0 As) [] h (k + 1) r := by
  unfold f48 at hh
  split at hh
  · obtain ⟨o0, e0, hb0⟩ := db hh
    have e0 := rm_rf_v _ _ e0
    subst e0
    refine c48_0 hD hz _ _ _ _ ?_ hb0
    all_goals (simp only [la_r, la_i, la_j]; rfl)
  · cases hh
def b49_0 (L : Nat) (xs : Nat → Int32) (zf : Value) (D : dD) (w : Nat) (o0 : Option Nat) (o1 : Option Nat) (h : rm_H) : Option dR :=
  ((dcN D 50 o0 [va_rf o1, va_rf none] h).bind dxV).bind fun h1 =>
  some (none, h1)
theorem c49_0 {L : Nat} {xs : Nat → Int32} {zf : Value} {D : dD} {w k : Nat} (hD : dO L xs zf D k) (hz : zf.category = 1) : ∀ (o0 : Option Nat) (o1 : Option Nat) (lv : rm_L) (h : rm_H) (r : dR), rm_get lv 0 = some (va_rf o0) → rm_get lv 1 = some (va_rf o1) → b49_0 L xs zf D w  o0 o1 h = some r → dq L xs zf ah_M49 0 lv [] h (k + 1) r := by
  intro o0 o1 lv h r G0 G1 hh
  unfold b49_0 at hh
  refine dq_aln 0 1 (by decide +kernel) rfl G0 ?_
  refine dq_aln 1 2 (by decide +kernel) rfl G1 ?_
  refine dq_S (.aconst_null) 1 [] 3 _ [va_rf none, va_rf o1, va_rf o0] (by decide +kernel) rfl ?_
  obtain ⟨h1, q2, hh⟩ := db hh
  obtain ⟨a3, q4, q2⟩ := db q2
  rw [dq_xV q2] at q4
  refine dq_csp hD 489 50 2 [] o0 [va_rf o1, va_rf none] [] 6 [] (by decide +kernel) ap_50 ⟨Nat.le_of_ble_eq_true rfl, rfl, rfl⟩ (dq_ok8 [1, 1, 1] [] (dc_r (dc_r (dc_r dc_n))) dc_n (by decide +kernel)) (by decide +kernel) rfl q4 rfl ?_
  cases hh
  exact dq_ret0 (by decide +kernel) rfl
def f49 (L : Nat) (xs : Nat → Int32) (zf : Value) (D : dD) (w : Nat) (As : List Value) (h : rm_H) : Option dR := match As with
  | [v0, v1] => (rm_rf v0).bind fun o0 => (rm_rf v1).bind fun o1 => b49_0 L xs zf D w o0 o1 h
  | _ => none
theorem d49 {L : Nat} {xs : Nat → Int32} {zf : Value} {D : dD} {w k : Nat} (hD : dO L xs zf D k) (hz : zf.category = 1) (As : List Value) (h : rm_H) (r : dR) (hh : f49 L xs zf D w As h = some r) : dq L xs zf ah_M49 0 (lv_args 0 As) [] h (k + 1) r := by
  unfold f49 at hh
  split at hh
  · obtain ⟨o0, e0, hb0⟩ := db hh
    have e0 := rm_rf_v _ _ e0
    obtain ⟨o1, e1, hb1⟩ := db hb0
    have e1 := rm_rf_v _ _ e1
    subst e0 e1
    refine c49_0 hD hz _ _ _ _ _ ?_ ?_ hb1
    all_goals (simp only [la_r, la_i, la_j]; rfl)
  · cases hh
def b50_97 (L : Nat) (xs : Nat → Int32) (zf : Value) (D : dD) (w : Nat) (h : rm_H) : Option dR :=
  some (none, h)
theorem c50_97 {L : Nat} {xs : Nat → Int32} {zf : Value} {D : dD} {w k : Nat} (hD : dO L xs zf D k) (hz : zf.category = 1) : ∀ (lv : rm_L) (h : rm_H) (r : dR), b50_97 L xs zf D w  h = some r → dq L xs zf ah_M50 97 lv [] h (k + 1) r := by
  intro lv h r hh
  unfold b50_97 at hh
  cases hh
  exact dq_ret0 (by decide +kernel) rfl
def b50_79 (L : Nat) (xs : Nat → Int32) (zf : Value) (D : dD) (w : Nat) (o0 : Option Nat) (o3 : Option Nat) (i4 : Int32) (h : rm_H) : Option dR :=
  (dpF h 1 [7] o0 (.int 1)).bind fun h1 =>
  ((D 52 [va_rf o3, .int 0, .int (i4 <<< ((1 : Int32) &&& 31))] h1).bind dxR).bind fun p3 =>
  (dpF p3.2 0 [7] o0 (va_rf p3.1)).bind fun h7 =>
  b50_97 L xs zf D w h7
theorem c50_79 {L : Nat} {xs : Nat → Int32} {zf : Value} {D : dD} {w k : Nat} (hD : dO L xs zf D k) (hz : zf.category = 1) : ∀ (o0 : Option Nat) (o3 : Option Nat) (i4 : Int32) (lv : rm_L) (h : rm_H) (r : dR), rm_get lv 0 = some (va_rf o0) → rm_get lv 3 = some (va_rf o3) → rm_get lv 4 = some (.int i4) → b50_79 L xs zf D w  o0 o3 i4 h = some r → dq L xs zf ah_M50 79 lv [] h (k + 1) r := by
  intro o0 o3 i4 lv h r G0 G3 G4 hh
  unfold b50_79 at hh
  refine dq_aln 0 80 (by decide +kernel) rfl G0 ?_
  refine dq_S (.iconst 1) 1 [] 81 _ [.int 1, va_rf o0] (by decide +kernel) rfl ?_
  obtain ⟨h1, q2, hh⟩ := db hh
  refine dq_put 15 1 [7] 84 (by decide +kernel) rfl q2 ?_
  refine dq_aln 0 85 (by decide +kernel) rfl G0 ?_
  refine dq_aln 3 86 (by decide +kernel) rfl G3 ?_
  refine dq_S (.iconst 0) 1 [] 87 _ [.int 0, va_rf o3, va_rf o0] (by decide +kernel) rfl ?_
  refine dq_il 4 89 (by decide +kernel) rfl G4 ?_
  refine dq_S (.iconst 1) 1 [] 90 _ [.int 1, .int i4, .int 0, va_rf o3, va_rf o0] (by decide +kernel) rfl ?_
  refine dq_S (.ishl) 1 [] 91 _ [.int (i4 <<< ((1 : Int32) &&& 31)), .int 0, va_rf o3, va_rf o0] (by decide +kernel) rfl ?_
  obtain ⟨p3, q4, hh⟩ := db hh
  obtain ⟨a5, q6, q4⟩ := db q4
  rw [dq_xR q4] at q6
  refine dq_cst hD 54 52 0 3 [va_rf o3, .int 0, .int (i4 <<< ((1 : Int32) &&& 31))] [va_rf o0] 94 [va_rf p3.1, va_rf o0] (by decide +kernel) ap_52 ⟨⟨Nat.le_of_ble_eq_true rfl, by decide⟩, rfl, rfl⟩ (dq_ok8 [1, 1, 1] [1] (dc_r (dc_i (dc_i dc_n))) (dc_r dc_n) (by decide +kernel)) (by decide +kernel) rfl q6 rfl ?_
  obtain ⟨h7, q8, hh⟩ := db hh
  refine dq_put 9 0 [7] 97 (by decide +kernel) rfl q8 ?_
  exact c50_97 hD hz  _ _ _  hh
def b50_0 (L : Nat) (xs : Nat → Int32) (zf : Value) (D : dD) (w : Nat) (o0 : Option Nat) (o1 : Option Nat) (h : rm_H) : Option dR :=
  if dnl o0 = true then none else
  ((dcV L xs D 51 [1] o1 [] h).bind dxR).bind fun p2 =>
  ((dcV L xs D 10 [1] o1 [] p2.2).bind dxI).bind fun x9 =>
  ((dcV L xs D 22 [1] o1 [] x9.2).bind dxI).bind fun x17 =>
  if mx_f1 .eq x17.1 = true then
    if mx_f1 .eq 1 = true then
      b50_79 L xs zf D w o0 p2.1 x9.1 x17.2
    else
      (dgI L xs x17.2 2 [1] o1).bind fun x23 =>
      if mx_f1 .eq x23 = true then
        b50_79 L xs zf D w o0 p2.1 x9.1 x17.2
      else
        ((D 55 [va_rf p2.1, .int 0, .int x9.1] x17.2).bind dxR).bind fun p26 =>
        (dpF p26.2 0 [7] o0 (va_rf p26.1)).bind fun h30 =>
        (dgR L xs h30 0 [7, 16] o0).bind fun p32 =>
        ((D 58 [va_rf p32, .int x9.1] h30).bind dxI).bind fun x34 =>
        (dpF x34.2 1 [7] o0 (.int x34.1)).bind fun h38 =>
        some (none, h38)
  else
    (dpF x17.2 1 [7] o0 (.int 0)).bind fun h40 =>
    ((D 52 [va_rf p2.1, .int 0, .int x9.1] h40).bind dxR).bind fun p42 =>
    (dpF p42.2 0 [7] o0 (va_rf p42.1)).bind fun h46 =>
    b50_97 L xs zf D w h46
theorem c50_0 {L : Nat} {xs : Nat → Int32} {zf : Value} {D : dD} {w k : Nat} (hD : dO L xs zf D k) (hz : zf.category = 1) : ∀ (o0 : Option Nat) (o1 : Option Nat) (lv : rm_L) (h : rm_H) (r : dR), rm_get lv 0 = some (va_rf o0) → rm_get lv 1 = some (va_rf o1) → b50_0 L xs zf D w  o0 o1 h = some r → dq L xs zf ah_M50 0 lv [] h (k + 1) r := by
  intro o0 o1 lv h r G0 G1 hh
  unfold b50_0 at hh
  refine dq_aln 0 1 (by decide +kernel) rfl G0 ?_
  rcases di hh with ⟨_, hh⟩ | ⟨q1, hh⟩
  · cases hh
  refine dq_obj 1 4 (by decide +kernel) (dc_s dc_n (by decide +kernel)) rfl q1 ?_
  refine dq_aln 1 5 (by decide +kernel) rfl G1 ?_
  obtain ⟨p2, q3, hh⟩ := db hh
  obtain ⟨a4, q5, q3⟩ := db q3
  rw [dq_xR q3] at q5
  refine dq_cvi hD 552 51 6 0 [1] o1 [] [] 8 [va_rf p2.1] (by decide +kernel) ap_51 ⟨⟨Nat.le_of_ble_eq_true rfl, by decide⟩, rfl, rfl⟩ (dq_ok8 [1] [] (dc_r dc_n) dc_n (by decide +kernel)) (by decide +kernel) rfl q5 rfl ?_
  refine dq_asn 3 9 (by decide +kernel) (by decide +kernel) ?_
  have g6 := dg_ne (i := 3) (u := va_rf p2.1) (by decide) (Or.inl (by decide)) G0
  have g7 := dg_ne (i := 3) (u := va_rf p2.1) (by decide) (Or.inl (by decide)) G1
  have g8 := dg_eq (lv) 3 (va_rf p2.1)
  refine dq_aln 1 10 (by decide +kernel) rfl g7 ?_
  obtain ⟨x9, q10, hh⟩ := db hh
  obtain ⟨a11, q12, q10⟩ := db q10
  rw [dq_xI q10] at q12
  refine dq_cvi hD 549 10 8 0 [1] o1 [] [] 13 [.int x9.1] (by decide +kernel) ap_10 ⟨⟨Nat.le_of_ble_eq_true rfl, by decide⟩, rfl, rfl⟩ (dq_ok8 [1] [] (dc_r dc_n) dc_n (by decide +kernel)) (by decide +kernel) rfl q12 rfl ?_
  refine dq_is 4 15 (by decide +kernel) (by decide +kernel) ?_
  have g13 := dg_ne (i := 4) (u := .int x9.1) (by decide) (Or.inl (by decide)) g6
  have g14 := dg_ne (i := 4) (u := .int x9.1) (by decide) (Or.inl (by decide)) g7
  have g15 := dg_ne (i := 4) (u := .int x9.1) (by decide) (Or.inr (drc _)) g8
  have g16 := dg_eq (rm_set1 (lv) 3 (va_rf p2.1)) 4 (.int x9.1)
  refine dq_aln 1 16 (by decide +kernel) rfl g14 ?_
  obtain ⟨x17, q18, hh⟩ := db hh
  obtain ⟨a19, q20, q18⟩ := db q18
  rw [dq_xI q18] at q20
  refine dq_cvi hD 1047 22 6 0 [1] o1 [] [] 19 [.int x17.1] (by decide +kernel) ap_22 ⟨⟨Nat.le_of_ble_eq_true rfl, by decide⟩, rfl, rfl⟩ (dq_ok8 [1] [] (dc_r dc_n) dc_n (by decide +kernel)) (by decide +kernel) rfl q20 rfl ?_
  rcases di hh with ⟨q21, hh⟩ | ⟨q21, hh⟩
  · refine dq_1 .eq 22 true 41 q21 (by decide +kernel) ?_
    refine dq_S (.getstatic 38) 3 [0] 44 _ [.int 1] (by decide +kernel) rfl ?_
    rcases di hh with ⟨q22, hh⟩ | ⟨q22, hh⟩
    · refine dq_1 .eq 35 true 79 q22 (by decide +kernel) ?_
      exact c50_79 hD hz _ _ _ _ _ _ g13 g15 g16 hh
    · refine dq_1 .eq 35 false 47 q22 (by decide +kernel) ?_
      refine dq_aln 1 48 (by decide +kernel) rfl g14 ?_
      obtain ⟨x23, q24, hh⟩ := db hh
      refine dq_gI 1048 2 [1] 51 (by decide +kernel) rfl q24 ?_
      rcases di hh with ⟨q25, hh⟩ | ⟨q25, hh⟩
      · refine dq_1 .eq 28 true 79 q25 (by decide +kernel) ?_
        exact c50_79 hD hz _ _ _ _ _ _ g13 g15 g16 hh
      · refine dq_1 .eq 28 false 54 q25 (by decide +kernel) ?_
        refine dq_aln 0 55 (by decide +kernel) rfl g13 ?_
        refine dq_aln 3 56 (by decide +kernel) rfl g15 ?_
        refine dq_S (.iconst 0) 1 [] 57 _ [.int 0, va_rf p2.1, va_rf o0] (by decide +kernel) rfl ?_
        refine dq_il 4 59 (by decide +kernel) rfl g16 ?_
        obtain ⟨p26, q27, hh⟩ := db hh
        obtain ⟨a28, q29, q27⟩ := db q27
        rw [dq_xR q27] at q29
        refine dq_cst hD 1051 55 0 3 [va_rf p2.1, .int 0, .int x9.1] [va_rf o0] 62 [va_rf p26.1, va_rf o0] (by decide +kernel) ap_55 ⟨⟨Nat.le_of_ble_eq_true rfl, by decide⟩, rfl, rfl⟩ (dq_ok8 [1, 1, 1] [1] (dc_r (dc_i (dc_i dc_n))) (dc_r dc_n) (by decide +kernel)) (by decide +kernel) rfl q29 rfl ?_
        obtain ⟨h30, q31, hh⟩ := db hh
        refine dq_put 9 0 [7] 65 (by decide +kernel) rfl q31 ?_
        refine dq_aln 0 66 (by decide +kernel) rfl g13 ?_
        refine dq_aln 0 67 (by decide +kernel) rfl g13 ?_
        obtain ⟨p32, q33, hh⟩ := db hh
        refine dq_gR 9 0 [7, 16] 70 (by decide +kernel) rfl q33 ?_
        refine dq_il 4 72 (by decide +kernel) rfl g16 ?_
        obtain ⟨x34, q35, hh⟩ := db hh
        obtain ⟨a36, q37, q35⟩ := db q35
        rw [dq_xI q35] at q37
        refine dq_cst hD 47 58 0 2 [va_rf p32, .int x9.1] [va_rf o0] 75 [.int x34.1, va_rf o0] (by decide +kernel) ap_58 ⟨⟨Nat.le_of_ble_eq_true rfl, by decide⟩, rfl, rfl⟩ (dq_ok8 [1, 1] [1] (dc_r (dc_i dc_n)) (dc_r dc_n) (by decide +kernel)) (by decide +kernel) rfl q37 rfl ?_
        obtain ⟨h38, q39, hh⟩ := db hh
        refine dq_put 15 1 [7] 78 (by decide +kernel) rfl q39 ?_
        cases hh
        exact dq_ret0 (by decide +kernel) rfl
  · refine dq_1 .eq 22 false 22 q21 (by decide +kernel) ?_
    refine dq_aln 0 23 (by decide +kernel) rfl g13 ?_
    refine dq_S (.iconst 0) 1 [] 24 _ [.int 0, va_rf o0] (by decide +kernel) rfl ?_
    obtain ⟨h40, q41, hh⟩ := db hh
    refine dq_put 15 1 [7] 27 (by decide +kernel) rfl q41 ?_
    refine dq_aln 0 28 (by decide +kernel) rfl g13 ?_
    refine dq_aln 3 29 (by decide +kernel) rfl g15 ?_
    refine dq_S (.iconst 0) 1 [] 30 _ [.int 0, va_rf p2.1, va_rf o0] (by decide +kernel) rfl ?_
    refine dq_il 4 32 (by decide +kernel) rfl g16 ?_
    obtain ⟨p42, q43, hh⟩ := db hh
    obtain ⟨a44, q45, q43⟩ := db q43
    rw [dq_xR q43] at q45
    refine dq_cst hD 54 52 0 3 [va_rf p2.1, .int 0, .int x9.1] [va_rf o0] 35 [va_rf p42.1, va_rf o0] (by decide +kernel) ap_52 ⟨⟨Nat.le_of_ble_eq_true rfl, by decide⟩, rfl, rfl⟩ (dq_ok8 [1, 1, 1] [1] (dc_r (dc_i (dc_i dc_n))) (dc_r dc_n) (by decide +kernel)) (by decide +kernel) rfl q45 rfl ?_
    obtain ⟨h46, q47, hh⟩ := db hh
    refine dq_put 9 0 [7] 38 (by decide +kernel) rfl q47 ?_
    refine dq_S (.goto 59) 3 [] 97 _ [] (by decide +kernel) rfl ?_
    exact c50_97 hD hz  _ _ _  hh
def f50 (L : Nat) (xs : Nat → Int32) (zf : Value) (D : dD) (w : Nat) (As : List Value) (h : rm_H) : Option dR := match As with
  | [v0, v1, u2] => (rm_rf v0).bind fun o0 => (rm_rf v1).bind fun o1 => b50_0 L xs zf D w o0 o1 h
  | _ => none
theorem d50 {L : Nat} {xs : Nat → Int32} {zf : Value} {D : dD} {w k : Nat} (hD : dO L xs zf D k) (hz : zf.category = 1) (As : List Value) (h : rm_H) (r : dR) (hh : f50 L xs zf D w As h = some r) : dq L xs zf ah_M50 0 (lv_args 0 As) [] h (k + 1) r := by
  unfold f50 at hh
  split at hh
  · obtain ⟨o0, e0, hb0⟩ := db hh
    have e0 := rm_rf_v _ _ e0
    obtain ⟨o1, e1, hb1⟩ := db hb0
    have e1 := rm_rf_v _ _ e1
    subst e0 e1
    refine c50_0 hD hz _ _ _ _ _ ?_ ?_ hb1
    all_goals (simp only [la_r, la_i, la_j]; rfl)
  · cases hh
def b51_0 (L : Nat) (xs : Nat → Int32) (zf : Value) (D : dD) (w : Nat) (o0 : Option Nat) (h : rm_H) : Option dR :=
  (dgR L xs h 0 [1] o0).bind fun p1 =>
  some (some (va_rf p1), h)
theorem c51_0 {L : Nat} {xs : Nat → Int32} {zf : Value} {D : dD} {w k : Nat} (hD : dO L xs zf D k) (hz : zf.category = 1) : ∀ (o0 : Option Nat) (lv : rm_L) (h : rm_H) (r : dR), rm_get lv 0 = some (va_rf o0) → b51_0 L xs zf D w  o0 h = some r → dq L xs zf ah_M51 0 lv [] h (k + 1) r := by
  intro o0 lv h r G0 hh
  unfold b51_0 at hh
  refine dq_aln 0 1 (by decide +kernel) rfl G0 ?_
  obtain ⟨p1, q2, hh⟩ := db hh
  refine dq_gR 15 0 [1] 4 (by decide +kernel) rfl q2 ?_
  cases hh
  exact dq_retR (by decide +kernel) rfl
def f51 (L : Nat) (xs : Nat → Int32) (zf : Value) (D : dD) (w : Nat) (As : List Value) (h : rm_H) : Option dR := match As with
  | [v0] => (rm_rf v0).bind fun o0 => b51_0 L xs zf D w o0 h
  | _ => none
theorem d51 {L : Nat} {xs : Nat → Int32} {zf : Value} {D : dD} {w k : Nat} (hD : dO L xs zf D k) (hz : zf.category = 1) (As : List Value) (h : rm_H) (r : dR) (hh : f51 L xs zf D w As h = some r) : dq L xs zf ah_M51 0 (lv_args 0 As) [] h (k + 1) r := by
  unfold f51 at hh
  split at hh
  · obtain ⟨o0, e0, hb0⟩ := db hh
    have e0 := rm_rf_v _ _ e0
    subst e0
    refine c51_0 hD hz _ _ _ _ ?_ hb0
    all_goals (simp only [la_r, la_i, la_j]; rfl)
  · cases hh
def b52_10 (L : Nat) (xs : Nat → Int32) (zf : Value) (D : dD) (w : Nat) (o0 : Option Nat) (i1 : Int32) (i2 : Int32) (h : rm_H) : Option dR :=
  ((D 53 [va_rf o0, .int i1, .int i2] h).bind dxR).bind fun p1 =>
  some (some (va_rf p1.1), p1.2)
theorem c52_10 {L : Nat} {xs : Nat → Int32} {zf : Value} {D : dD} {w k : Nat} (hD : dO L xs zf D k) (hz : zf.category = 1) : ∀ (o0 : Option Nat) (i1 : Int32) (i2 : Int32) (lv : rm_L) (h : rm_H) (r : dR), rm_get lv 0 = some (va_rf o0) → rm_get lv 1 = some (.int i1) → rm_get lv 2 = some (.int i2) → b52_10 L xs zf D w  o0 i1 i2 h = some r → dq L xs zf ah_M52 10 lv [] h (k + 1) r := by
  intro o0 i1 i2 lv h r G0 G1 G2 hh
  unfold b52_10 at hh
  refine dq_aln 0 11 (by decide +kernel) rfl G0 ?_
  refine dq_iln 1 12 (by decide +kernel) rfl G1 ?_
  refine dq_iln 2 13 (by decide +kernel) rfl G2 ?_
  obtain ⟨p1, q2, hh⟩ := db hh
  obtain ⟨a3, q4, q2⟩ := db q2
  rw [dq_xR q2] at q4
  refine dq_cst hD 339 53 0 3 [va_rf o0, .int i1, .int i2] [] 16 [va_rf p1.1] (by decide +kernel) ap_53 ⟨⟨Nat.le_of_ble_eq_true rfl, by decide⟩, rfl, rfl⟩ (dq_ok8 [1, 1, 1] [] (dc_r (dc_i (dc_i dc_n))) dc_n (by decide +kernel)) (by decide +kernel) rfl q4 rfl ?_
  cases hh
  exact dq_retR (by decide +kernel) rfl
def b52_0 (L : Nat) (xs : Nat → Int32) (zf : Value) (D : dD) (w : Nat) (o0 : Option Nat) (i1 : Int32) (i2 : Int32) (h : rm_H) : Option dR :=
  if mx_f1 .ne i1 = true then
    b52_10 L xs zf D w o0 i1 i2 h
  else
    (daN L xs h o0).bind fun x2 =>
    if mx_f2 .eq i2 x2 = true then
      (dclo h o0).bind fun h5 =>
      if dcB h5 (some (21 + List.length h)) = false then none else
      some (some (va_rf (some (21 + List.length h))), h5)
    else
      b52_10 L xs zf D w o0 i1 i2 h
theorem c52_0 {L : Nat} {xs : Nat → Int32} {zf : Value} {D : dD} {w k : Nat} (hD : dO L xs zf D k) (hz : zf.category = 1) : ∀ (o0 : Option Nat) (i1 : Int32) (i2 : Int32) (lv : rm_L) (h : rm_H) (r : dR), rm_get lv 0 = some (va_rf o0) → rm_get lv 1 = some (.int i1) → rm_get lv 2 = some (.int i2) → b52_0 L xs zf D w  o0 i1 i2 h = some r → dq L xs zf ah_M52 0 lv [] h (k + 1) r := by
  intro o0 i1 i2 lv h r G0 G1 G2 hh
  unfold b52_0 at hh
  refine dq_iln 1 1 (by decide +kernel) rfl G1 ?_
  rcases di hh with ⟨q1, hh⟩ | ⟨q1, hh⟩
  · refine dq_1 .ne 9 true 10 q1 (by decide +kernel) ?_
    exact c52_10 hD hz _ _ _ _ _ _ G0 G1 G2 hh
  · refine dq_1 .ne 9 false 4 q1 (by decide +kernel) ?_
    refine dq_iln 2 5 (by decide +kernel) rfl G2 ?_
    refine dq_aln 0 6 (by decide +kernel) rfl G0 ?_
    obtain ⟨x2, q3, hh⟩ := db hh
    refine dq_aN 7 (by decide +kernel) rfl q3 ?_
    rcases di hh with ⟨q4, hh⟩ | ⟨q4, hh⟩
    · refine dq_2 .eq 10 true 17 q4 (by decide +kernel) ?_
      refine dq_aln 0 18 (by decide +kernel) rfl G0 ?_
      obtain ⟨h5, q6, hh⟩ := db hh
      refine dq_clo 310 21 (by decide +kernel) (dc_s dc_n (by decide +kernel)) rfl q6 ?_
      rcases dp hh with ⟨_, hh⟩ | ⟨q7, hh⟩
      · cases hh
      refine dq_castB 311 24 (by decide +kernel) rfl (by rw [Bool.not_eq_false] at q7; exact q7) ?_
      cases hh
      exact dq_retR (by decide +kernel) rfl
    · refine dq_2 .eq 10 false 10 q4 (by decide +kernel) ?_
      exact c52_10 hD hz _ _ _ _ _ _ G0 G1 G2 hh
def f52 (L : Nat) (xs : Nat → Int32) (zf : Value) (D : dD) (w : Nat) (As : List Value) (h : rm_H) : Option dR := match As with
  | [v0, .int i1, .int i2] => (rm_rf v0).bind fun o0 => b52_0 L xs zf D w o0 i1 i2 h
  | _ => none
theorem d52 {L : Nat} {xs : Nat → Int32} {zf : Value} {D : dD} {w k : Nat} (hD : dO L xs zf D k) (hz : zf.category = 1) (As : List Value) (h : rm_H) (r : dR) (hh : f52 L xs zf D w As h = some r) : dq L xs zf ah_M52 0 (lv_args 0 As) [] h (k + 1) r := by
  unfold f52 at hh
  split at hh
  · obtain ⟨o0, e0, hb0⟩ := db hh
    have e0 := rm_rf_v _ _ e0
    subst e0
    refine c52_0 hD hz _ _ _ _ _ _ ?_ ?_ ?_ hb0
    all_goals (simp only [la_r, la_i, la_j]; rfl)
  · cases hh
def b53_0 (L : Nat) (xs : Nat → Int32) (zf : Value) (D : dD) (w : Nat) (o0 : Option Nat) (i1 : Int32) (i2 : Int32) (h : rm_H) : Option dR :=
  ((D 54 [.int i1, .int i2] h).bind dxV).bind fun h1 =>
  (dnI 1 (i2 - i1) h1).bind fun h9 =>
  (daN L xs h9 o0).bind fun x16 =>
  ((D 21 [.int (x16 - i1), .int (i2 - i1)] h9).bind dxI).bind fun x18 =>
  (dcpy x18.2 o0 i1 (some (21 + List.length h1)) 0 x18.1).bind fun h22 =>
  some (some (va_rf (some (21 + List.length h1))), h22)
theorem c53_0 {L : Nat} {xs : Nat → Int32} {zf : Value} {D : dD} {w k : Nat} (hD : dO L xs zf D k) (hz : zf.category = 1) : ∀ (o0 : Option Nat) (i1 : Int32) (i2 : Int32) (lv : rm_L) (h : rm_H) (r : dR), rm_get lv 0 = some (va_rf o0) → rm_get lv 1 = some (.int i1) → rm_get lv 2 = some (.int i2) → b53_0 L xs zf D w  o0 i1 i2 h = some r → dq L xs zf ah_M53 0 lv [] h (k + 1) r := by
  intro o0 i1 i2 lv h r G0 G1 G2 hh
  unfold b53_0 at hh
  refine dq_iln 1 1 (by decide +kernel) rfl G1 ?_
  refine dq_iln 2 2 (by decide +kernel) rfl G2 ?_
  obtain ⟨h1, q2, hh⟩ := db hh
  obtain ⟨a3, q4, q2⟩ := db q2
  rw [dq_xV q2] at q4
  refine dq_cst hD 343 54 0 2 [.int i1, .int i2] [] 5 [] (by decide +kernel) ap_54 ⟨⟨Nat.le_of_ble_eq_true rfl, by decide⟩, rfl, rfl⟩ (dq_ok8 [1, 1] [] (dc_i (dc_i dc_n)) dc_n (by decide +kernel)) (by decide +kernel) rfl q4 rfl ?_
  refine dq_iln 2 6 (by decide +kernel) rfl G2 ?_
  refine dq_iln 1 7 (by decide +kernel) rfl G1 ?_
  refine dq_S (.isub) 1 [] 8 _ [.int (i2 - i1)] (by decide +kernel) rfl ?_
  refine dq_isn 3 9 (by decide +kernel) (by decide +kernel) ?_
  have g5 := dg_ne (i := 3) (u := .int (i2 - i1)) (by decide) (Or.inl (by decide)) G0
  have g6 := dg_ne (i := 3) (u := .int (i2 - i1)) (by decide) (Or.inl (by decide)) G1
  have g7 := dg_ne (i := 3) (u := .int (i2 - i1)) (by decide) (Or.inr rfl) G2
  have g8 := dg_eq (lv) 3 (.int (i2 - i1))
  refine dq_iln 3 10 (by decide +kernel) rfl g8 ?_
  obtain ⟨h9, q10, hh⟩ := db hh
  refine dq_nI .byte 1 12 ⟨Or.inr (Or.inl rfl), rfl⟩ (by decide +kernel) rfl q10 ?_
  refine dq_as 4 14 (by decide +kernel) (by decide +kernel) ?_
  have g11 := dg_ne (i := 4) (u := va_rf (some (21 + List.length h1))) (by decide) (Or.inl (by decide)) g5
  have g12 := dg_ne (i := 4) (u := va_rf (some (21 + List.length h1))) (by decide) (Or.inl (by decide)) g6
  have g13 := dg_ne (i := 4) (u := va_rf (some (21 + List.length h1))) (by decide) (Or.inl (by decide)) g7
  have g14 := dg_ne (i := 4) (u := va_rf (some (21 + List.length h1))) (by decide) (Or.inr rfl) g8
  have g15 := dg_eq (rm_set1 (lv) 3 (.int (i2 - i1))) 4 (va_rf (some (21 + List.length h1)))
  refine dq_aln 0 15 (by decide +kernel) rfl g11 ?_
  refine dq_iln 1 16 (by decide +kernel) rfl g12 ?_
  refine dq_al 4 18 (by decide +kernel) rfl g15 ?_
  refine dq_S (.iconst 0) 1 [] 19 _ [.int 0, va_rf (some (21 + List.length h1)), .int i1, va_rf o0] (by decide +kernel) rfl ?_
  refine dq_aln 0 20 (by decide +kernel) rfl g11 ?_
  obtain ⟨x16, q17, hh⟩ := db hh
  refine dq_aN 21 (by decide +kernel) rfl q17 ?_
  refine dq_iln 1 22 (by decide +kernel) rfl g12 ?_
  refine dq_S (.isub) 1 [] 23 _ [.int (x16 - i1), .int 0, va_rf (some (21 + List.length h1)), .int i1, va_rf o0] (by decide +kernel) rfl ?_
  refine dq_iln 3 24 (by decide +kernel) rfl g14 ?_
  obtain ⟨x18, q19, hh⟩ := db hh
  obtain ⟨a20, q21, q19⟩ := db q19
  rw [dq_xI q19] at q21
  refine dq_cst hD 304 21 0 2 [.int (x16 - i1), .int (i2 - i1)] [.int 0, va_rf (some (21 + List.length h1)), .int i1, va_rf o0] 27 [.int x18.1, .int 0, va_rf (some (21 + List.length h1)), .int i1, va_rf o0] (by decide +kernel) ap_21 ⟨⟨Nat.le_of_ble_eq_true rfl, by decide⟩, rfl, rfl⟩ (dq_ok8 [1, 1] [1, 1, 1, 1] (dc_i (dc_i dc_n)) (dc_i (dc_r (dc_i (dc_r dc_n)))) (by decide +kernel)) (by decide +kernel) rfl q21 rfl ?_
  obtain ⟨h22, q23, hh⟩ := db hh
  refine dq_acp 150 30 (by decide +kernel) (dc_s dc_n (by decide +kernel)) rfl q23 ?_
  refine dq_al 4 32 (by decide +kernel) rfl g15 ?_
  cases hh
  exact dq_retR (by decide +kernel) rfl
def f53 (L : Nat) (xs : Nat → Int32) (zf : Value) (D : dD) (w : Nat) (As : List Value) (h : rm_H) : Option dR := match As with
  | [v0, .int i1, .int i2] => (rm_rf v0).bind fun o0 => b53_0 L xs zf D w o0 i1 i2 h
  | _ => none
theorem d53 {L : Nat} {xs : Nat → Int32} {zf : Value} {D : dD} {w k : Nat} (hD : dO L xs zf D k) (hz : zf.category = 1) (As : List Value) (h : rm_H) (r : dR) (hh : f53 L xs zf D w As h = some r) : dq L xs zf ah_M53 0 (lv_args 0 As) [] h (k + 1) r := by
  unfold f53 at hh
  split at hh
  · obtain ⟨o0, e0, hb0⟩ := db hh
    have e0 := rm_rf_v _ _ e0
    subst e0
    refine c53_0 hD hz _ _ _ _ _ _ ?_ ?_ ?_ hb0
    all_goals (simp only [la_r, la_i, la_j]; rfl)
  · cases hh
def b54_0 (L : Nat) (xs : Nat → Int32) (zf : Value) (D : dD) (w : Nat) (i0 : Int32) (i1 : Int32) (h : rm_H) : Option dR :=
  if mx_f2 .ge i1 i0 = true then
    some (none, h)
  else
    none
theorem c54_0 {L : Nat} {xs : Nat → Int32} {zf : Value} {D : dD} {w k : Nat} (hD : dO L xs zf D k) (hz : zf.category = 1) : ∀ (i0 : Int32) (i1 : Int32) (lv : rm_L) (h : rm_H) (r : dR), rm_get lv 0 = some (.int i0) → rm_get lv 1 = some (.int i1) → b54_0 L xs zf D w  i0 i1 h = some r → dq L xs zf ah_M54 0 lv [] h (k + 1) r := by
  intro i0 i1 lv h r G0 G1 hh
  unfold b54_0 at hh
  refine dq_iln 1 1 (by decide +kernel) rfl G1 ?_
  refine dq_iln 0 2 (by decide +kernel) rfl G0 ?_
  rcases di hh with ⟨q1, hh⟩ | ⟨q1, hh⟩
  · refine dq_2 .ge 35 true 37 q1 (by decide +kernel) ?_
    cases hh
    exact dq_ret0 (by decide +kernel) rfl
  · refine dq_2 .ge 35 false 5 q1 (by decide +kernel) ?_
    cases hh
def f54 (L : Nat) (xs : Nat → Int32) (zf : Value) (D : dD) (w : Nat) (As : List Value) (h : rm_H) : Option dR := match As with
  | [.int i0, .int i1] => b54_0 L xs zf D w i0 i1 h
  | _ => none
theorem d54 {L : Nat} {xs : Nat → Int32} {zf : Value} {D : dD} {w k : Nat} (hD : dO L xs zf D k) (hz : zf.category = 1) (As : List Value) (h : rm_H) (r : dR) (hh : f54 L xs zf D w As h = some r) : dq L xs zf ah_M54 0 (lv_args 0 As) [] h (k + 1) r := by
  unfold f54 at hh
  split at hh
  · refine c54_0 hD hz _ _ _ _ _ ?_ ?_ hh
    all_goals (simp only [la_r, la_i, la_j]; rfl)
  · cases hh
def b55_61 (L : Nat) (xs : Nat → Int32) (zf : Value) (D : dD) (w : Nat) (o5 : Option Nat) (h : rm_H) : Option dR :=
  some (some (va_rf o5), h)
theorem c55_61 {L : Nat} {xs : Nat → Int32} {zf : Value} {D : dD} {w k : Nat} (hD : dO L xs zf D k) (hz : zf.category = 1) : ∀ (o5 : Option Nat) (lv : rm_L) (h : rm_H) (r : dR), rm_get lv 5 = some (va_rf o5) → b55_61 L xs zf D w  o5 h = some r → dq L xs zf ah_M55 61 lv [] h (k + 1) r := by
  intro o5 lv h r G5 hh
  unfold b55_61 at hh
  refine dq_al 5 63 (by decide +kernel) rfl G5 ?_
  cases hh
  exact dq_retR (by decide +kernel) rfl
def b55_64 (L : Nat) (xs : Nat → Int32) (zf : Value) (D : dD) (w : Nat) (o3 : Option Nat) (h : rm_H) : Option dR :=
  some (some (va_rf o3), h)
theorem c55_64 {L : Nat} {xs : Nat → Int32} {zf : Value} {D : dD} {w k : Nat} (hD : dO L xs zf D k) (hz : zf.category = 1) : ∀ (o3 : Option Nat) (lv : rm_L) (h : rm_H) (r : dR), rm_get lv 3 = some (va_rf o3) → b55_64 L xs zf D w  o3 h = some r → dq L xs zf ah_M55 64 lv [] h (k + 1) r := by
  intro o3 lv h r G3 hh
  unfold b55_64 at hh
  refine dq_aln 3 65 (by decide +kernel) rfl G3 ?_
  cases hh
  exact dq_retR (by decide +kernel) rfl
def b55_0 (L : Nat) (xs : Nat → Int32) (zf : Value) (D : dD) (w : Nat) (o0 : Option Nat) (i1 : Int32) (i2 : Int32) (h : rm_H) : Option dR :=
  (dnI 1 i2 h).bind fun h1 =>
  ((D 56 [va_rf o0, .int i1, va_rf (some (21 + List.length h)), .int 0, .int i2] h1).bind dxI).bind fun x7 =>
  if mx_f2 .eq x7.1 i2 = true then
    b55_64 L xs zf D w (some (21 + List.length h)) x7.2
  else
    ((D 6 [.int (i1 + i2)] x7.2).bind dxI).bind fun x17 =>
    ((D 52 [va_rf o0, .int (i1 <<< ((1 : Int32) &&& 31)), .int x17.1] x17.2).bind dxR).bind fun p21 =>
    ((D 57 [va_rf p21.1, .int x7.1] p21.2).bind dxI).bind fun x31 =>
    if mx_f2 .gt x31.1 255 = true then
      b55_61 L xs zf D w p21.1 x31.2
    else
      ((D 56 [va_rf p21.1, .int 0, va_rf (some (21 + List.length h)), .int 0, .int i2] x31.2).bind dxI).bind fun x36 =>
      if mx_f2 .eq x36.1 i2 = true then
        b55_64 L xs zf D w (some (21 + List.length h)) x36.2
      else
        b55_61 L xs zf D w p21.1 x36.2
theorem c55_0 {L : Nat} {xs : Nat → Int32} {zf : Value} {D : dD} {w k : Nat} (hD : dO L xs zf D k) (hz : zf.category = 1) : ∀ (o0 : Option Nat) (i1 : Int32) (i2 : Int32) (lv : rm_L) (h : rm_H) (r : dR), rm_get lv 0 = some (va_rf o0) → rm_get lv 1 = some (.int i1) → rm_get lv 2 = some (.int i2) → b55_0 L xs zf D w  o0 i1 i2 h = some r → dq L xs zf ah_M55 0 lv [] h (k + 1) r := by
  intro o0 i1 i2 lv h r G0 G1 G2 hh
  unfold b55_0 at hh
  refine dq_iln 2 1 (by decide +kernel) rfl G2 ?_
  obtain ⟨h1, q2, hh⟩ := db hh
  refine dq_nI .byte 1 3 ⟨Or.inr (Or.inl rfl), rfl⟩ (by decide +kernel) rfl q2 ?_
  refine dq_asn 3 4 (by decide +kernel) (by decide +kernel) ?_
  have g3 := dg_ne (i := 3) (u := va_rf (some (21 + List.length h))) (by decide) (Or.inl (by decide)) G0
  have g4 := dg_ne (i := 3) (u := va_rf (some (21 + List.length h))) (by decide) (Or.inl (by decide)) G1
  have g5 := dg_ne (i := 3) (u := va_rf (some (21 + List.length h))) (by decide) (Or.inr rfl) G2
  have g6 := dg_eq (lv) 3 (va_rf (some (21 + List.length h)))
  refine dq_aln 0 5 (by decide +kernel) rfl g3 ?_
  refine dq_iln 1 6 (by decide +kernel) rfl g4 ?_
  refine dq_aln 3 7 (by decide +kernel) rfl g6 ?_
  refine dq_S (.iconst 0) 1 [] 8 _ [.int 0, va_rf (some (21 + List.length h)), .int i1, va_rf o0] (by decide +kernel) rfl ?_
  refine dq_iln 2 9 (by decide +kernel) rfl g5 ?_
  obtain ⟨x7, q8, hh⟩ := db hh
  obtain ⟨a9, q10, q8⟩ := db q8
  rw [dq_xI q8] at q10
  refine dq_cst hD 123 56 0 5 [va_rf o0, .int i1, va_rf (some (21 + List.length h)), .int 0, .int i2] [] 12 [.int x7.1] (by decide +kernel) ap_56 ⟨⟨Nat.le_of_ble_eq_true rfl, by decide⟩, rfl, rfl⟩ (dq_ok8 [1, 1, 1, 1, 1] [] (dc_r (dc_i (dc_r (dc_i (dc_i dc_n))))) dc_n (by decide +kernel)) (by decide +kernel) rfl q10 rfl ?_
  refine dq_is 4 14 (by decide +kernel) (by decide +kernel) ?_
  have g11 := dg_ne (i := 4) (u := .int x7.1) (by decide) (Or.inl (by decide)) g3
  have g12 := dg_ne (i := 4) (u := .int x7.1) (by decide) (Or.inl (by decide)) g4
  have g13 := dg_ne (i := 4) (u := .int x7.1) (by decide) (Or.inl (by decide)) g5
  have g14 := dg_ne (i := 4) (u := .int x7.1) (by decide) (Or.inr (drc _)) g6
  have g15 := dg_eq (rm_set1 (lv) 3 (va_rf (some (21 + List.length h)))) 4 (.int x7.1)
  refine dq_il 4 16 (by decide +kernel) rfl g15 ?_
  refine dq_iln 2 17 (by decide +kernel) rfl g13 ?_
  rcases di hh with ⟨q16, hh⟩ | ⟨q16, hh⟩
  · refine dq_2 .eq 47 true 64 q16 (by decide +kernel) ?_
    exact c55_64 hD hz _ _ _ _ g14 hh
  · refine dq_2 .eq 47 false 20 q16 (by decide +kernel) ?_
    refine dq_aln 0 21 (by decide +kernel) rfl g11 ?_
    refine dq_iln 1 22 (by decide +kernel) rfl g12 ?_
    refine dq_S (.iconst 1) 1 [] 23 _ [.int 1, .int i1, va_rf o0] (by decide +kernel) rfl ?_
    refine dq_S (.ishl) 1 [] 24 _ [.int (i1 <<< ((1 : Int32) &&& 31)), va_rf o0] (by decide +kernel) rfl ?_
    refine dq_iln 1 25 (by decide +kernel) rfl g12 ?_
    refine dq_iln 2 26 (by decide +kernel) rfl g13 ?_
    refine dq_S (.iadd) 1 [] 27 _ [.int (i1 + i2), .int (i1 <<< ((1 : Int32) &&& 31)), va_rf o0] (by decide +kernel) rfl ?_
    obtain ⟨x17, q18, hh⟩ := db hh
    obtain ⟨a19, q20, q18⟩ := db q18
    rw [dq_xI q18] at q20
    refine dq_cst hD 11 6 0 1 [.int (i1 + i2)] [.int (i1 <<< ((1 : Int32) &&& 31)), va_rf o0] 30 [.int x17.1, .int (i1 <<< ((1 : Int32) &&& 31)), va_rf o0] (by decide +kernel) ap_6 ⟨⟨Nat.le_of_ble_eq_true rfl, by decide⟩, rfl, rfl⟩ (dq_ok8 [1] [1, 1] (dc_i dc_n) (dc_i (dc_r dc_n)) (by decide +kernel)) (by decide +kernel) rfl q20 rfl ?_
    obtain ⟨p21, q22, hh⟩ := db hh
    obtain ⟨a23, q24, q22⟩ := db q22
    rw [dq_xR q22] at q24
    refine dq_cst hD 126 52 0 3 [va_rf o0, .int (i1 <<< ((1 : Int32) &&& 31)), .int x17.1] [] 33 [va_rf p21.1] (by decide +kernel) ap_52 ⟨⟨Nat.le_of_ble_eq_true rfl, by decide⟩, rfl, rfl⟩ (dq_ok8 [1, 1, 1] [] (dc_r (dc_i (dc_i dc_n))) dc_n (by decide +kernel)) (by decide +kernel) rfl q24 rfl ?_
    refine dq_as 5 35 (by decide +kernel) (by decide +kernel) ?_
    have g25 := dg_ne (i := 5) (u := va_rf p21.1) (by decide) (Or.inl (by decide)) g11
    have g26 := dg_ne (i := 5) (u := va_rf p21.1) (by decide) (Or.inl (by decide)) g12
    have g27 := dg_ne (i := 5) (u := va_rf p21.1) (by decide) (Or.inl (by decide)) g13
    have g28 := dg_ne (i := 5) (u := va_rf p21.1) (by decide) (Or.inl (by decide)) g14
    have g29 := dg_ne (i := 5) (u := va_rf p21.1) (by decide) (Or.inr rfl) g15
    have g30 := dg_eq (rm_set1 (rm_set1 (lv) 3 (va_rf (some (21 + List.length h)))) 4 (.int x7.1)) 5 (va_rf p21.1)
    refine dq_al 5 37 (by decide +kernel) rfl g30 ?_
    refine dq_il 4 39 (by decide +kernel) rfl g29 ?_
    obtain ⟨x31, q32, hh⟩ := db hh
    obtain ⟨a33, q34, q32⟩ := db q32
    rw [dq_xI q32] at q34
    refine dq_cst hD 71 57 0 2 [va_rf p21.1, .int x7.1] [] 42 [.int x31.1] (by decide +kernel) ap_57 ⟨⟨Nat.le_of_ble_eq_true rfl, by decide⟩, rfl, rfl⟩ (dq_ok8 [1, 1] [] (dc_r (dc_i dc_n)) dc_n (by decide +kernel)) (by decide +kernel) rfl q34 rfl ?_
    refine dq_S (.sipush 255) 3 [] 45 _ [.int 255, .int x31.1] (by decide +kernel) rfl ?_
    rcases di hh with ⟨q35, hh⟩ | ⟨q35, hh⟩
    · refine dq_2 .gt 16 true 61 q35 (by decide +kernel) ?_
      exact c55_61 hD hz _ _ _ _ g30 hh
    · refine dq_2 .gt 16 false 48 q35 (by decide +kernel) ?_
      refine dq_al 5 50 (by decide +kernel) rfl g30 ?_
      refine dq_S (.iconst 0) 1 [] 51 _ [.int 0, va_rf p21.1] (by decide +kernel) rfl ?_
      refine dq_aln 3 52 (by decide +kernel) rfl g28 ?_
      refine dq_S (.iconst 0) 1 [] 53 _ [.int 0, va_rf (some (21 + List.length h)), .int 0, va_rf p21.1] (by decide +kernel) rfl ?_
      refine dq_iln 2 54 (by decide +kernel) rfl g27 ?_
      obtain ⟨x36, q37, hh⟩ := db hh
      obtain ⟨a38, q39, q37⟩ := db q37
      rw [dq_xI q37] at q39
      refine dq_cst hD 123 56 0 5 [va_rf p21.1, .int 0, va_rf (some (21 + List.length h)), .int 0, .int i2] [] 57 [.int x36.1] (by decide +kernel) ap_56 ⟨⟨Nat.le_of_ble_eq_true rfl, by decide⟩, rfl, rfl⟩ (dq_ok8 [1, 1, 1, 1, 1] [] (dc_r (dc_i (dc_r (dc_i (dc_i dc_n))))) dc_n (by decide +kernel)) (by decide +kernel) rfl q39 rfl ?_
      refine dq_iln 2 58 (by decide +kernel) rfl g27 ?_
      rcases di hh with ⟨q40, hh⟩ | ⟨q40, hh⟩
      · refine dq_2 .eq 6 true 64 q40 (by decide +kernel) ?_
        exact c55_64 hD hz _ _ _ _ g28 hh
      · refine dq_2 .eq 6 false 61 q40 (by decide +kernel) ?_
        exact c55_61 hD hz _ _ _ _ g30 hh
def f55 (L : Nat) (xs : Nat → Int32) (zf : Value) (D : dD) (w : Nat) (As : List Value) (h : rm_H) : Option dR := match As with
  | [v0, .int i1, .int i2] => (rm_rf v0).bind fun o0 => b55_0 L xs zf D w o0 i1 i2 h
  | _ => none
theorem d55 {L : Nat} {xs : Nat → Int32} {zf : Value} {D : dD} {w k : Nat} (hD : dO L xs zf D k) (hz : zf.category = 1) (As : List Value) (h : rm_H) (r : dR) (hh : f55 L xs zf D w As h = some r) : dq L xs zf ah_M55 0 (lv_args 0 As) [] h (k + 1) r := by
  unfold f55 at hh
  split at hh
  · obtain ⟨o0, e0, hb0⟩ := db hh
    have e0 := rm_rf_v _ _ e0
    subst e0
    refine c55_0 hD hz _ _ _ _ _ _ ?_ ?_ ?_ hb0
    all_goals (simp only [la_r, la_i, la_j]; rfl)
  · cases hh
def b56_10 (L : Nat) (xs : Nat → Int32) (zf : Value) (D : dD) (w : Nat) : Nat → Option Nat → Int32 → Option Nat → Int32 → Int32 → Int32 → rm_H → Option dR
  | 0, _, _, _, _, _, _, _ => none
  | n + 1, o0, i1, o2, i3, i4, i5, h =>
    if mx_f2 .ge i5 i4 = true then
      drI (some .int) i4 h
    else
      ((D 57 [va_rf o0, .int i1] h).bind dxI).bind fun x2 =>
      if mx_f2 .le x2.1 255 = true then
        (dsB x2.2 o2 i3 (Int8.toInt32 (Int32.toInt8 x2.1))).bind fun h14 =>
        b56_10 L xs zf D w n o0 (i1 + 1) o2 (i3 + 1) i4 (i5 + 1) h14
      else
        drI (some .int) i5 x2.2
theorem c56_10 {L : Nat} {xs : Nat → Int32} {zf : Value} {D : dD} {w k : Nat} (hD : dO L xs zf D k) (hz : zf.category = 1) : ∀ (n : Nat) (o0 : Option Nat) (i1 : Int32) (o2 : Option Nat) (i3 : Int32) (i4 : Int32) (i5 : Int32) (lv : rm_L) (h : rm_H) (r : dR), rm_get lv 0 = some (va_rf o0) → rm_get lv 1 = some (.int i1) → rm_get lv 2 = some (va_rf o2) → rm_get lv 3 = some (.int i3) → rm_get lv 4 = some (.int i4) → rm_get lv 5 = some (.int i5) → b56_10 L xs zf D w n  o0 i1 o2 i3 i4 i5 h = some r → dq L xs zf ah_M56 10 lv [] h (k + 1) r := by
  intro n
  induction n with
  | zero =>
    intro o0 i1 o2 i3 i4 i5 lv h r G0 G1 G2 G3 G4 G5 hh
    cases hh
  | succ n ih =>
    intro o0 i1 o2 i3 i4 i5 lv h r G0 G1 G2 G3 G4 G5 hh
    rw [b56_10] at hh
    refine dq_il 5 12 (by decide +kernel) rfl G5 ?_
    refine dq_il 4 14 (by decide +kernel) rfl G4 ?_
    rcases di hh with ⟨q1, hh⟩ | ⟨q1, hh⟩
    · refine dq_2 .ge 39 true 53 q1 (by decide +kernel) ?_
      refine dq_il 4 55 (by decide +kernel) rfl G4 ?_
      exact dq_retI (some .int) (by decide +kernel) rfl hh
    · refine dq_2 .ge 39 false 17 q1 (by decide +kernel) ?_
      refine dq_aln 0 18 (by decide +kernel) rfl G0 ?_
      refine dq_iln 1 19 (by decide +kernel) rfl G1 ?_
      obtain ⟨x2, q3, hh⟩ := db hh
      obtain ⟨a4, q5, q3⟩ := db q3
      rw [dq_xI q3] at q5
      refine dq_cst hD 71 57 0 2 [va_rf o0, .int i1] [] 22 [.int x2.1] (by decide +kernel) ap_57 ⟨⟨Nat.le_of_ble_eq_true rfl, by decide⟩, rfl, rfl⟩ (dq_ok8 [1, 1] [] (dc_r (dc_i dc_n)) dc_n (by decide +kernel)) (by decide +kernel) rfl q5 rfl ?_
      refine dq_is 6 24 (by decide +kernel) (by decide +kernel) ?_
      have g6 := dg_ne (i := 6) (u := .int x2.1) (by decide) (Or.inl (by decide)) G0
      have g7 := dg_ne (i := 6) (u := .int x2.1) (by decide) (Or.inl (by decide)) G1
      have g8 := dg_ne (i := 6) (u := .int x2.1) (by decide) (Or.inl (by decide)) G2
      have g9 := dg_ne (i := 6) (u := .int x2.1) (by decide) (Or.inl (by decide)) G3
      have g10 := dg_ne (i := 6) (u := .int x2.1) (by decide) (Or.inl (by decide)) G4
      have g11 := dg_ne (i := 6) (u := .int x2.1) (by decide) (Or.inr rfl) G5
      have g12 := dg_eq (lv) 6 (.int x2.1)
      refine dq_il 6 26 (by decide +kernel) rfl g12 ?_
      refine dq_S (.sipush 255) 3 [] 29 _ [.int 255, .int x2.1] (by decide +kernel) rfl ?_
      rcases di hh with ⟨q13, hh⟩ | ⟨q13, hh⟩
      · refine dq_2 .le 6 true 35 q13 (by decide +kernel) ?_
        refine dq_aln 2 36 (by decide +kernel) rfl g8 ?_
        refine dq_iln 3 37 (by decide +kernel) rfl g9 ?_
        refine dq_il 6 39 (by decide +kernel) rfl g12 ?_
        refine dq_S (.i2b) 1 [] 40 _ [.int (Int8.toInt32 (Int32.toInt8 x2.1)), .int i3, va_rf o2] (by decide +kernel) rfl ?_
        obtain ⟨h14, q15, hh⟩ := db hh
        refine dq_sB1 41 (by decide +kernel) rfl q15 ?_
        refine dq_incy 1 1 1 44 (by decide +kernel) ⟨rfl, by decide +kernel, by decide +kernel⟩ g7 ?_
        have g16 := dg_ne (i := 1) (u := .int (i1 + 1)) (by decide) (Or.inr (drc _)) g6
        have g17 := dg_ne (i := 1) (u := .int (i1 + 1)) (by decide) (Or.inl (by decide)) g8
        have g18 := dg_ne (i := 1) (u := .int (i1 + 1)) (by decide) (Or.inl (by decide)) g9
        have g19 := dg_ne (i := 1) (u := .int (i1 + 1)) (by decide) (Or.inl (by decide)) g10
        have g20 := dg_ne (i := 1) (u := .int (i1 + 1)) (by decide) (Or.inl (by decide)) g11
        have g21 := dg_ne (i := 1) (u := .int (i1 + 1)) (by decide) (Or.inl (by decide)) g12
        have g22 := dg_eq (rm_set1 (lv) 6 (.int x2.1)) 1 (.int (i1 + 1))
        refine dq_incy 3 1 1 47 (by decide +kernel) ⟨rfl, by decide +kernel, by decide +kernel⟩ g18 ?_
        have g23 := dg_ne (i := 3) (u := .int (i3 + 1)) (by decide) (Or.inl (by decide)) g16
        have g24 := dg_ne (i := 3) (u := .int (i3 + 1)) (by decide) (Or.inr (drc _)) g17
        have g25 := dg_ne (i := 3) (u := .int (i3 + 1)) (by decide) (Or.inl (by decide)) g19
        have g26 := dg_ne (i := 3) (u := .int (i3 + 1)) (by decide) (Or.inl (by decide)) g20
        have g27 := dg_ne (i := 3) (u := .int (i3 + 1)) (by decide) (Or.inl (by decide)) g21
        have g28 := dg_ne (i := 3) (u := .int (i3 + 1)) (by decide) (Or.inl (by decide)) g22
        have g29 := dg_eq (rm_set1 (rm_set1 (lv) 6 (.int x2.1)) 1 (.int (i1 + 1))) 3 (.int (i3 + 1))
        refine dq_incy 5 1 1 50 (by decide +kernel) ⟨rfl, by decide +kernel, by decide +kernel⟩ g26 ?_
        have g30 := dg_ne (i := 5) (u := .int (i5 + 1)) (by decide) (Or.inl (by decide)) g23
        have g31 := dg_ne (i := 5) (u := .int (i5 + 1)) (by decide) (Or.inl (by decide)) g24
        have g32 := dg_ne (i := 5) (u := .int (i5 + 1)) (by decide) (Or.inr rfl) g25
        have g33 := dg_ne (i := 5) (u := .int (i5 + 1)) (by decide) (Or.inl (by decide)) g27
        have g34 := dg_ne (i := 5) (u := .int (i5 + 1)) (by decide) (Or.inl (by decide)) g28
        have g35 := dg_ne (i := 5) (u := .int (i5 + 1)) (by decide) (Or.inl (by decide)) g29
        have g36 := dg_eq (rm_set1 (rm_set1 (rm_set1 (lv) 6 (.int x2.1)) 1 (.int (i1 + 1))) 3 (.int (i3 + 1))) 5 (.int (i5 + 1))
        refine dq_S (.goto (-40)) 3 [] 10 _ [] (by decide +kernel) rfl ?_
        exact ih _ _ _ _ _ _ _ _ _ g30 g34 g31 g35 g32 g36 hh
      · refine dq_2 .le 6 false 32 q13 (by decide +kernel) ?_
        refine dq_il 5 34 (by decide +kernel) rfl g11 ?_
        exact dq_retI (some .int) (by decide +kernel) rfl hh
def b56_0 (L : Nat) (xs : Nat → Int32) (zf : Value) (D : dD) (w : Nat) (o0 : Option Nat) (i1 : Int32) (o2 : Option Nat) (i3 : Int32) (i4 : Int32) (h : rm_H) : Option dR :=
  ((D 27 [.int i1, .int i4, va_rf o0] h).bind dxV).bind fun h1 =>
  b56_10 L xs zf D w w o0 i1 o2 i3 i4 0 h1
theorem c56_0 {L : Nat} {xs : Nat → Int32} {zf : Value} {D : dD} {w k : Nat} (hD : dO L xs zf D k) (hz : zf.category = 1) : ∀ (o0 : Option Nat) (i1 : Int32) (o2 : Option Nat) (i3 : Int32) (i4 : Int32) (lv : rm_L) (h : rm_H) (r : dR), rm_get lv 0 = some (va_rf o0) → rm_get lv 1 = some (.int i1) → rm_get lv 2 = some (va_rf o2) → rm_get lv 3 = some (.int i3) → rm_get lv 4 = some (.int i4) → b56_0 L xs zf D w  o0 i1 o2 i3 i4 h = some r → dq L xs zf ah_M56 0 lv [] h (k + 1) r := by
  intro o0 i1 o2 i3 i4 lv h r G0 G1 G2 G3 G4 hh
  unfold b56_0 at hh
  refine dq_iln 1 1 (by decide +kernel) rfl G1 ?_
  refine dq_il 4 3 (by decide +kernel) rfl G4 ?_
  refine dq_aln 0 4 (by decide +kernel) rfl G0 ?_
  obtain ⟨h1, q2, hh⟩ := db hh
  obtain ⟨a3, q4, q2⟩ := db q2
  rw [dq_xV q2] at q4
  refine dq_cst hD 173 27 0 3 [.int i1, .int i4, va_rf o0] [] 7 [] (by decide +kernel) ap_27 ⟨⟨Nat.le_of_ble_eq_true rfl, by decide⟩, rfl, rfl⟩ (dq_ok8 [1, 1, 1] [] (dc_i (dc_i (dc_r dc_n))) dc_n (by decide +kernel)) (by decide +kernel) rfl q4 rfl ?_
  refine dq_S (.iconst 0) 1 [] 8 _ [.int 0] (by decide +kernel) rfl ?_
  refine dq_is 5 10 (by decide +kernel) (by decide +kernel) ?_
  have g5 := dg_ne (i := 5) (u := .int 0) (by decide) (Or.inl (by decide)) G0
  have g6 := dg_ne (i := 5) (u := .int 0) (by decide) (Or.inl (by decide)) G1
  have g7 := dg_ne (i := 5) (u := .int 0) (by decide) (Or.inl (by decide)) G2
  have g8 := dg_ne (i := 5) (u := .int 0) (by decide) (Or.inl (by decide)) G3
  have g9 := dg_ne (i := 5) (u := .int 0) (by decide) (Or.inr rfl) G4
  have g10 := dg_eq (lv) 5 (.int 0)
  exact c56_10 hD hz _ _ _ _ _ _ _ _ _ _ g5 g6 g7 g8 g9 g10 hh
def f56 (L : Nat) (xs : Nat → Int32) (zf : Value) (D : dD) (w : Nat) (As : List Value) (h : rm_H) : Option dR := match As with
  | [v0, .int i1, v2, .int i3, .int i4] => (rm_rf v0).bind fun o0 => (rm_rf v2).bind fun o2 => b56_0 L xs zf D w o0 i1 o2 i3 i4 h
  | _ => none
theorem d56 {L : Nat} {xs : Nat → Int32} {zf : Value} {D : dD} {w k : Nat} (hD : dO L xs zf D k) (hz : zf.category = 1) (As : List Value) (h : rm_H) (r : dR) (hh : f56 L xs zf D w As h = some r) : dq L xs zf ah_M56 0 (lv_args 0 As) [] h (k + 1) r := by
  unfold f56 at hh
  split at hh
  · obtain ⟨o0, e0, hb0⟩ := db hh
    have e0 := rm_rf_v _ _ e0
    obtain ⟨o2, e2, hb2⟩ := db hb0
    have e2 := rm_rf_v _ _ e2
    subst e0 e2
    refine c56_0 hD hz _ _ _ _ _ _ _ _ ?_ ?_ ?_ ?_ ?_ hb2
    all_goals (simp only [la_r, la_i, la_j]; rfl)
  · cases hh
def b57_28 (L : Nat) (xs : Nat → Int32) (zf : Value) (D : dD) (w : Nat) (o0 : Option Nat) (i1 : Int32) (h : rm_H) : Option dR :=
  (daB L xs h o0 (i1 <<< ((1 : Int32) &&& 31))).bind fun x5 =>
  (daB L xs h o0 ((i1 <<< ((1 : Int32) &&& 31)) + 1)).bind fun x7 =>
  drI (some .char) (UInt32.toInt32 (Int32.toUInt32 (((x5 &&& 255) <<< ((0 : Int32) &&& 31)) ||| ((x7 &&& 255) <<< ((8 : Int32) &&& 31))) % 65536)) h
theorem c57_28 {L : Nat} {xs : Nat → Int32} {zf : Value} {D : dD} {w k : Nat} (hD : dO L xs zf D k) (hz : zf.category = 1) : ∀ (o0 : Option Nat) (i1 : Int32) (lv : rm_L) (h : rm_H) (r : dR), rm_get lv 0 = some (va_rf o0) → rm_get lv 1 = some (.int i1) → b57_28 L xs zf D w  o0 i1 h = some r → dq L xs zf ah_M57 28 lv [] h (k + 1) r := by
  intro o0 i1 lv h r G0 G1 hh
  unfold b57_28 at hh
  refine dq_iln 1 29 (by decide +kernel) rfl G1 ?_
  refine dq_S (.iconst 1) 1 [] 30 _ [.int 1, .int i1] (by decide +kernel) rfl ?_
  refine dq_S (.ishl) 1 [] 31 _ [.int (i1 <<< ((1 : Int32) &&& 31))] (by decide +kernel) rfl ?_
  refine dq_isn 1 32 (by decide +kernel) (by decide +kernel) ?_
  have g1 := dg_ne (i := 1) (u := .int (i1 <<< ((1 : Int32) &&& 31))) (by decide) (Or.inr (drc _)) G0
  have g2 := dg_eq (lv) 1 (.int (i1 <<< ((1 : Int32) &&& 31)))
  refine dq_aln 0 33 (by decide +kernel) rfl g1 ?_
  refine dq_iln 1 34 (by decide +kernel) rfl g2 ?_
  refine dq_incy 1 1 1 37 (by decide +kernel) ⟨rfl, by decide +kernel, by decide +kernel⟩ g2 ?_
  have g3 := dg_ne (i := 1) (u := .int ((i1 <<< ((1 : Int32) &&& 31)) + 1)) (by decide) (Or.inr (drc _)) g1
  have g4 := dg_eq (rm_set1 (lv) 1 (.int (i1 <<< ((1 : Int32) &&& 31)))) 1 (.int ((i1 <<< ((1 : Int32) &&& 31)) + 1))
  obtain ⟨x5, q6, hh⟩ := db hh
  refine dq_aB 38 (by decide +kernel) rfl q6 ?_
  refine dq_S (.sipush 255) 3 [] 41 _ [.int 255, .int x5] (by decide +kernel) rfl ?_
  refine dq_S (.iand) 1 [] 42 _ [.int (x5 &&& 255)] (by decide +kernel) rfl ?_
  refine dq_S (.getstatic 59) 3 [3] 45 _ [.int 0, .int (x5 &&& 255)] (by decide +kernel) rfl ?_
  refine dq_S (.ishl) 1 [] 46 _ [.int ((x5 &&& 255) <<< ((0 : Int32) &&& 31))] (by decide +kernel) rfl ?_
  refine dq_aln 0 47 (by decide +kernel) rfl g3 ?_
  refine dq_iln 1 48 (by decide +kernel) rfl g4 ?_
  obtain ⟨x7, q8, hh⟩ := db hh
  refine dq_aB 49 (by decide +kernel) rfl q8 ?_
  refine dq_S (.sipush 255) 3 [] 52 _ [.int 255, .int x7, .int ((x5 &&& 255) <<< ((0 : Int32) &&& 31))] (by decide +kernel) rfl ?_
  refine dq_S (.iand) 1 [] 53 _ [.int (x7 &&& 255), .int ((x5 &&& 255) <<< ((0 : Int32) &&& 31))] (by decide +kernel) rfl ?_
  refine dq_S (.getstatic 63) 3 [4] 56 _ [.int 8, .int (x7 &&& 255), .int ((x5 &&& 255) <<< ((0 : Int32) &&& 31))] (by decide +kernel) rfl ?_
  refine dq_S (.ishl) 1 [] 57 _ [.int ((x7 &&& 255) <<< ((8 : Int32) &&& 31)), .int ((x5 &&& 255) <<< ((0 : Int32) &&& 31))] (by decide +kernel) rfl ?_
  refine dq_S (.ior) 1 [] 58 _ [.int (((x5 &&& 255) <<< ((0 : Int32) &&& 31)) ||| ((x7 &&& 255) <<< ((8 : Int32) &&& 31)))] (by decide +kernel) rfl ?_
  refine dq_S (.i2c) 1 [] 59 _ [.int (UInt32.toInt32 (Int32.toUInt32 (((x5 &&& 255) <<< ((0 : Int32) &&& 31)) ||| ((x7 &&& 255) <<< ((8 : Int32) &&& 31))) % 65536))] (by decide +kernel) rfl ?_
  exact dq_retI (some .char) (by decide +kernel) rfl hh
def b57_0 (L : Nat) (xs : Nat → Int32) (zf : Value) (D : dD) (w : Nat) (o0 : Option Nat) (i1 : Int32) (h : rm_H) : Option dR :=
  if mx_f1 .ne 1 = true then
    b57_28 L xs zf D w o0 i1 h
  else
    if mx_f1 .lt i1 = true then
      none
    else
      ((D 28 [va_rf o0] h).bind dxI).bind fun x3 =>
      if mx_f2 .lt i1 x3.1 = true then
        b57_28 L xs zf D w o0 i1 x3.2
      else
        none
theorem c57_0 {L : Nat} {xs : Nat → Int32} {zf : Value} {D : dD} {w k : Nat} (hD : dO L xs zf D k) (hz : zf.category = 1) : ∀ (o0 : Option Nat) (i1 : Int32) (lv : rm_L) (h : rm_H) (r : dR), rm_get lv 0 = some (va_rf o0) → rm_get lv 1 = some (.int i1) → b57_0 L xs zf D w  o0 i1 h = some r → dq L xs zf ah_M57 0 lv [] h (k + 1) r := by
  intro o0 i1 lv h r G0 G1 hh
  unfold b57_0 at hh
  refine dq_S (.getstatic 44) 3 [2] 3 _ [.int 1] (by decide +kernel) rfl ?_
  rcases di hh with ⟨q1, hh⟩ | ⟨q1, hh⟩
  · refine dq_1 .ne 25 true 28 q1 (by decide +kernel) ?_
    exact c57_28 hD hz _ _ _ _ _ G0 G1 hh
  · refine dq_1 .ne 25 false 6 q1 (by decide +kernel) ?_
    refine dq_iln 1 7 (by decide +kernel) rfl G1 ?_
    rcases di hh with ⟨q2, hh⟩ | ⟨q2, hh⟩
    · refine dq_1 .lt 11 true 18 q2 (by decide +kernel) ?_
      cases hh
    · refine dq_1 .lt 11 false 10 q2 (by decide +kernel) ?_
      refine dq_iln 1 11 (by decide +kernel) rfl G1 ?_
      refine dq_aln 0 12 (by decide +kernel) rfl G0 ?_
      obtain ⟨x3, q4, hh⟩ := db hh
      obtain ⟨a5, q6, q4⟩ := db q4
      rw [dq_xI q4] at q6
      refine dq_cst hD 48 28 0 1 [va_rf o0] [.int i1] 15 [.int x3.1, .int i1] (by decide +kernel) ap_28 ⟨⟨Nat.le_of_ble_eq_true rfl, by decide⟩, rfl, rfl⟩ (dq_ok8 [1] [1] (dc_r dc_n) (dc_i dc_n) (by decide +kernel)) (by decide +kernel) rfl q6 rfl ?_
      rcases di hh with ⟨q7, hh⟩ | ⟨q7, hh⟩
      · refine dq_2 .lt 13 true 28 q7 (by decide +kernel) ?_
        exact c57_28 hD hz _ _ _ _ _ G0 G1 hh
      · refine dq_2 .lt 13 false 18 q7 (by decide +kernel) ?_
        cases hh
def f57 (L : Nat) (xs : Nat → Int32) (zf : Value) (D : dD) (w : Nat) (As : List Value) (h : rm_H) : Option dR := match As with
  | [v0, .int i1] => (rm_rf v0).bind fun o0 => b57_0 L xs zf D w o0 i1 h
  | _ => none
theorem d57 {L : Nat} {xs : Nat → Int32} {zf : Value} {D : dD} {w k : Nat} (hD : dO L xs zf D k) (hz : zf.category = 1) (As : List Value) (h : rm_H) (r : dR) (hh : f57 L xs zf D w As h = some r) : dq L xs zf ah_M57 0 (lv_args 0 As) [] h (k + 1) r := by
  unfold f57 at hh
  split at hh
  · obtain ⟨o0, e0, hb0⟩ := db hh
    have e0 := rm_rf_v _ _ e0
    subst e0
    refine c57_0 hD hz _ _ _ _ _ ?_ ?_ hb0
    all_goals (simp only [la_r, la_i, la_j]; rfl)
  · cases hh
def b58_0 (L : Nat) (xs : Nat → Int32) (zf : Value) (D : dD) (w : Nat) (o0 : Option Nat) (i1 : Int32) (h : rm_H) : Option dR :=
  (daN L xs h o0).bind fun x1 =>
  drI (some .byte) (Int8.toInt32 (Int32.toInt8 ((((i1 - x1) : Int32).toUInt32 >>> ((31 : Int32).toUInt32 &&& Int32.toUInt32 31)).toInt32))) h
theorem c58_0 {L : Nat} {xs : Nat → Int32} {zf : Value} {D : dD} {w k : Nat} (hD : dO L xs zf D k) (hz : zf.category = 1) : ∀ (o0 : Option Nat) (i1 : Int32) (lv : rm_L) (h : rm_H) (r : dR), rm_get lv 0 = some (va_rf o0) → rm_get lv 1 = some (.int i1) → b58_0 L xs zf D w  o0 i1 h = some r → dq L xs zf ah_M58 0 lv [] h (k + 1) r := by
  intro o0 i1 lv h r G0 G1 hh
  unfold b58_0 at hh
  refine dq_iln 1 1 (by decide +kernel) rfl G1 ?_
  refine dq_aln 0 2 (by decide +kernel) rfl G0 ?_
  obtain ⟨x1, q2, hh⟩ := db hh
  refine dq_aN 3 (by decide +kernel) rfl q2 ?_
  refine dq_S (.isub) 1 [] 4 _ [.int (i1 - x1)] (by decide +kernel) rfl ?_
  refine dq_S (.bipush 31) 2 [] 6 _ [.int 31, .int (i1 - x1)] (by decide +kernel) rfl ?_
  refine dq_S (.iushr) 1 [] 7 _ [.int ((((i1 - x1) : Int32).toUInt32 >>> ((31 : Int32).toUInt32 &&& Int32.toUInt32 31)).toInt32)] (by decide +kernel) rfl ?_
  refine dq_S (.i2b) 1 [] 8 _ [.int (Int8.toInt32 (Int32.toInt8 ((((i1 - x1) : Int32).toUInt32 >>> ((31 : Int32).toUInt32 &&& Int32.toUInt32 31)).toInt32)))] (by decide +kernel) rfl ?_
  exact dq_retI (some .byte) (by decide +kernel) rfl hh
def f58 (L : Nat) (xs : Nat → Int32) (zf : Value) (D : dD) (w : Nat) (As : List Value) (h : rm_H) : Option dR := match As with
  | [v0, .int i1] => (rm_rf v0).bind fun o0 => b58_0 L xs zf D w o0 i1 h
  | _ => none
theorem d58 {L : Nat} {xs : Nat → Int32} {zf : Value} {D : dD} {w k : Nat} (hD : dO L xs zf D k) (hz : zf.category = 1) (As : List Value) (h : rm_H) (r : dR) (hh : f58 L xs zf D w As h = some r) : dq L xs zf ah_M58 0 (lv_args 0 As) [] h (k + 1) r := by
  unfold f58 at hh
  split at hh
  · obtain ⟨o0, e0, hb0⟩ := db hh
    have e0 := rm_rf_v _ _ e0
    subst e0
    refine c58_0 hD hz _ _ _ _ _ ?_ ?_ hb0
    all_goals (simp only [la_r, la_i, la_j]; rfl)
  · cases hh
def b59_0 (L : Nat) (xs : Nat → Int32) (zf : Value) (D : dD) (w : Nat) (o0 : Option Nat) (o1 : Option Nat) (h : rm_H) : Option dR :=
  if dnl o0 = true then none else
  (dpF h 0 [6] o0 (va_rf o1)).bind fun h2 =>
  ((dcV L xs D 60 [7, 16] o1 [] h2).bind dxI).bind fun x4 =>
  (dnI 0 (x4.1 + 1) x4.2).bind fun h8 =>
  (dpF h8 1 [6] o0 (va_rf (some (21 + List.length x4.2)))).bind fun h10 =>
  ((dcV L xs D 60 [7, 16] o1 [] h10).bind dxI).bind fun x12 =>
  (dnI 0 (x12.1 + 1) x12.2).bind fun h16 =>
  (dpF h16 2 [6] o0 (va_rf (some (21 + List.length x12.2)))).bind fun h18 =>
  ((dcV L xs D 60 [7, 16] o1 [] h18).bind dxI).bind fun x20 =>
  (dnI 0 (x20.1 + 1) x20.2).bind fun h24 =>
  (dpF h24 3 [6] o0 (va_rf (some (21 + List.length x20.2)))).bind fun h26 =>
  (dpF h26 4 [6] o0 (.int 0)).bind fun h28 =>
  (dpF h28 5 [6] o0 (.int (-1))).bind fun h30 =>
  (dpF h30 6 [6] o0 (.int 0)).bind fun h32 =>
  (dpF h32 7 [6] o0 (.int 0)).bind fun h34 =>
  (dpF h34 8 [6] o0 (.int (-1))).bind fun h36 =>
  some (none, h36)
theorem c59_0 {L : Nat} {xs : Nat → Int32} {zf : Value} {D : dD} {w k : Nat} (hD : dO L xs zf D k) (hz : zf.category = 1) : ∀ (o0 : Option Nat) (o1 : Option Nat) (lv : rm_L) (h : rm_H) (r : dR), rm_get lv 0 = some (va_rf o0) → rm_get lv 1 = some (va_rf o1) → b59_0 L xs zf D w  o0 o1 h = some r → dq L xs zf ah_M59 0 lv [] h (k + 1) r := by
  intro o0 o1 lv h r G0 G1 hh
  unfold b59_0 at hh
  refine dq_aln 0 1 (by decide +kernel) rfl G0 ?_
  rcases di hh with ⟨_, hh⟩ | ⟨q1, hh⟩
  · cases hh
  refine dq_obj 3 4 (by decide +kernel) (dc_s dc_n (by decide +kernel)) rfl q1 ?_
  refine dq_aln 0 5 (by decide +kernel) rfl G0 ?_
  refine dq_aln 1 6 (by decide +kernel) rfl G1 ?_
  obtain ⟨h2, q3, hh⟩ := db hh
  refine dq_put 9 0 [6] 9 (by decide +kernel) rfl q3 ?_
  refine dq_aln 0 10 (by decide +kernel) rfl G0 ?_
  refine dq_aln 1 11 (by decide +kernel) rfl G1 ?_
  obtain ⟨x4, q5, hh⟩ := db hh
  obtain ⟨a6, q7, q5⟩ := db q5
  rw [dq_xI q5] at q7
  refine dq_cvi hD 15 60 5 0 [7, 16] o1 [] [va_rf o0] 14 [.int x4.1, va_rf o0] (by decide +kernel) ap_60 ⟨⟨Nat.le_of_ble_eq_true rfl, by decide⟩, rfl, rfl⟩ (dq_ok8 [1] [1] (dc_r dc_n) (dc_r dc_n) (by decide +kernel)) (by decide +kernel) rfl q7 rfl ?_
  refine dq_S (.iconst 1) 1 [] 15 _ [.int 1, .int x4.1, va_rf o0] (by decide +kernel) rfl ?_
  refine dq_S (.iadd) 1 [] 16 _ [.int (x4.1 + 1), va_rf o0] (by decide +kernel) rfl ?_
  obtain ⟨h8, q9, hh⟩ := db hh
  refine dq_nI .int 0 18 ⟨Or.inl rfl, rfl⟩ (by decide +kernel) rfl q9 ?_
  obtain ⟨h10, q11, hh⟩ := db hh
  refine dq_put 21 1 [6] 21 (by decide +kernel) rfl q11 ?_
  refine dq_aln 0 22 (by decide +kernel) rfl G0 ?_
  refine dq_aln 1 23 (by decide +kernel) rfl G1 ?_
  obtain ⟨x12, q13, hh⟩ := db hh
  obtain ⟨a14, q15, q13⟩ := db q13
  rw [dq_xI q13] at q15
  refine dq_cvi hD 15 60 5 0 [7, 16] o1 [] [va_rf o0] 26 [.int x12.1, va_rf o0] (by decide +kernel) ap_60 ⟨⟨Nat.le_of_ble_eq_true rfl, by decide⟩, rfl, rfl⟩ (dq_ok8 [1] [1] (dc_r dc_n) (dc_r dc_n) (by decide +kernel)) (by decide +kernel) rfl q15 rfl ?_
  refine dq_S (.iconst 1) 1 [] 27 _ [.int 1, .int x12.1, va_rf o0] (by decide +kernel) rfl ?_
  refine dq_S (.iadd) 1 [] 28 _ [.int (x12.1 + 1), va_rf o0] (by decide +kernel) rfl ?_
  obtain ⟨h16, q17, hh⟩ := db hh
  refine dq_nI .int 0 30 ⟨Or.inl rfl, rfl⟩ (by decide +kernel) rfl q17 ?_
  obtain ⟨h18, q19, hh⟩ := db hh
  refine dq_put 25 2 [6] 33 (by decide +kernel) rfl q19 ?_
  refine dq_aln 0 34 (by decide +kernel) rfl G0 ?_
  refine dq_aln 1 35 (by decide +kernel) rfl G1 ?_
  obtain ⟨x20, q21, hh⟩ := db hh
  obtain ⟨a22, q23, q21⟩ := db q21
  rw [dq_xI q21] at q23
  refine dq_cvi hD 15 60 5 0 [7, 16] o1 [] [va_rf o0] 38 [.int x20.1, va_rf o0] (by decide +kernel) ap_60 ⟨⟨Nat.le_of_ble_eq_true rfl, by decide⟩, rfl, rfl⟩ (dq_ok8 [1] [1] (dc_r dc_n) (dc_r dc_n) (by decide +kernel)) (by decide +kernel) rfl q23 rfl ?_
  refine dq_S (.iconst 1) 1 [] 39 _ [.int 1, .int x20.1, va_rf o0] (by decide +kernel) rfl ?_
  refine dq_S (.iadd) 1 [] 40 _ [.int (x20.1 + 1), va_rf o0] (by decide +kernel) rfl ?_
  obtain ⟨h24, q25, hh⟩ := db hh
  refine dq_nI .int 0 42 ⟨Or.inl rfl, rfl⟩ (by decide +kernel) rfl q25 ?_
  obtain ⟨h26, q27, hh⟩ := db hh
  refine dq_put 28 3 [6] 45 (by decide +kernel) rfl q27 ?_
  refine dq_aln 0 46 (by decide +kernel) rfl G0 ?_
  refine dq_S (.iconst 0) 1 [] 47 _ [.int 0, va_rf o0] (by decide +kernel) rfl ?_
  obtain ⟨h28, q29, hh⟩ := db hh
  refine dq_put 31 4 [6] 50 (by decide +kernel) rfl q29 ?_
  refine dq_aln 0 51 (by decide +kernel) rfl G0 ?_
  refine dq_S (.iconst (-1)) 1 [] 52 _ [.int (-1), va_rf o0] (by decide +kernel) rfl ?_
  obtain ⟨h30, q31, hh⟩ := db hh
  refine dq_put 35 5 [6] 55 (by decide +kernel) rfl q31 ?_
  refine dq_aln 0 56 (by decide +kernel) rfl G0 ?_
  refine dq_S (.iconst 0) 1 [] 57 _ [.int 0, va_rf o0] (by decide +kernel) rfl ?_
  obtain ⟨h32, q33, hh⟩ := db hh
  refine dq_put 38 6 [6] 60 (by decide +kernel) rfl q33 ?_
  refine dq_aln 0 61 (by decide +kernel) rfl G0 ?_
  refine dq_S (.iconst 0) 1 [] 62 _ [.int 0, va_rf o0] (by decide +kernel) rfl ?_
  obtain ⟨h34, q35, hh⟩ := db hh
  refine dq_put 41 7 [6] 65 (by decide +kernel) rfl q35 ?_
  refine dq_aln 0 66 (by decide +kernel) rfl G0 ?_
  refine dq_S (.iconst (-1)) 1 [] 67 _ [.int (-1), va_rf o0] (by decide +kernel) rfl ?_
  obtain ⟨h36, q37, hh⟩ := db hh
  refine dq_put 44 8 [6] 70 (by decide +kernel) rfl q37 ?_
  cases hh
  exact dq_ret0 (by decide +kernel) rfl
def f59 (L : Nat) (xs : Nat → Int32) (zf : Value) (D : dD) (w : Nat) (As : List Value) (h : rm_H) : Option dR := match As with
  | [v0, v1] => (rm_rf v0).bind fun o0 => (rm_rf v1).bind fun o1 => b59_0 L xs zf D w o0 o1 h
  | _ => none
theorem d59 {L : Nat} {xs : Nat → Int32} {zf : Value} {D : dD} {w k : Nat} (hD : dO L xs zf D k) (hz : zf.category = 1) (As : List Value) (h : rm_H) (r : dR) (hh : f59 L xs zf D w As h = some r) : dq L xs zf ah_M59 0 (lv_args 0 As) [] h (k + 1) r := by
  unfold f59 at hh
  split at hh
  · obtain ⟨o0, e0, hb0⟩ := db hh
    have e0 := rm_rf_v _ _ e0
    obtain ⟨o1, e1, hb1⟩ := db hb0
    have e1 := rm_rf_v _ _ e1
    subst e0 e1
    refine c59_0 hD hz _ _ _ _ _ ?_ ?_ hb1
    all_goals (simp only [la_r, la_i, la_j]; rfl)
  · cases hh
def b60_0 (L : Nat) (xs : Nat → Int32) (zf : Value) (D : dD) (w : Nat) (o0 : Option Nat) (h : rm_H) : Option dR :=
  (dgR L xs h 0 [7, 16] o0).bind fun p1 =>
  (daN L xs h p1).bind fun x3 =>
  ((dcV L xs D 61 [7, 16] o0 [] h).bind dxI).bind fun x5 =>
  drI (some .int) (x3 >>> (x5.1 &&& 31)) x5.2
theorem c60_0 {L : Nat} {xs : Nat → Int32} {zf : Value} {D : dD} {w k : Nat} (hD : dO L xs zf D k) (hz : zf.category = 1) : ∀ (o0 : Option Nat) (lv : rm_L) (h : rm_H) (r : dR), rm_get lv 0 = some (va_rf o0) → b60_0 L xs zf D w  o0 h = some r → dq L xs zf ah_M60 0 lv [] h (k + 1) r := by
  intro o0 lv h r G0 hh
  unfold b60_0 at hh
  refine dq_aln 0 1 (by decide +kernel) rfl G0 ?_
  obtain ⟨p1, q2, hh⟩ := db hh
  refine dq_gR 9 0 [7, 16] 4 (by decide +kernel) rfl q2 ?_
  obtain ⟨x3, q4, hh⟩ := db hh
  refine dq_aN 5 (by decide +kernel) rfl q4 ?_
  refine dq_aln 0 6 (by decide +kernel) rfl G0 ?_
  obtain ⟨x5, q6, hh⟩ := db hh
  obtain ⟨a7, q8, q6⟩ := db q6
  rw [dq_xI q6] at q8
  refine dq_cvi hD 335 61 5 0 [7, 16] o0 [] [.int x3] 9 [.int x5.1, .int x3] (by decide +kernel) ap_61 ⟨⟨Nat.le_of_ble_eq_true rfl, by decide⟩, rfl, rfl⟩ (dq_ok8 [1] [1] (dc_r dc_n) (dc_i dc_n) (by decide +kernel)) (by decide +kernel) rfl q8 rfl ?_
  refine dq_S (.ishr) 1 [] 10 _ [.int (x3 >>> (x5.1 &&& 31))] (by decide +kernel) rfl ?_
  exact dq_retI (some .int) (by decide +kernel) rfl hh
def f60 (L : Nat) (xs : Nat → Int32) (zf : Value) (D : dD) (w : Nat) (As : List Value) (h : rm_H) : Option dR := match As with
  | [v0] => (rm_rf v0).bind fun o0 => b60_0 L xs zf D w o0 h
  | _ => none
theorem d60 {L : Nat} {xs : Nat → Int32} {zf : Value} {D : dD} {w k : Nat} (hD : dO L xs zf D k) (hz : zf.category = 1) (As : List Value) (h : rm_H) (r : dR) (hh : f60 L xs zf D w As h = some r) : dq L xs zf ah_M60 0 (lv_args 0 As) [] h (k + 1) r := by
  unfold f60 at hh
  split at hh
  · obtain ⟨o0, e0, hb0⟩ := db hh
    have e0 := rm_rf_v _ _ e0
    subst e0
    refine c60_0 hD hz _ _ _ _ ?_ hb0
    all_goals (simp only [la_r, la_i, la_j]; rfl)
  · cases hh
def b61_14 (L : Nat) (xs : Nat → Int32) (zf : Value) (D : dD) (w : Nat) (s0 : Int32) (h : rm_H) : Option dR :=
  drI (some .byte) s0 h
theorem c61_14 {L : Nat} {xs : Nat → Int32} {zf : Value} {D : dD} {w k : Nat} (hD : dO L xs zf D k) (hz : zf.category = 1) : ∀ (s0 : Int32) (lv : rm_L) (h : rm_H) (r : dR), b61_14 L xs zf D w  s0 h = some r → dq L xs zf ah_M61 14 lv [.int s0] h (k + 1) r := by
  intro s0 lv h r hh
  unfold b61_14 at hh
  exact dq_retI (some .byte) (by decide +kernel) rfl hh
def b61_0 (L : Nat) (xs : Nat → Int32) (zf : Value) (D : dD) (w : Nat) (o0 : Option Nat) (h : rm_H) : Option dR :=
  if mx_f1 .eq 1 = true then
    b61_14 L xs zf D w 1 h
  else
    (dgI L xs h 1 [7, 16] o0).bind fun x2 =>
    b61_14 L xs zf D w x2 h
theorem c61_0 {L : Nat} {xs : Nat → Int32} {zf : Value} {D : dD} {w k : Nat} (hD : dO L xs zf D k) (hz : zf.category = 1) : ∀ (o0 : Option Nat) (lv : rm_L) (h : rm_H) (r : dR), rm_get lv 0 = some (va_rf o0) → b61_0 L xs zf D w  o0 h = some r → dq L xs zf ah_M61 0 lv [] h (k + 1) r := by
  intro o0 lv h r G0 hh
  unfold b61_0 at hh
  refine dq_S (.getstatic 38) 3 [0] 3 _ [.int 1] (by decide +kernel) rfl ?_
  rcases di hh with ⟨q1, hh⟩ | ⟨q1, hh⟩
  · refine dq_1 .eq 10 true 13 q1 (by decide +kernel) ?_
    refine dq_S (.iconst 1) 1 [] 14 _ [.int 1] (by decide +kernel) rfl ?_
    exact c61_14 hD hz _ _ _ _  hh
  · refine dq_1 .eq 10 false 6 q1 (by decide +kernel) ?_
    refine dq_aln 0 7 (by decide +kernel) rfl G0 ?_
    obtain ⟨x2, q3, hh⟩ := db hh
    refine dq_gI 15 1 [7, 16] 10 (by decide +kernel) rfl q3 ?_
    refine dq_S (.goto 4) 3 [] 14 _ [.int x2] (by decide +kernel) rfl ?_
    exact c61_14 hD hz _ _ _ _  hh
def f61 (L : Nat) (xs : Nat → Int32) (zf : Value) (D : dD) (w : Nat) (As : List Value) (h : rm_H) : Option dR := match As with
  | [v0] => (rm_rf v0).bind fun o0 => b61_0 L xs zf D w o0 h
  | _ => none
theorem d61 {L : Nat} {xs : Nat → Int32} {zf : Value} {D : dD} {w k : Nat} (hD : dO L xs zf D k) (hz : zf.category = 1) (As : List Value) (h : rm_H) (r : dR) (hh : f61 L xs zf D w As h = some r) : dq L xs zf ah_M61 0 (lv_args 0 As) [] h (k + 1) r := by
  unfold f61 at hh
  split at hh
  · obtain ⟨o0, e0, hb0⟩ := db hh
    have e0 := rm_rf_v _ _ e0
    subst e0
    refine c61_0 hD hz _ _ _ _ ?_ hb0
    all_goals (simp only [la_r, la_i, la_j]; rfl)
  · cases hh
def b62_87 (L : Nat) (xs : Nat → Int32) (zf : Value) (D : dD) (w : Nat) (K2 : Option Nat → Int32 → rm_H → Option dR) (o0 : Option Nat) (i1 : Int32) (i2 : Int32) (s0 : Int32) (s1 : Int32) (s2 : Option Nat) (h : rm_H) : Option dR :=
  (dsI h s2 s1 s0).bind fun h1 =>
  (dgR L xs h1 2 [6] o0).bind fun p3 =>
  (dgI L xs h1 4 [6] o0).bind fun x5 =>
  (dsI h1 p3 x5 i1).bind fun h7 =>
  (dgR L xs h7 3 [6] o0).bind fun p9 =>
  (dgI L xs h7 4 [6] o0).bind fun x11 =>
  (dsI h7 p9 x11 i2).bind fun h13 =>
  (dgI L xs h13 4 [6] o0).bind fun x15 =>
  (dpF h13 4 [6] o0 (.int (x15 + 1))).bind fun h17 =>
  K2 o0 i2 h17
theorem c62_87 {L : Nat} {xs : Nat → Int32} {zf : Value} {D : dD} {w k : Nat} {K2 : Option Nat → Int32 → rm_H → Option dR} (hD : dO L xs zf D k) (hz : zf.category = 1) (hK2 : ∀ (o0 : Option Nat) (i1 : Int32) (lv : rm_L) (h : rm_H) (r : dR), rm_get lv 0 = some (va_rf o0) → rm_get lv 1 = some (.int i1) → K2 o0 i1 h = some r → dq L xs zf ah_M62 2 lv [] h (k + 1) r) : ∀ (o0 : Option Nat) (i1 : Int32) (i2 : Int32) (s0 : Int32) (s1 : Int32) (s2 : Option Nat) (lv : rm_L) (h : rm_H) (r : dR), rm_get lv 0 = some (va_rf o0) → rm_get lv 1 = some (.int i1) → rm_get lv 2 = some (.int i2) → b62_87 L xs zf D w K2  o0 i1 i2 s0 s1 s2 h = some r → dq L xs zf ah_M62 87 lv [.int s0, .int s1, va_rf s2] h (k + 1) r := by
  intro o0 i1 i2 s0 s1 s2 lv h r G0 G1 G2 hh
  unfold b62_87 at hh
  obtain ⟨h1, q2, hh⟩ := db hh
  refine dq_sI 88 (by decide +kernel) rfl q2 ?_
  refine dq_aln 0 89 (by decide +kernel) rfl G0 ?_
  obtain ⟨p3, q4, hh⟩ := db hh
  refine dq_gR 25 2 [6] 92 (by decide +kernel) rfl q4 ?_
  refine dq_aln 0 93 (by decide +kernel) rfl G0 ?_
  obtain ⟨x5, q6, hh⟩ := db hh
  refine dq_gI 31 4 [6] 96 (by decide +kernel) rfl q6 ?_
  refine dq_iln 1 97 (by decide +kernel) rfl G1 ?_
  obtain ⟨h7, q8, hh⟩ := db hh
  refine dq_sI 98 (by decide +kernel) rfl q8 ?_
  refine dq_aln 0 99 (by decide +kernel) rfl G0 ?_
  obtain ⟨p9, q10, hh⟩ := db hh
  refine dq_gR 28 3 [6] 102 (by decide +kernel) rfl q10 ?_
  refine dq_aln 0 103 (by decide +kernel) rfl G0 ?_
  obtain ⟨x11, q12, hh⟩ := db hh
  refine dq_gI 31 4 [6] 106 (by decide +kernel) rfl q12 ?_
  refine dq_iln 2 107 (by decide +kernel) rfl G2 ?_
  obtain ⟨h13, q14, hh⟩ := db hh
  refine dq_sI 108 (by decide +kernel) rfl q14 ?_
  refine dq_aln 0 109 (by decide +kernel) rfl G0 ?_
  refine dq_dup 110 (by decide +kernel) rfl ?_
  obtain ⟨x15, q16, hh⟩ := db hh
  refine dq_gI 31 4 [6] 113 (by decide +kernel) rfl q16 ?_
  refine dq_S (.iconst 1) 1 [] 114 _ [.int 1, .int x15, va_rf o0] (by decide +kernel) rfl ?_
  refine dq_S (.iadd) 1 [] 115 _ [.int (x15 + 1), va_rf o0] (by decide +kernel) rfl ?_
  obtain ⟨h17, q18, hh⟩ := db hh
  refine dq_put 31 4 [6] 118 (by decide +kernel) rfl q18 ?_
  refine dq_iln 2 119 (by decide +kernel) rfl G2 ?_
  refine dq_isn 1 120 (by decide +kernel) (by decide +kernel) ?_
  have g19 := dg_ne (i := 1) (u := .int i2) (by decide) (Or.inr (drc _)) G0
  have g20 := dg_ne (i := 1) (u := .int i2) (by decide) (Or.inl (by decide)) G2
  have g21 := dg_eq (lv) 1 (.int i2)
  refine dq_S (.goto (-118)) 3 [] 2 _ [] (by decide +kernel) rfl ?_
  exact hK2 _ _ _ _ _ g19 g21 hh
def b62_123 (L : Nat) (xs : Nat → Int32) (zf : Value) (D : dD) (w : Nat) (h : rm_H) : Option dR :=
  some (none, h)
theorem c62_123 {L : Nat} {xs : Nat → Int32} {zf : Value} {D : dD} {w k : Nat} (hD : dO L xs zf D k) (hz : zf.category = 1) : ∀ (lv : rm_L) (h : rm_H) (r : dR), b62_123 L xs zf D w  h = some r → dq L xs zf ah_M62 123 lv [] h (k + 1) r := by
  intro lv h r hh
  unfold b62_123 at hh
  cases hh
  exact dq_ret0 (by decide +kernel) rfl
def b62_2 (L : Nat) (xs : Nat → Int32) (zf : Value) (D : dD) (w : Nat) : Nat → Option Nat → Int32 → rm_H → Option dR
  | 0, _, _, _ => none
  | n + 1, o0, i1, h =>
    (dgR L xs h 0 [6] o0).bind fun p1 =>
    ((dcV L xs D 60 [7, 16] p1 [] h).bind dxI).bind fun x3 =>
    if mx_f2 .ge i1 x3.1 = true then
      b62_123 L xs zf D w x3.2
    else
      (dgI L xs x3.2 4 [6] o0).bind fun x8 =>
      (dgR L xs x3.2 1 [6] o0).bind fun p10 =>
      (daN L xs x3.2 p10).bind fun x12 =>
      if mx_f2 .ge x8 x12 = true then
        b62_123 L xs zf D w x3.2
      else
        (dgR L xs x3.2 0 [6] o0).bind fun p15 =>
        ((dcV L xs D 63 [7, 16] p15 [.int i1] x3.2).bind dxI).bind fun x17 =>
        if mx_f2 .ne x17.1 32 = true then
          ((dcV L xs D 67 [6] o0 [.int i1] x17.2).bind dxI).bind fun x22 =>
          (dgR L xs x22.2 1 [6] o0).bind fun p29 =>
          (dgI L xs x22.2 4 [6] o0).bind fun x31 =>
          (dgR L xs x22.2 0 [6] o0).bind fun p33 =>
          ((dcV L xs D 63 [7, 16] p33 [.int i1] x22.2).bind dxI).bind fun x35 =>
          ((D 68 [.int x35.1] x35.2).bind dxI).bind fun x39 =>
          if mx_f1 .eq x39.1 = true then
            ((dcV L xs D 74 [6] o0 [.int i1, .int x22.1] x39.2).bind dxI).bind fun x44 =>
            b62_87 L xs zf D w (b62_2 L xs zf D w n) o0 i1 x22.1 x44.1 x31 p29 x44.2
          else
            ((dcV L xs D 71 [6] o0 [.int i1, .int x22.1] x39.2).bind dxI).bind fun x48 =>
            b62_87 L xs zf D w (b62_2 L xs zf D w n) o0 i1 x22.1 x48.1 x31 p29 x48.2
        else
          b62_2 L xs zf D w n o0 (i1 + 1) x17.2
theorem c62_2 {L : Nat} {xs : Nat → Int32} {zf : Value} {D : dD} {w k : Nat} (hD : dO L xs zf D k) (hz : zf.category = 1) : ∀ (n : Nat) (o0 : Option Nat) (i1 : Int32) (lv : rm_L) (h : rm_H) (r : dR), rm_get lv 0 = some (va_rf o0) → rm_get lv 1 = some (.int i1) → b62_2 L xs zf D w n  o0 i1 h = some r → dq L xs zf ah_M62 2 lv [] h (k + 1) r := by
  intro n
  induction n with
  | zero =>
    intro o0 i1 lv h r G0 G1 hh
    cases hh
  | succ n ih =>
    intro o0 i1 lv h r G0 G1 hh
    rw [b62_2] at hh
    refine dq_iln 1 3 (by decide +kernel) rfl G1 ?_
    refine dq_aln 0 4 (by decide +kernel) rfl G0 ?_
    obtain ⟨p1, q2, hh⟩ := db hh
    refine dq_gR 9 0 [6] 7 (by decide +kernel) rfl q2 ?_
    obtain ⟨x3, q4, hh⟩ := db hh
    obtain ⟨a5, q6, q4⟩ := db q4
    rw [dq_xI q4] at q6
    refine dq_cvi hD 15 60 5 0 [7, 16] p1 [] [.int i1] 10 [.int x3.1, .int i1] (by decide +kernel) ap_60 ⟨⟨Nat.le_of_ble_eq_true rfl, by decide⟩, rfl, rfl⟩ (dq_ok8 [1] [1] (dc_r dc_n) (dc_i dc_n) (by decide +kernel)) (by decide +kernel) rfl q6 rfl ?_
    rcases di hh with ⟨q7, hh⟩ | ⟨q7, hh⟩
    · refine dq_2 .ge 113 true 123 q7 (by decide +kernel) ?_
      exact c62_123 hD hz  _ _ _  hh
    · refine dq_2 .ge 113 false 13 q7 (by decide +kernel) ?_
      refine dq_aln 0 14 (by decide +kernel) rfl G0 ?_
      obtain ⟨x8, q9, hh⟩ := db hh
      refine dq_gI 31 4 [6] 17 (by decide +kernel) rfl q9 ?_
      refine dq_aln 0 18 (by decide +kernel) rfl G0 ?_
      obtain ⟨p10, q11, hh⟩ := db hh
      refine dq_gR 21 1 [6] 21 (by decide +kernel) rfl q11 ?_
      obtain ⟨x12, q13, hh⟩ := db hh
      refine dq_aN 22 (by decide +kernel) rfl q13 ?_
      rcases di hh with ⟨q14, hh⟩ | ⟨q14, hh⟩
      · refine dq_2 .ge 101 true 123 q14 (by decide +kernel) ?_
        exact c62_123 hD hz  _ _ _  hh
      · refine dq_2 .ge 101 false 25 q14 (by decide +kernel) ?_
        refine dq_aln 0 26 (by decide +kernel) rfl G0 ?_
        obtain ⟨p15, q16, hh⟩ := db hh
        refine dq_gR 9 0 [6] 29 (by decide +kernel) rfl q16 ?_
        refine dq_iln 1 30 (by decide +kernel) rfl G1 ?_
        obtain ⟨x17, q18, hh⟩ := db hh
        obtain ⟨a19, q20, q18⟩ := db q18
        rw [dq_xI q18] at q20
        refine dq_cvi hD 47 63 5 1 [7, 16] p15 [.int i1] [] 33 [.int x17.1] (by decide +kernel) ap_63 ⟨⟨Nat.le_of_ble_eq_true rfl, by decide⟩, rfl, rfl⟩ (dq_ok8 [1, 1] [] (dc_r (dc_i dc_n)) dc_n (by decide +kernel)) (by decide +kernel) rfl q20 rfl ?_
        refine dq_S (.bipush 32) 2 [] 35 _ [.int 32, .int x17.1] (by decide +kernel) rfl ?_
        rcases di hh with ⟨q21, hh⟩ | ⟨q21, hh⟩
        · refine dq_2 .ne 9 true 44 q21 (by decide +kernel) ?_
          refine dq_aln 0 45 (by decide +kernel) rfl G0 ?_
          refine dq_iln 1 46 (by decide +kernel) rfl G1 ?_
          obtain ⟨x22, q23, hh⟩ := db hh
          obtain ⟨a24, q25, q23⟩ := db q23
          rw [dq_xI q23] at q25
          refine dq_cvi hD 51 67 5 1 [6] o0 [.int i1] [] 49 [.int x22.1] (by decide +kernel) ap_67 ⟨⟨Nat.le_of_ble_eq_true rfl, by decide⟩, rfl, rfl⟩ (dq_ok8 [1, 1] [] (dc_r (dc_i dc_n)) dc_n (by decide +kernel)) (by decide +kernel) rfl q25 rfl ?_
          refine dq_isn 2 50 (by decide +kernel) (by decide +kernel) ?_
          have g26 := dg_ne (i := 2) (u := .int x22.1) (by decide) (Or.inl (by decide)) G0
          have g27 := dg_ne (i := 2) (u := .int x22.1) (by decide) (Or.inr rfl) G1
          have g28 := dg_eq (lv) 2 (.int x22.1)
          refine dq_aln 0 51 (by decide +kernel) rfl g26 ?_
          obtain ⟨p29, q30, hh⟩ := db hh
          refine dq_gR 21 1 [6] 54 (by decide +kernel) rfl q30 ?_
          refine dq_aln 0 55 (by decide +kernel) rfl g26 ?_
          obtain ⟨x31, q32, hh⟩ := db hh
          refine dq_gI 31 4 [6] 58 (by decide +kernel) rfl q32 ?_
          refine dq_aln 0 59 (by decide +kernel) rfl g26 ?_
          obtain ⟨p33, q34, hh⟩ := db hh
          refine dq_gR 9 0 [6] 62 (by decide +kernel) rfl q34 ?_
          refine dq_iln 1 63 (by decide +kernel) rfl g27 ?_
          obtain ⟨x35, q36, hh⟩ := db hh
          obtain ⟨a37, q38, q36⟩ := db q36
          rw [dq_xI q36] at q38
          refine dq_cvi hD 47 63 5 1 [7, 16] p33 [.int i1] [.int x31, va_rf p29] 66 [.int x35.1, .int x31, va_rf p29] (by decide +kernel) ap_63 ⟨⟨Nat.le_of_ble_eq_true rfl, by decide⟩, rfl, rfl⟩ (dq_ok8 [1, 1] [1, 1] (dc_r (dc_i dc_n)) (dc_i (dc_r dc_n)) (by decide +kernel)) (by decide +kernel) rfl q38 rfl ?_
          obtain ⟨x39, q40, hh⟩ := db hh
          obtain ⟨a41, q42, q40⟩ := db q40
          rw [dq_xI q40] at q42
          refine dq_cst hD 55 68 0 1 [.int x35.1] [.int x31, va_rf p29] 69 [.int x39.1, .int x31, va_rf p29] (by decide +kernel) ap_68 ⟨⟨Nat.le_of_ble_eq_true rfl, by decide⟩, rfl, rfl⟩ (dq_ok8 [1] [1, 1] (dc_i dc_n) (dc_i (dc_r dc_n)) (by decide +kernel)) (by decide +kernel) rfl q42 rfl ?_
          rcases di hh with ⟨q43, hh⟩ | ⟨q43, hh⟩
          · refine dq_1 .eq 12 true 81 q43 (by decide +kernel) ?_
            refine dq_aln 0 82 (by decide +kernel) rfl g26 ?_
            refine dq_iln 1 83 (by decide +kernel) rfl g27 ?_
            refine dq_iln 2 84 (by decide +kernel) rfl g28 ?_
            obtain ⟨x44, q45, hh⟩ := db hh
            obtain ⟨a46, q47, q45⟩ := db q45
            rw [dq_xI q45] at q47
            refine dq_cvi hD 63 74 5 2 [6] o0 [.int i1, .int x22.1] [.int x31, va_rf p29] 87 [.int x44.1, .int x31, va_rf p29] (by decide +kernel) ap_74 ⟨⟨Nat.le_of_ble_eq_true rfl, by decide⟩, rfl, rfl⟩ (dq_ok8 [1, 1, 1] [1, 1] (dc_r (dc_i (dc_i dc_n))) (dc_i (dc_r dc_n)) (by decide +kernel)) (by decide +kernel) rfl q47 rfl ?_
            exact c62_87 hD hz ih _ _ _ _ _ _ _ _ _ g26 g27 g28 hh
          · refine dq_1 .eq 12 false 72 q43 (by decide +kernel) ?_
            refine dq_aln 0 73 (by decide +kernel) rfl g26 ?_
            refine dq_iln 1 74 (by decide +kernel) rfl g27 ?_
            refine dq_iln 2 75 (by decide +kernel) rfl g28 ?_
            obtain ⟨x48, q49, hh⟩ := db hh
            obtain ⟨a50, q51, q49⟩ := db q49
            rw [dq_xI q49] at q51
            refine dq_cvi hD 59 71 5 2 [6] o0 [.int i1, .int x22.1] [.int x31, va_rf p29] 78 [.int x48.1, .int x31, va_rf p29] (by decide +kernel) ap_71 ⟨⟨Nat.le_of_ble_eq_true rfl, by decide⟩, rfl, rfl⟩ (dq_ok8 [1, 1, 1] [1, 1] (dc_r (dc_i (dc_i dc_n))) (dc_i (dc_r dc_n)) (by decide +kernel)) (by decide +kernel) rfl q51 rfl ?_
            refine dq_S (.goto 9) 3 [] 87 _ [.int x48.1, .int x31, va_rf p29] (by decide +kernel) rfl ?_
            exact c62_87 hD hz ih _ _ _ _ _ _ _ _ _ g26 g27 g28 hh
        · refine dq_2 .ne 9 false 38 q21 (by decide +kernel) ?_
          refine dq_incy 1 1 1 41 (by decide +kernel) ⟨rfl, by decide +kernel, by decide +kernel⟩ G1 ?_
          have g52 := dg_ne (i := 1) (u := .int (i1 + 1)) (by decide) (Or.inr (drc _)) G0
          have g53 := dg_eq (lv) 1 (.int (i1 + 1))
          refine dq_S (.goto (-39)) 3 [] 2 _ [] (by decide +kernel) rfl ?_
          exact ih _ _ _ _ _ g52 g53 hh
def b62_0 (L : Nat) (xs : Nat → Int32) (zf : Value) (D : dD) (w : Nat) (o0 : Option Nat) (h : rm_H) : Option dR :=
  b62_2 L xs zf D w w o0 0 h
theorem c62_0 {L : Nat} {xs : Nat → Int32} {zf : Value} {D : dD} {w k : Nat} (hD : dO L xs zf D k) (hz : zf.category = 1) : ∀ (o0 : Option Nat) (lv : rm_L) (h : rm_H) (r : dR), rm_get lv 0 = some (va_rf o0) → b62_0 L xs zf D w  o0 h = some r → dq L xs zf ah_M62 0 lv [] h (k + 1) r := by
  intro o0 lv h r G0 hh
  unfold b62_0 at hh
  refine dq_S (.iconst 0) 1 [] 1 _ [.int 0] (by decide +kernel) rfl ?_
  refine dq_isn 1 2 (by decide +kernel) (by decide +kernel) ?_
  have g1 := dg_ne (i := 1) (u := .int 0) (by decide) (Or.inr (drc _)) G0
  have g2 := dg_eq (lv) 1 (.int 0)
  exact c62_2 hD hz _ _ _ _ _ _ g1 g2 hh
def f62 (L : Nat) (xs : Nat → Int32) (zf : Value) (D : dD) (w : Nat) (As : List Value) (h : rm_H) : Option dR := match As with
  | [v0] => (rm_rf v0).bind fun o0 => b62_0 L xs zf D w o0 h
  | _ => none
theorem d62 {L : Nat} {xs : Nat → Int32} {zf : Value} {D : dD} {w k : Nat} (hD : dO L xs zf D k) (hz : zf.category = 1) (As : List Value) (h : rm_H) (r : dR) (hh : f62 L xs zf D w As h = some r) : dq L xs zf ah_M62 0 (lv_args 0 As) [] h (k + 1) r := by
  unfold f62 at hh
  split at hh
  · obtain ⟨o0, e0, hb0⟩ := db hh
    have e0 := rm_rf_v _ _ e0
    subst e0
    refine c62_0 hD hz _ _ _ _ ?_ hb0
    all_goals (simp only [la_r, la_i, la_j]; rfl)
  · cases hh
def b63_0 (L : Nat) (xs : Nat → Int32) (zf : Value) (D : dD) (w : Nat) (o0 : Option Nat) (i1 : Int32) (h : rm_H) : Option dR :=
  ((dcV L xs D 64 [7, 16] o0 [] h).bind dxI).bind fun x1 =>
  if mx_f1 .eq x1.1 = true then
    (dgR L xs x1.2 0 [7, 16] o0).bind fun p6 =>
    ((D 66 [va_rf p6, .int i1] x1.2).bind dxI).bind fun x8 =>
    drI (some .char) x8.1 x8.2
  else
    (dgR L xs x1.2 0 [7, 16] o0).bind fun p12 =>
    ((D 65 [va_rf p12, .int i1] x1.2).bind dxI).bind fun x14 =>
    drI (some .char) x14.1 x14.2
theorem c63_0 {L : Nat} {xs : Nat → Int32} {zf : Value} {D : dD} {w k : Nat} (hD : dO L xs zf D k) (hz : zf.category = 1) : ∀ (o0 : Option Nat) (i1 : Int32) (lv : rm_L) (h : rm_H) (r : dR), rm_get lv 0 = some (va_rf o0) → rm_get lv 1 = some (.int i1) → b63_0 L xs zf D w  o0 i1 h = some r → dq L xs zf ah_M63 0 lv [] h (k + 1) r := by
  intro o0 i1 lv h r G0 G1 hh
  unfold b63_0 at hh
  refine dq_aln 0 1 (by decide +kernel) rfl G0 ?_
  obtain ⟨x1, q2, hh⟩ := db hh
  obtain ⟨a3, q4, q2⟩ := db q2
  rw [dq_xI q2] at q4
  refine dq_cvi hD 492 64 5 0 [7, 16] o0 [] [] 4 [.int x1.1] (by decide +kernel) ap_64 ⟨⟨Nat.le_of_ble_eq_true rfl, by decide⟩, rfl, rfl⟩ (dq_ok8 [1] [] (dc_r dc_n) dc_n (by decide +kernel)) (by decide +kernel) rfl q4 rfl ?_
  rcases di hh with ⟨q5, hh⟩ | ⟨q5, hh⟩
  · refine dq_1 .eq 12 true 16 q5 (by decide +kernel) ?_
    refine dq_aln 0 17 (by decide +kernel) rfl G0 ?_
    obtain ⟨p6, q7, hh⟩ := db hh
    refine dq_gR 9 0 [7, 16] 20 (by decide +kernel) rfl q7 ?_
    refine dq_iln 1 21 (by decide +kernel) rfl G1 ?_
    obtain ⟨x8, q9, hh⟩ := db hh
    obtain ⟨a10, q11, q9⟩ := db q9
    rw [dq_xI q9] at q11
    refine dq_cst hD 498 66 0 2 [va_rf p6, .int i1] [] 24 [.int x8.1] (by decide +kernel) ap_66 ⟨⟨Nat.le_of_ble_eq_true rfl, by decide⟩, rfl, rfl⟩ (dq_ok8 [1, 1] [] (dc_r (dc_i dc_n)) dc_n (by decide +kernel)) (by decide +kernel) rfl q11 rfl ?_
    exact dq_retI (some .char) (by decide +kernel) rfl hh
  · refine dq_1 .eq 12 false 7 q5 (by decide +kernel) ?_
    refine dq_aln 0 8 (by decide +kernel) rfl G0 ?_
    obtain ⟨p12, q13, hh⟩ := db hh
    refine dq_gR 9 0 [7, 16] 11 (by decide +kernel) rfl q13 ?_
    refine dq_iln 1 12 (by decide +kernel) rfl G1 ?_
    obtain ⟨x14, q15, hh⟩ := db hh
    obtain ⟨a16, q17, q15⟩ := db q15
    rw [dq_xI q15] at q17
    refine dq_cst hD 495 65 0 2 [va_rf p12, .int i1] [] 15 [.int x14.1] (by decide +kernel) ap_65 ⟨⟨Nat.le_of_ble_eq_true rfl, by decide⟩, rfl, rfl⟩ (dq_ok8 [1, 1] [] (dc_r (dc_i dc_n)) dc_n (by decide +kernel)) (by decide +kernel) rfl q17 rfl ?_
    exact dq_retI (some .char) (by decide +kernel) rfl hh
def f63 (L : Nat) (xs : Nat → Int32) (zf : Value) (D : dD) (w : Nat) (As : List Value) (h : rm_H) : Option dR := match As with
  | [v0, .int i1] => (rm_rf v0).bind fun o0 => b63_0 L xs zf D w o0 i1 h
  | _ => none
theorem d63 {L : Nat} {xs : Nat → Int32} {zf : Value} {D : dD} {w k : Nat} (hD : dO L xs zf D k) (hz : zf.category = 1) (As : List Value) (h : rm_H) (r : dR) (hh : f63 L xs zf D w As h = some r) : dq L xs zf ah_M63 0 (lv_args 0 As) [] h (k + 1) r := by
  unfold f63 at hh
  split at hh
  · obtain ⟨o0, e0, hb0⟩ := db hh
    have e0 := rm_rf_v _ _ e0
    subst e0
    refine c63_0 hD hz _ _ _ _ _ ?_ ?_ hb0
    all_goals (simp only [la_r, la_i, la_j]; rfl)
  · cases hh
def b64_18 (L : Nat) (xs : Nat → Int32) (zf : Value) (D : dD) (w : Nat) (s0 : Int32) (h : rm_H) : Option dR :=
  drI (some .boolean) s0 h
theorem c64_18 {L : Nat} {xs : Nat → Int32} {zf : Value} {D : dD} {w k : Nat} (hD : dO L xs zf D k) (hz : zf.category = 1) : ∀ (s0 : Int32) (lv : rm_L) (h : rm_H) (r : dR), b64_18 L xs zf D w  s0 h = some r → dq L xs zf ah_M64 18 lv [.int s0] h (k + 1) r := by
  intro s0 lv h r hh
  unfold b64_18 at hh
  exact dq_retI (some .boolean) (by decide +kernel) rfl hh
def b64_17 (L : Nat) (xs : Nat → Int32) (zf : Value) (D : dD) (w : Nat) (h : rm_H) : Option dR :=
  b64_18 L xs zf D w 0 h
theorem c64_17 {L : Nat} {xs : Nat → Int32} {zf : Value} {D : dD} {w k : Nat} (hD : dO L xs zf D k) (hz : zf.category = 1) : ∀ (lv : rm_L) (h : rm_H) (r : dR), b64_17 L xs zf D w  h = some r → dq L xs zf ah_M64 17 lv [] h (k + 1) r := by
  intro lv h r hh
  unfold b64_17 at hh
  refine dq_S (.iconst 0) 1 [] 18 _ [.int 0] (by decide +kernel) rfl ?_
  exact c64_18 hD hz _ _ _ _  hh
def b64_0 (L : Nat) (xs : Nat → Int32) (zf : Value) (D : dD) (w : Nat) (o0 : Option Nat) (h : rm_H) : Option dR :=
  if mx_f1 .eq 1 = true then
    b64_17 L xs zf D w h
  else
    (dgI L xs h 1 [7, 16] o0).bind fun x2 =>
    if mx_f1 .ne x2 = true then
      b64_17 L xs zf D w h
    else
      b64_18 L xs zf D w 1 h
theorem c64_0 {L : Nat} {xs : Nat → Int32} {zf : Value} {D : dD} {w k : Nat} (hD : dO L xs zf D k) (hz : zf.category = 1) : ∀ (o0 : Option Nat) (lv : rm_L) (h : rm_H) (r : dR), rm_get lv 0 = some (va_rf o0) → b64_0 L xs zf D w  o0 h = some r → dq L xs zf ah_M64 0 lv [] h (k + 1) r := by
  intro o0 lv h r G0 hh
  unfold b64_0 at hh
  refine dq_S (.getstatic 38) 3 [0] 3 _ [.int 1] (by decide +kernel) rfl ?_
  rcases di hh with ⟨q1, hh⟩ | ⟨q1, hh⟩
  · refine dq_1 .eq 14 true 17 q1 (by decide +kernel) ?_
    exact c64_17 hD hz  _ _ _  hh
  · refine dq_1 .eq 14 false 6 q1 (by decide +kernel) ?_
    refine dq_aln 0 7 (by decide +kernel) rfl G0 ?_
    obtain ⟨x2, q3, hh⟩ := db hh
    refine dq_gI 15 1 [7, 16] 10 (by decide +kernel) rfl q3 ?_
    rcases di hh with ⟨q4, hh⟩ | ⟨q4, hh⟩
    · refine dq_1 .ne 7 true 17 q4 (by decide +kernel) ?_
      exact c64_17 hD hz  _ _ _  hh
    · refine dq_1 .ne 7 false 13 q4 (by decide +kernel) ?_
      refine dq_S (.iconst 1) 1 [] 14 _ [.int 1] (by decide +kernel) rfl ?_
      refine dq_S (.goto 4) 3 [] 18 _ [.int 1] (by decide +kernel) rfl ?_
      exact c64_18 hD hz _ _ _ _  hh
def f64 (L : Nat) (xs : Nat → Int32) (zf : Value) (D : dD) (w : Nat) (As : List Value) (h : rm_H) : Option dR := match As with
  | [v0] => (rm_rf v0).bind fun o0 => b64_0 L xs zf D w o0 h
  | _ => none
theorem d64 {L : Nat} {xs : Nat → Int32} {zf : Value} {D : dD} {w k : Nat} (hD : dO L xs zf D k) (hz : zf.category = 1) (As : List Value) (h : rm_H) (r : dR) (hh : f64 L xs zf D w As h = some r) : dq L xs zf ah_M64 0 (lv_args 0 As) [] h (k + 1) r := by
  unfold f64 at hh
  split at hh
  · obtain ⟨o0, e0, hb0⟩ := db hh
    have e0 := rm_rf_v _ _ e0
    subst e0
    refine c64_0 hD hz _ _ _ _ ?_ hb0
    all_goals (simp only [la_r, la_i, la_j]; rfl)
  · cases hh
def b65_0 (L : Nat) (xs : Nat → Int32) (zf : Value) (D : dD) (w : Nat) (o0 : Option Nat) (i1 : Int32) (h : rm_H) : Option dR :=
  (daN L xs h o0).bind fun x1 =>
  ((D 34 [.int i1, .int x1] h).bind dxV).bind fun h3 =>
  (daB L xs h3 o0 i1).bind fun x7 =>
  drI (some .char) (UInt32.toInt32 (Int32.toUInt32 (x7 &&& 255) % 65536)) h3
theorem c65_0 {L : Nat} {xs : Nat → Int32} {zf : Value} {D : dD} {w k : Nat} (hD : dO L xs zf D k) (hz : zf.category = 1) : ∀ (o0 : Option Nat) (i1 : Int32) (lv : rm_L) (h : rm_H) (r : dR), rm_get lv 0 = some (va_rf o0) → rm_get lv 1 = some (.int i1) → b65_0 L xs zf D w  o0 i1 h = some r → dq L xs zf ah_M65 0 lv [] h (k + 1) r := by
  intro o0 i1 lv h r G0 G1 hh
  unfold b65_0 at hh
  refine dq_iln 1 1 (by decide +kernel) rfl G1 ?_
  refine dq_aln 0 2 (by decide +kernel) rfl G0 ?_
  obtain ⟨x1, q2, hh⟩ := db hh
  refine dq_aN 3 (by decide +kernel) rfl q2 ?_
  obtain ⟨h3, q4, hh⟩ := db hh
  obtain ⟨a5, q6, q4⟩ := db q4
  rw [dq_xV q4] at q6
  refine dq_cst hD 9 34 0 2 [.int i1, .int x1] [] 6 [] (by decide +kernel) ap_34 ⟨⟨Nat.le_of_ble_eq_true rfl, by decide⟩, rfl, rfl⟩ (dq_ok8 [1, 1] [] (dc_i (dc_i dc_n)) dc_n (by decide +kernel)) (by decide +kernel) rfl q6 rfl ?_
  refine dq_aln 0 7 (by decide +kernel) rfl G0 ?_
  refine dq_iln 1 8 (by decide +kernel) rfl G1 ?_
  obtain ⟨x7, q8, hh⟩ := db hh
  refine dq_aB 9 (by decide +kernel) rfl q8 ?_
  refine dq_S (.sipush 255) 3 [] 12 _ [.int 255, .int x7] (by decide +kernel) rfl ?_
  refine dq_S (.iand) 1 [] 13 _ [.int (x7 &&& 255)] (by decide +kernel) rfl ?_
  refine dq_S (.i2c) 1 [] 14 _ [.int (UInt32.toInt32 (Int32.toUInt32 (x7 &&& 255) % 65536))] (by decide +kernel) rfl ?_
  exact dq_retI (some .char) (by decide +kernel) rfl hh
def f65 (L : Nat) (xs : Nat → Int32) (zf : Value) (D : dD) (w : Nat) (As : List Value) (h : rm_H) : Option dR := match As with
  | [v0, .int i1] => (rm_rf v0).bind fun o0 => b65_0 L xs zf D w o0 i1 h
  | _ => none
theorem d65 {L : Nat} {xs : Nat → Int32} {zf : Value} {D : dD} {w k : Nat} (hD : dO L xs zf D k) (hz : zf.category = 1) (As : List Value) (h : rm_H) (r : dR) (hh : f65 L xs zf D w As h = some r) : dq L xs zf ah_M65 0 (lv_args 0 As) [] h (k + 1) r := by
  unfold f65 at hh
  split at hh
  · obtain ⟨o0, e0, hb0⟩ := db hh
    have e0 := rm_rf_v _ _ e0
    subst e0
    refine c65_0 hD hz _ _ _ _ _ ?_ ?_ hb0
    all_goals (simp only [la_r, la_i, la_j]; rfl)
  · cases hh
def b66_0 (L : Nat) (xs : Nat → Int32) (zf : Value) (D : dD) (w : Nat) (o0 : Option Nat) (i1 : Int32) (h : rm_H) : Option dR :=
  ((D 33 [.int i1, va_rf o0] h).bind dxV).bind fun h1 =>
  ((D 57 [va_rf o0, .int i1] h1).bind dxI).bind fun x5 =>
  drI (some .char) x5.1 x5.2
theorem c66_0 {L : Nat} {xs : Nat → Int32} {zf : Value} {D : dD} {w k : Nat} (hD : dO L xs zf D k) (hz : zf.category = 1) : ∀ (o0 : Option Nat) (i1 : Int32) (lv : rm_L) (h : rm_H) (r : dR), rm_get lv 0 = some (va_rf o0) → rm_get lv 1 = some (.int i1) → b66_0 L xs zf D w  o0 i1 h = some r → dq L xs zf ah_M66 0 lv [] h (k + 1) r := by
  intro o0 i1 lv h r G0 G1 hh
  unfold b66_0 at hh
  refine dq_iln 1 1 (by decide +kernel) rfl G1 ?_
  refine dq_aln 0 2 (by decide +kernel) rfl G0 ?_
  obtain ⟨h1, q2, hh⟩ := db hh
  obtain ⟨a3, q4, q2⟩ := db q2
  rw [dq_xV q2] at q4
  refine dq_cst hD 67 33 0 2 [.int i1, va_rf o0] [] 5 [] (by decide +kernel) ap_33 ⟨⟨Nat.le_of_ble_eq_true rfl, by decide⟩, rfl, rfl⟩ (dq_ok8 [1, 1] [] (dc_i (dc_r dc_n)) dc_n (by decide +kernel)) (by decide +kernel) rfl q4 rfl ?_
  refine dq_aln 0 6 (by decide +kernel) rfl G0 ?_
  refine dq_iln 1 7 (by decide +kernel) rfl G1 ?_
  obtain ⟨x5, q6, hh⟩ := db hh
  obtain ⟨a7, q8, q6⟩ := db q6
  rw [dq_xI q6] at q8
  refine dq_cst hD 71 57 0 2 [va_rf o0, .int i1] [] 10 [.int x5.1] (by decide +kernel) ap_57 ⟨⟨Nat.le_of_ble_eq_true rfl, by decide⟩, rfl, rfl⟩ (dq_ok8 [1, 1] [] (dc_r (dc_i dc_n)) dc_n (by decide +kernel)) (by decide +kernel) rfl q8 rfl ?_
  exact dq_retI (some .char) (by decide +kernel) rfl hh
def f66 (L : Nat) (xs : Nat → Int32) (zf : Value) (D : dD) (w : Nat) (As : List Value) (h : rm_H) : Option dR := match As with
  | [v0, .int i1] => (rm_rf v0).bind fun o0 => b66_0 L xs zf D w o0 i1 h
  | _ => none
theorem d66 {L : Nat} {xs : Nat → Int32} {zf : Value} {D : dD} {w k : Nat} (hD : dO L xs zf D k) (hz : zf.category = 1) (As : List Value) (h : rm_H) (r : dR) (hh : f66 L xs zf D w As h = some r) : dq L xs zf ah_M66 0 (lv_args 0 As) [] h (k + 1) r := by
  unfold f66 at hh
  split at hh
  · obtain ⟨o0, e0, hb0⟩ := db hh
    have e0 := rm_rf_v _ _ e0
    subst e0
    refine c66_0 hD hz _ _ _ _ _ ?_ ?_ hb0
    all_goals (simp only [la_r, la_i, la_j]; rfl)
  · cases hh
def b67_100 (L : Nat) (xs : Nat → Int32) (zf : Value) (D : dD) (w : Nat) (s0 : Int32) (h : rm_H) : Option dR :=
  drI (some .int) s0 h
theorem c67_100 {L : Nat} {xs : Nat → Int32} {zf : Value} {D : dD} {w k : Nat} (hD : dO L xs zf D k) (hz : zf.category = 1) : ∀ (s0 : Int32) (lv : rm_L) (h : rm_H) (r : dR), b67_100 L xs zf D w  s0 h = some r → dq L xs zf ah_M67 100 lv [.int s0] h (k + 1) r := by
  intro s0 lv h r hh
  unfold b67_100 at hh
  exact dq_retI (some .int) (by decide +kernel) rfl hh
def b67_86 (L : Nat) (xs : Nat → Int32) (zf : Value) (D : dD) (w : Nat) (i2 : Int32) (s0 : Int32) (h : rm_H) : Option dR :=
  if mx_f1 .eq s0 = true then
    b67_100 L xs zf D w (i2 + 1) h
  else
    b67_100 L xs zf D w (i2 + 2) h
theorem c67_86 {L : Nat} {xs : Nat → Int32} {zf : Value} {D : dD} {w k : Nat} (hD : dO L xs zf D k) (hz : zf.category = 1) : ∀ (i2 : Int32) (s0 : Int32) (lv : rm_L) (h : rm_H) (r : dR), rm_get lv 2 = some (.int i2) → b67_86 L xs zf D w  i2 s0 h = some r → dq L xs zf ah_M67 86 lv [.int s0] h (k + 1) r := by
  intro i2 s0 lv h r G2 hh
  unfold b67_86 at hh
  refine dq_isn 3 87 (by decide +kernel) (by decide +kernel) ?_
  have g1 := dg_ne (i := 3) (u := .int s0) (by decide) (Or.inr rfl) G2
  have g2 := dg_eq (lv) 3 (.int s0)
  refine dq_iln 3 88 (by decide +kernel) rfl g2 ?_
  rcases di hh with ⟨q3, hh⟩ | ⟨q3, hh⟩
  · refine dq_1 .eq 9 true 97 q3 (by decide +kernel) ?_
    refine dq_iln 2 98 (by decide +kernel) rfl g1 ?_
    refine dq_S (.iconst 1) 1 [] 99 _ [.int 1, .int i2] (by decide +kernel) rfl ?_
    refine dq_S (.iadd) 1 [] 100 _ [.int (i2 + 1)] (by decide +kernel) rfl ?_
    exact c67_100 hD hz _ _ _ _  hh
  · refine dq_1 .eq 9 false 91 q3 (by decide +kernel) ?_
    refine dq_iln 2 92 (by decide +kernel) rfl g1 ?_
    refine dq_S (.iconst 2) 1 [] 93 _ [.int 2, .int i2] (by decide +kernel) rfl ?_
    refine dq_S (.iadd) 1 [] 94 _ [.int (i2 + 2)] (by decide +kernel) rfl ?_
    refine dq_S (.goto 6) 3 [] 100 _ [.int (i2 + 2)] (by decide +kernel) rfl ?_
    exact c67_100 hD hz _ _ _ _  hh
def b67_85 (L : Nat) (xs : Nat → Int32) (zf : Value) (D : dD) (w : Nat) (i2 : Int32) (h : rm_H) : Option dR :=
  b67_86 L xs zf D w i2 0 h
theorem c67_85 {L : Nat} {xs : Nat → Int32} {zf : Value} {D : dD} {w k : Nat} (hD : dO L xs zf D k) (hz : zf.category = 1) : ∀ (i2 : Int32) (lv : rm_L) (h : rm_H) (r : dR), rm_get lv 2 = some (.int i2) → b67_85 L xs zf D w  i2 h = some r → dq L xs zf ah_M67 85 lv [] h (k + 1) r := by
  intro i2 lv h r G2 hh
  unfold b67_85 at hh
  refine dq_S (.iconst 0) 1 [] 86 _ [.int 0] (by decide +kernel) rfl ?_
  exact c67_86 hD hz _ _ _ _ _ G2 hh
def b67_33 (L : Nat) (xs : Nat → Int32) (zf : Value) (D : dD) (w : Nat) (o0 : Option Nat) (i1 : Int32) (i2 : Int32) (h : rm_H) : Option dR :=
  if mx_f2 .le i2 i1 = true then
    (dgR L xs h 0 [6] o0).bind fun p2 =>
    ((dcV L xs D 63 [7, 16] p2 [.int i2] h).bind dxI).bind fun x4 =>
    if mx_f2 .ne x4.1 61 = true then
      b67_85 L xs zf D w i2 x4.2
    else
      (dgR L xs x4.2 0 [6] o0).bind fun p9 =>
      ((dcV L xs D 60 [7, 16] p9 [] x4.2).bind dxI).bind fun x11 =>
      if mx_f2 .ge (i2 + 1) x11.1 = true then
        b67_85 L xs zf D w i2 x11.2
      else
        (dgR L xs x11.2 0 [6] o0).bind fun p16 =>
        ((dcV L xs D 63 [7, 16] p16 [.int (i2 + 1)] x11.2).bind dxI).bind fun x18 =>
        if mx_f2 .ne x18.1 61 = true then
          b67_85 L xs zf D w i2 x18.2
        else
          b67_86 L xs zf D w i2 1 x18.2
  else
    drI (some .int) i2 h
theorem c67_33 {L : Nat} {xs : Nat → Int32} {zf : Value} {D : dD} {w k : Nat} (hD : dO L xs zf D k) (hz : zf.category = 1) : ∀ (o0 : Option Nat) (i1 : Int32) (i2 : Int32) (lv : rm_L) (h : rm_H) (r : dR), rm_get lv 0 = some (va_rf o0) → rm_get lv 1 = some (.int i1) → rm_get lv 2 = some (.int i2) → b67_33 L xs zf D w  o0 i1 i2 h = some r → dq L xs zf ah_M67 33 lv [] h (k + 1) r := by
  intro o0 i1 i2 lv h r G0 G1 G2 hh
  unfold b67_33 at hh
  refine dq_iln 2 34 (by decide +kernel) rfl G2 ?_
  refine dq_iln 1 35 (by decide +kernel) rfl G1 ?_
  rcases di hh with ⟨q1, hh⟩ | ⟨q1, hh⟩
  · refine dq_2 .le 5 true 40 q1 (by decide +kernel) ?_
    refine dq_aln 0 41 (by decide +kernel) rfl G0 ?_
    obtain ⟨p2, q3, hh⟩ := db hh
    refine dq_gR 9 0 [6] 44 (by decide +kernel) rfl q3 ?_
    refine dq_iln 2 45 (by decide +kernel) rfl G2 ?_
    obtain ⟨x4, q5, hh⟩ := db hh
    obtain ⟨a6, q7, q5⟩ := db q5
    rw [dq_xI q5] at q7
    refine dq_cvi hD 47 63 5 1 [7, 16] p2 [.int i2] [] 48 [.int x4.1] (by decide +kernel) ap_63 ⟨⟨Nat.le_of_ble_eq_true rfl, by decide⟩, rfl, rfl⟩ (dq_ok8 [1, 1] [] (dc_r (dc_i dc_n)) dc_n (by decide +kernel)) (by decide +kernel) rfl q7 rfl ?_
    refine dq_S (.bipush 61) 2 [] 50 _ [.int 61, .int x4.1] (by decide +kernel) rfl ?_
    rcases di hh with ⟨q8, hh⟩ | ⟨q8, hh⟩
    · refine dq_2 .ne 35 true 85 q8 (by decide +kernel) ?_
      exact c67_85 hD hz _ _ _ _ G2 hh
    · refine dq_2 .ne 35 false 53 q8 (by decide +kernel) ?_
      refine dq_iln 2 54 (by decide +kernel) rfl G2 ?_
      refine dq_S (.iconst 1) 1 [] 55 _ [.int 1, .int i2] (by decide +kernel) rfl ?_
      refine dq_S (.iadd) 1 [] 56 _ [.int (i2 + 1)] (by decide +kernel) rfl ?_
      refine dq_aln 0 57 (by decide +kernel) rfl G0 ?_
      obtain ⟨p9, q10, hh⟩ := db hh
      refine dq_gR 9 0 [6] 60 (by decide +kernel) rfl q10 ?_
      obtain ⟨x11, q12, hh⟩ := db hh
      obtain ⟨a13, q14, q12⟩ := db q12
      rw [dq_xI q12] at q14
      refine dq_cvi hD 15 60 5 0 [7, 16] p9 [] [.int (i2 + 1)] 63 [.int x11.1, .int (i2 + 1)] (by decide +kernel) ap_60 ⟨⟨Nat.le_of_ble_eq_true rfl, by decide⟩, rfl, rfl⟩ (dq_ok8 [1] [1] (dc_r dc_n) (dc_i dc_n) (by decide +kernel)) (by decide +kernel) rfl q14 rfl ?_
      rcases di hh with ⟨q15, hh⟩ | ⟨q15, hh⟩
      · refine dq_2 .ge 22 true 85 q15 (by decide +kernel) ?_
        exact c67_85 hD hz _ _ _ _ G2 hh
      · refine dq_2 .ge 22 false 66 q15 (by decide +kernel) ?_
        refine dq_aln 0 67 (by decide +kernel) rfl G0 ?_
        obtain ⟨p16, q17, hh⟩ := db hh
        refine dq_gR 9 0 [6] 70 (by decide +kernel) rfl q17 ?_
        refine dq_iln 2 71 (by decide +kernel) rfl G2 ?_
        refine dq_S (.iconst 1) 1 [] 72 _ [.int 1, .int i2, va_rf p16] (by decide +kernel) rfl ?_
        refine dq_S (.iadd) 1 [] 73 _ [.int (i2 + 1), va_rf p16] (by decide +kernel) rfl ?_
        obtain ⟨x18, q19, hh⟩ := db hh
        obtain ⟨a20, q21, q19⟩ := db q19
        rw [dq_xI q19] at q21
        refine dq_cvi hD 47 63 5 1 [7, 16] p16 [.int (i2 + 1)] [] 76 [.int x18.1] (by decide +kernel) ap_63 ⟨⟨Nat.le_of_ble_eq_true rfl, by decide⟩, rfl, rfl⟩ (dq_ok8 [1, 1] [] (dc_r (dc_i dc_n)) dc_n (by decide +kernel)) (by decide +kernel) rfl q21 rfl ?_
        refine dq_S (.bipush 61) 2 [] 78 _ [.int 61, .int x18.1] (by decide +kernel) rfl ?_
        rcases di hh with ⟨q22, hh⟩ | ⟨q22, hh⟩
        · refine dq_2 .ne 7 true 85 q22 (by decide +kernel) ?_
          exact c67_85 hD hz _ _ _ _ G2 hh
        · refine dq_2 .ne 7 false 81 q22 (by decide +kernel) ?_
          refine dq_S (.iconst 1) 1 [] 82 _ [.int 1] (by decide +kernel) rfl ?_
          refine dq_S (.goto 4) 3 [] 86 _ [.int 1] (by decide +kernel) rfl ?_
          exact c67_86 hD hz _ _ _ _ _ G2 hh
  · refine dq_2 .le 5 false 38 q1 (by decide +kernel) ?_
    refine dq_iln 2 39 (by decide +kernel) rfl G2 ?_
    exact dq_retI (some .int) (by decide +kernel) rfl hh
def b67_2 (L : Nat) (xs : Nat → Int32) (zf : Value) (D : dD) (w : Nat) : Nat → Option Nat → Int32 → Int32 → rm_H → Option dR
  | 0, _, _, _, _ => none
  | n + 1, o0, i1, i2, h =>
    (dgR L xs h 0 [6] o0).bind fun p1 =>
    ((dcV L xs D 60 [7, 16] p1 [] h).bind dxI).bind fun x3 =>
    if mx_f2 .ge i2 x3.1 = true then
      b67_33 L xs zf D w o0 i1 i2 x3.2
    else
      (dgR L xs x3.2 0 [6] o0).bind fun p8 =>
      ((dcV L xs D 63 [7, 16] p8 [.int i2] x3.2).bind dxI).bind fun x10 =>
      ((D 68 [.int x10.1] x10.2).bind dxI).bind fun x14 =>
      if mx_f1 .eq x14.1 = true then
        b67_33 L xs zf D w o0 i1 i2 x14.2
      else
        b67_2 L xs zf D w n o0 i1 (i2 + 1) x14.2
theorem c67_2 {L : Nat} {xs : Nat → Int32} {zf : Value} {D : dD} {w k : Nat} (hD : dO L xs zf D k) (hz : zf.category = 1) : ∀ (n : Nat) (o0 : Option Nat) (i1 : Int32) (i2 : Int32) (lv : rm_L) (h : rm_H) (r : dR), rm_get lv 0 = some (va_rf o0) → rm_get lv 1 = some (.int i1) → rm_get lv 2 = some (.int i2) → b67_2 L xs zf D w n  o0 i1 i2 h = some r → dq L xs zf ah_M67 2 lv [] h (k + 1) r := by
  intro n
  induction n with
  | zero =>
    intro o0 i1 i2 lv h r G0 G1 G2 hh
    cases hh
  | succ n ih =>
    intro o0 i1 i2 lv h r G0 G1 G2 hh
    rw [b67_2] at hh
    refine dq_iln 2 3 (by decide +kernel) rfl G2 ?_
    refine dq_aln 0 4 (by decide +kernel) rfl G0 ?_
    obtain ⟨p1, q2, hh⟩ := db hh
    refine dq_gR 9 0 [6] 7 (by decide +kernel) rfl q2 ?_
    obtain ⟨x3, q4, hh⟩ := db hh
    obtain ⟨a5, q6, q4⟩ := db q4
    rw [dq_xI q4] at q6
    refine dq_cvi hD 15 60 5 0 [7, 16] p1 [] [.int i2] 10 [.int x3.1, .int i2] (by decide +kernel) ap_60 ⟨⟨Nat.le_of_ble_eq_true rfl, by decide⟩, rfl, rfl⟩ (dq_ok8 [1] [1] (dc_r dc_n) (dc_i dc_n) (by decide +kernel)) (by decide +kernel) rfl q6 rfl ?_
    rcases di hh with ⟨q7, hh⟩ | ⟨q7, hh⟩
    · refine dq_2 .ge 23 true 33 q7 (by decide +kernel) ?_
      exact c67_33 hD hz _ _ _ _ _ _ G0 G1 G2 hh
    · refine dq_2 .ge 23 false 13 q7 (by decide +kernel) ?_
      refine dq_aln 0 14 (by decide +kernel) rfl G0 ?_
      obtain ⟨p8, q9, hh⟩ := db hh
      refine dq_gR 9 0 [6] 17 (by decide +kernel) rfl q9 ?_
      refine dq_iln 2 18 (by decide +kernel) rfl G2 ?_
      obtain ⟨x10, q11, hh⟩ := db hh
      obtain ⟨a12, q13, q11⟩ := db q11
      rw [dq_xI q11] at q13
      refine dq_cvi hD 47 63 5 1 [7, 16] p8 [.int i2] [] 21 [.int x10.1] (by decide +kernel) ap_63 ⟨⟨Nat.le_of_ble_eq_true rfl, by decide⟩, rfl, rfl⟩ (dq_ok8 [1, 1] [] (dc_r (dc_i dc_n)) dc_n (by decide +kernel)) (by decide +kernel) rfl q13 rfl ?_
      obtain ⟨x14, q15, hh⟩ := db hh
      obtain ⟨a16, q17, q15⟩ := db q15
      rw [dq_xI q15] at q17
      refine dq_cst hD 55 68 0 1 [.int x10.1] [] 24 [.int x14.1] (by decide +kernel) ap_68 ⟨⟨Nat.le_of_ble_eq_true rfl, by decide⟩, rfl, rfl⟩ (dq_ok8 [1] [] (dc_i dc_n) dc_n (by decide +kernel)) (by decide +kernel) rfl q17 rfl ?_
      rcases di hh with ⟨q18, hh⟩ | ⟨q18, hh⟩
      · refine dq_1 .eq 9 true 33 q18 (by decide +kernel) ?_
        exact c67_33 hD hz _ _ _ _ _ _ G0 G1 G2 hh
      · refine dq_1 .eq 9 false 27 q18 (by decide +kernel) ?_
        refine dq_incy 2 1 1 30 (by decide +kernel) ⟨rfl, by decide +kernel, by decide +kernel⟩ G2 ?_
        have g19 := dg_ne (i := 2) (u := .int (i2 + 1)) (by decide) (Or.inl (by decide)) G0
        have g20 := dg_ne (i := 2) (u := .int (i2 + 1)) (by decide) (Or.inr rfl) G1
        have g21 := dg_eq (lv) 2 (.int (i2 + 1))
        refine dq_S (.goto (-28)) 3 [] 2 _ [] (by decide +kernel) rfl ?_
        exact ih _ _ _ _ _ _ g19 g20 g21 hh
def b67_0 (L : Nat) (xs : Nat → Int32) (zf : Value) (D : dD) (w : Nat) (o0 : Option Nat) (i1 : Int32) (h : rm_H) : Option dR :=
  b67_2 L xs zf D w w o0 i1 i1 h
theorem c67_0 {L : Nat} {xs : Nat → Int32} {zf : Value} {D : dD} {w k : Nat} (hD : dO L xs zf D k) (hz : zf.category = 1) : ∀ (o0 : Option Nat) (i1 : Int32) (lv : rm_L) (h : rm_H) (r : dR), rm_get lv 0 = some (va_rf o0) → rm_get lv 1 = some (.int i1) → b67_0 L xs zf D w  o0 i1 h = some r → dq L xs zf ah_M67 0 lv [] h (k + 1) r := by
  intro o0 i1 lv h r G0 G1 hh
  unfold b67_0 at hh
  refine dq_iln 1 1 (by decide +kernel) rfl G1 ?_
  refine dq_isn 2 2 (by decide +kernel) (by decide +kernel) ?_
  have g1 := dg_ne (i := 2) (u := .int i1) (by decide) (Or.inl (by decide)) G0
  have g2 := dg_ne (i := 2) (u := .int i1) (by decide) (Or.inr rfl) G1
  have g3 := dg_eq (lv) 2 (.int i1)
  exact c67_2 hD hz _ _ _ _ _ _ _ g1 g2 g3 hh
def f67 (L : Nat) (xs : Nat → Int32) (zf : Value) (D : dD) (w : Nat) (As : List Value) (h : rm_H) : Option dR := match As with
  | [v0, .int i1] => (rm_rf v0).bind fun o0 => b67_0 L xs zf D w o0 i1 h
  | _ => none
theorem d67 {L : Nat} {xs : Nat → Int32} {zf : Value} {D : dD} {w k : Nat} (hD : dO L xs zf D k) (hz : zf.category = 1) (As : List Value) (h : rm_H) (r : dR) (hh : f67 L xs zf D w As h = some r) : dq L xs zf ah_M67 0 (lv_args 0 As) [] h (k + 1) r := by
  unfold f67 at hh
  split at hh
  · obtain ⟨o0, e0, hb0⟩ := db hh
    have e0 := rm_rf_v _ _ e0
    subst e0
    refine c67_0 hD hz _ _ _ _ _ ?_ ?_ hb0
    all_goals (simp only [la_r, la_i, la_j]; rfl)
  · cases hh
def b68_31 (L : Nat) (xs : Nat → Int32) (zf : Value) (D : dD) (w : Nat) (s0 : Int32) (h : rm_H) : Option dR :=
  drI (some .boolean) s0 h
theorem c68_31 {L : Nat} {xs : Nat → Int32} {zf : Value} {D : dD} {w k : Nat} (hD : dO L xs zf D k) (hz : zf.category = 1) : ∀ (s0 : Int32) (lv : rm_L) (h : rm_H) (r : dR), b68_31 L xs zf D w  s0 h = some r → dq L xs zf ah_M68 31 lv [.int s0] h (k + 1) r := by
  intro s0 lv h r hh
  unfold b68_31 at hh
  exact dq_retI (some .boolean) (by decide +kernel) rfl hh
def b68_26 (L : Nat) (xs : Nat → Int32) (zf : Value) (D : dD) (w : Nat) (h : rm_H) : Option dR :=
  b68_31 L xs zf D w 1 h
theorem c68_26 {L : Nat} {xs : Nat → Int32} {zf : Value} {D : dD} {w k : Nat} (hD : dO L xs zf D k) (hz : zf.category = 1) : ∀ (lv : rm_L) (h : rm_H) (r : dR), b68_26 L xs zf D w  h = some r → dq L xs zf ah_M68 26 lv [] h (k + 1) r := by
  intro lv h r hh
  unfold b68_26 at hh
  refine dq_S (.iconst 1) 1 [] 27 _ [.int 1] (by decide +kernel) rfl ?_
  refine dq_S (.goto 4) 3 [] 31 _ [.int 1] (by decide +kernel) rfl ?_
  exact c68_31 hD hz _ _ _ _  hh
def b68_30 (L : Nat) (xs : Nat → Int32) (zf : Value) (D : dD) (w : Nat) (h : rm_H) : Option dR :=
  b68_31 L xs zf D w 0 h
theorem c68_30 {L : Nat} {xs : Nat → Int32} {zf : Value} {D : dD} {w k : Nat} (hD : dO L xs zf D k) (hz : zf.category = 1) : ∀ (lv : rm_L) (h : rm_H) (r : dR), b68_30 L xs zf D w  h = some r → dq L xs zf ah_M68 30 lv [] h (k + 1) r := by
  intro lv h r hh
  unfold b68_30 at hh
  refine dq_S (.iconst 0) 1 [] 31 _ [.int 0] (by decide +kernel) rfl ?_
  exact c68_31 hD hz _ _ _ _  hh
def b68_0 (L : Nat) (xs : Nat → Int32) (zf : Value) (D : dD) (w : Nat) (i0 : Int32) (h : rm_H) : Option dR :=
  ((D 69 [.int i0] h).bind dxI).bind fun x1 =>
  if mx_f1 .ne x1.1 = true then
    b68_26 L xs zf D w x1.2
  else
    ((D 70 [.int i0] x1.2).bind dxI).bind fun x6 =>
    if mx_f1 .ne x6.1 = true then
      b68_26 L xs zf D w x6.2
    else
      if mx_f2 .lt i0 97 = true then
        b68_30 L xs zf D w x6.2
      else
        if mx_f2 .gt i0 122 = true then
          b68_30 L xs zf D w x6.2
        else
          b68_26 L xs zf D w x6.2
theorem c68_0 {L : Nat} {xs : Nat → Int32} {zf : Value} {D : dD} {w k : Nat} (hD : dO L xs zf D k) (hz : zf.category = 1) : ∀ (i0 : Int32) (lv : rm_L) (h : rm_H) (r : dR), rm_get lv 0 = some (.int i0) → b68_0 L xs zf D w  i0 h = some r → dq L xs zf ah_M68 0 lv [] h (k + 1) r := by
  intro i0 lv h r G0 hh
  unfold b68_0 at hh
  refine dq_iln 0 1 (by decide +kernel) rfl G0 ?_
  obtain ⟨x1, q2, hh⟩ := db hh
  obtain ⟨a3, q4, q2⟩ := db q2
  rw [dq_xI q2] at q4
  refine dq_cst hD 77 69 0 1 [.int i0] [] 4 [.int x1.1] (by decide +kernel) ap_69 ⟨⟨Nat.le_of_ble_eq_true rfl, by decide⟩, rfl, rfl⟩ (dq_ok8 [1] [] (dc_i dc_n) dc_n (by decide +kernel)) (by decide +kernel) rfl q4 rfl ?_
  rcases di hh with ⟨q5, hh⟩ | ⟨q5, hh⟩
  · refine dq_1 .ne 22 true 26 q5 (by decide +kernel) ?_
    exact c68_26 hD hz  _ _ _  hh
  · refine dq_1 .ne 22 false 7 q5 (by decide +kernel) ?_
    refine dq_iln 0 8 (by decide +kernel) rfl G0 ?_
    obtain ⟨x6, q7, hh⟩ := db hh
    obtain ⟨a8, q9, q7⟩ := db q7
    rw [dq_xI q7] at q9
    refine dq_cst hD 80 70 0 1 [.int i0] [] 11 [.int x6.1] (by decide +kernel) ap_70 ⟨⟨Nat.le_of_ble_eq_true rfl, by decide⟩, rfl, rfl⟩ (dq_ok8 [1] [] (dc_i dc_n) dc_n (by decide +kernel)) (by decide +kernel) rfl q9 rfl ?_
    rcases di hh with ⟨q10, hh⟩ | ⟨q10, hh⟩
    · refine dq_1 .ne 15 true 26 q10 (by decide +kernel) ?_
      exact c68_26 hD hz  _ _ _  hh
    · refine dq_1 .ne 15 false 14 q10 (by decide +kernel) ?_
      refine dq_iln 0 15 (by decide +kernel) rfl G0 ?_
      refine dq_S (.bipush 97) 2 [] 17 _ [.int 97, .int i0] (by decide +kernel) rfl ?_
      rcases di hh with ⟨q11, hh⟩ | ⟨q11, hh⟩
      · refine dq_2 .lt 13 true 30 q11 (by decide +kernel) ?_
        exact c68_30 hD hz  _ _ _  hh
      · refine dq_2 .lt 13 false 20 q11 (by decide +kernel) ?_
        refine dq_iln 0 21 (by decide +kernel) rfl G0 ?_
        refine dq_S (.bipush 122) 2 [] 23 _ [.int 122, .int i0] (by decide +kernel) rfl ?_
        rcases di hh with ⟨q12, hh⟩ | ⟨q12, hh⟩
        · refine dq_2 .gt 7 true 30 q12 (by decide +kernel) ?_
          exact c68_30 hD hz  _ _ _  hh
        · refine dq_2 .gt 7 false 26 q12 (by decide +kernel) ?_
          exact c68_26 hD hz  _ _ _  hh
def f68 (L : Nat) (xs : Nat → Int32) (zf : Value) (D : dD) (w : Nat) (As : List Value) (h : rm_H) : Option dR := match As with
  | [.int i0] => b68_0 L xs zf D w i0 h
  | _ => none
theorem d68 {L : Nat} {xs : Nat → Int32} {zf : Value} {D : dD} {w k : Nat} (hD : dO L xs zf D k) (hz : zf.category = 1) (As : List Value) (h : rm_H) (r : dR) (hh : f68 L xs zf D w As h = some r) : dq L xs zf ah_M68 0 (lv_args 0 As) [] h (k + 1) r := by
  unfold f68 at hh
  split at hh
  · refine c68_0 hD hz _ _ _ _ ?_ hh
    all_goals (simp only [la_r, la_i, la_j]; rfl)
  · cases hh
def b69_17 (L : Nat) (xs : Nat → Int32) (zf : Value) (D : dD) (w : Nat) (s0 : Int32) (h : rm_H) : Option dR :=
  drI (some .boolean) s0 h
theorem c69_17 {L : Nat} {xs : Nat → Int32} {zf : Value} {D : dD} {w k : Nat} (hD : dO L xs zf D k) (hz : zf.category = 1) : ∀ (s0 : Int32) (lv : rm_L) (h : rm_H) (r : dR), b69_17 L xs zf D w  s0 h = some r → dq L xs zf ah_M69 17 lv [.int s0] h (k + 1) r := by
  intro s0 lv h r hh
  unfold b69_17 at hh
  exact dq_retI (some .boolean) (by decide +kernel) rfl hh
def b69_16 (L : Nat) (xs : Nat → Int32) (zf : Value) (D : dD) (w : Nat) (h : rm_H) : Option dR :=
  b69_17 L xs zf D w 0 h
theorem c69_16 {L : Nat} {xs : Nat → Int32} {zf : Value} {D : dD} {w k : Nat} (hD : dO L xs zf D k) (hz : zf.category = 1) : ∀ (lv : rm_L) (h : rm_H) (r : dR), b69_16 L xs zf D w  h = some r → dq L xs zf ah_M69 16 lv [] h (k + 1) r := by
  intro lv h r hh
  unfold b69_16 at hh
  refine dq_S (.iconst 0) 1 [] 17 _ [.int 0] (by decide +kernel) rfl ?_
  exact c69_17 hD hz _ _ _ _  hh
def b69_0 (L : Nat) (xs : Nat → Int32) (zf : Value) (D : dD) (w : Nat) (i0 : Int32) (h : rm_H) : Option dR :=
  if mx_f2 .lt i0 48 = true then
    b69_16 L xs zf D w h
  else
    if mx_f2 .gt i0 57 = true then
      b69_16 L xs zf D w h
    else
      b69_17 L xs zf D w 1 h
theorem c69_0 {L : Nat} {xs : Nat → Int32} {zf : Value} {D : dD} {w k : Nat} (hD : dO L xs zf D k) (hz : zf.category = 1) : ∀ (i0 : Int32) (lv : rm_L) (h : rm_H) (r : dR), rm_get lv 0 = some (.int i0) → b69_0 L xs zf D w  i0 h = some r → dq L xs zf ah_M69 0 lv [] h (k + 1) r := by
  intro i0 lv h r G0 hh
  unfold b69_0 at hh
  refine dq_iln 0 1 (by decide +kernel) rfl G0 ?_
  refine dq_S (.bipush 48) 2 [] 3 _ [.int 48, .int i0] (by decide +kernel) rfl ?_
  rcases di hh with ⟨q1, hh⟩ | ⟨q1, hh⟩
  · refine dq_2 .lt 13 true 16 q1 (by decide +kernel) ?_
    exact c69_16 hD hz  _ _ _  hh
  · refine dq_2 .lt 13 false 6 q1 (by decide +kernel) ?_
    refine dq_iln 0 7 (by decide +kernel) rfl G0 ?_
    refine dq_S (.bipush 57) 2 [] 9 _ [.int 57, .int i0] (by decide +kernel) rfl ?_
    rcases di hh with ⟨q2, hh⟩ | ⟨q2, hh⟩
    · refine dq_2 .gt 7 true 16 q2 (by decide +kernel) ?_
      exact c69_16 hD hz  _ _ _  hh
    · refine dq_2 .gt 7 false 12 q2 (by decide +kernel) ?_
      refine dq_S (.iconst 1) 1 [] 13 _ [.int 1] (by decide +kernel) rfl ?_
      refine dq_S (.goto 4) 3 [] 17 _ [.int 1] (by decide +kernel) rfl ?_
      exact c69_17 hD hz _ _ _ _  hh
def f69 (L : Nat) (xs : Nat → Int32) (zf : Value) (D : dD) (w : Nat) (As : List Value) (h : rm_H) : Option dR := match As with
  | [.int i0] => b69_0 L xs zf D w i0 h
  | _ => none
theorem d69 {L : Nat} {xs : Nat → Int32} {zf : Value} {D : dD} {w k : Nat} (hD : dO L xs zf D k) (hz : zf.category = 1) (As : List Value) (h : rm_H) (r : dR) (hh : f69 L xs zf D w As h = some r) : dq L xs zf ah_M69 0 (lv_args 0 As) [] h (k + 1) r := by
  unfold f69 at hh
  split at hh
  · refine c69_0 hD hz _ _ _ _ ?_ hh
    all_goals (simp only [la_r, la_i, la_j]; rfl)
  · cases hh
def b70_17 (L : Nat) (xs : Nat → Int32) (zf : Value) (D : dD) (w : Nat) (s0 : Int32) (h : rm_H) : Option dR :=
  drI (some .boolean) s0 h
theorem c70_17 {L : Nat} {xs : Nat → Int32} {zf : Value} {D : dD} {w k : Nat} (hD : dO L xs zf D k) (hz : zf.category = 1) : ∀ (s0 : Int32) (lv : rm_L) (h : rm_H) (r : dR), b70_17 L xs zf D w  s0 h = some r → dq L xs zf ah_M70 17 lv [.int s0] h (k + 1) r := by
  intro s0 lv h r hh
  unfold b70_17 at hh
  exact dq_retI (some .boolean) (by decide +kernel) rfl hh
def b70_16 (L : Nat) (xs : Nat → Int32) (zf : Value) (D : dD) (w : Nat) (h : rm_H) : Option dR :=
  b70_17 L xs zf D w 0 h
theorem c70_16 {L : Nat} {xs : Nat → Int32} {zf : Value} {D : dD} {w k : Nat} (hD : dO L xs zf D k) (hz : zf.category = 1) : ∀ (lv : rm_L) (h : rm_H) (r : dR), b70_16 L xs zf D w  h = some r → dq L xs zf ah_M70 16 lv [] h (k + 1) r := by
  intro lv h r hh
  unfold b70_16 at hh
  refine dq_S (.iconst 0) 1 [] 17 _ [.int 0] (by decide +kernel) rfl ?_
  exact c70_17 hD hz _ _ _ _  hh
def b70_0 (L : Nat) (xs : Nat → Int32) (zf : Value) (D : dD) (w : Nat) (i0 : Int32) (h : rm_H) : Option dR :=
  if mx_f2 .lt i0 65 = true then
    b70_16 L xs zf D w h
  else
    if mx_f2 .gt i0 90 = true then
      b70_16 L xs zf D w h
    else
      b70_17 L xs zf D w 1 h
theorem c70_0 {L : Nat} {xs : Nat → Int32} {zf : Value} {D : dD} {w k : Nat} (hD : dO L xs zf D k) (hz : zf.category = 1) : ∀ (i0 : Int32) (lv : rm_L) (h : rm_H) (r : dR), rm_get lv 0 = some (.int i0) → b70_0 L xs zf D w  i0 h = some r → dq L xs zf ah_M70 0 lv [] h (k + 1) r := by
  intro i0 lv h r G0 hh
  unfold b70_0 at hh
  refine dq_iln 0 1 (by decide +kernel) rfl G0 ?_
  refine dq_S (.bipush 65) 2 [] 3 _ [.int 65, .int i0] (by decide +kernel) rfl ?_
  rcases di hh with ⟨q1, hh⟩ | ⟨q1, hh⟩
  · refine dq_2 .lt 13 true 16 q1 (by decide +kernel) ?_
    exact c70_16 hD hz  _ _ _  hh
  · refine dq_2 .lt 13 false 6 q1 (by decide +kernel) ?_
    refine dq_iln 0 7 (by decide +kernel) rfl G0 ?_
    refine dq_S (.bipush 90) 2 [] 9 _ [.int 90, .int i0] (by decide +kernel) rfl ?_
    rcases di hh with ⟨q2, hh⟩ | ⟨q2, hh⟩
    · refine dq_2 .gt 7 true 16 q2 (by decide +kernel) ?_
      exact c70_16 hD hz  _ _ _  hh
    · refine dq_2 .gt 7 false 12 q2 (by decide +kernel) ?_
      refine dq_S (.iconst 1) 1 [] 13 _ [.int 1] (by decide +kernel) rfl ?_
      refine dq_S (.goto 4) 3 [] 17 _ [.int 1] (by decide +kernel) rfl ?_
      exact c70_17 hD hz _ _ _ _  hh
def f70 (L : Nat) (xs : Nat → Int32) (zf : Value) (D : dD) (w : Nat) (As : List Value) (h : rm_H) : Option dR := match As with
  | [.int i0] => b70_0 L xs zf D w i0 h
  | _ => none
theorem d70 {L : Nat} {xs : Nat → Int32} {zf : Value} {D : dD} {w k : Nat} (hD : dO L xs zf D k) (hz : zf.category = 1) (As : List Value) (h : rm_H) (r : dR) (hh : f70 L xs zf D w As h = some r) : dq L xs zf ah_M70 0 (lv_args 0 As) [] h (k + 1) r := by
  unfold f70 at hh
  split at hh
  · refine c70_0 hD hz _ _ _ _ ?_ hh
    all_goals (simp only [la_r, la_i, la_j]; rfl)
  · cases hh
def b71_64 (L : Nat) (xs : Nat → Int32) (zf : Value) (D : dD) (w : Nat) (K8 : Option Nat → Int32 → Int32 → Int32 → Int32 → Int32 → rm_H → Option dR) (o0 : Option Nat) (i1 : Int32) (i2 : Int32) (i3 : Int32) (i5 : Int32) (s0 : Int32) (h : rm_H) : Option dR :=
  K8 o0 i1 i2 i3 s0 (i5 + 1) h
theorem c71_64 {L : Nat} {xs : Nat → Int32} {zf : Value} {D : dD} {w k : Nat} {K8 : Option Nat → Int32 → Int32 → Int32 → Int32 → Int32 → rm_H → Option dR} (hD : dO L xs zf D k) (hz : zf.category = 1) (hK8 : ∀ (o0 : Option Nat) (i1 : Int32) (i2 : Int32) (i3 : Int32) (i4 : Int32) (i5 : Int32) (lv : rm_L) (h : rm_H) (r : dR), rm_get lv 0 = some (va_rf o0) → rm_get lv 1 = some (.int i1) → rm_get lv 2 = some (.int i2) → rm_get lv 3 = some (.int i3) → rm_get lv 4 = some (.int i4) → rm_get lv 5 = some (.int i5) → K8 o0 i1 i2 i3 i4 i5 h = some r → dq L xs zf ah_M71 8 lv [] h (k + 1) r) : ∀ (o0 : Option Nat) (i1 : Int32) (i2 : Int32) (i3 : Int32) (i5 : Int32) (s0 : Int32) (lv : rm_L) (h : rm_H) (r : dR), rm_get lv 0 = some (va_rf o0) → rm_get lv 1 = some (.int i1) → rm_get lv 2 = some (.int i2) → rm_get lv 3 = some (.int i3) → rm_get lv 5 = some (.int i5) → b71_64 L xs zf D w K8  o0 i1 i2 i3 i5 s0 h = some r → dq L xs zf ah_M71 64 lv [.int s0] h (k + 1) r := by
  intro o0 i1 i2 i3 i5 s0 lv h r G0 G1 G2 G3 G5 hh
  unfold b71_64 at hh
  refine dq_is 4 66 (by decide +kernel) (by decide +kernel) ?_
  have g1 := dg_ne (i := 4) (u := .int s0) (by decide) (Or.inl (by decide)) G0
  have g2 := dg_ne (i := 4) (u := .int s0) (by decide) (Or.inl (by decide)) G1
  have g3 := dg_ne (i := 4) (u := .int s0) (by decide) (Or.inl (by decide)) G2
  have g4 := dg_ne (i := 4) (u := .int s0) (by decide) (Or.inr rfl) G3
  have g5 := dg_ne (i := 4) (u := .int s0) (by decide) (Or.inl (by decide)) G5
  have g6 := dg_eq (lv) 4 (.int s0)
  refine dq_incy 5 1 1 69 (by decide +kernel) ⟨rfl, by decide +kernel, by decide +kernel⟩ g5 ?_
  have g7 := dg_ne (i := 5) (u := .int (i5 + 1)) (by decide) (Or.inl (by decide)) g1
  have g8 := dg_ne (i := 5) (u := .int (i5 + 1)) (by decide) (Or.inl (by decide)) g2
  have g9 := dg_ne (i := 5) (u := .int (i5 + 1)) (by decide) (Or.inl (by decide)) g3
  have g10 := dg_ne (i := 5) (u := .int (i5 + 1)) (by decide) (Or.inl (by decide)) g4
  have g11 := dg_ne (i := 5) (u := .int (i5 + 1)) (by decide) (Or.inr rfl) g6
  have g12 := dg_eq (rm_set1 (lv) 4 (.int s0)) 5 (.int (i5 + 1))
  refine dq_S (.goto (-61)) 3 [] 8 _ [] (by decide +kernel) rfl ?_
  exact hK8 _ _ _ _ _ _ _ _ _ g7 g8 g9 g10 g11 g12 hh
def b71_59 (L : Nat) (xs : Nat → Int32) (zf : Value) (D : dD) (w : Nat) (K8 : Option Nat → Int32 → Int32 → Int32 → Int32 → Int32 → rm_H → Option dR) (o0 : Option Nat) (i1 : Int32) (i2 : Int32) (i3 : Int32) (i5 : Int32) (h : rm_H) : Option dR :=
  b71_64 L xs zf D w K8 o0 i1 i2 i3 i5 1 h
theorem c71_59 {L : Nat} {xs : Nat → Int32} {zf : Value} {D : dD} {w k : Nat} {K8 : Option Nat → Int32 → Int32 → Int32 → Int32 → Int32 → rm_H → Option dR} (hD : dO L xs zf D k) (hz : zf.category = 1) (hK8 : ∀ (o0 : Option Nat) (i1 : Int32) (i2 : Int32) (i3 : Int32) (i4 : Int32) (i5 : Int32) (lv : rm_L) (h : rm_H) (r : dR), rm_get lv 0 = some (va_rf o0) → rm_get lv 1 = some (.int i1) → rm_get lv 2 = some (.int i2) → rm_get lv 3 = some (.int i3) → rm_get lv 4 = some (.int i4) → rm_get lv 5 = some (.int i5) → K8 o0 i1 i2 i3 i4 i5 h = some r → dq L xs zf ah_M71 8 lv [] h (k + 1) r) : ∀ (o0 : Option Nat) (i1 : Int32) (i2 : Int32) (i3 : Int32) (i5 : Int32) (lv : rm_L) (h : rm_H) (r : dR), rm_get lv 0 = some (va_rf o0) → rm_get lv 1 = some (.int i1) → rm_get lv 2 = some (.int i2) → rm_get lv 3 = some (.int i3) → rm_get lv 5 = some (.int i5) → b71_59 L xs zf D w K8  o0 i1 i2 i3 i5 h = some r → dq L xs zf ah_M71 59 lv [] h (k + 1) r := by
  intro o0 i1 i2 i3 i5 lv h r G0 G1 G2 G3 G5 hh
  unfold b71_59 at hh
  refine dq_S (.iconst 1) 1 [] 60 _ [.int 1] (by decide +kernel) rfl ?_
  refine dq_S (.goto 4) 3 [] 64 _ [.int 1] (by decide +kernel) rfl ?_
  exact c71_64 hD hz hK8 _ _ _ _ _ _ _ _ _ G0 G1 G2 G3 G5 hh
def b71_38 (L : Nat) (xs : Nat → Int32) (zf : Value) (D : dD) (w : Nat) (K8 : Option Nat → Int32 → Int32 → Int32 → Int32 → Int32 → rm_H → Option dR) (o0 : Option Nat) (i1 : Int32) (i2 : Int32) (i4 : Int32) (i5 : Int32) (s0 : Int32) (h : rm_H) : Option dR :=
  if mx_f1 .ne i4 = true then
    b71_59 L xs zf D w K8 o0 i1 i2 s0 i5 h
  else
    (dgR L xs h 0 [6] o0).bind fun p8 =>
    ((dcV L xs D 63 [7, 16] p8 [.int i5] h).bind dxI).bind fun x10 =>
    ((D 70 [.int x10.1] x10.2).bind dxI).bind fun x14 =>
    if mx_f1 .eq x14.1 = true then
      b71_64 L xs zf D w K8 o0 i1 i2 s0 i5 0 x14.2
    else
      b71_59 L xs zf D w K8 o0 i1 i2 s0 i5 x14.2
theorem c71_38 {L : Nat} {xs : Nat → Int32} {zf : Value} {D : dD} {w k : Nat} {K8 : Option Nat → Int32 → Int32 → Int32 → Int32 → Int32 → rm_H → Option dR} (hD : dO L xs zf D k) (hz : zf.category = 1) (hK8 : ∀ (o0 : Option Nat) (i1 : Int32) (i2 : Int32) (i3 : Int32) (i4 : Int32) (i5 : Int32) (lv : rm_L) (h : rm_H) (r : dR), rm_get lv 0 = some (va_rf o0) → rm_get lv 1 = some (.int i1) → rm_get lv 2 = some (.int i2) → rm_get lv 3 = some (.int i3) → rm_get lv 4 = some (.int i4) → rm_get lv 5 = some (.int i5) → K8 o0 i1 i2 i3 i4 i5 h = some r → dq L xs zf ah_M71 8 lv [] h (k + 1) r) : ∀ (o0 : Option Nat) (i1 : Int32) (i2 : Int32) (i4 : Int32) (i5 : Int32) (s0 : Int32) (lv : rm_L) (h : rm_H) (r : dR), rm_get lv 0 = some (va_rf o0) → rm_get lv 1 = some (.int i1) → rm_get lv 2 = some (.int i2) → rm_get lv 4 = some (.int i4) → rm_get lv 5 = some (.int i5) → b71_38 L xs zf D w K8  o0 i1 i2 i4 i5 s0 h = some r → dq L xs zf ah_M71 38 lv [.int s0] h (k + 1) r := by
  intro o0 i1 i2 i4 i5 s0 lv h r G0 G1 G2 G4 G5 hh
  unfold b71_38 at hh
  refine dq_isn 3 39 (by decide +kernel) (by decide +kernel) ?_
  have g1 := dg_ne (i := 3) (u := .int s0) (by decide) (Or.inl (by decide)) G0
  have g2 := dg_ne (i := 3) (u := .int s0) (by decide) (Or.inl (by decide)) G1
  have g3 := dg_ne (i := 3) (u := .int s0) (by decide) (Or.inr rfl) G2
  have g4 := dg_ne (i := 3) (u := .int s0) (by decide) (Or.inl (by decide)) G4
  have g5 := dg_ne (i := 3) (u := .int s0) (by decide) (Or.inl (by decide)) G5
  have g6 := dg_eq (lv) 3 (.int s0)
  refine dq_il 4 41 (by decide +kernel) rfl g4 ?_
  rcases di hh with ⟨q7, hh⟩ | ⟨q7, hh⟩
  · refine dq_1 .ne 18 true 59 q7 (by decide +kernel) ?_
    exact c71_59 hD hz hK8 _ _ _ _ _ _ _ _ g1 g2 g3 g6 g5 hh
  · refine dq_1 .ne 18 false 44 q7 (by decide +kernel) ?_
    refine dq_aln 0 45 (by decide +kernel) rfl g1 ?_
    obtain ⟨p8, q9, hh⟩ := db hh
    refine dq_gR 9 0 [6] 48 (by decide +kernel) rfl q9 ?_
    refine dq_il 5 50 (by decide +kernel) rfl g5 ?_
    obtain ⟨x10, q11, hh⟩ := db hh
    obtain ⟨a12, q13, q11⟩ := db q11
    rw [dq_xI q11] at q13
    refine dq_cvi hD 47 63 5 1 [7, 16] p8 [.int i5] [] 53 [.int x10.1] (by decide +kernel) ap_63 ⟨⟨Nat.le_of_ble_eq_true rfl, by decide⟩, rfl, rfl⟩ (dq_ok8 [1, 1] [] (dc_r (dc_i dc_n)) dc_n (by decide +kernel)) (by decide +kernel) rfl q13 rfl ?_
    obtain ⟨x14, q15, hh⟩ := db hh
    obtain ⟨a16, q17, q15⟩ := db q15
    rw [dq_xI q15] at q17
    refine dq_cst hD 80 70 0 1 [.int x10.1] [] 56 [.int x14.1] (by decide +kernel) ap_70 ⟨⟨Nat.le_of_ble_eq_true rfl, by decide⟩, rfl, rfl⟩ (dq_ok8 [1] [] (dc_i dc_n) dc_n (by decide +kernel)) (by decide +kernel) rfl q17 rfl ?_
    rcases di hh with ⟨q18, hh⟩ | ⟨q18, hh⟩
    · refine dq_1 .eq 7 true 63 q18 (by decide +kernel) ?_
      refine dq_S (.iconst 0) 1 [] 64 _ [.int 0] (by decide +kernel) rfl ?_
      exact c71_64 hD hz hK8 _ _ _ _ _ _ _ _ _ g1 g2 g3 g6 g5 hh
    · refine dq_1 .eq 7 false 59 q18 (by decide +kernel) ?_
      exact c71_59 hD hz hK8 _ _ _ _ _ _ _ _ g1 g2 g3 g6 g5 hh
def b71_37 (L : Nat) (xs : Nat → Int32) (zf : Value) (D : dD) (w : Nat) (K8 : Option Nat → Int32 → Int32 → Int32 → Int32 → Int32 → rm_H → Option dR) (o0 : Option Nat) (i1 : Int32) (i2 : Int32) (i4 : Int32) (i5 : Int32) (h : rm_H) : Option dR :=
  b71_38 L xs zf D w K8 o0 i1 i2 i4 i5 0 h
theorem c71_37 {L : Nat} {xs : Nat → Int32} {zf : Value} {D : dD} {w k : Nat} {K8 : Option Nat → Int32 → Int32 → Int32 → Int32 → Int32 → rm_H → Option dR} (hD : dO L xs zf D k) (hz : zf.category = 1) (hK8 : ∀ (o0 : Option Nat) (i1 : Int32) (i2 : Int32) (i3 : Int32) (i4 : Int32) (i5 : Int32) (lv : rm_L) (h : rm_H) (r : dR), rm_get lv 0 = some (va_rf o0) → rm_get lv 1 = some (.int i1) → rm_get lv 2 = some (.int i2) → rm_get lv 3 = some (.int i3) → rm_get lv 4 = some (.int i4) → rm_get lv 5 = some (.int i5) → K8 o0 i1 i2 i3 i4 i5 h = some r → dq L xs zf ah_M71 8 lv [] h (k + 1) r) : ∀ (o0 : Option Nat) (i1 : Int32) (i2 : Int32) (i4 : Int32) (i5 : Int32) (lv : rm_L) (h : rm_H) (r : dR), rm_get lv 0 = some (va_rf o0) → rm_get lv 1 = some (.int i1) → rm_get lv 2 = some (.int i2) → rm_get lv 4 = some (.int i4) → rm_get lv 5 = some (.int i5) → b71_37 L xs zf D w K8  o0 i1 i2 i4 i5 h = some r → dq L xs zf ah_M71 37 lv [] h (k + 1) r := by
  intro o0 i1 i2 i4 i5 lv h r G0 G1 G2 G4 G5 hh
  unfold b71_37 at hh
  refine dq_S (.iconst 0) 1 [] 38 _ [.int 0] (by decide +kernel) rfl ?_
  exact c71_38 hD hz hK8 _ _ _ _ _ _ _ _ _ G0 G1 G2 G4 G5 hh
def b71_89 (L : Nat) (xs : Nat → Int32) (zf : Value) (D : dD) (w : Nat) (s0 : Int32) (h : rm_H) : Option dR :=
  drI (some .int) s0 h
theorem c71_89 {L : Nat} {xs : Nat → Int32} {zf : Value} {D : dD} {w k : Nat} (hD : dO L xs zf D k) (hz : zf.category = 1) : ∀ (s0 : Int32) (lv : rm_L) (h : rm_H) (r : dR), b71_89 L xs zf D w  s0 h = some r → dq L xs zf ah_M71 89 lv [.int s0] h (k + 1) r := by
  intro s0 lv h r hh
  unfold b71_89 at hh
  exact dq_retI (some .int) (by decide +kernel) rfl hh
def b71_112 (L : Nat) (xs : Nat → Int32) (zf : Value) (D : dD) (w : Nat) (h : rm_H) : Option dR :=
  drI (some .int) 1 h
theorem c71_112 {L : Nat} {xs : Nat → Int32} {zf : Value} {D : dD} {w k : Nat} (hD : dO L xs zf D k) (hz : zf.category = 1) : ∀ (lv : rm_L) (h : rm_H) (r : dR), b71_112 L xs zf D w  h = some r → dq L xs zf ah_M71 112 lv [] h (k + 1) r := by
  intro lv h r hh
  unfold b71_112 at hh
  refine dq_S (.iconst 1) 1 [] 113 _ [.int 1] (by decide +kernel) rfl ?_
  exact dq_retI (some .int) (by decide +kernel) rfl hh
def b71_147 (L : Nat) (xs : Nat → Int32) (zf : Value) (D : dD) (w : Nat) (s0 : Int32) (h : rm_H) : Option dR :=
  drI (some .int) s0 h
theorem c71_147 {L : Nat} {xs : Nat → Int32} {zf : Value} {D : dD} {w k : Nat} (hD : dO L xs zf D k) (hz : zf.category = 1) : ∀ (s0 : Int32) (lv : rm_L) (h : rm_H) (r : dR), b71_147 L xs zf D w  s0 h = some r → dq L xs zf ah_M71 147 lv [.int s0] h (k + 1) r := by
  intro s0 lv h r hh
  unfold b71_147 at hh
  exact dq_retI (some .int) (by decide +kernel) rfl hh
def b71_8 (L : Nat) (xs : Nat → Int32) (zf : Value) (D : dD) (w : Nat) : Nat → Option Nat → Int32 → Int32 → Int32 → Int32 → Int32 → rm_H → Option dR
  | 0, _, _, _, _, _, _, _ => none
  | n + 1, o0, i1, i2, i3, i4, i5, h =>
    if mx_f2 .ge i5 i2 = true then
      if mx_f1 .eq i3 = true then
        (dgR L xs h 0 [6] o0).bind fun p3 =>
        ((dcV L xs D 63 [7, 16] p3 [.int i1] h).bind dxI).bind fun x5 =>
        ((D 69 [.int x5.1] x5.2).bind dxI).bind fun x9 =>
        if mx_f1 .ne x9.1 = true then
          b71_112 L xs zf D w x9.2
        else
          if mx_f2 .le (i2 - i1) 8 = true then
            (dgR L xs x9.2 0 [6] o0).bind fun p15 =>
            ((dcV L xs D 63 [7, 16] p15 [.int i1] x9.2).bind dxI).bind fun x17 =>
            ((D 70 [.int x17.1] x17.2).bind dxI).bind fun x21 =>
            if mx_f1 .eq x21.1 = true then
              if mx_f1 .eq i4 = true then
                ((dcV L xs D 72 [6] o0 [.int i1, .int (i2 - i1)] x21.2).bind dxI).bind fun x27 =>
                b71_147 L xs zf D w x27.1 x27.2
              else
                b71_147 L xs zf D w 1 x21.2
            else
              drI (some .int) 3 x21.2
          else
            b71_112 L xs zf D w x9.2
      else
        if mx_f2 .gt (i2 - i1) 9 = true then
          b71_89 L xs zf D w 1 h
        else
          b71_89 L xs zf D w 4 h
    else
      if mx_f1 .eq i3 = true then
        b71_37 L xs zf D w (b71_8 L xs zf D w n) o0 i1 i2 i4 i5 h
      else
        (dgR L xs h 0 [6] o0).bind fun p33 =>
        ((dcV L xs D 63 [7, 16] p33 [.int i5] h).bind dxI).bind fun x35 =>
        ((D 69 [.int x35.1] x35.2).bind dxI).bind fun x39 =>
        if mx_f1 .eq x39.1 = true then
          b71_37 L xs zf D w (b71_8 L xs zf D w n) o0 i1 i2 i4 i5 x39.2
        else
          b71_38 L xs zf D w (b71_8 L xs zf D w n) o0 i1 i2 i4 i5 1 x39.2
theorem c71_8 {L : Nat} {xs : Nat → Int32} {zf : Value} {D : dD} {w k : Nat} (hD : dO L xs zf D k) (hz : zf.category = 1) : ∀ (n : Nat) (o0 : Option Nat) (i1 : Int32) (i2 : Int32) (i3 : Int32) (i4 : Int32) (i5 : Int32) (lv : rm_L) (h : rm_H) (r : dR), rm_get lv 0 = some (va_rf o0) → rm_get lv 1 = some (.int i1) → rm_get lv 2 = some (.int i2) → rm_get lv 3 = some (.int i3) → rm_get lv 4 = some (.int i4) → rm_get lv 5 = some (.int i5) → b71_8 L xs zf D w n  o0 i1 i2 i3 i4 i5 h = some r → dq L xs zf ah_M71 8 lv [] h (k + 1) r := by
  intro n
  induction n with
  | zero =>
    intro o0 i1 i2 i3 i4 i5 lv h r G0 G1 G2 G3 G4 G5 hh
    cases hh
  | succ n ih =>
    intro o0 i1 i2 i3 i4 i5 lv h r G0 G1 G2 G3 G4 G5 hh
    rw [b71_8] at hh
    refine dq_il 5 10 (by decide +kernel) rfl G5 ?_
    refine dq_iln 2 11 (by decide +kernel) rfl G2 ?_
    rcases di hh with ⟨q1, hh⟩ | ⟨q1, hh⟩
    · refine dq_2 .ge 61 true 72 q1 (by decide +kernel) ?_
      refine dq_iln 3 73 (by decide +kernel) rfl G3 ?_
      rcases di hh with ⟨q2, hh⟩ | ⟨q2, hh⟩
      · refine dq_1 .eq 17 true 90 q2 (by decide +kernel) ?_
        refine dq_aln 0 91 (by decide +kernel) rfl G0 ?_
        obtain ⟨p3, q4, hh⟩ := db hh
        refine dq_gR 9 0 [6] 94 (by decide +kernel) rfl q4 ?_
        refine dq_iln 1 95 (by decide +kernel) rfl G1 ?_
        obtain ⟨x5, q6, hh⟩ := db hh
        obtain ⟨a7, q8, q6⟩ := db q6
        rw [dq_xI q6] at q8
        refine dq_cvi hD 47 63 5 1 [7, 16] p3 [.int i1] [] 98 [.int x5.1] (by decide +kernel) ap_63 ⟨⟨Nat.le_of_ble_eq_true rfl, by decide⟩, rfl, rfl⟩ (dq_ok8 [1, 1] [] (dc_r (dc_i dc_n)) dc_n (by decide +kernel)) (by decide +kernel) rfl q8 rfl ?_
        obtain ⟨x9, q10, hh⟩ := db hh
        obtain ⟨a11, q12, q10⟩ := db q10
        rw [dq_xI q10] at q12
        refine dq_cst hD 77 69 0 1 [.int x5.1] [] 101 [.int x9.1] (by decide +kernel) ap_69 ⟨⟨Nat.le_of_ble_eq_true rfl, by decide⟩, rfl, rfl⟩ (dq_ok8 [1] [] (dc_i dc_n) dc_n (by decide +kernel)) (by decide +kernel) rfl q12 rfl ?_
        rcases di hh with ⟨q13, hh⟩ | ⟨q13, hh⟩
        · refine dq_1 .ne 11 true 112 q13 (by decide +kernel) ?_
          exact c71_112 hD hz  _ _ _  hh
        · refine dq_1 .ne 11 false 104 q13 (by decide +kernel) ?_
          refine dq_iln 2 105 (by decide +kernel) rfl G2 ?_
          refine dq_iln 1 106 (by decide +kernel) rfl G1 ?_
          refine dq_S (.isub) 1 [] 107 _ [.int (i2 - i1)] (by decide +kernel) rfl ?_
          refine dq_S (.bipush 8) 2 [] 109 _ [.int 8, .int (i2 - i1)] (by decide +kernel) rfl ?_
          rcases di hh with ⟨q14, hh⟩ | ⟨q14, hh⟩
          · refine dq_2 .le 5 true 114 q14 (by decide +kernel) ?_
            refine dq_aln 0 115 (by decide +kernel) rfl G0 ?_
            obtain ⟨p15, q16, hh⟩ := db hh
            refine dq_gR 9 0 [6] 118 (by decide +kernel) rfl q16 ?_
            refine dq_iln 1 119 (by decide +kernel) rfl G1 ?_
            obtain ⟨x17, q18, hh⟩ := db hh
            obtain ⟨a19, q20, q18⟩ := db q18
            rw [dq_xI q18] at q20
            refine dq_cvi hD 47 63 5 1 [7, 16] p15 [.int i1] [] 122 [.int x17.1] (by decide +kernel) ap_63 ⟨⟨Nat.le_of_ble_eq_true rfl, by decide⟩, rfl, rfl⟩ (dq_ok8 [1, 1] [] (dc_r (dc_i dc_n)) dc_n (by decide +kernel)) (by decide +kernel) rfl q20 rfl ?_
            obtain ⟨x21, q22, hh⟩ := db hh
            obtain ⟨a23, q24, q22⟩ := db q22
            rw [dq_xI q22] at q24
            refine dq_cst hD 80 70 0 1 [.int x17.1] [] 125 [.int x21.1] (by decide +kernel) ap_70 ⟨⟨Nat.le_of_ble_eq_true rfl, by decide⟩, rfl, rfl⟩ (dq_ok8 [1] [] (dc_i dc_n) dc_n (by decide +kernel)) (by decide +kernel) rfl q24 rfl ?_
            rcases di hh with ⟨q25, hh⟩ | ⟨q25, hh⟩
            · refine dq_1 .eq 5 true 130 q25 (by decide +kernel) ?_
              refine dq_il 4 132 (by decide +kernel) rfl G4 ?_
              rcases di hh with ⟨q26, hh⟩ | ⟨q26, hh⟩
              · refine dq_1 .eq 7 true 139 q26 (by decide +kernel) ?_
                refine dq_aln 0 140 (by decide +kernel) rfl G0 ?_
                refine dq_iln 1 141 (by decide +kernel) rfl G1 ?_
                refine dq_iln 2 142 (by decide +kernel) rfl G2 ?_
                refine dq_iln 1 143 (by decide +kernel) rfl G1 ?_
                refine dq_S (.isub) 1 [] 144 _ [.int (i2 - i1), .int i1, va_rf o0] (by decide +kernel) rfl ?_
                obtain ⟨x27, q28, hh⟩ := db hh
                obtain ⟨a29, q30, q28⟩ := db q28
                rw [dq_xI q28] at q30
                refine dq_cvi hD 83 72 5 2 [6] o0 [.int i1, .int (i2 - i1)] [] 147 [.int x27.1] (by decide +kernel) ap_72 ⟨⟨Nat.le_of_ble_eq_true rfl, by decide⟩, rfl, rfl⟩ (dq_ok8 [1, 1, 1] [] (dc_r (dc_i (dc_i dc_n))) dc_n (by decide +kernel)) (by decide +kernel) rfl q30 rfl ?_
                exact c71_147 hD hz _ _ _ _  hh
              · refine dq_1 .eq 7 false 135 q26 (by decide +kernel) ?_
                refine dq_S (.iconst 1) 1 [] 136 _ [.int 1] (by decide +kernel) rfl ?_
                refine dq_S (.goto 11) 3 [] 147 _ [.int 1] (by decide +kernel) rfl ?_
                exact c71_147 hD hz _ _ _ _  hh
            · refine dq_1 .eq 5 false 128 q25 (by decide +kernel) ?_
              refine dq_S (.iconst 3) 1 [] 129 _ [.int 3] (by decide +kernel) rfl ?_
              exact dq_retI (some .int) (by decide +kernel) rfl hh
          · refine dq_2 .le 5 false 112 q14 (by decide +kernel) ?_
            exact c71_112 hD hz  _ _ _  hh
      · refine dq_1 .eq 17 false 76 q2 (by decide +kernel) ?_
        refine dq_iln 2 77 (by decide +kernel) rfl G2 ?_
        refine dq_iln 1 78 (by decide +kernel) rfl G1 ?_
        refine dq_S (.isub) 1 [] 79 _ [.int (i2 - i1)] (by decide +kernel) rfl ?_
        refine dq_S (.bipush 9) 2 [] 81 _ [.int 9, .int (i2 - i1)] (by decide +kernel) rfl ?_
        rcases di hh with ⟨q31, hh⟩ | ⟨q31, hh⟩
        · refine dq_2 .gt 7 true 88 q31 (by decide +kernel) ?_
          refine dq_S (.iconst 1) 1 [] 89 _ [.int 1] (by decide +kernel) rfl ?_
          exact c71_89 hD hz _ _ _ _  hh
        · refine dq_2 .gt 7 false 84 q31 (by decide +kernel) ?_
          refine dq_S (.iconst 4) 1 [] 85 _ [.int 4] (by decide +kernel) rfl ?_
          refine dq_S (.goto 4) 3 [] 89 _ [.int 4] (by decide +kernel) rfl ?_
          exact c71_89 hD hz _ _ _ _  hh
    · refine dq_2 .ge 61 false 14 q1 (by decide +kernel) ?_
      refine dq_iln 3 15 (by decide +kernel) rfl G3 ?_
      rcases di hh with ⟨q32, hh⟩ | ⟨q32, hh⟩
      · refine dq_1 .eq 22 true 37 q32 (by decide +kernel) ?_
        exact c71_37 hD hz ih _ _ _ _ _ _ _ _ G0 G1 G2 G4 G5 hh
      · refine dq_1 .eq 22 false 18 q32 (by decide +kernel) ?_
        refine dq_aln 0 19 (by decide +kernel) rfl G0 ?_
        obtain ⟨p33, q34, hh⟩ := db hh
        refine dq_gR 9 0 [6] 22 (by decide +kernel) rfl q34 ?_
        refine dq_il 5 24 (by decide +kernel) rfl G5 ?_
        obtain ⟨x35, q36, hh⟩ := db hh
        obtain ⟨a37, q38, q36⟩ := db q36
        rw [dq_xI q36] at q38
        refine dq_cvi hD 47 63 5 1 [7, 16] p33 [.int i5] [] 27 [.int x35.1] (by decide +kernel) ap_63 ⟨⟨Nat.le_of_ble_eq_true rfl, by decide⟩, rfl, rfl⟩ (dq_ok8 [1, 1] [] (dc_r (dc_i dc_n)) dc_n (by decide +kernel)) (by decide +kernel) rfl q38 rfl ?_
        obtain ⟨x39, q40, hh⟩ := db hh
        obtain ⟨a41, q42, q40⟩ := db q40
        rw [dq_xI q40] at q42
        refine dq_cst hD 77 69 0 1 [.int x35.1] [] 30 [.int x39.1] (by decide +kernel) ap_69 ⟨⟨Nat.le_of_ble_eq_true rfl, by decide⟩, rfl, rfl⟩ (dq_ok8 [1] [] (dc_i dc_n) dc_n (by decide +kernel)) (by decide +kernel) rfl q42 rfl ?_
        rcases di hh with ⟨q43, hh⟩ | ⟨q43, hh⟩
        · refine dq_1 .eq 7 true 37 q43 (by decide +kernel) ?_
          exact c71_37 hD hz ih _ _ _ _ _ _ _ _ G0 G1 G2 G4 G5 hh
        · refine dq_1 .eq 7 false 33 q43 (by decide +kernel) ?_
          refine dq_S (.iconst 1) 1 [] 34 _ [.int 1] (by decide +kernel) rfl ?_
          refine dq_S (.goto 4) 3 [] 38 _ [.int 1] (by decide +kernel) rfl ?_
          exact c71_38 hD hz ih _ _ _ _ _ _ _ _ _ G0 G1 G2 G4 G5 hh
def b71_0 (L : Nat) (xs : Nat → Int32) (zf : Value) (D : dD) (w : Nat) (o0 : Option Nat) (i1 : Int32) (i2 : Int32) (h : rm_H) : Option dR :=
  b71_8 L xs zf D w w o0 i1 i2 1 0 i1 h
theorem c71_0 {L : Nat} {xs : Nat → Int32} {zf : Value} {D : dD} {w k : Nat} (hD : dO L xs zf D k) (hz : zf.category = 1) : ∀ (o0 : Option Nat) (i1 : Int32) (i2 : Int32) (lv : rm_L) (h : rm_H) (r : dR), rm_get lv 0 = some (va_rf o0) → rm_get lv 1 = some (.int i1) → rm_get lv 2 = some (.int i2) → b71_0 L xs zf D w  o0 i1 i2 h = some r → dq L xs zf ah_M71 0 lv [] h (k + 1) r := by
  intro o0 i1 i2 lv h r G0 G1 G2 hh
  unfold b71_0 at hh
  refine dq_S (.iconst 1) 1 [] 1 _ [.int 1] (by decide +kernel) rfl ?_
  refine dq_isn 3 2 (by decide +kernel) (by decide +kernel) ?_
  have g1 := dg_ne (i := 3) (u := .int 1) (by decide) (Or.inl (by decide)) G0
  have g2 := dg_ne (i := 3) (u := .int 1) (by decide) (Or.inl (by decide)) G1
  have g3 := dg_ne (i := 3) (u := .int 1) (by decide) (Or.inr rfl) G2
  have g4 := dg_eq (lv) 3 (.int 1)
  refine dq_S (.iconst 0) 1 [] 3 _ [.int 0] (by decide +kernel) rfl ?_
  refine dq_is 4 5 (by decide +kernel) (by decide +kernel) ?_
  have g5 := dg_ne (i := 4) (u := .int 0) (by decide) (Or.inl (by decide)) g1
  have g6 := dg_ne (i := 4) (u := .int 0) (by decide) (Or.inl (by decide)) g2
  have g7 := dg_ne (i := 4) (u := .int 0) (by decide) (Or.inl (by decide)) g3
  have g8 := dg_ne (i := 4) (u := .int 0) (by decide) (Or.inr rfl) g4
  have g9 := dg_eq (rm_set1 (lv) 3 (.int 1)) 4 (.int 0)
  refine dq_iln 1 6 (by decide +kernel) rfl g6 ?_
  refine dq_is 5 8 (by decide +kernel) (by decide +kernel) ?_
  have g10 := dg_ne (i := 5) (u := .int i1) (by decide) (Or.inl (by decide)) g5
  have g11 := dg_ne (i := 5) (u := .int i1) (by decide) (Or.inl (by decide)) g6
  have g12 := dg_ne (i := 5) (u := .int i1) (by decide) (Or.inl (by decide)) g7
  have g13 := dg_ne (i := 5) (u := .int i1) (by decide) (Or.inl (by decide)) g8
  have g14 := dg_ne (i := 5) (u := .int i1) (by decide) (Or.inr rfl) g9
  have g15 := dg_eq (rm_set1 (rm_set1 (lv) 3 (.int 1)) 4 (.int 0)) 5 (.int i1)
  exact c71_8 hD hz _ _ _ _ _ _ _ _ _ _ g10 g11 g12 g13 g14 g15 hh
def f71 (L : Nat) (xs : Nat → Int32) (zf : Value) (D : dD) (w : Nat) (As : List Value) (h : rm_H) : Option dR := match As with
  | [v0, .int i1, .int i2] => (rm_rf v0).bind fun o0 => b71_0 L xs zf D w o0 i1 i2 h
  | _ => none
theorem d71 {L : Nat} {xs : Nat → Int32} {zf : Value} {D : dD} {w k : Nat} (hD : dO L xs zf D k) (hz : zf.category = 1) (As : List Value) (h : rm_H) (r : dR) (hh : f71 L xs zf D w As h = some r) : dq L xs zf ah_M71 0 (lv_args 0 As) [] h (k + 1) r := by
  unfold f71 at hh
  split at hh
  · obtain ⟨o0, e0, hb0⟩ := db hh
    have e0 := rm_rf_v _ _ e0
    subst e0
    refine c71_0 hD hz _ _ _ _ _ _ ?_ ?_ ?_ hb0
    all_goals (simp only [la_r, la_i, la_j]; rfl)
  · cases hh
def b72_62 (L : Nat) (xs : Nat → Int32) (zf : Value) (D : dD) (w : Nat) (K9 : Option Nat → Int32 → Int32 → Int32 → Int32 → Int32 → rm_H → Option dR) (o0 : Option Nat) (i1 : Int32) (i2 : Int32) (i3 : Int32) (i4 : Int32) (i5 : Int32) (h : rm_H) : Option dR :=
  K9 o0 i1 i2 i3 i4 (i5 + 1) h
theorem c72_62 {L : Nat} {xs : Nat → Int32} {zf : Value} {D : dD} {w k : Nat} {K9 : Option Nat → Int32 → Int32 → Int32 → Int32 → Int32 → rm_H → Option dR} (hD : dO L xs zf D k) (hz : zf.category = 1) (hK9 : ∀ (o0 : Option Nat) (i1 : Int32) (i2 : Int32) (i3 : Int32) (i4 : Int32) (i5 : Int32) (lv : rm_L) (h : rm_H) (r : dR), rm_get lv 0 = some (va_rf o0) → rm_get lv 1 = some (.int i1) → rm_get lv 2 = some (.int i2) → rm_get lv 3 = some (.int i3) → rm_get lv 4 = some (.int i4) → rm_get lv 5 = some (.int i5) → K9 o0 i1 i2 i3 i4 i5 h = some r → dq L xs zf ah_M72 9 lv [] h (k + 1) r) : ∀ (o0 : Option Nat) (i1 : Int32) (i2 : Int32) (i3 : Int32) (i4 : Int32) (i5 : Int32) (lv : rm_L) (h : rm_H) (r : dR), rm_get lv 0 = some (va_rf o0) → rm_get lv 1 = some (.int i1) → rm_get lv 2 = some (.int i2) → rm_get lv 3 = some (.int i3) → rm_get lv 4 = some (.int i4) → rm_get lv 5 = some (.int i5) → b72_62 L xs zf D w K9  o0 i1 i2 i3 i4 i5 h = some r → dq L xs zf ah_M72 62 lv [] h (k + 1) r := by
  intro o0 i1 i2 i3 i4 i5 lv h r G0 G1 G2 G3 G4 G5 hh
  unfold b72_62 at hh
  refine dq_incy 5 1 1 65 (by decide +kernel) ⟨rfl, by decide +kernel, by decide +kernel⟩ G5 ?_
  have g1 := dg_ne (i := 5) (u := .int (i5 + 1)) (by decide) (Or.inl (by decide)) G0
  have g2 := dg_ne (i := 5) (u := .int (i5 + 1)) (by decide) (Or.inl (by decide)) G1
  have g3 := dg_ne (i := 5) (u := .int (i5 + 1)) (by decide) (Or.inl (by decide)) G2
  have g4 := dg_ne (i := 5) (u := .int (i5 + 1)) (by decide) (Or.inl (by decide)) G3
  have g5 := dg_ne (i := 5) (u := .int (i5 + 1)) (by decide) (Or.inr rfl) G4
  have g6 := dg_eq (lv) 5 (.int (i5 + 1))
  refine dq_S (.goto (-56)) 3 [] 9 _ [] (by decide +kernel) rfl ?_
  exact hK9 _ _ _ _ _ _ _ _ _ g1 g2 g3 g4 g5 g6 hh
def b72_53 (L : Nat) (xs : Nat → Int32) (zf : Value) (D : dD) (w : Nat) (K9 : Option Nat → Int32 → Int32 → Int32 → Int32 → Int32 → rm_H → Option dR) (o0 : Option Nat) (i1 : Int32) (i2 : Int32) (i3 : Int32) (i5 : Int32) (h : rm_H) : Option dR :=
  b72_62 L xs zf D w K9 o0 i1 i2 (i3 + 1) (i5 + 1) i5 h
theorem c72_53 {L : Nat} {xs : Nat → Int32} {zf : Value} {D : dD} {w k : Nat} {K9 : Option Nat → Int32 → Int32 → Int32 → Int32 → Int32 → rm_H → Option dR} (hD : dO L xs zf D k) (hz : zf.category = 1) (hK9 : ∀ (o0 : Option Nat) (i1 : Int32) (i2 : Int32) (i3 : Int32) (i4 : Int32) (i5 : Int32) (lv : rm_L) (h : rm_H) (r : dR), rm_get lv 0 = some (va_rf o0) → rm_get lv 1 = some (.int i1) → rm_get lv 2 = some (.int i2) → rm_get lv 3 = some (.int i3) → rm_get lv 4 = some (.int i4) → rm_get lv 5 = some (.int i5) → K9 o0 i1 i2 i3 i4 i5 h = some r → dq L xs zf ah_M72 9 lv [] h (k + 1) r) : ∀ (o0 : Option Nat) (i1 : Int32) (i2 : Int32) (i3 : Int32) (i5 : Int32) (lv : rm_L) (h : rm_H) (r : dR), rm_get lv 0 = some (va_rf o0) → rm_get lv 1 = some (.int i1) → rm_get lv 2 = some (.int i2) → rm_get lv 3 = some (.int i3) → rm_get lv 5 = some (.int i5) → b72_53 L xs zf D w K9  o0 i1 i2 i3 i5 h = some r → dq L xs zf ah_M72 53 lv [] h (k + 1) r := by
  intro o0 i1 i2 i3 i5 lv h r G0 G1 G2 G3 G5 hh
  unfold b72_53 at hh
  refine dq_incy 3 1 1 56 (by decide +kernel) ⟨rfl, by decide +kernel, by decide +kernel⟩ G3 ?_
  have g1 := dg_ne (i := 3) (u := .int (i3 + 1)) (by decide) (Or.inl (by decide)) G0
  have g2 := dg_ne (i := 3) (u := .int (i3 + 1)) (by decide) (Or.inl (by decide)) G1
  have g3 := dg_ne (i := 3) (u := .int (i3 + 1)) (by decide) (Or.inr rfl) G2
  have g4 := dg_ne (i := 3) (u := .int (i3 + 1)) (by decide) (Or.inl (by decide)) G5
  have g5 := dg_eq (lv) 3 (.int (i3 + 1))
  refine dq_il 5 58 (by decide +kernel) rfl g4 ?_
  refine dq_S (.iconst 1) 1 [] 59 _ [.int 1, .int i5] (by decide +kernel) rfl ?_
  refine dq_S (.iadd) 1 [] 60 _ [.int (i5 + 1)] (by decide +kernel) rfl ?_
  refine dq_is 4 62 (by decide +kernel) (by decide +kernel) ?_
  have g6 := dg_ne (i := 4) (u := .int (i5 + 1)) (by decide) (Or.inl (by decide)) g1
  have g7 := dg_ne (i := 4) (u := .int (i5 + 1)) (by decide) (Or.inl (by decide)) g2
  have g8 := dg_ne (i := 4) (u := .int (i5 + 1)) (by decide) (Or.inl (by decide)) g3
  have g9 := dg_ne (i := 4) (u := .int (i5 + 1)) (by decide) (Or.inl (by decide)) g4
  have g10 := dg_ne (i := 4) (u := .int (i5 + 1)) (by decide) (Or.inr rfl) g5
  have g11 := dg_eq (rm_set1 (lv) 3 (.int (i3 + 1))) 4 (.int (i5 + 1))
  exact c72_62 hD hz hK9 _ _ _ _ _ _ _ _ _ g6 g7 g8 g10 g11 g9 hh
def b72_9 (L : Nat) (xs : Nat → Int32) (zf : Value) (D : dD) (w : Nat) : Nat → Option Nat → Int32 → Int32 → Int32 → Int32 → Int32 → rm_H → Option dR
  | 0, _, _, _, _, _, _, _ => none
  | n + 1, o0, i1, i2, i3, i4, i5, h =>
    ((dcV L xs D 60 [7, 16] (some 7) [] h).bind dxI).bind fun x1 =>
    if mx_f2 .ge i5 x1.1 = true then
      drI (some .int) 2 x1.2
    else
      ((dcV L xs D 63 [7, 16] (some 7) [.int i5] x1.2).bind dxI).bind fun x6 =>
      if mx_f2 .ne x6.1 32 = true then
        b72_62 L xs zf D w (b72_9 L xs zf D w n) o0 i1 i2 i3 i4 i5 x6.2
      else
        if mx_f2 .ne (i5 - i4) i2 = true then
          b72_53 L xs zf D w (b72_9 L xs zf D w n) o0 i1 i2 i3 i5 x6.2
        else
          ((dcV L xs D 73 [6] o0 [.int i4, .int i1, .int i2] x6.2).bind dxI).bind fun x12 =>
          if mx_f1 .eq x12.1 = true then
            b72_53 L xs zf D w (b72_9 L xs zf D w n) o0 i1 i2 i3 i5 x12.2
          else
            drI (some .int) i3 x12.2
theorem c72_9 {L : Nat} {xs : Nat → Int32} {zf : Value} {D : dD} {w k : Nat} (hD : dO L xs zf D k) (hz : zf.category = 1) : ∀ (n : Nat) (o0 : Option Nat) (i1 : Int32) (i2 : Int32) (i3 : Int32) (i4 : Int32) (i5 : Int32) (lv : rm_L) (h : rm_H) (r : dR), rm_get lv 0 = some (va_rf o0) → rm_get lv 1 = some (.int i1) → rm_get lv 2 = some (.int i2) → rm_get lv 3 = some (.int i3) → rm_get lv 4 = some (.int i4) → rm_get lv 5 = some (.int i5) → b72_9 L xs zf D w n  o0 i1 i2 i3 i4 i5 h = some r → dq L xs zf ah_M72 9 lv [] h (k + 1) r := by
  intro n
  induction n with
  | zero =>
    intro o0 i1 i2 i3 i4 i5 lv h r G0 G1 G2 G3 G4 G5 hh
    cases hh
  | succ n ih =>
    intro o0 i1 i2 i3 i4 i5 lv h r G0 G1 G2 G3 G4 G5 hh
    rw [b72_9] at hh
    refine dq_il 5 11 (by decide +kernel) rfl G5 ?_
    refine dq_S (.ldc 86) 2 [1, 7] 13 _ [va_rf (some 7), .int i5] (by decide +kernel) rfl ?_
    obtain ⟨x1, q2, hh⟩ := db hh
    obtain ⟨a3, q4, q2⟩ := db q2
    rw [dq_xI q2] at q4
    refine dq_cvi hD 15 60 5 0 [7, 16] (some 7) [] [.int i5] 16 [.int x1.1, .int i5] (by decide +kernel) ap_60 ⟨⟨Nat.le_of_ble_eq_true rfl, by decide⟩, rfl, rfl⟩ (dq_ok8 [1] [1] (dc_r dc_n) (dc_i dc_n) (by decide +kernel)) (by decide +kernel) rfl q4 rfl ?_
    rcases di hh with ⟨q5, hh⟩ | ⟨q5, hh⟩
    · refine dq_2 .ge 52 true 68 q5 (by decide +kernel) ?_
      refine dq_S (.iconst 2) 1 [] 69 _ [.int 2] (by decide +kernel) rfl ?_
      exact dq_retI (some .int) (by decide +kernel) rfl hh
    · refine dq_2 .ge 52 false 19 q5 (by decide +kernel) ?_
      refine dq_S (.ldc 86) 2 [1, 7] 21 _ [va_rf (some 7)] (by decide +kernel) rfl ?_
      refine dq_il 5 23 (by decide +kernel) rfl G5 ?_
      obtain ⟨x6, q7, hh⟩ := db hh
      obtain ⟨a8, q9, q7⟩ := db q7
      rw [dq_xI q7] at q9
      refine dq_cvi hD 47 63 5 1 [7, 16] (some 7) [.int i5] [] 26 [.int x6.1] (by decide +kernel) ap_63 ⟨⟨Nat.le_of_ble_eq_true rfl, by decide⟩, rfl, rfl⟩ (dq_ok8 [1, 1] [] (dc_r (dc_i dc_n)) dc_n (by decide +kernel)) (by decide +kernel) rfl q9 rfl ?_
      refine dq_S (.bipush 32) 2 [] 28 _ [.int 32, .int x6.1] (by decide +kernel) rfl ?_
      rcases di hh with ⟨q10, hh⟩ | ⟨q10, hh⟩
      · refine dq_2 .ne 34 true 62 q10 (by decide +kernel) ?_
        exact c72_62 hD hz ih _ _ _ _ _ _ _ _ _ G0 G1 G2 G3 G4 G5 hh
      · refine dq_2 .ne 34 false 31 q10 (by decide +kernel) ?_
        refine dq_il 5 33 (by decide +kernel) rfl G5 ?_
        refine dq_il 4 35 (by decide +kernel) rfl G4 ?_
        refine dq_S (.isub) 1 [] 36 _ [.int (i5 - i4)] (by decide +kernel) rfl ?_
        refine dq_iln 2 37 (by decide +kernel) rfl G2 ?_
        rcases di hh with ⟨q11, hh⟩ | ⟨q11, hh⟩
        · refine dq_2 .ne 16 true 53 q11 (by decide +kernel) ?_
          exact c72_53 hD hz ih _ _ _ _ _ _ _ _ G0 G1 G2 G3 G5 hh
        · refine dq_2 .ne 16 false 40 q11 (by decide +kernel) ?_
          refine dq_aln 0 41 (by decide +kernel) rfl G0 ?_
          refine dq_il 4 43 (by decide +kernel) rfl G4 ?_
          refine dq_iln 1 44 (by decide +kernel) rfl G1 ?_
          refine dq_iln 2 45 (by decide +kernel) rfl G2 ?_
          obtain ⟨x12, q13, hh⟩ := db hh
          obtain ⟨a14, q15, q13⟩ := db q13
          rw [dq_xI q13] at q15
          refine dq_cvi hD 88 73 5 3 [6] o0 [.int i4, .int i1, .int i2] [] 48 [.int x12.1] (by decide +kernel) ap_73 ⟨⟨Nat.le_of_ble_eq_true rfl, by decide⟩, rfl, rfl⟩ (dq_ok8 [1, 1, 1, 1] [] (dc_r (dc_i (dc_i (dc_i dc_n)))) dc_n (by decide +kernel)) (by decide +kernel) rfl q15 rfl ?_
          rcases di hh with ⟨q16, hh⟩ | ⟨q16, hh⟩
          · refine dq_1 .eq 5 true 53 q16 (by decide +kernel) ?_
            exact c72_53 hD hz ih _ _ _ _ _ _ _ _ G0 G1 G2 G3 G5 hh
          · refine dq_1 .eq 5 false 51 q16 (by decide +kernel) ?_
            refine dq_iln 3 52 (by decide +kernel) rfl G3 ?_
            exact dq_retI (some .int) (by decide +kernel) rfl hh
def b72_0 (L : Nat) (xs : Nat → Int32) (zf : Value) (D : dD) (w : Nat) (o0 : Option Nat) (i1 : Int32) (i2 : Int32) (h : rm_H) : Option dR :=
  b72_9 L xs zf D w w o0 i1 i2 20 0 0 h
theorem c72_0 {L : Nat} {xs : Nat → Int32} {zf : Value} {D : dD} {w k : Nat} (hD : dO L xs zf D k) (hz : zf.category = 1) : ∀ (o0 : Option Nat) (i1 : Int32) (i2 : Int32) (lv : rm_L) (h : rm_H) (r : dR), rm_get lv 0 = some (va_rf o0) → rm_get lv 1 = some (.int i1) → rm_get lv 2 = some (.int i2) → b72_0 L xs zf D w  o0 i1 i2 h = some r → dq L xs zf ah_M72 0 lv [] h (k + 1) r := by
  intro o0 i1 i2 lv h r G0 G1 G2 hh
  unfold b72_0 at hh
  refine dq_S (.bipush 20) 2 [] 2 _ [.int 20] (by decide +kernel) rfl ?_
  refine dq_isn 3 3 (by decide +kernel) (by decide +kernel) ?_
  have g1 := dg_ne (i := 3) (u := .int 20) (by decide) (Or.inl (by decide)) G0
  have g2 := dg_ne (i := 3) (u := .int 20) (by decide) (Or.inl (by decide)) G1
  have g3 := dg_ne (i := 3) (u := .int 20) (by decide) (Or.inr rfl) G2
  have g4 := dg_eq (lv) 3 (.int 20)
  refine dq_S (.iconst 0) 1 [] 4 _ [.int 0] (by decide +kernel) rfl ?_
  refine dq_is 4 6 (by decide +kernel) (by decide +kernel) ?_
  have g5 := dg_ne (i := 4) (u := .int 0) (by decide) (Or.inl (by decide)) g1
  have g6 := dg_ne (i := 4) (u := .int 0) (by decide) (Or.inl (by decide)) g2
  have g7 := dg_ne (i := 4) (u := .int 0) (by decide) (Or.inl (by decide)) g3
  have g8 := dg_ne (i := 4) (u := .int 0) (by decide) (Or.inr rfl) g4
  have g9 := dg_eq (rm_set1 (lv) 3 (.int 20)) 4 (.int 0)
  refine dq_S (.iconst 0) 1 [] 7 _ [.int 0] (by decide +kernel) rfl ?_
  refine dq_is 5 9 (by decide +kernel) (by decide +kernel) ?_
  have g10 := dg_ne (i := 5) (u := .int 0) (by decide) (Or.inl (by decide)) g5
  have g11 := dg_ne (i := 5) (u := .int 0) (by decide) (Or.inl (by decide)) g6
  have g12 := dg_ne (i := 5) (u := .int 0) (by decide) (Or.inl (by decide)) g7
  have g13 := dg_ne (i := 5) (u := .int 0) (by decide) (Or.inl (by decide)) g8
  have g14 := dg_ne (i := 5) (u := .int 0) (by decide) (Or.inr rfl) g9
  have g15 := dg_eq (rm_set1 (rm_set1 (lv) 3 (.int 20)) 4 (.int 0)) 5 (.int 0)
  exact c72_9 hD hz _ _ _ _ _ _ _ _ _ _ g10 g11 g12 g13 g14 g15 hh
def f72 (L : Nat) (xs : Nat → Int32) (zf : Value) (D : dD) (w : Nat) (As : List Value) (h : rm_H) : Option dR := match As with
  | [v0, .int i1, .int i2] => (rm_rf v0).bind fun o0 => b72_0 L xs zf D w o0 i1 i2 h
  | _ => none
theorem d72 {L : Nat} {xs : Nat → Int32} {zf : Value} {D : dD} {w k : Nat} (hD : dO L xs zf D k) (hz : zf.category = 1) (As : List Value) (h : rm_H) (r : dR) (hh : f72 L xs zf D w As h = some r) : dq L xs zf ah_M72 0 (lv_args 0 As) [] h (k + 1) r := by
  unfold f72 at hh
  split at hh
  · obtain ⟨o0, e0, hb0⟩ := db hh
    have e0 := rm_rf_v _ _ e0
    subst e0
    refine c72_0 hD hz _ _ _ _ _ _ ?_ ?_ ?_ hb0
    all_goals (simp only [la_r, la_i, la_j]; rfl)
  · cases hh
def b73_3 (L : Nat) (xs : Nat → Int32) (zf : Value) (D : dD) (w : Nat) : Nat → Option Nat → Int32 → Int32 → Int32 → Int32 → rm_H → Option dR
  | 0, _, _, _, _, _, _ => none
  | n + 1, o0, i1, i2, i3, i4, h =>
    if mx_f2 .ge i4 i3 = true then
      drI (some .boolean) 1 h
    else
      ((dcV L xs D 63 [7, 16] (some 7) [.int (i1 + i4)] h).bind dxI).bind fun x2 =>
      (dgR L xs x2.2 0 [6] o0).bind fun p6 =>
      ((dcV L xs D 63 [7, 16] p6 [.int (i2 + i4)] x2.2).bind dxI).bind fun x8 =>
      if mx_f2 .eq x2.1 x8.1 = true then
        b73_3 L xs zf D w n o0 i1 i2 i3 (i4 + 1) x8.2
      else
        drI (some .boolean) 0 x8.2
theorem c73_3 {L : Nat} {xs : Nat → Int32} {zf : Value} {D : dD} {w k : Nat} (hD : dO L xs zf D k) (hz : zf.category = 1) : ∀ (n : Nat) (o0 : Option Nat) (i1 : Int32) (i2 : Int32) (i3 : Int32) (i4 : Int32) (lv : rm_L) (h : rm_H) (r : dR), rm_get lv 0 = some (va_rf o0) → rm_get lv 1 = some (.int i1) → rm_get lv 2 = some (.int i2) → rm_get lv 3 = some (.int i3) → rm_get lv 4 = some (.int i4) → b73_3 L xs zf D w n  o0 i1 i2 i3 i4 h = some r → dq L xs zf ah_M73 3 lv [] h (k + 1) r := by
  intro n
  induction n with
  | zero =>
    intro o0 i1 i2 i3 i4 lv h r G0 G1 G2 G3 G4 hh
    cases hh
  | succ n ih =>
    intro o0 i1 i2 i3 i4 lv h r G0 G1 G2 G3 G4 hh
    rw [b73_3] at hh
    refine dq_il 4 5 (by decide +kernel) rfl G4 ?_
    refine dq_iln 3 6 (by decide +kernel) rfl G3 ?_
    rcases di hh with ⟨q1, hh⟩ | ⟨q1, hh⟩
    · refine dq_2 .ge 34 true 40 q1 (by decide +kernel) ?_
      refine dq_S (.iconst 1) 1 [] 41 _ [.int 1] (by decide +kernel) rfl ?_
      exact dq_retI (some .boolean) (by decide +kernel) rfl hh
    · refine dq_2 .ge 34 false 9 q1 (by decide +kernel) ?_
      refine dq_S (.ldc 86) 2 [1, 7] 11 _ [va_rf (some 7)] (by decide +kernel) rfl ?_
      refine dq_iln 1 12 (by decide +kernel) rfl G1 ?_
      refine dq_il 4 14 (by decide +kernel) rfl G4 ?_
      refine dq_S (.iadd) 1 [] 15 _ [.int (i1 + i4), va_rf (some 7)] (by decide +kernel) rfl ?_
      obtain ⟨x2, q3, hh⟩ := db hh
      obtain ⟨a4, q5, q3⟩ := db q3
      rw [dq_xI q3] at q5
      refine dq_cvi hD 47 63 5 1 [7, 16] (some 7) [.int (i1 + i4)] [] 18 [.int x2.1] (by decide +kernel) ap_63 ⟨⟨Nat.le_of_ble_eq_true rfl, by decide⟩, rfl, rfl⟩ (dq_ok8 [1, 1] [] (dc_r (dc_i dc_n)) dc_n (by decide +kernel)) (by decide +kernel) rfl q5 rfl ?_
      refine dq_aln 0 19 (by decide +kernel) rfl G0 ?_
      obtain ⟨p6, q7, hh⟩ := db hh
      refine dq_gR 9 0 [6] 22 (by decide +kernel) rfl q7 ?_
      refine dq_iln 2 23 (by decide +kernel) rfl G2 ?_
      refine dq_il 4 25 (by decide +kernel) rfl G4 ?_
      refine dq_S (.iadd) 1 [] 26 _ [.int (i2 + i4), va_rf p6, .int x2.1] (by decide +kernel) rfl ?_
      obtain ⟨x8, q9, hh⟩ := db hh
      obtain ⟨a10, q11, q9⟩ := db q9
      rw [dq_xI q9] at q11
      refine dq_cvi hD 47 63 5 1 [7, 16] p6 [.int (i2 + i4)] [.int x2.1] 29 [.int x8.1, .int x2.1] (by decide +kernel) ap_63 ⟨⟨Nat.le_of_ble_eq_true rfl, by decide⟩, rfl, rfl⟩ (dq_ok8 [1, 1] [1] (dc_r (dc_i dc_n)) (dc_i dc_n) (by decide +kernel)) (by decide +kernel) rfl q11 rfl ?_
      rcases di hh with ⟨q12, hh⟩ | ⟨q12, hh⟩
      · refine dq_2 .eq 5 true 34 q12 (by decide +kernel) ?_
        refine dq_incy 4 1 1 37 (by decide +kernel) ⟨rfl, by decide +kernel, by decide +kernel⟩ G4 ?_
        have g13 := dg_ne (i := 4) (u := .int (i4 + 1)) (by decide) (Or.inl (by decide)) G0
        have g14 := dg_ne (i := 4) (u := .int (i4 + 1)) (by decide) (Or.inl (by decide)) G1
        have g15 := dg_ne (i := 4) (u := .int (i4 + 1)) (by decide) (Or.inl (by decide)) G2
        have g16 := dg_ne (i := 4) (u := .int (i4 + 1)) (by decide) (Or.inr rfl) G3
        have g17 := dg_eq (lv) 4 (.int (i4 + 1))
        refine dq_S (.goto (-34)) 3 [] 3 _ [] (by decide +kernel) rfl ?_
        exact ih _ _ _ _ _ _ _ _ g13 g14 g15 g16 g17 hh
      · refine dq_2 .eq 5 false 32 q12 (by decide +kernel) ?_
        refine dq_S (.iconst 0) 1 [] 33 _ [.int 0] (by decide +kernel) rfl ?_
        exact dq_retI (some .boolean) (by decide +kernel) rfl hh
def b73_0 (L : Nat) (xs : Nat → Int32) (zf : Value) (D : dD) (w : Nat) (o0 : Option Nat) (i1 : Int32) (i2 : Int32) (i3 : Int32) (h : rm_H) : Option dR :=
  b73_3 L xs zf D w w o0 i1 i2 i3 0 h
theorem c73_0 {L : Nat} {xs : Nat → Int32} {zf : Value} {D : dD} {w k : Nat} (hD : dO L xs zf D k) (hz : zf.category = 1) : ∀ (o0 : Option Nat) (i1 : Int32) (i2 : Int32) (i3 : Int32) (lv : rm_L) (h : rm_H) (r : dR), rm_get lv 0 = some (va_rf o0) → rm_get lv 1 = some (.int i1) → rm_get lv 2 = some (.int i2) → rm_get lv 3 = some (.int i3) → b73_0 L xs zf D w  o0 i1 i2 i3 h = some r → dq L xs zf ah_M73 0 lv [] h (k + 1) r := by
  intro o0 i1 i2 i3 lv h r G0 G1 G2 G3 hh
  unfold b73_0 at hh
  refine dq_S (.iconst 0) 1 [] 1 _ [.int 0] (by decide +kernel) rfl ?_
  refine dq_is 4 3 (by decide +kernel) (by decide +kernel) ?_
  have g1 := dg_ne (i := 4) (u := .int 0) (by decide) (Or.inl (by decide)) G0
  have g2 := dg_ne (i := 4) (u := .int 0) (by decide) (Or.inl (by decide)) G1
  have g3 := dg_ne (i := 4) (u := .int 0) (by decide) (Or.inl (by decide)) G2
  have g4 := dg_ne (i := 4) (u := .int 0) (by decide) (Or.inr rfl) G3
  have g5 := dg_eq (lv) 4 (.int 0)
  exact c73_3 hD hz _ _ _ _ _ _ _ _ _ g1 g2 g3 g4 g5 hh
def f73 (L : Nat) (xs : Nat → Int32) (zf : Value) (D : dD) (w : Nat) (As : List Value) (h : rm_H) : Option dR := match As with
  | [v0, .int i1, .int i2, .int i3] => (rm_rf v0).bind fun o0 => b73_0 L xs zf D w o0 i1 i2 i3 h
  | _ => none
theorem d73 {L : Nat} {xs : Nat → Int32} {zf : Value} {D : dD} {w k : Nat} (hD : dO L xs zf D k) (hz : zf.category = 1) (As : List Value) (h : rm_H) (r : dR) (hh : f73 L xs zf D w As h = some r) : dq L xs zf ah_M73 0 (lv_args 0 As) [] h (k + 1) r := by
  unfold f73 at hh
  split at hh
  · obtain ⟨o0, e0, hb0⟩ := db hh
    have e0 := rm_rf_v _ _ e0
    subst e0
    refine c73_0 hD hz _ _ _ _ _ _ _ ?_ ?_ ?_ ?_ hb0
    all_goals (simp only [la_r, la_i, la_j]; rfl)
  · cases hh
def b74_35 (L : Nat) (xs : Nat → Int32) (zf : Value) (D : dD) (w : Nat) (s0 : Int32) (h : rm_H) : Option dR :=
  drI (some .int) s0 h
theorem c74_35 {L : Nat} {xs : Nat → Int32} {zf : Value} {D : dD} {w k : Nat} (hD : dO L xs zf D k) (hz : zf.category = 1) : ∀ (s0 : Int32) (lv : rm_L) (h : rm_H) (r : dR), b74_35 L xs zf D w  s0 h = some r → dq L xs zf ah_M74 35 lv [.int s0] h (k + 1) r := by
  intro s0 lv h r hh
  unfold b74_35 at hh
  exact dq_retI (some .int) (by decide +kernel) rfl hh
def b74_0 (L : Nat) (xs : Nat → Int32) (zf : Value) (D : dD) (w : Nat) (o0 : Option Nat) (i1 : Int32) (i2 : Int32) (h : rm_H) : Option dR :=
  if mx_f2 .ne (i2 - i1) 2 = true then
    (dgR L xs h 0 [6] o0).bind fun p2 =>
    ((dcV L xs D 63 [7, 16] p2 [.int i1] h).bind dxI).bind fun x4 =>
    ((dcV L xs D 75 [7, 16] (some 8) [.int x4.1] x4.2).bind dxI).bind fun x8 =>
    if mx_f1 .ge x8.1 = true then
      b74_35 L xs zf D w (5 + x8.1) x8.2
    else
      b74_35 L xs zf D w 1 x8.2
  else
    drI (some .int) 19 h
theorem c74_0 {L : Nat} {xs : Nat → Int32} {zf : Value} {D : dD} {w k : Nat} (hD : dO L xs zf D k) (hz : zf.category = 1) : ∀ (o0 : Option Nat) (i1 : Int32) (i2 : Int32) (lv : rm_L) (h : rm_H) (r : dR), rm_get lv 0 = some (va_rf o0) → rm_get lv 1 = some (.int i1) → rm_get lv 2 = some (.int i2) → b74_0 L xs zf D w  o0 i1 i2 h = some r → dq L xs zf ah_M74 0 lv [] h (k + 1) r := by
  intro o0 i1 i2 lv h r G0 G1 G2 hh
  unfold b74_0 at hh
  refine dq_iln 2 1 (by decide +kernel) rfl G2 ?_
  refine dq_iln 1 2 (by decide +kernel) rfl G1 ?_
  refine dq_S (.isub) 1 [] 3 _ [.int (i2 - i1)] (by decide +kernel) rfl ?_
  refine dq_S (.iconst 2) 1 [] 4 _ [.int 2, .int (i2 - i1)] (by decide +kernel) rfl ?_
  rcases di hh with ⟨q1, hh⟩ | ⟨q1, hh⟩
  · refine dq_2 .ne 6 true 10 q1 (by decide +kernel) ?_
    refine dq_S (.ldc 72) 2 [1, 8] 12 _ [va_rf (some 8)] (by decide +kernel) rfl ?_
    refine dq_aln 0 13 (by decide +kernel) rfl G0 ?_
    obtain ⟨p2, q3, hh⟩ := db hh
    refine dq_gR 9 0 [6] 16 (by decide +kernel) rfl q3 ?_
    refine dq_iln 1 17 (by decide +kernel) rfl G1 ?_
    obtain ⟨x4, q5, hh⟩ := db hh
    obtain ⟨a6, q7, q5⟩ := db q5
    rw [dq_xI q5] at q7
    refine dq_cvi hD 47 63 5 1 [7, 16] p2 [.int i1] [va_rf (some 8)] 20 [.int x4.1, va_rf (some 8)] (by decide +kernel) ap_63 ⟨⟨Nat.le_of_ble_eq_true rfl, by decide⟩, rfl, rfl⟩ (dq_ok8 [1, 1] [1] (dc_r (dc_i dc_n)) (dc_r dc_n) (by decide +kernel)) (by decide +kernel) rfl q7 rfl ?_
    obtain ⟨x8, q9, hh⟩ := db hh
    obtain ⟨a10, q11, q9⟩ := db q9
    rw [dq_xI q9] at q11
    refine dq_cvi hD 74 75 5 1 [7, 16] (some 8) [.int x4.1] [] 23 [.int x8.1] (by decide +kernel) ap_75 ⟨⟨Nat.le_of_ble_eq_true rfl, by decide⟩, rfl, rfl⟩ (dq_ok8 [1, 1] [] (dc_r (dc_i dc_n)) dc_n (by decide +kernel)) (by decide +kernel) rfl q11 rfl ?_
    refine dq_isn 3 24 (by decide +kernel) (by decide +kernel) ?_
    have g12 := dg_ne (i := 3) (u := .int x8.1) (by decide) (Or.inl (by decide)) G0
    have g13 := dg_ne (i := 3) (u := .int x8.1) (by decide) (Or.inl (by decide)) G1
    have g14 := dg_ne (i := 3) (u := .int x8.1) (by decide) (Or.inr rfl) G2
    have g15 := dg_eq (lv) 3 (.int x8.1)
    refine dq_iln 3 25 (by decide +kernel) rfl g15 ?_
    rcases di hh with ⟨q16, hh⟩ | ⟨q16, hh⟩
    · refine dq_1 .ge 7 true 32 q16 (by decide +kernel) ?_
      refine dq_S (.iconst 5) 1 [] 33 _ [.int 5] (by decide +kernel) rfl ?_
      refine dq_iln 3 34 (by decide +kernel) rfl g15 ?_
      refine dq_S (.iadd) 1 [] 35 _ [.int (5 + x8.1)] (by decide +kernel) rfl ?_
      exact c74_35 hD hz _ _ _ _  hh
    · refine dq_1 .ge 7 false 28 q16 (by decide +kernel) ?_
      refine dq_S (.iconst 1) 1 [] 29 _ [.int 1] (by decide +kernel) rfl ?_
      refine dq_S (.goto 6) 3 [] 35 _ [.int 1] (by decide +kernel) rfl ?_
      exact c74_35 hD hz _ _ _ _  hh
  · refine dq_2 .ne 6 false 7 q1 (by decide +kernel) ?_
    refine dq_S (.bipush 19) 2 [] 9 _ [.int 19] (by decide +kernel) rfl ?_
    exact dq_retI (some .int) (by decide +kernel) rfl hh
def f74 (L : Nat) (xs : Nat → Int32) (zf : Value) (D : dD) (w : Nat) (As : List Value) (h : rm_H) : Option dR := match As with
  | [v0, .int i1, .int i2] => (rm_rf v0).bind fun o0 => b74_0 L xs zf D w o0 i1 i2 h
  | _ => none
theorem d74 {L : Nat} {xs : Nat → Int32} {zf : Value} {D : dD} {w k : Nat} (hD : dO L xs zf D k) (hz : zf.category = 1) (As : List Value) (h : rm_H) (r : dR) (hh : f74 L xs zf D w As h = some r) : dq L xs zf ah_M74 0 (lv_args 0 As) [] h (k + 1) r := by
  unfold f74 at hh
  split at hh
  · obtain ⟨o0, e0, hb0⟩ := db hh
    have e0 := rm_rf_v _ _ e0
    subst e0
    refine c74_0 hD hz _ _ _ _ _ _ ?_ ?_ ?_ hb0
    all_goals (simp only [la_r, la_i, la_j]; rfl)
  · cases hh
def b75_0 (L : Nat) (xs : Nat → Int32) (zf : Value) (D : dD) (w : Nat) (o0 : Option Nat) (i1 : Int32) (h : rm_H) : Option dR :=
  ((dcV L xs D 76 [7, 16] o0 [.int i1, .int 0] h).bind dxI).bind fun x1 =>
  drI (some .int) x1.1 x1.2
theorem c75_0 {L : Nat} {xs : Nat → Int32} {zf : Value} {D : dD} {w k : Nat} (hD : dO L xs zf D k) (hz : zf.category = 1) : ∀ (o0 : Option Nat) (i1 : Int32) (lv : rm_L) (h : rm_H) (r : dR), rm_get lv 0 = some (va_rf o0) → rm_get lv 1 = some (.int i1) → b75_0 L xs zf D w  o0 i1 h = some r → dq L xs zf ah_M75 0 lv [] h (k + 1) r := by
  intro o0 i1 lv h r G0 G1 hh
  unfold b75_0 at hh
  refine dq_aln 0 1 (by decide +kernel) rfl G0 ?_
  refine dq_iln 1 2 (by decide +kernel) rfl G1 ?_
  refine dq_S (.iconst 0) 1 [] 3 _ [.int 0, .int i1, va_rf o0] (by decide +kernel) rfl ?_
  obtain ⟨x1, q2, hh⟩ := db hh
  obtain ⟨a3, q4, q2⟩ := db q2
  rw [dq_xI q2] at q4
  refine dq_cvi hD 633 76 5 2 [7, 16] o0 [.int i1, .int 0] [] 6 [.int x1.1] (by decide +kernel) ap_76 ⟨⟨Nat.le_of_ble_eq_true rfl, by decide⟩, rfl, rfl⟩ (dq_ok8 [1, 1, 1] [] (dc_r (dc_i (dc_i dc_n))) dc_n (by decide +kernel)) (by decide +kernel) rfl q4 rfl ?_
  exact dq_retI (some .int) (by decide +kernel) rfl hh
def f75 (L : Nat) (xs : Nat → Int32) (zf : Value) (D : dD) (w : Nat) (As : List Value) (h : rm_H) : Option dR := match As with
  | [v0, .int i1] => (rm_rf v0).bind fun o0 => b75_0 L xs zf D w o0 i1 h
  | _ => none
theorem d75 {L : Nat} {xs : Nat → Int32} {zf : Value} {D : dD} {w k : Nat} (hD : dO L xs zf D k) (hz : zf.category = 1) (As : List Value) (h : rm_H) (r : dR) (hh : f75 L xs zf D w As h = some r) : dq L xs zf ah_M75 0 (lv_args 0 As) [] h (k + 1) r := by
  unfold f75 at hh
  split at hh
  · obtain ⟨o0, e0, hb0⟩ := db hh
    have e0 := rm_rf_v _ _ e0
    subst e0
    refine c75_0 hD hz _ _ _ _ _ ?_ ?_ hb0
    all_goals (simp only [la_r, la_i, la_j]; rfl)
  · cases hh
def b76_36 (L : Nat) (xs : Nat → Int32) (zf : Value) (D : dD) (w : Nat) (s0 : Int32) (h : rm_H) : Option dR :=
  drI (some .int) s0 h
theorem c76_36 {L : Nat} {xs : Nat → Int32} {zf : Value} {D : dD} {w k : Nat} (hD : dO L xs zf D k) (hz : zf.category = 1) : ∀ (s0 : Int32) (lv : rm_L) (h : rm_H) (r : dR), b76_36 L xs zf D w  s0 h = some r → dq L xs zf ah_M76 36 lv [.int s0] h (k + 1) r := by
  intro s0 lv h r hh
  unfold b76_36 at hh
  exact dq_retI (some .int) (by decide +kernel) rfl hh
def b76_0 (L : Nat) (xs : Nat → Int32) (zf : Value) (D : dD) (w : Nat) (o0 : Option Nat) (i1 : Int32) (i2 : Int32) (h : rm_H) : Option dR :=
  ((dcV L xs D 64 [7, 16] o0 [] h).bind dxI).bind fun x1 =>
  if mx_f1 .eq x1.1 = true then
    (dgR L xs x1.2 0 [7, 16] o0).bind fun p6 =>
    ((dcV L xs D 60 [7, 16] o0 [] x1.2).bind dxI).bind fun x8 =>
    ((D 80 [va_rf p6, .int i1, .int i2, .int x8.1] x8.2).bind dxI).bind fun x12 =>
    b76_36 L xs zf D w x12.1 x12.2
  else
    (dgR L xs x1.2 0 [7, 16] o0).bind fun p16 =>
    ((dcV L xs D 60 [7, 16] o0 [] x1.2).bind dxI).bind fun x18 =>
    ((D 77 [va_rf p16, .int i1, .int i2, .int x18.1] x18.2).bind dxI).bind fun x22 =>
    b76_36 L xs zf D w x22.1 x22.2
theorem c76_0 {L : Nat} {xs : Nat → Int32} {zf : Value} {D : dD} {w k : Nat} (hD : dO L xs zf D k) (hz : zf.category = 1) : ∀ (o0 : Option Nat) (i1 : Int32) (i2 : Int32) (lv : rm_L) (h : rm_H) (r : dR), rm_get lv 0 = some (va_rf o0) → rm_get lv 1 = some (.int i1) → rm_get lv 2 = some (.int i2) → b76_0 L xs zf D w  o0 i1 i2 h = some r → dq L xs zf ah_M76 0 lv [] h (k + 1) r := by
  intro o0 i1 i2 lv h r G0 G1 G2 hh
  unfold b76_0 at hh
  refine dq_aln 0 1 (by decide +kernel) rfl G0 ?_
  obtain ⟨x1, q2, hh⟩ := db hh
  obtain ⟨a3, q4, q2⟩ := db q2
  rw [dq_xI q2] at q4
  refine dq_cvi hD 492 64 5 0 [7, 16] o0 [] [] 4 [.int x1.1] (by decide +kernel) ap_64 ⟨⟨Nat.le_of_ble_eq_true rfl, by decide⟩, rfl, rfl⟩ (dq_ok8 [1] [] (dc_r dc_n) dc_n (by decide +kernel)) (by decide +kernel) rfl q4 rfl ?_
  rcases di hh with ⟨q5, hh⟩ | ⟨q5, hh⟩
  · refine dq_1 .eq 19 true 23 q5 (by decide +kernel) ?_
    refine dq_aln 0 24 (by decide +kernel) rfl G0 ?_
    obtain ⟨p6, q7, hh⟩ := db hh
    refine dq_gR 9 0 [7, 16] 27 (by decide +kernel) rfl q7 ?_
    refine dq_iln 1 28 (by decide +kernel) rfl G1 ?_
    refine dq_iln 2 29 (by decide +kernel) rfl G2 ?_
    refine dq_aln 0 30 (by decide +kernel) rfl G0 ?_
    obtain ⟨x8, q9, hh⟩ := db hh
    obtain ⟨a10, q11, q9⟩ := db q9
    rw [dq_xI q9] at q11
    refine dq_cvi hD 505 60 5 0 [7, 16] o0 [] [.int i2, .int i1, va_rf p6] 33 [.int x8.1, .int i2, .int i1, va_rf p6] (by decide +kernel) ap_60 ⟨⟨Nat.le_of_ble_eq_true rfl, by decide⟩, rfl, rfl⟩ (dq_ok8 [1] [1, 1, 1] (dc_r dc_n) (dc_i (dc_i (dc_r dc_n))) (by decide +kernel)) (by decide +kernel) rfl q11 rfl ?_
    obtain ⟨x12, q13, hh⟩ := db hh
    obtain ⟨a14, q15, q13⟩ := db q13
    rw [dq_xI q13] at q15
    refine dq_cst hD 640 80 0 4 [va_rf p6, .int i1, .int i2, .int x8.1] [] 36 [.int x12.1] (by decide +kernel) ap_80 ⟨⟨Nat.le_of_ble_eq_true rfl, by decide⟩, rfl, rfl⟩ (dq_ok8 [1, 1, 1, 1] [] (dc_r (dc_i (dc_i (dc_i dc_n)))) dc_n (by decide +kernel)) (by decide +kernel) rfl q15 rfl ?_
    exact c76_36 hD hz _ _ _ _  hh
  · refine dq_1 .eq 19 false 7 q5 (by decide +kernel) ?_
    refine dq_aln 0 8 (by decide +kernel) rfl G0 ?_
    obtain ⟨p16, q17, hh⟩ := db hh
    refine dq_gR 9 0 [7, 16] 11 (by decide +kernel) rfl q17 ?_
    refine dq_iln 1 12 (by decide +kernel) rfl G1 ?_
    refine dq_iln 2 13 (by decide +kernel) rfl G2 ?_
    refine dq_aln 0 14 (by decide +kernel) rfl G0 ?_
    obtain ⟨x18, q19, hh⟩ := db hh
    obtain ⟨a20, q21, q19⟩ := db q19
    rw [dq_xI q19] at q21
    refine dq_cvi hD 505 60 5 0 [7, 16] o0 [] [.int i2, .int i1, va_rf p16] 17 [.int x18.1, .int i2, .int i1, va_rf p16] (by decide +kernel) ap_60 ⟨⟨Nat.le_of_ble_eq_true rfl, by decide⟩, rfl, rfl⟩ (dq_ok8 [1] [1, 1, 1] (dc_r dc_n) (dc_i (dc_i (dc_r dc_n))) (by decide +kernel)) (by decide +kernel) rfl q21 rfl ?_
    obtain ⟨x22, q23, hh⟩ := db hh
    obtain ⟨a24, q25, q23⟩ := db q23
    rw [dq_xI q23] at q25
    refine dq_cst hD 637 77 0 4 [va_rf p16, .int i1, .int i2, .int x18.1] [] 20 [.int x22.1] (by decide +kernel) ap_77 ⟨⟨Nat.le_of_ble_eq_true rfl, by decide⟩, rfl, rfl⟩ (dq_ok8 [1, 1, 1, 1] [] (dc_r (dc_i (dc_i (dc_i dc_n)))) dc_n (by decide +kernel)) (by decide +kernel) rfl q25 rfl ?_
    refine dq_S (.goto 16) 3 [] 36 _ [.int x22.1] (by decide +kernel) rfl ?_
    exact c76_36 hD hz _ _ _ _  hh
def f76 (L : Nat) (xs : Nat → Int32) (zf : Value) (D : dD) (w : Nat) (As : List Value) (h : rm_H) : Option dR := match As with
  | [v0, .int i1, .int i2] => (rm_rf v0).bind fun o0 => b76_0 L xs zf D w o0 i1 i2 h
  | _ => none
theorem d76 {L : Nat} {xs : Nat → Int32} {zf : Value} {D : dD} {w k : Nat} (hD : dO L xs zf D k) (hz : zf.category = 1) (As : List Value) (h : rm_H) (r : dR) (hh : f76 L xs zf D w As h = some r) : dq L xs zf ah_M76 0 (lv_args 0 As) [] h (k + 1) r := by
  unfold f76 at hh
  split at hh
  · obtain ⟨o0, e0, hb0⟩ := db hh
    have e0 := rm_rf_v _ _ e0
    subst e0
    refine c76_0 hD hz _ _ _ _ _ _ ?_ ?_ ?_ hb0
    all_goals (simp only [la_r, la_i, la_j]; rfl)
  · cases hh
def b77_0 (L : Nat) (xs : Nat → Int32) (zf : Value) (D : dD) (w : Nat) (o0 : Option Nat) (i1 : Int32) (i2 : Int32) (i3 : Int32) (h : rm_H) : Option dR :=
  ((D 78 [.int i1] h).bind dxI).bind fun x1 =>
  if mx_f1 .ne x1.1 = true then
    ((D 18 [.int i2, .int 0] x1.2).bind dxI).bind fun x6 =>
    (daN L xs x6.2 o0).bind fun x14 =>
    ((D 21 [.int i3, .int x14] x6.2).bind dxI).bind fun x16 =>
    if mx_f2 .lt x6.1 x16.1 = true then
      ((D 79 [va_rf o0, .int i1, .int x6.1, .int x16.1] x16.2).bind dxI).bind fun x25 =>
      drI (some .int) x25.1 x25.2
    else
      drI (some .int) (-1) x16.2
  else
    drI (some .int) (-1) x1.2
theorem c77_0 {L : Nat} {xs : Nat → Int32} {zf : Value} {D : dD} {w k : Nat} (hD : dO L xs zf D k) (hz : zf.category = 1) : ∀ (o0 : Option Nat) (i1 : Int32) (i2 : Int32) (i3 : Int32) (lv : rm_L) (h : rm_H) (r : dR), rm_get lv 0 = some (va_rf o0) → rm_get lv 1 = some (.int i1) → rm_get lv 2 = some (.int i2) → rm_get lv 3 = some (.int i3) → b77_0 L xs zf D w  o0 i1 i2 i3 h = some r → dq L xs zf ah_M77 0 lv [] h (k + 1) r := by
  intro o0 i1 i2 i3 lv h r G0 G1 G2 G3 hh
  unfold b77_0 at hh
  refine dq_iln 1 1 (by decide +kernel) rfl G1 ?_
  obtain ⟨x1, q2, hh⟩ := db hh
  obtain ⟨a3, q4, q2⟩ := db q2
  rw [dq_xI q2] at q4
  refine dq_cst hD 88 78 0 1 [.int i1] [] 4 [.int x1.1] (by decide +kernel) ap_78 ⟨⟨Nat.le_of_ble_eq_true rfl, by decide⟩, rfl, rfl⟩ (dq_ok8 [1] [] (dc_i dc_n) dc_n (by decide +kernel)) (by decide +kernel) rfl q4 rfl ?_
  rcases di hh with ⟨q5, hh⟩ | ⟨q5, hh⟩
  · refine dq_1 .ne 5 true 9 q5 (by decide +kernel) ?_
    refine dq_iln 2 10 (by decide +kernel) rfl G2 ?_
    refine dq_S (.iconst 0) 1 [] 11 _ [.int 0, .int i2] (by decide +kernel) rfl ?_
    obtain ⟨x6, q7, hh⟩ := db hh
    obtain ⟨a8, q9, q7⟩ := db q7
    rw [dq_xI q7] at q9
    refine dq_cst hD 92 18 0 2 [.int i2, .int 0] [] 14 [.int x6.1] (by decide +kernel) ap_18 ⟨⟨Nat.le_of_ble_eq_true rfl, by decide⟩, rfl, rfl⟩ (dq_ok8 [1, 1] [] (dc_i (dc_i dc_n)) dc_n (by decide +kernel)) (by decide +kernel) rfl q9 rfl ?_
    refine dq_isn 2 15 (by decide +kernel) (by decide +kernel) ?_
    have g10 := dg_ne (i := 2) (u := .int x6.1) (by decide) (Or.inl (by decide)) G0
    have g11 := dg_ne (i := 2) (u := .int x6.1) (by decide) (Or.inr rfl) G1
    have g12 := dg_ne (i := 2) (u := .int x6.1) (by decide) (Or.inl (by decide)) G3
    have g13 := dg_eq (lv) 2 (.int x6.1)
    refine dq_iln 3 16 (by decide +kernel) rfl g12 ?_
    refine dq_aln 0 17 (by decide +kernel) rfl g10 ?_
    obtain ⟨x14, q15, hh⟩ := db hh
    refine dq_aN 18 (by decide +kernel) rfl q15 ?_
    obtain ⟨x16, q17, hh⟩ := db hh
    obtain ⟨a18, q19, q17⟩ := db q17
    rw [dq_xI q17] at q19
    refine dq_cst hD 38 21 0 2 [.int i3, .int x14] [] 21 [.int x16.1] (by decide +kernel) ap_21 ⟨⟨Nat.le_of_ble_eq_true rfl, by decide⟩, rfl, rfl⟩ (dq_ok8 [1, 1] [] (dc_i (dc_i dc_n)) dc_n (by decide +kernel)) (by decide +kernel) rfl q19 rfl ?_
    refine dq_isn 3 22 (by decide +kernel) (by decide +kernel) ?_
    have g20 := dg_ne (i := 3) (u := .int x16.1) (by decide) (Or.inl (by decide)) g10
    have g21 := dg_ne (i := 3) (u := .int x16.1) (by decide) (Or.inl (by decide)) g11
    have g22 := dg_ne (i := 3) (u := .int x16.1) (by decide) (Or.inr rfl) g13
    have g23 := dg_eq (rm_set1 (lv) 2 (.int x6.1)) 3 (.int x16.1)
    refine dq_iln 2 23 (by decide +kernel) rfl g22 ?_
    refine dq_iln 3 24 (by decide +kernel) rfl g23 ?_
    rcases di hh with ⟨q24, hh⟩ | ⟨q24, hh⟩
    · refine dq_2 .lt 5 true 29 q24 (by decide +kernel) ?_
      refine dq_aln 0 30 (by decide +kernel) rfl g20 ?_
      refine dq_iln 1 31 (by decide +kernel) rfl g21 ?_
      refine dq_iln 2 32 (by decide +kernel) rfl g22 ?_
      refine dq_iln 3 33 (by decide +kernel) rfl g23 ?_
      obtain ⟨x25, q26, hh⟩ := db hh
      obtain ⟨a27, q28, q26⟩ := db q26
      rw [dq_xI q26] at q28
      refine dq_cst hD 95 79 0 4 [va_rf o0, .int i1, .int x6.1, .int x16.1] [] 36 [.int x25.1] (by decide +kernel) ap_79 ⟨⟨Nat.le_of_ble_eq_true rfl, by decide⟩, rfl, rfl⟩ (dq_ok8 [1, 1, 1, 1] [] (dc_r (dc_i (dc_i (dc_i dc_n)))) dc_n (by decide +kernel)) (by decide +kernel) rfl q28 rfl ?_
      exact dq_retI (some .int) (by decide +kernel) rfl hh
    · refine dq_2 .lt 5 false 27 q24 (by decide +kernel) ?_
      refine dq_S (.iconst (-1)) 1 [] 28 _ [.int (-1)] (by decide +kernel) rfl ?_
      exact dq_retI (some .int) (by decide +kernel) rfl hh
  · refine dq_1 .ne 5 false 7 q5 (by decide +kernel) ?_
    refine dq_S (.iconst (-1)) 1 [] 8 _ [.int (-1)] (by decide +kernel) rfl ?_
    exact dq_retI (some .int) (by decide +kernel) rfl hh
def f77 (L : Nat) (xs : Nat → Int32) (zf : Value) (D : dD) (w : Nat) (As : List Value) (h : rm_H) : Option dR := match As with
  | [v0, .int i1, .int i2, .int i3] => (rm_rf v0).bind fun o0 => b77_0 L xs zf D w o0 i1 i2 i3 h
  | _ => none
theorem d77 {L : Nat} {xs : Nat → Int32} {zf : Value} {D : dD} {w k : Nat} (hD : dO L xs zf D k) (hz : zf.category = 1) (As : List Value) (h : rm_H) (r : dR) (hh : f77 L xs zf D w As h = some r) : dq L xs zf ah_M77 0 (lv_args 0 As) [] h (k + 1) r := by
  unfold f77 at hh
  split at hh
  · obtain ⟨o0, e0, hb0⟩ := db hh
    have e0 := rm_rf_v _ _ e0
    subst e0
    refine c77_0 hD hz _ _ _ _ _ _ _ ?_ ?_ ?_ ?_ hb0
    all_goals (simp only [la_r, la_i, la_j]; rfl)
  · cases hh
def b78_16 (L : Nat) (xs : Nat → Int32) (zf : Value) (D : dD) (w : Nat) (s0 : Int32) (h : rm_H) : Option dR :=
  drI (some .boolean) s0 h
theorem c78_16 {L : Nat} {xs : Nat → Int32} {zf : Value} {D : dD} {w k : Nat} (hD : dO L xs zf D k) (hz : zf.category = 1) : ∀ (s0 : Int32) (lv : rm_L) (h : rm_H) (r : dR), b78_16 L xs zf D w  s0 h = some r → dq L xs zf ah_M78 16 lv [.int s0] h (k + 1) r := by
  intro s0 lv h r hh
  unfold b78_16 at hh
  exact dq_retI (some .boolean) (by decide +kernel) rfl hh
def b78_15 (L : Nat) (xs : Nat → Int32) (zf : Value) (D : dD) (w : Nat) (h : rm_H) : Option dR :=
  b78_16 L xs zf D w 0 h
theorem c78_15 {L : Nat} {xs : Nat → Int32} {zf : Value} {D : dD} {w k : Nat} (hD : dO L xs zf D k) (hz : zf.category = 1) : ∀ (lv : rm_L) (h : rm_H) (r : dR), b78_15 L xs zf D w  h = some r → dq L xs zf ah_M78 15 lv [] h (k + 1) r := by
  intro lv h r hh
  unfold b78_15 at hh
  refine dq_S (.iconst 0) 1 [] 16 _ [.int 0] (by decide +kernel) rfl ?_
  exact c78_16 hD hz _ _ _ _  hh
def b78_0 (L : Nat) (xs : Nat → Int32) (zf : Value) (D : dD) (w : Nat) (i0 : Int32) (h : rm_H) : Option dR :=
  if mx_f1 .lt i0 = true then
    b78_15 L xs zf D w h
  else
    if mx_f2 .gt i0 255 = true then
      b78_15 L xs zf D w h
    else
      b78_16 L xs zf D w 1 h
theorem c78_0 {L : Nat} {xs : Nat → Int32} {zf : Value} {D : dD} {w k : Nat} (hD : dO L xs zf D k) (hz : zf.category = 1) : ∀ (i0 : Int32) (lv : rm_L) (h : rm_H) (r : dR), rm_get lv 0 = some (.int i0) → b78_0 L xs zf D w  i0 h = some r → dq L xs zf ah_M78 0 lv [] h (k + 1) r := by
  intro i0 lv h r G0 hh
  unfold b78_0 at hh
  refine dq_iln 0 1 (by decide +kernel) rfl G0 ?_
  rcases di hh with ⟨q1, hh⟩ | ⟨q1, hh⟩
  · refine dq_1 .lt 14 true 15 q1 (by decide +kernel) ?_
    exact c78_15 hD hz  _ _ _  hh
  · refine dq_1 .lt 14 false 4 q1 (by decide +kernel) ?_
    refine dq_iln 0 5 (by decide +kernel) rfl G0 ?_
    refine dq_S (.sipush 255) 3 [] 8 _ [.int 255, .int i0] (by decide +kernel) rfl ?_
    rcases di hh with ⟨q2, hh⟩ | ⟨q2, hh⟩
    · refine dq_2 .gt 7 true 15 q2 (by decide +kernel) ?_
      exact c78_15 hD hz  _ _ _  hh
    · refine dq_2 .gt 7 false 11 q2 (by decide +kernel) ?_
      refine dq_S (.iconst 1) 1 [] 12 _ [.int 1] (by decide +kernel) rfl ?_
      refine dq_S (.goto 4) 3 [] 16 _ [.int 1] (by decide +kernel) rfl ?_
      exact c78_16 hD hz _ _ _ _  hh
def f78 (L : Nat) (xs : Nat → Int32) (zf : Value) (D : dD) (w : Nat) (As : List Value) (h : rm_H) : Option dR := match As with
  | [.int i0] => b78_0 L xs zf D w i0 h
  | _ => none
theorem d78 {L : Nat} {xs : Nat → Int32} {zf : Value} {D : dD} {w k : Nat} (hD : dO L xs zf D k) (hz : zf.category = 1) (As : List Value) (h : rm_H) (r : dR) (hh : f78 L xs zf D w As h = some r) : dq L xs zf ah_M78 0 (lv_args 0 As) [] h (k + 1) r := by
  unfold f78 at hh
  split at hh
  · refine c78_0 hD hz _ _ _ _ ?_ hh
    all_goals (simp only [la_r, la_i, la_j]; rfl)
  · cases hh
def b79_7 (L : Nat) (xs : Nat → Int32) (zf : Value) (D : dD) (w : Nat) : Nat → Option Nat → Int32 → Int32 → Int32 → rm_H → Option dR
  | 0, _, _, _, _, _ => none
  | n + 1, o0, i3, i4, i5, h =>
    if mx_f2 .ge i5 i3 = true then
      drI (some .int) (-1) h
    else
      (daB L xs h o0 i5).bind fun x2 =>
      if mx_f2 .ne x2 i4 = true then
        b79_7 L xs zf D w n o0 i3 i4 (i5 + 1) h
      else
        drI (some .int) i5 h
theorem c79_7 {L : Nat} {xs : Nat → Int32} {zf : Value} {D : dD} {w k : Nat} (hD : dO L xs zf D k) (hz : zf.category = 1) : ∀ (n : Nat) (o0 : Option Nat) (i3 : Int32) (i4 : Int32) (i5 : Int32) (lv : rm_L) (h : rm_H) (r : dR), rm_get lv 0 = some (va_rf o0) → rm_get lv 3 = some (.int i3) → rm_get lv 4 = some (.int i4) → rm_get lv 5 = some (.int i5) → b79_7 L xs zf D w n  o0 i3 i4 i5 h = some r → dq L xs zf ah_M79 7 lv [] h (k + 1) r := by
  intro n
  induction n with
  | zero =>
    intro o0 i3 i4 i5 lv h r G0 G3 G4 G5 hh
    cases hh
  | succ n ih =>
    intro o0 i3 i4 i5 lv h r G0 G3 G4 G5 hh
    rw [b79_7] at hh
    refine dq_il 5 9 (by decide +kernel) rfl G5 ?_
    refine dq_iln 3 10 (by decide +kernel) rfl G3 ?_
    rcases di hh with ⟨q1, hh⟩ | ⟨q1, hh⟩
    · refine dq_2 .ge 21 true 31 q1 (by decide +kernel) ?_
      refine dq_S (.iconst (-1)) 1 [] 32 _ [.int (-1)] (by decide +kernel) rfl ?_
      exact dq_retI (some .int) (by decide +kernel) rfl hh
    · refine dq_2 .ge 21 false 13 q1 (by decide +kernel) ?_
      refine dq_aln 0 14 (by decide +kernel) rfl G0 ?_
      refine dq_il 5 16 (by decide +kernel) rfl G5 ?_
      obtain ⟨x2, q3, hh⟩ := db hh
      refine dq_aB 17 (by decide +kernel) rfl q3 ?_
      refine dq_il 4 19 (by decide +kernel) rfl G4 ?_
      rcases di hh with ⟨q4, hh⟩ | ⟨q4, hh⟩
      · refine dq_2 .ne 6 true 25 q4 (by decide +kernel) ?_
        refine dq_incy 5 1 1 28 (by decide +kernel) ⟨rfl, by decide +kernel, by decide +kernel⟩ G5 ?_
        have g5 := dg_ne (i := 5) (u := .int (i5 + 1)) (by decide) (Or.inl (by decide)) G0
        have g6 := dg_ne (i := 5) (u := .int (i5 + 1)) (by decide) (Or.inl (by decide)) G3
        have g7 := dg_ne (i := 5) (u := .int (i5 + 1)) (by decide) (Or.inr rfl) G4
        have g8 := dg_eq (lv) 5 (.int (i5 + 1))
        refine dq_S (.goto (-21)) 3 [] 7 _ [] (by decide +kernel) rfl ?_
        exact ih _ _ _ _ _ _ _ g5 g6 g7 g8 hh
      · refine dq_2 .ne 6 false 22 q4 (by decide +kernel) ?_
        refine dq_il 5 24 (by decide +kernel) rfl G5 ?_
        exact dq_retI (some .int) (by decide +kernel) rfl hh
def b79_0 (L : Nat) (xs : Nat → Int32) (zf : Value) (D : dD) (w : Nat) (o0 : Option Nat) (i1 : Int32) (i2 : Int32) (i3 : Int32) (h : rm_H) : Option dR :=
  b79_7 L xs zf D w w o0 i3 (Int8.toInt32 (Int32.toInt8 i1)) i2 h
theorem c79_0 {L : Nat} {xs : Nat → Int32} {zf : Value} {D : dD} {w k : Nat} (hD : dO L xs zf D k) (hz : zf.category = 1) : ∀ (o0 : Option Nat) (i1 : Int32) (i2 : Int32) (i3 : Int32) (lv : rm_L) (h : rm_H) (r : dR), rm_get lv 0 = some (va_rf o0) → rm_get lv 1 = some (.int i1) → rm_get lv 2 = some (.int i2) → rm_get lv 3 = some (.int i3) → b79_0 L xs zf D w  o0 i1 i2 i3 h = some r → dq L xs zf ah_M79 0 lv [] h (k + 1) r := by
  intro o0 i1 i2 i3 lv h r G0 G1 G2 G3 hh
  unfold b79_0 at hh
  refine dq_iln 1 1 (by decide +kernel) rfl G1 ?_
  refine dq_S (.i2b) 1 [] 2 _ [.int (Int8.toInt32 (Int32.toInt8 i1))] (by decide +kernel) rfl ?_
  refine dq_is 4 4 (by decide +kernel) (by decide +kernel) ?_
  have g1 := dg_ne (i := 4) (u := .int (Int8.toInt32 (Int32.toInt8 i1))) (by decide) (Or.inl (by decide)) G0
  have g2 := dg_ne (i := 4) (u := .int (Int8.toInt32 (Int32.toInt8 i1))) (by decide) (Or.inl (by decide)) G1
  have g3 := dg_ne (i := 4) (u := .int (Int8.toInt32 (Int32.toInt8 i1))) (by decide) (Or.inl (by decide)) G2
  have g4 := dg_ne (i := 4) (u := .int (Int8.toInt32 (Int32.toInt8 i1))) (by decide) (Or.inr rfl) G3
  have g5 := dg_eq (lv) 4 (.int (Int8.toInt32 (Int32.toInt8 i1)))
  refine dq_iln 2 5 (by decide +kernel) rfl g3 ?_
  refine dq_is 5 7 (by decide +kernel) (by decide +kernel) ?_
  have g6 := dg_ne (i := 5) (u := .int i2) (by decide) (Or.inl (by decide)) g1
  have g7 := dg_ne (i := 5) (u := .int i2) (by decide) (Or.inl (by decide)) g2
  have g8 := dg_ne (i := 5) (u := .int i2) (by decide) (Or.inl (by decide)) g3
  have g9 := dg_ne (i := 5) (u := .int i2) (by decide) (Or.inl (by decide)) g4
  have g10 := dg_ne (i := 5) (u := .int i2) (by decide) (Or.inr rfl) g5
  have g11 := dg_eq (rm_set1 (lv) 4 (.int (Int8.toInt32 (Int32.toInt8 i1)))) 5 (.int i2)
  exact c79_7 hD hz _ _ _ _ _ _ _ _ g6 g9 g10 g11 hh
def f79 (L : Nat) (xs : Nat → Int32) (zf : Value) (D : dD) (w : Nat) (As : List Value) (h : rm_H) : Option dR := match As with
  | [v0, .int i1, .int i2, .int i3] => (rm_rf v0).bind fun o0 => b79_0 L xs zf D w o0 i1 i2 i3 h
  | _ => none
theorem d79 {L : Nat} {xs : Nat → Int32} {zf : Value} {D : dD} {w k : Nat} (hD : dO L xs zf D k) (hz : zf.category = 1) (As : List Value) (h : rm_H) (r : dR) (hh : f79 L xs zf D w As h = some r) : dq L xs zf ah_M79 0 (lv_args 0 As) [] h (k + 1) r := by
  unfold f79 at hh
  split at hh
  · obtain ⟨o0, e0, hb0⟩ := db hh
    have e0 := rm_rf_v _ _ e0
    subst e0
    refine c79_0 hD hz _ _ _ _ _ _ _ ?_ ?_ ?_ ?_ hb0
    all_goals (simp only [la_r, la_i, la_j]; rfl)
  · cases hh
def b80_0 (L : Nat) (xs : Nat → Int32) (zf : Value) (D : dD) (w : Nat) (o0 : Option Nat) (i1 : Int32) (i2 : Int32) (i3 : Int32) (h : rm_H) : Option dR :=
  ((D 18 [.int i2, .int 0] h).bind dxI).bind fun x1 =>
  (daN L xs x1.2 o0).bind fun x9 =>
  ((D 21 [.int i3, .int (x9 >>> ((1 : Int32) &&& 31))] x1.2).bind dxI).bind fun x11 =>
  if mx_f2 .lt x1.1 x11.1 = true then
    if mx_f2 .ge i1 65536 = true then
      ((D 86 [va_rf o0, .int i1, .int x1.1, .int x11.1] x11.2).bind dxI).bind fun x21 =>
      drI (some .int) x21.1 x21.2
    else
      ((D 81 [va_rf o0, .int i1, .int x1.1, .int x11.1] x11.2).bind dxI).bind fun x25 =>
      drI (some .int) x25.1 x25.2
  else
    drI (some .int) (-1) x11.2
theorem c80_0 {L : Nat} {xs : Nat → Int32} {zf : Value} {D : dD} {w k : Nat} (hD : dO L xs zf D k) (hz : zf.category = 1) : ∀ (o0 : Option Nat) (i1 : Int32) (i2 : Int32) (i3 : Int32) (lv : rm_L) (h : rm_H) (r : dR), rm_get lv 0 = some (va_rf o0) → rm_get lv 1 = some (.int i1) → rm_get lv 2 = some (.int i2) → rm_get lv 3 = some (.int i3) → b80_0 L xs zf D w  o0 i1 i2 i3 h = some r → dq L xs zf ah_M80 0 lv [] h (k + 1) r := by
  intro o0 i1 i2 i3 lv h r G0 G1 G2 G3 hh
  unfold b80_0 at hh
  refine dq_iln 2 1 (by decide +kernel) rfl G2 ?_
  refine dq_S (.iconst 0) 1 [] 2 _ [.int 0, .int i2] (by decide +kernel) rfl ?_
  obtain ⟨x1, q2, hh⟩ := db hh
  obtain ⟨a3, q4, q2⟩ := db q2
  rw [dq_xI q2] at q4
  refine dq_cst hD 224 18 0 2 [.int i2, .int 0] [] 5 [.int x1.1] (by decide +kernel) ap_18 ⟨⟨Nat.le_of_ble_eq_true rfl, by decide⟩, rfl, rfl⟩ (dq_ok8 [1, 1] [] (dc_i (dc_i dc_n)) dc_n (by decide +kernel)) (by decide +kernel) rfl q4 rfl ?_
  refine dq_isn 2 6 (by decide +kernel) (by decide +kernel) ?_
  have g5 := dg_ne (i := 2) (u := .int x1.1) (by decide) (Or.inl (by decide)) G0
  have g6 := dg_ne (i := 2) (u := .int x1.1) (by decide) (Or.inr rfl) G1
  have g7 := dg_ne (i := 2) (u := .int x1.1) (by decide) (Or.inl (by decide)) G3
  have g8 := dg_eq (lv) 2 (.int x1.1)
  refine dq_iln 3 7 (by decide +kernel) rfl g7 ?_
  refine dq_aln 0 8 (by decide +kernel) rfl g5 ?_
  obtain ⟨x9, q10, hh⟩ := db hh
  refine dq_aN 9 (by decide +kernel) rfl q10 ?_
  refine dq_S (.iconst 1) 1 [] 10 _ [.int 1, .int x9, .int i3] (by decide +kernel) rfl ?_
  refine dq_S (.ishr) 1 [] 11 _ [.int (x9 >>> ((1 : Int32) &&& 31)), .int i3] (by decide +kernel) rfl ?_
  obtain ⟨x11, q12, hh⟩ := db hh
  obtain ⟨a13, q14, q12⟩ := db q12
  rw [dq_xI q12] at q14
  refine dq_cst hD 183 21 0 2 [.int i3, .int (x9 >>> ((1 : Int32) &&& 31))] [] 14 [.int x11.1] (by decide +kernel) ap_21 ⟨⟨Nat.le_of_ble_eq_true rfl, by decide⟩, rfl, rfl⟩ (dq_ok8 [1, 1] [] (dc_i (dc_i dc_n)) dc_n (by decide +kernel)) (by decide +kernel) rfl q14 rfl ?_
  refine dq_isn 3 15 (by decide +kernel) (by decide +kernel) ?_
  have g15 := dg_ne (i := 3) (u := .int x11.1) (by decide) (Or.inl (by decide)) g5
  have g16 := dg_ne (i := 3) (u := .int x11.1) (by decide) (Or.inl (by decide)) g6
  have g17 := dg_ne (i := 3) (u := .int x11.1) (by decide) (Or.inr rfl) g8
  have g18 := dg_eq (rm_set1 (lv) 2 (.int x1.1)) 3 (.int x11.1)
  refine dq_iln 2 16 (by decide +kernel) rfl g17 ?_
  refine dq_iln 3 17 (by decide +kernel) rfl g18 ?_
  rcases di hh with ⟨q19, hh⟩ | ⟨q19, hh⟩
  · refine dq_2 .lt 5 true 22 q19 (by decide +kernel) ?_
    refine dq_iln 1 23 (by decide +kernel) rfl g16 ?_
    refine dq_S (.ldc 227) 2 [0, 65536] 25 _ [.int 65536, .int i1] (by decide +kernel) rfl ?_
    rcases di hh with ⟨q20, hh⟩ | ⟨q20, hh⟩
    · refine dq_2 .ge 11 true 36 q20 (by decide +kernel) ?_
      refine dq_aln 0 37 (by decide +kernel) rfl g15 ?_
      refine dq_iln 1 38 (by decide +kernel) rfl g16 ?_
      refine dq_iln 2 39 (by decide +kernel) rfl g17 ?_
      refine dq_iln 3 40 (by decide +kernel) rfl g18 ?_
      obtain ⟨x21, q22, hh⟩ := db hh
      obtain ⟨a23, q24, q22⟩ := db q22
      rw [dq_xI q22] at q24
      refine dq_cst hD 232 86 0 4 [va_rf o0, .int i1, .int x1.1, .int x11.1] [] 43 [.int x21.1] (by decide +kernel) ap_86 ⟨⟨Nat.le_of_ble_eq_true rfl, by decide⟩, rfl, rfl⟩ (dq_ok8 [1, 1, 1, 1] [] (dc_r (dc_i (dc_i (dc_i dc_n)))) dc_n (by decide +kernel)) (by decide +kernel) rfl q24 rfl ?_
      exact dq_retI (some .int) (by decide +kernel) rfl hh
    · refine dq_2 .ge 11 false 28 q20 (by decide +kernel) ?_
      refine dq_aln 0 29 (by decide +kernel) rfl g15 ?_
      refine dq_iln 1 30 (by decide +kernel) rfl g16 ?_
      refine dq_iln 2 31 (by decide +kernel) rfl g17 ?_
      refine dq_iln 3 32 (by decide +kernel) rfl g18 ?_
      obtain ⟨x25, q26, hh⟩ := db hh
      obtain ⟨a27, q28, q26⟩ := db q26
      rw [dq_xI q26] at q28
      refine dq_cst hD 228 81 0 4 [va_rf o0, .int i1, .int x1.1, .int x11.1] [] 35 [.int x25.1] (by decide +kernel) ap_81 ⟨⟨Nat.le_of_ble_eq_true rfl, by decide⟩, rfl, rfl⟩ (dq_ok8 [1, 1, 1, 1] [] (dc_r (dc_i (dc_i (dc_i dc_n)))) dc_n (by decide +kernel)) (by decide +kernel) rfl q28 rfl ?_
      exact dq_retI (some .int) (by decide +kernel) rfl hh
  · refine dq_2 .lt 5 false 20 q19 (by decide +kernel) ?_
    refine dq_S (.iconst (-1)) 1 [] 21 _ [.int (-1)] (by decide +kernel) rfl ?_
    exact dq_retI (some .int) (by decide +kernel) rfl hh
def f80 (L : Nat) (xs : Nat → Int32) (zf : Value) (D : dD) (w : Nat) (As : List Value) (h : rm_H) : Option dR := match As with
  | [v0, .int i1, .int i2, .int i3] => (rm_rf v0).bind fun o0 => b80_0 L xs zf D w o0 i1 i2 i3 h
  | _ => none
theorem d80 {L : Nat} {xs : Nat → Int32} {zf : Value} {D : dD} {w k : Nat} (hD : dO L xs zf D k) (hz : zf.category = 1) (As : List Value) (h : rm_H) (r : dR) (hh : f80 L xs zf D w As h = some r) : dq L xs zf ah_M80 0 (lv_args 0 As) [] h (k + 1) r := by
  unfold f80 at hh
  split at hh
  · obtain ⟨o0, e0, hb0⟩ := db hh
    have e0 := rm_rf_v _ _ e0
    subst e0
    refine c80_0 hD hz _ _ _ _ _ _ _ ?_ ?_ ?_ ?_ hb0
    all_goals (simp only [la_r, la_i, la_j]; rfl)
  · cases hh
def b81_0 (L : Nat) (xs : Nat → Int32) (zf : Value) (D : dD) (w : Nat) (o0 : Option Nat) (i1 : Int32) (i2 : Int32) (i3 : Int32) (h : rm_H) : Option dR :=
  ((D 82 [.int i2, .int i3, va_rf o0] h).bind dxV).bind fun h1 =>
  ((D 85 [va_rf o0, .int i1, .int i2, .int i3] h1).bind dxI).bind fun x5 =>
  drI (some .int) x5.1 x5.2
theorem c81_0 {L : Nat} {xs : Nat → Int32} {zf : Value} {D : dD} {w k : Nat} (hD : dO L xs zf D k) (hz : zf.category = 1) : ∀ (o0 : Option Nat) (i1 : Int32) (i2 : Int32) (i3 : Int32) (lv : rm_L) (h : rm_H) (r : dR), rm_get lv 0 = some (va_rf o0) → rm_get lv 1 = some (.int i1) → rm_get lv 2 = some (.int i2) → rm_get lv 3 = some (.int i3) → b81_0 L xs zf D w  o0 i1 i2 i3 h = some r → dq L xs zf ah_M81 0 lv [] h (k + 1) r := by
  intro o0 i1 i2 i3 lv h r G0 G1 G2 G3 hh
  unfold b81_0 at hh
  refine dq_iln 2 1 (by decide +kernel) rfl G2 ?_
  refine dq_iln 3 2 (by decide +kernel) rfl G3 ?_
  refine dq_aln 0 3 (by decide +kernel) rfl G0 ?_
  obtain ⟨h1, q2, hh⟩ := db hh
  obtain ⟨a3, q4, q2⟩ := db q2
  rw [dq_xV q2] at q4
  refine dq_cst hD 96 82 0 3 [.int i2, .int i3, va_rf o0] [] 6 [] (by decide +kernel) ap_82 ⟨⟨Nat.le_of_ble_eq_true rfl, by decide⟩, rfl, rfl⟩ (dq_ok8 [1, 1, 1] [] (dc_i (dc_i (dc_r dc_n))) dc_n (by decide +kernel)) (by decide +kernel) rfl q4 rfl ?_
  refine dq_aln 0 7 (by decide +kernel) rfl G0 ?_
  refine dq_iln 1 8 (by decide +kernel) rfl G1 ?_
  refine dq_iln 2 9 (by decide +kernel) rfl G2 ?_
  refine dq_iln 3 10 (by decide +kernel) rfl G3 ?_
  obtain ⟨x5, q6, hh⟩ := db hh
  obtain ⟨a7, q8, q6⟩ := db q6
  rw [dq_xI q6] at q8
  refine dq_cst hD 244 85 0 4 [va_rf o0, .int i1, .int i2, .int i3] [] 13 [.int x5.1] (by decide +kernel) ap_85 ⟨⟨Nat.le_of_ble_eq_true rfl, by decide⟩, rfl, rfl⟩ (dq_ok8 [1, 1, 1, 1] [] (dc_r (dc_i (dc_i (dc_i dc_n)))) dc_n (by decide +kernel)) (by decide +kernel) rfl q8 rfl ?_
  exact dq_retI (some .int) (by decide +kernel) rfl hh
def f81 (L : Nat) (xs : Nat → Int32) (zf : Value) (D : dD) (w : Nat) (As : List Value) (h : rm_H) : Option dR := match As with
  | [v0, .int i1, .int i2, .int i3] => (rm_rf v0).bind fun o0 => b81_0 L xs zf D w o0 i1 i2 i3 h
  | _ => none
theorem d81 {L : Nat} {xs : Nat → Int32} {zf : Value} {D : dD} {w k : Nat} (hD : dO L xs zf D k) (hz : zf.category = 1) (As : List Value) (h : rm_H) (r : dR) (hh : f81 L xs zf D w As h = some r) : dq L xs zf ah_M81 0 (lv_args 0 As) [] h (k + 1) r := by
  unfold f81 at hh
  split at hh
  · obtain ⟨o0, e0, hb0⟩ := db hh
    have e0 := rm_rf_v _ _ e0
    subst e0
    refine c81_0 hD hz _ _ _ _ _ _ _ ?_ ?_ ?_ ?_ hb0
    all_goals (simp only [la_r, la_i, la_j]; rfl)
  · cases hh
def b82_0 (L : Nat) (xs : Nat → Int32) (zf : Value) (D : dD) (w : Nat) (i0 : Int32) (i1 : Int32) (o2 : Option Nat) (h : rm_H) : Option dR :=
  ((D 28 [va_rf o2] h).bind dxI).bind fun x1 =>
  ((D 83 [.int i0, .int i1, .int x1.1] x1.2).bind dxV).bind fun h5 =>
  some (none, h5)
theorem c82_0 {L : Nat} {xs : Nat → Int32} {zf : Value} {D : dD} {w k : Nat} (hD : dO L xs zf D k) (hz : zf.category = 1) : ∀ (i0 : Int32) (i1 : Int32) (o2 : Option Nat) (lv : rm_L) (h : rm_H) (r : dR), rm_get lv 0 = some (.int i0) → rm_get lv 1 = some (.int i1) → rm_get lv 2 = some (va_rf o2) → b82_0 L xs zf D w  i0 i1 o2 h = some r → dq L xs zf ah_M82 0 lv [] h (k + 1) r := by
  intro i0 i1 o2 lv h r G0 G1 G2 hh
  unfold b82_0 at hh
  refine dq_iln 0 1 (by decide +kernel) rfl G0 ?_
  refine dq_iln 1 2 (by decide +kernel) rfl G1 ?_
  refine dq_aln 2 3 (by decide +kernel) rfl G2 ?_
  obtain ⟨x1, q2, hh⟩ := db hh
  obtain ⟨a3, q4, q2⟩ := db q2
  rw [dq_xI q2] at q4
  refine dq_cst hD 48 28 0 1 [va_rf o2] [.int i1, .int i0] 6 [.int x1.1, .int i1, .int i0] (by decide +kernel) ap_28 ⟨⟨Nat.le_of_ble_eq_true rfl, by decide⟩, rfl, rfl⟩ (dq_ok8 [1] [1, 1] (dc_r dc_n) (dc_i (dc_i dc_n)) (by decide +kernel)) (by decide +kernel) rfl q4 rfl ?_
  obtain ⟨h5, q6, hh⟩ := db hh
  obtain ⟨a7, q8, q6⟩ := db q6
  rw [dq_xV q6] at q8
  refine dq_cst hD 241 83 0 3 [.int i0, .int i1, .int x1.1] [] 9 [] (by decide +kernel) ap_83 ⟨⟨Nat.le_of_ble_eq_true rfl, by decide⟩, rfl, rfl⟩ (dq_ok8 [1, 1, 1] [] (dc_i (dc_i (dc_i dc_n))) dc_n (by decide +kernel)) (by decide +kernel) rfl q8 rfl ?_
  cases hh
  exact dq_ret0 (by decide +kernel) rfl
def f82 (L : Nat) (xs : Nat → Int32) (zf : Value) (D : dD) (w : Nat) (As : List Value) (h : rm_H) : Option dR := match As with
  | [.int i0, .int i1, v2] => (rm_rf v2).bind fun o2 => b82_0 L xs zf D w i0 i1 o2 h
  | _ => none
theorem d82 {L : Nat} {xs : Nat → Int32} {zf : Value} {D : dD} {w k : Nat} (hD : dO L xs zf D k) (hz : zf.category = 1) (As : List Value) (h : rm_H) (r : dR) (hh : f82 L xs zf D w As h = some r) : dq L xs zf ah_M82 0 (lv_args 0 As) [] h (k + 1) r := by
  unfold f82 at hh
  split at hh
  · obtain ⟨o2, e2, hb2⟩ := db hh
    have e2 := rm_rf_v _ _ e2
    subst e2
    refine c82_0 hD hz _ _ _ _ _ _ ?_ ?_ ?_ hb2
    all_goals (simp only [la_r, la_i, la_j]; rfl)
  · cases hh
def b83_0 (L : Nat) (xs : Nat → Int32) (zf : Value) (D : dD) (w : Nat) (i0 : Int32) (i1 : Int32) (i2 : Int32) (h : rm_H) : Option dR :=
  ((D 84 [.int i0, .int i1, .int i2, zf] h).bind dxI).bind fun x1 =>
  some (none, x1.2)
theorem c83_0 {L : Nat} {xs : Nat → Int32} {zf : Value} {D : dD} {w k : Nat} (hD : dO L xs zf D k) (hz : zf.category = 1) : ∀ (i0 : Int32) (i1 : Int32) (i2 : Int32) (lv : rm_L) (h : rm_H) (r : dR), rm_get lv 0 = some (.int i0) → rm_get lv 1 = some (.int i1) → rm_get lv 2 = some (.int i2) → b83_0 L xs zf D w  i0 i1 i2 h = some r → dq L xs zf ah_M83 0 lv [] h (k + 1) r := by
  intro i0 i1 i2 lv h r G0 G1 G2 hh
  unfold b83_0 at hh
  refine dq_iln 0 1 (by decide +kernel) rfl G0 ?_
  refine dq_iln 1 2 (by decide +kernel) rfl G1 ?_
  refine dq_iln 2 3 (by decide +kernel) rfl G2 ?_
  refine dq_S (.getstatic 1053) 3 [1] 6 _ [zf, .int i2, .int i1, .int i0] (by decide +kernel) rfl ?_
  obtain ⟨x1, q2, hh⟩ := db hh
  obtain ⟨a3, q4, q2⟩ := db q2
  rw [dq_xI q2] at q4
  refine dq_cst hD 1062 84 0 4 [.int i0, .int i1, .int i2, zf] [] 9 [.int x1.1] (by decide +kernel) ap_84 ⟨⟨Nat.le_of_ble_eq_true rfl, by decide⟩, rfl, rfl⟩ (dq_ok8 [1, 1, 1, 1] [] (dc_i (dc_i (dc_i (dc_v hz dc_n)))) dc_n (by decide +kernel)) (by decide +kernel) rfl q4 rfl ?_
  refine dq_S (.pop) 1 [] 10 _ [] (by decide +kernel) rfl ?_
  cases hh
  exact dq_ret0 (by decide +kernel) rfl
def f83 (L : Nat) (xs : Nat → Int32) (zf : Value) (D : dD) (w : Nat) (As : List Value) (h : rm_H) : Option dR := match As with
  | [.int i0, .int i1, .int i2] => b83_0 L xs zf D w i0 i1 i2 h
  | _ => none
theorem d83 {L : Nat} {xs : Nat → Int32} {zf : Value} {D : dD} {w k : Nat} (hD : dO L xs zf D k) (hz : zf.category = 1) (As : List Value) (h : rm_H) (r : dR) (hh : f83 L xs zf D w As h = some r) : dq L xs zf ah_M83 0 (lv_args 0 As) [] h (k + 1) r := by
  unfold f83 at hh
  split at hh
  · refine c83_0 hD hz _ _ _ _ _ _ ?_ ?_ ?_ hh
    all_goals (simp only [la_r, la_i, la_j]; rfl)
  · cases hh
