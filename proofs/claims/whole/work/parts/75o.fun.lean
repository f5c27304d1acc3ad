/-! METHODS AS FUNCTIONS, printed by wip/whole/gen_fun.py -/
def b381_24 (L : Nat) (xs : Nat → Int32) (zf : Value) (D : dD) (w : Nat) (s0 : Int32) (h : rm_H) : Option dR :=
  drI (some .boolean) s0 h
theorem c381_24 {L : Nat} {xs : Nat → Int32} {zf : Value} {D : dD} {w k : Nat} (hD : dO L xs zf D k) (hz : zf.category = 1) : ∀ (s0 : Int32) (lv : rm_L) (h : rm_H) (r : dR), b381_24 L xs zf D w  s0 h = some r → dq L xs zf ah_M381 24 lv [.int s0] h (k + 1) r := by
  intro s0 lv h r hh
  unfold b381_24 at hh
  exact dq_retI (some .boolean) (by decide +kernel) rfl hh
def b381_23 (L : Nat) (xs : Nat → Int32) (zf : Value) (D : dD) (w : Nat) (h : rm_H) : Option dR :=
  b381_24 L xs zf D w 0 h
theorem c381_23 {L : Nat} {xs : Nat → Int32} {zf : Value} {D : dD} {w k : Nat} (hD : dO L xs zf D k) (hz : zf.category = 1) : ∀ (lv : rm_L) (h : rm_H) (r : dR), b381_23 L xs zf D w  h = some r → dq L xs zf ah_M381 23 lv [] h (k + 1) r := by
  intro lv h r hh
  unfold b381_23 at hh
  refine dq_S (.iconst 0) 1 [] 24 _ [.int 0] (by decide +kernel) rfl ?_
  exact c381_24 hD hz _ _ _ _  hh
def b381_0 (L : Nat) (xs : Nat → Int32) (zf : Value) (D : dD) (w : Nat) (o0 : Option Nat) (i1 : Int32) (h : rm_H) : Option dR :=
  (dgI L xs h 74 [15] o0).bind fun x1 =>
  if mx_f1 .eq x1 = true then
    b381_23 L xs zf D w h
  else
    if mx_f1 .lt i1 = true then
      b381_23 L xs zf D w h
    else
      (dgI L xs h 75 [15] o0).bind fun x5 =>
      if mx_f2 .ge i1 x5 = true then
        b381_23 L xs zf D w h
      else
        b381_24 L xs zf D w 1 h
theorem c381_0 {L : Nat} {xs : Nat → Int32} {zf : Value} {D : dD} {w k : Nat} (hD : dO L xs zf D k) (hz : zf.category = 1) : ∀ (o0 : Option Nat) (i1 : Int32) (lv : rm_L) (h : rm_H) (r : dR), rm_get lv 0 = some (va_rf o0) → rm_get lv 1 = some (.int i1) → b381_0 L xs zf D w  o0 i1 h = some r → dq L xs zf ah_M381 0 lv [] h (k + 1) r := by
  intro o0 i1 lv h r G0 G1 hh
  unfold b381_0 at hh
  refine dq_aln 0 1 (by decide +kernel) rfl G0 ?_
  obtain ⟨x1, q2, hh⟩ := db hh
  refine dq_gI 569 74 [15] 4 (by decide +kernel) rfl q2 ?_
  rcases di hh with ⟨q3, hh⟩ | ⟨q3, hh⟩
  · refine dq_1 .eq 19 true 23 q3 (by decide +kernel) ?_
    exact c381_23 hD hz  _ _ _  hh
  · refine dq_1 .eq 19 false 7 q3 (by decide +kernel) ?_
    refine dq_iln 1 8 (by decide +kernel) rfl G1 ?_
    rcases di hh with ⟨q4, hh⟩ | ⟨q4, hh⟩
    · refine dq_1 .lt 15 true 23 q4 (by decide +kernel) ?_
      exact c381_23 hD hz  _ _ _  hh
    · refine dq_1 .lt 15 false 11 q4 (by decide +kernel) ?_
      refine dq_iln 1 12 (by decide +kernel) rfl G1 ?_
      refine dq_aln 0 13 (by decide +kernel) rfl G0 ?_
      obtain ⟨x5, q6, hh⟩ := db hh
      refine dq_gI 599 75 [15] 16 (by decide +kernel) rfl q6 ?_
      rcases di hh with ⟨q7, hh⟩ | ⟨q7, hh⟩
      · refine dq_2 .ge 7 true 23 q7 (by decide +kernel) ?_
        exact c381_23 hD hz  _ _ _  hh
      · refine dq_2 .ge 7 false 19 q7 (by decide +kernel) ?_
        refine dq_S (.iconst 1) 1 [] 20 _ [.int 1] (by decide +kernel) rfl ?_
        refine dq_S (.goto 4) 3 [] 24 _ [.int 1] (by decide +kernel) rfl ?_
        exact c381_24 hD hz _ _ _ _  hh
def f381 (L : Nat) (xs : Nat → Int32) (zf : Value) (D : dD) (w : Nat) (As : List Value) (h : rm_H) : Option dR := match As with
  | [v0, .int i1] => (rm_rf v0).bind fun o0 => b381_0 L xs zf D w o0 i1 h
  | _ => none
theorem d381 {L : Nat} {xs : Nat → Int32} {zf : Value} {D : dD} {w k : Nat} (hD : dO L xs zf D k) (hz : zf.category = 1) (As : List Value) (h : rm_H) (r : dR) (hh : f381 L xs zf D w As h = some r) : dq L xs zf ah_M381 0 (lv_args 0 As) [] h (k + 1) r := by
  unfold f381 at hh
  split at hh
  · obtain ⟨o0, e0, hb0⟩ := db hh
    have e0 := rm_rf_v _ _ e0
    subst e0
    refine c381_0 hD hz _ _ _ _ _ ?_ ?_ hb0
    all_goals (simp only [la_r, la_i, la_j]; rfl)
  · cases hh
def b382_23 (L : Nat) (xs : Nat → Int32) (zf : Value) (D : dD) (w : Nat) (s0 : Int32) (h : rm_H) : Option dR :=
  drI (some .boolean) s0 h
theorem c382_23 {L : Nat} {xs : Nat → Int32} {zf : Value} {D : dD} {w k : Nat} (hD : dO L xs zf D k) (hz : zf.category = 1) : ∀ (s0 : Int32) (lv : rm_L) (h : rm_H) (r : dR), b382_23 L xs zf D w  s0 h = some r → dq L xs zf ah_M382 23 lv [.int s0] h (k + 1) r := by
  intro s0 lv h r hh
  unfold b382_23 at hh
  exact dq_retI (some .boolean) (by decide +kernel) rfl hh
def b382_18 (L : Nat) (xs : Nat → Int32) (zf : Value) (D : dD) (w : Nat) (h : rm_H) : Option dR :=
  b382_23 L xs zf D w 1 h
theorem c382_18 {L : Nat} {xs : Nat → Int32} {zf : Value} {D : dD} {w k : Nat} (hD : dO L xs zf D k) (hz : zf.category = 1) : ∀ (lv : rm_L) (h : rm_H) (r : dR), b382_18 L xs zf D w  h = some r → dq L xs zf ah_M382 18 lv [] h (k + 1) r := by
  intro lv h r hh
  unfold b382_18 at hh
  refine dq_S (.iconst 1) 1 [] 19 _ [.int 1] (by decide +kernel) rfl ?_
  refine dq_S (.goto 4) 3 [] 23 _ [.int 1] (by decide +kernel) rfl ?_
  exact c382_23 hD hz _ _ _ _  hh
def b382_0 (L : Nat) (xs : Nat → Int32) (zf : Value) (D : dD) (w : Nat) (o0 : Option Nat) (i1 : Int32) (h : rm_H) : Option dR :=
  (dgR L xs h 91 [15] o0).bind fun p1 =>
  (daI L xs h p1 i1).bind fun x3 =>
  if mx_f1 .gt x3 = true then
    b382_18 L xs zf D w h
  else
    (dgR L xs h 93 [15] o0).bind fun p6 =>
    (daI L xs h p6 i1).bind fun x8 =>
    if mx_f1 .le x8 = true then
      b382_23 L xs zf D w 0 h
    else
      b382_18 L xs zf D w h
theorem c382_0 {L : Nat} {xs : Nat → Int32} {zf : Value} {D : dD} {w k : Nat} (hD : dO L xs zf D k) (hz : zf.category = 1) : ∀ (o0 : Option Nat) (i1 : Int32) (lv : rm_L) (h : rm_H) (r : dR), rm_get lv 0 = some (va_rf o0) → rm_get lv 1 = some (.int i1) → b382_0 L xs zf D w  o0 i1 h = some r → dq L xs zf ah_M382 0 lv [] h (k + 1) r := by
  intro o0 i1 lv h r G0 G1 hh
  unfold b382_0 at hh
  refine dq_aln 0 1 (by decide +kernel) rfl G0 ?_
  obtain ⟨p1, q2, hh⟩ := db hh
  refine dq_gR 184 91 [15] 4 (by decide +kernel) rfl q2 ?_
  refine dq_iln 1 5 (by decide +kernel) rfl G1 ?_
  obtain ⟨x3, q4, hh⟩ := db hh
  refine dq_aI 6 (by decide +kernel) rfl q4 ?_
  rcases di hh with ⟨q5, hh⟩ | ⟨q5, hh⟩
  · refine dq_1 .gt 12 true 18 q5 (by decide +kernel) ?_
    exact c382_18 hD hz  _ _ _  hh
  · refine dq_1 .gt 12 false 9 q5 (by decide +kernel) ?_
    refine dq_aln 0 10 (by decide +kernel) rfl G0 ?_
    obtain ⟨p6, q7, hh⟩ := db hh
    refine dq_gR 190 93 [15] 13 (by decide +kernel) rfl q7 ?_
    refine dq_iln 1 14 (by decide +kernel) rfl G1 ?_
    obtain ⟨x8, q9, hh⟩ := db hh
    refine dq_aI 15 (by decide +kernel) rfl q9 ?_
    rcases di hh with ⟨q10, hh⟩ | ⟨q10, hh⟩
    · refine dq_1 .le 7 true 22 q10 (by decide +kernel) ?_
      refine dq_S (.iconst 0) 1 [] 23 _ [.int 0] (by decide +kernel) rfl ?_
      exact c382_23 hD hz _ _ _ _  hh
    · refine dq_1 .le 7 false 18 q10 (by decide +kernel) ?_
      exact c382_18 hD hz  _ _ _  hh
def f382 (L : Nat) (xs : Nat → Int32) (zf : Value) (D : dD) (w : Nat) (As : List Value) (h : rm_H) : Option dR := match As with
  | [v0, .int i1] => (rm_rf v0).bind fun o0 => b382_0 L xs zf D w o0 i1 h
  | _ => none
theorem d382 {L : Nat} {xs : Nat → Int32} {zf : Value} {D : dD} {w k : Nat} (hD : dO L xs zf D k) (hz : zf.category = 1) (As : List Value) (h : rm_H) (r : dR) (hh : f382 L xs zf D w As h = some r) : dq L xs zf ah_M382 0 (lv_args 0 As) [] h (k + 1) r := by
  unfold f382 at hh
  split at hh
  · obtain ⟨o0, e0, hb0⟩ := db hh
    have e0 := rm_rf_v _ _ e0
    subst e0
    refine c382_0 hD hz _ _ _ _ _ ?_ ?_ hb0
    all_goals (simp only [la_r, la_i, la_j]; rfl)
  · cases hh
def b383_0 (L : Nat) (xs : Nat → Int32) (zf : Value) (D : dD) (w : Nat) (o0 : Option Nat) (i1 : Int32) (h : rm_H) : Option dR :=
  (dgI L xs h 80 [15] o0).bind fun x1 =>
  (dpF h 80 [15] o0 (.int (x1 + 1))).bind fun h3 =>
  (dgR L xs h3 89 [15] o0).bind fun p5 =>
  (daI L xs h3 p5 i1).bind fun x7 =>
  (dsI h3 p5 i1 (x7 + 1)).bind fun h9 =>
  (dgR L xs h9 91 [15] o0).bind fun p11 =>
  (daI L xs h9 p11 i1).bind fun x13 =>
  if mx_f1 .ne x13 = true then
    (dgR L xs h9 91 [15] o0).bind fun p16 =>
    (daI L xs h9 p16 i1).bind fun x18 =>
    (dgR L xs h9 98 [15] o0).bind fun p23 =>
    (daI L xs h9 p23 (((10 * i1) + x18) - 1)).bind fun x25 =>
    ((dcV L xs D 388 [15] o0 [.int i1, .int (((10 * i1) + x18) - 1), .int x25] h9).bind dxI).bind fun x27 =>
    if mx_f1 .ne x27.1 = true then
      (dgI L xs x27.2 84 [15] o0).bind fun x36 =>
      (dpF x27.2 84 [15] o0 (.int (x36 + 1))).bind fun h38 =>
      (dgR L xs h38 90 [15] o0).bind fun p40 =>
      (dsI h38 p40 i1 x27.1).bind fun h42 =>
      (dgR L xs h42 91 [15] o0).bind fun p44 =>
      (dsI h42 p44 i1 0).bind fun h46 =>
      (dgR L xs h46 92 [15] o0).bind fun p48 =>
      (dsI h46 p48 i1 0).bind fun h50 =>
      some (none, h50)
    else
      some (none, x27.2)
  else
    ((dcV L xs D 384 [15] o0 [.int i1] h9).bind dxV).bind fun h52 =>
    some (none, h52)
theorem c383_0 {L : Nat} {xs : Nat → Int32} {zf : Value} {D : dD} {w k : Nat} (hD : dO L xs zf D k) (hz : zf.category = 1) : ∀ (o0 : Option Nat) (i1 : Int32) (lv : rm_L) (h : rm_H) (r : dR), rm_get lv 0 = some (va_rf o0) → rm_get lv 1 = some (.int i1) → b383_0 L xs zf D w  o0 i1 h = some r → dq L xs zf ah_M383 0 lv [] h (k + 1) r := by
  intro o0 i1 lv h r G0 G1 hh
  unfold b383_0 at hh
  refine dq_aln 0 1 (by decide +kernel) rfl G0 ?_
  refine dq_dup 2 (by decide +kernel) rfl ?_
  obtain ⟨x1, q2, hh⟩ := db hh
  refine dq_gI 647 80 [15] 5 (by decide +kernel) rfl q2 ?_
  refine dq_S (.iconst 1) 1 [] 6 _ [.int 1, .int x1, va_rf o0] (by decide +kernel) rfl ?_
  refine dq_S (.iadd) 1 [] 7 _ [.int (x1 + 1), va_rf o0] (by decide +kernel) rfl ?_
  obtain ⟨h3, q4, hh⟩ := db hh
  refine dq_put 647 80 [15] 10 (by decide +kernel) rfl q4 ?_
  refine dq_aln 0 11 (by decide +kernel) rfl G0 ?_
  obtain ⟨p5, q6, hh⟩ := db hh
  refine dq_gR 178 89 [15] 14 (by decide +kernel) rfl q6 ?_
  refine dq_iln 1 15 (by decide +kernel) rfl G1 ?_
  refine dq_d2 16 (by decide +kernel) rfl ?_
  obtain ⟨x7, q8, hh⟩ := db hh
  refine dq_aI 17 (by decide +kernel) rfl q8 ?_
  refine dq_S (.iconst 1) 1 [] 18 _ [.int 1, .int x7, .int i1, va_rf p5] (by decide +kernel) rfl ?_
  refine dq_S (.iadd) 1 [] 19 _ [.int (x7 + 1), .int i1, va_rf p5] (by decide +kernel) rfl ?_
  obtain ⟨h9, q10, hh⟩ := db hh
  refine dq_sI 20 (by decide +kernel) rfl q10 ?_
  refine dq_aln 0 21 (by decide +kernel) rfl G0 ?_
  obtain ⟨p11, q12, hh⟩ := db hh
  refine dq_gR 184 91 [15] 24 (by decide +kernel) rfl q12 ?_
  refine dq_iln 1 25 (by decide +kernel) rfl G1 ?_
  obtain ⟨x13, q14, hh⟩ := db hh
  refine dq_aI 26 (by decide +kernel) rfl q14 ?_
  rcases di hh with ⟨q15, hh⟩ | ⟨q15, hh⟩
  · refine dq_1 .ne 9 true 35 q15 (by decide +kernel) ?_
    refine dq_S (.bipush 10) 2 [] 37 _ [.int 10] (by decide +kernel) rfl ?_
    refine dq_iln 1 38 (by decide +kernel) rfl G1 ?_
    refine dq_S (.imul) 1 [] 39 _ [.int (10 * i1)] (by decide +kernel) rfl ?_
    refine dq_aln 0 40 (by decide +kernel) rfl G0 ?_
    obtain ⟨p16, q17, hh⟩ := db hh
    refine dq_gR 184 91 [15] 43 (by decide +kernel) rfl q17 ?_
    refine dq_iln 1 44 (by decide +kernel) rfl G1 ?_
    obtain ⟨x18, q19, hh⟩ := db hh
    refine dq_aI 45 (by decide +kernel) rfl q19 ?_
    refine dq_S (.iadd) 1 [] 46 _ [.int ((10 * i1) + x18)] (by decide +kernel) rfl ?_
    refine dq_S (.iconst 1) 1 [] 47 _ [.int 1, .int ((10 * i1) + x18)] (by decide +kernel) rfl ?_
    refine dq_S (.isub) 1 [] 48 _ [.int (((10 * i1) + x18) - 1)] (by decide +kernel) rfl ?_
    refine dq_isn 2 49 (by decide +kernel) (by decide +kernel) ?_
    have g20 := dg_ne (i := 2) (u := .int (((10 * i1) + x18) - 1)) (by decide) (Or.inl (by decide)) G0
    have g21 := dg_ne (i := 2) (u := .int (((10 * i1) + x18) - 1)) (by decide) (Or.inr rfl) G1
    have g22 := dg_eq (lv) 2 (.int (((10 * i1) + x18) - 1))
    refine dq_aln 0 50 (by decide +kernel) rfl g20 ?_
    refine dq_iln 1 51 (by decide +kernel) rfl g21 ?_
    refine dq_iln 2 52 (by decide +kernel) rfl g22 ?_
    refine dq_aln 0 53 (by decide +kernel) rfl g20 ?_
    obtain ⟨p23, q24, hh⟩ := db hh
    refine dq_gR 206 98 [15] 56 (by decide +kernel) rfl q24 ?_
    refine dq_iln 2 57 (by decide +kernel) rfl g22 ?_
    obtain ⟨x25, q26, hh⟩ := db hh
    refine dq_aI 58 (by decide +kernel) rfl q26 ?_
    obtain ⟨x27, q28, hh⟩ := db hh
    obtain ⟨a29, q30, q28⟩ := db q28
    rw [dq_xI q28] at q30
    refine dq_cvi hD 653 388 5 3 [15] o0 [.int i1, .int (((10 * i1) + x18) - 1), .int x25] [] 61 [.int x27.1] (by decide +kernel) ap_388 ⟨⟨Nat.le_of_ble_eq_true rfl, by decide⟩, rfl, rfl⟩ (dq_ok8 [1, 1, 1, 1] [] (dc_r (dc_i (dc_i (dc_i dc_n)))) dc_n (by decide +kernel)) (by decide +kernel) rfl q30 rfl ?_
    refine dq_isn 3 62 (by decide +kernel) (by decide +kernel) ?_
    have g31 := dg_ne (i := 3) (u := .int x27.1) (by decide) (Or.inl (by decide)) g20
    have g32 := dg_ne (i := 3) (u := .int x27.1) (by decide) (Or.inl (by decide)) g21
    have g33 := dg_ne (i := 3) (u := .int x27.1) (by decide) (Or.inr rfl) g22
    have g34 := dg_eq (rm_set1 (lv) 2 (.int (((10 * i1) + x18) - 1))) 3 (.int x27.1)
    refine dq_iln 3 63 (by decide +kernel) rfl g34 ?_
    rcases di hh with ⟨q35, hh⟩ | ⟨q35, hh⟩
    · refine dq_1 .ne 4 true 67 q35 (by decide +kernel) ?_
      refine dq_aln 0 68 (by decide +kernel) rfl g31 ?_
      refine dq_dup 69 (by decide +kernel) rfl ?_
      obtain ⟨x36, q37, hh⟩ := db hh
      refine dq_gI 656 84 [15] 72 (by decide +kernel) rfl q37 ?_
      refine dq_S (.iconst 1) 1 [] 73 _ [.int 1, .int x36, va_rf o0] (by decide +kernel) rfl ?_
      refine dq_S (.iadd) 1 [] 74 _ [.int (x36 + 1), va_rf o0] (by decide +kernel) rfl ?_
      obtain ⟨h38, q39, hh⟩ := db hh
      refine dq_put 656 84 [15] 77 (by decide +kernel) rfl q39 ?_
      refine dq_aln 0 78 (by decide +kernel) rfl g31 ?_
      obtain ⟨p40, q41, hh⟩ := db hh
      refine dq_gR 181 90 [15] 81 (by decide +kernel) rfl q41 ?_
      refine dq_iln 1 82 (by decide +kernel) rfl g32 ?_
      refine dq_iln 3 83 (by decide +kernel) rfl g34 ?_
      obtain ⟨h42, q43, hh⟩ := db hh
      refine dq_sI 84 (by decide +kernel) rfl q43 ?_
      refine dq_aln 0 85 (by decide +kernel) rfl g31 ?_
      obtain ⟨p44, q45, hh⟩ := db hh
      refine dq_gR 184 91 [15] 88 (by decide +kernel) rfl q45 ?_
      refine dq_iln 1 89 (by decide +kernel) rfl g32 ?_
      refine dq_S (.iconst 0) 1 [] 90 _ [.int 0, .int i1, va_rf p44] (by decide +kernel) rfl ?_
      obtain ⟨h46, q47, hh⟩ := db hh
      refine dq_sI 91 (by decide +kernel) rfl q47 ?_
      refine dq_aln 0 92 (by decide +kernel) rfl g31 ?_
      obtain ⟨p48, q49, hh⟩ := db hh
      refine dq_gR 187 92 [15] 95 (by decide +kernel) rfl q49 ?_
      refine dq_iln 1 96 (by decide +kernel) rfl g32 ?_
      refine dq_S (.iconst 0) 1 [] 97 _ [.int 0, .int i1, va_rf p48] (by decide +kernel) rfl ?_
      obtain ⟨h50, q51, hh⟩ := db hh
      refine dq_sI 98 (by decide +kernel) rfl q51 ?_
      cases hh
      exact dq_ret0 (by decide +kernel) rfl
    · refine dq_1 .ne 4 false 66 q35 (by decide +kernel) ?_
      cases hh
      exact dq_ret0 (by decide +kernel) rfl
  · refine dq_1 .ne 9 false 29 q15 (by decide +kernel) ?_
    refine dq_aln 0 30 (by decide +kernel) rfl G0 ?_
    refine dq_iln 1 31 (by decide +kernel) rfl G1 ?_
    obtain ⟨h52, q53, hh⟩ := db hh
    obtain ⟨a54, q55, q53⟩ := db q53
    rw [dq_xV q53] at q55
    refine dq_cvi hD 650 384 5 1 [15] o0 [.int i1] [] 34 [] (by decide +kernel) ap_384 ⟨⟨Nat.le_of_ble_eq_true rfl, by decide⟩, rfl, rfl⟩ (dq_ok8 [1, 1] [] (dc_r (dc_i dc_n)) dc_n (by decide +kernel)) (by decide +kernel) rfl q55 rfl ?_
    cases hh
    exact dq_ret0 (by decide +kernel) rfl
def f383 (L : Nat) (xs : Nat → Int32) (zf : Value) (D : dD) (w : Nat) (As : List Value) (h : rm_H) : Option dR := match As with
  | [v0, .int i1] => (rm_rf v0).bind fun o0 => b383_0 L xs zf D w o0 i1 h
  | _ => none
theorem d383 {L : Nat} {xs : Nat → Int32} {zf : Value} {D : dD} {w k : Nat} (hD : dO L xs zf D k) (hz : zf.category = 1) (As : List Value) (h : rm_H) (r : dR) (hh : f383 L xs zf D w As h = some r) : dq L xs zf ah_M383 0 (lv_args 0 As) [] h (k + 1) r := by
  unfold f383 at hh
  split at hh
  · obtain ⟨o0, e0, hb0⟩ := db hh
    have e0 := rm_rf_v _ _ e0
    subst e0
    refine c383_0 hD hz _ _ _ _ _ ?_ ?_ hb0
    all_goals (simp only [la_r, la_i, la_j]; rfl)
  · cases hh
def b384_161 (L : Nat) (xs : Nat → Int32) (zf : Value) (D : dD) (w : Nat) (K71 : Option Nat → Int32 → Int32 → Int32 → rm_H → Option dR) (o0 : Option Nat) (i1 : Int32) (i2 : Int32) (i3 : Int32) (h : rm_H) : Option dR :=
  K71 o0 i1 i2 (i3 + 1) h
theorem c384_161 {L : Nat} {xs : Nat → Int32} {zf : Value} {D : dD} {w k : Nat} {K71 : Option Nat → Int32 → Int32 → Int32 → rm_H → Option dR} (hD : dO L xs zf D k) (hz : zf.category = 1) (hK71 : ∀ (o0 : Option Nat) (i1 : Int32) (i2 : Int32) (i3 : Int32) (lv : rm_L) (h : rm_H) (r : dR), rm_get lv 0 = some (va_rf o0) → rm_get lv 1 = some (.int i1) → rm_get lv 2 = some (.int i2) → rm_get lv 3 = some (.int i3) → K71 o0 i1 i2 i3 h = some r → dq L xs zf ah_M384 71 lv [] h (k + 1) r) : ∀ (o0 : Option Nat) (i1 : Int32) (i2 : Int32) (i3 : Int32) (lv : rm_L) (h : rm_H) (r : dR), rm_get lv 0 = some (va_rf o0) → rm_get lv 1 = some (.int i1) → rm_get lv 2 = some (.int i2) → rm_get lv 3 = some (.int i3) → b384_161 L xs zf D w K71  o0 i1 i2 i3 h = some r → dq L xs zf ah_M384 161 lv [] h (k + 1) r := by
  intro o0 i1 i2 i3 lv h r G0 G1 G2 G3 hh
  unfold b384_161 at hh
  refine dq_incy 3 1 1 164 (by decide +kernel) ⟨rfl, by decide +kernel, by decide +kernel⟩ G3 ?_
  have g1 := dg_ne (i := 3) (u := .int (i3 + 1)) (by decide) (Or.inl (by decide)) G0
  have g2 := dg_ne (i := 3) (u := .int (i3 + 1)) (by decide) (Or.inl (by decide)) G1
  have g3 := dg_ne (i := 3) (u := .int (i3 + 1)) (by decide) (Or.inr rfl) G2
  have g4 := dg_eq (lv) 3 (.int (i3 + 1))
  refine dq_S (.goto (-93)) 3 [] 71 _ [] (by decide +kernel) rfl ?_
  exact hK71 _ _ _ _ _ _ _ g1 g2 g3 g4 hh
def b384_100 (L : Nat) (xs : Nat → Int32) (zf : Value) (D : dD) (w : Nat) (K71 : Option Nat → Int32 → Int32 → Int32 → rm_H → Option dR) : Nat → Option Nat → Int32 → Int32 → Int32 → Int32 → rm_H → Option dR
  | 0, _, _, _, _, _, _ => none
  | n + 1, o0, i1, i2, i3, i4, h =>
    (dgR L xs h 85 [15] o0).bind fun p1 =>
    (daI L xs h p1 i3).bind fun x3 =>
    ((dcV L xs D 373 [15] o0 [.int x3] h).bind dxI).bind fun x5 =>
    if mx_f2 .ge i4 x5.1 = true then
      b384_161 L xs zf D w K71 o0 i1 i2 i3 x5.2
    else
      (dgR L xs x5.2 95 [15] o0).bind fun p10 =>
      (dgR L xs x5.2 86 [15] o0).bind fun p12 =>
      (daI L xs x5.2 p12 i3).bind fun x14 =>
      (dgR L xs x5.2 106 [15] o0).bind fun p16 =>
      (dgR L xs x5.2 86 [15] o0).bind fun p18 =>
      (daI L xs x5.2 p18 i3).bind fun x20 =>
      (daJ L xs x5.2 p16 (((400 * i2) + x20) + i4)).bind fun y22 =>
      (dsJ x5.2 p10 (((400 * i1) + x14) + i4) y22).bind fun h24 =>
      b384_100 L xs zf D w K71 n o0 i1 i2 i3 (i4 + 1) h24
theorem c384_100 {L : Nat} {xs : Nat → Int32} {zf : Value} {D : dD} {w k : Nat} {K71 : Option Nat → Int32 → Int32 → Int32 → rm_H → Option dR} (hD : dO L xs zf D k) (hz : zf.category = 1) (hK71 : ∀ (o0 : Option Nat) (i1 : Int32) (i2 : Int32) (i3 : Int32) (lv : rm_L) (h : rm_H) (r : dR), rm_get lv 0 = some (va_rf o0) → rm_get lv 1 = some (.int i1) → rm_get lv 2 = some (.int i2) → rm_get lv 3 = some (.int i3) → K71 o0 i1 i2 i3 h = some r → dq L xs zf ah_M384 71 lv [] h (k + 1) r) : ∀ (n : Nat) (o0 : Option Nat) (i1 : Int32) (i2 : Int32) (i3 : Int32) (i4 : Int32) (lv : rm_L) (h : rm_H) (r : dR), rm_get lv 0 = some (va_rf o0) → rm_get lv 1 = some (.int i1) → rm_get lv 2 = some (.int i2) → rm_get lv 3 = some (.int i3) → rm_get lv 4 = some (.int i4) → b384_100 L xs zf D w K71 n  o0 i1 i2 i3 i4 h = some r → dq L xs zf ah_M384 100 lv [] h (k + 1) r := by
  intro n
  induction n with
  | zero =>
    intro o0 i1 i2 i3 i4 lv h r G0 G1 G2 G3 G4 hh
    cases hh
  | succ n ih =>
    intro o0 i1 i2 i3 i4 lv h r G0 G1 G2 G3 G4 hh
    rw [b384_100] at hh
    refine dq_il 4 102 (by decide +kernel) rfl G4 ?_
    refine dq_aln 0 103 (by decide +kernel) rfl G0 ?_
    refine dq_aln 0 104 (by decide +kernel) rfl G0 ?_
    obtain ⟨p1, q2, hh⟩ := db hh
    refine dq_gR 169 85 [15] 107 (by decide +kernel) rfl q2 ?_
    refine dq_iln 3 108 (by decide +kernel) rfl G3 ?_
    obtain ⟨x3, q4, hh⟩ := db hh
    refine dq_aI 109 (by decide +kernel) rfl q4 ?_
    obtain ⟨x5, q6, hh⟩ := db hh
    obtain ⟨a7, q8, q6⟩ := db q6
    rw [dq_xI q6] at q8
    refine dq_cvi hD 605 373 5 1 [15] o0 [.int x3] [.int i4] 112 [.int x5.1, .int i4] (by decide +kernel) ap_373 ⟨⟨Nat.le_of_ble_eq_true rfl, by decide⟩, rfl, rfl⟩ (dq_ok8 [1, 1] [1] (dc_r (dc_i dc_n)) (dc_i dc_n) (by decide +kernel)) (by decide +kernel) rfl q8 rfl ?_
    rcases di hh with ⟨q9, hh⟩ | ⟨q9, hh⟩
    · refine dq_2 .ge 49 true 161 q9 (by decide +kernel) ?_
      exact c384_161 hD hz hK71 _ _ _ _ _ _ _ G0 G1 G2 G3 hh
    · refine dq_2 .ge 49 false 115 q9 (by decide +kernel) ?_
      refine dq_aln 0 116 (by decide +kernel) rfl G0 ?_
      obtain ⟨p10, q11, hh⟩ := db hh
      refine dq_gR 196 95 [15] 119 (by decide +kernel) rfl q11 ?_
      refine dq_S (.sipush 400) 3 [] 122 _ [.int 400, va_rf p10] (by decide +kernel) rfl ?_
      refine dq_iln 1 123 (by decide +kernel) rfl G1 ?_
      refine dq_S (.imul) 1 [] 124 _ [.int (400 * i1), va_rf p10] (by decide +kernel) rfl ?_
      refine dq_aln 0 125 (by decide +kernel) rfl G0 ?_
      obtain ⟨p12, q13, hh⟩ := db hh
      refine dq_gR 172 86 [15] 128 (by decide +kernel) rfl q13 ?_
      refine dq_iln 3 129 (by decide +kernel) rfl G3 ?_
      obtain ⟨x14, q15, hh⟩ := db hh
      refine dq_aI 130 (by decide +kernel) rfl q15 ?_
      refine dq_S (.iadd) 1 [] 131 _ [.int ((400 * i1) + x14), va_rf p10] (by decide +kernel) rfl ?_
      refine dq_il 4 133 (by decide +kernel) rfl G4 ?_
      refine dq_S (.iadd) 1 [] 134 _ [.int (((400 * i1) + x14) + i4), va_rf p10] (by decide +kernel) rfl ?_
      refine dq_aln 0 135 (by decide +kernel) rfl G0 ?_
      obtain ⟨p16, q17, hh⟩ := db hh
      refine dq_gR 230 106 [15] 138 (by decide +kernel) rfl q17 ?_
      refine dq_S (.sipush 400) 3 [] 141 _ [.int 400, va_rf p16, .int (((400 * i1) + x14) + i4), va_rf p10] (by decide +kernel) rfl ?_
      refine dq_iln 2 142 (by decide +kernel) rfl G2 ?_
      refine dq_S (.imul) 1 [] 143 _ [.int (400 * i2), va_rf p16, .int (((400 * i1) + x14) + i4), va_rf p10] (by decide +kernel) rfl ?_
      refine dq_aln 0 144 (by decide +kernel) rfl G0 ?_
      obtain ⟨p18, q19, hh⟩ := db hh
      refine dq_gR 172 86 [15] 147 (by decide +kernel) rfl q19 ?_
      refine dq_iln 3 148 (by decide +kernel) rfl G3 ?_
      obtain ⟨x20, q21, hh⟩ := db hh
      refine dq_aI 149 (by decide +kernel) rfl q21 ?_
      refine dq_S (.iadd) 1 [] 150 _ [.int ((400 * i2) + x20), va_rf p16, .int (((400 * i1) + x14) + i4), va_rf p10] (by decide +kernel) rfl ?_
      refine dq_il 4 152 (by decide +kernel) rfl G4 ?_
      refine dq_S (.iadd) 1 [] 153 _ [.int (((400 * i2) + x20) + i4), va_rf p16, .int (((400 * i1) + x14) + i4), va_rf p10] (by decide +kernel) rfl ?_
      obtain ⟨y22, q23, hh⟩ := db hh
      refine dq_aJ 154 (by decide +kernel) rfl q23 ?_
      obtain ⟨h24, q25, hh⟩ := db hh
      refine dq_sJ 155 (by decide +kernel) rfl q25 ?_
      refine dq_incy 4 1 1 158 (by decide +kernel) ⟨rfl, by decide +kernel, by decide +kernel⟩ G4 ?_
      have g26 := dg_ne (i := 4) (u := .int (i4 + 1)) (by decide) (Or.inl (by decide)) G0
      have g27 := dg_ne (i := 4) (u := .int (i4 + 1)) (by decide) (Or.inl (by decide)) G1
      have g28 := dg_ne (i := 4) (u := .int (i4 + 1)) (by decide) (Or.inl (by decide)) G2
      have g29 := dg_ne (i := 4) (u := .int (i4 + 1)) (by decide) (Or.inr rfl) G3
      have g30 := dg_eq (lv) 4 (.int (i4 + 1))
      refine dq_S (.goto (-58)) 3 [] 100 _ [] (by decide +kernel) rfl ?_
      exact ih _ _ _ _ _ _ _ _ g26 g27 g28 g29 g30 hh
def b384_188 (L : Nat) (xs : Nat → Int32) (zf : Value) (D : dD) (w : Nat) : Nat → Option Nat → Int32 → Int32 → Int32 → Int32 → rm_H → Option dR
  | 0, _, _, _, _, _, _ => none
  | n + 1, o0, i1, i2, i3, i4, h =>
    (dgR L xs h 50 [15] o0).bind fun p1 =>
    (daI L xs h p1 (i3 + 1)).bind fun x3 =>
    (dgR L xs h 50 [15] o0).bind fun p5 =>
    (daI L xs h p5 i3).bind fun x7 =>
    if mx_f2 .ge i4 (x3 - x7) = true then
      some (none, h)
    else
      (dgR L xs h 100 [15] o0).bind fun p10 =>
      (dgR L xs h 105 [15] o0).bind fun p12 =>
      (daJ L xs h p12 ((6 * i2) + i4)).bind fun y14 =>
      (dsJ h p10 ((160 * i1) + i4) y14).bind fun h16 =>
      b384_188 L xs zf D w n o0 i1 i2 i3 (i4 + 1) h16
theorem c384_188 {L : Nat} {xs : Nat → Int32} {zf : Value} {D : dD} {w k : Nat} (hD : dO L xs zf D k) (hz : zf.category = 1) : ∀ (n : Nat) (o0 : Option Nat) (i1 : Int32) (i2 : Int32) (i3 : Int32) (i4 : Int32) (lv : rm_L) (h : rm_H) (r : dR), rm_get lv 0 = some (va_rf o0) → rm_get lv 1 = some (.int i1) → rm_get lv 2 = some (.int i2) → rm_get lv 3 = some (.int i3) → rm_get lv 4 = some (.int i4) → b384_188 L xs zf D w n  o0 i1 i2 i3 i4 h = some r → dq L xs zf ah_M384 188 lv [] h (k + 1) r := by
  intro n
  induction n with
  | zero =>
    intro o0 i1 i2 i3 i4 lv h r G0 G1 G2 G3 G4 hh
    cases hh
  | succ n ih =>
    intro o0 i1 i2 i3 i4 lv h r G0 G1 G2 G3 G4 hh
    rw [b384_188] at hh
    refine dq_il 4 190 (by decide +kernel) rfl G4 ?_
    refine dq_aln 0 191 (by decide +kernel) rfl G0 ?_
    obtain ⟨p1, q2, hh⟩ := db hh
    refine dq_gR 136 50 [15] 194 (by decide +kernel) rfl q2 ?_
    refine dq_iln 3 195 (by decide +kernel) rfl G3 ?_
    refine dq_S (.iconst 1) 1 [] 196 _ [.int 1, .int i3, va_rf p1, .int i4] (by decide +kernel) rfl ?_
    refine dq_S (.iadd) 1 [] 197 _ [.int (i3 + 1), va_rf p1, .int i4] (by decide +kernel) rfl ?_
    obtain ⟨x3, q4, hh⟩ := db hh
    refine dq_aI 198 (by decide +kernel) rfl q4 ?_
    refine dq_aln 0 199 (by decide +kernel) rfl G0 ?_
    obtain ⟨p5, q6, hh⟩ := db hh
    refine dq_gR 136 50 [15] 202 (by decide +kernel) rfl q6 ?_
    refine dq_iln 3 203 (by decide +kernel) rfl G3 ?_
    obtain ⟨x7, q8, hh⟩ := db hh
    refine dq_aI 204 (by decide +kernel) rfl q8 ?_
    refine dq_S (.isub) 1 [] 205 _ [.int (x3 - x7), .int i4] (by decide +kernel) rfl ?_
    rcases di hh with ⟨q9, hh⟩ | ⟨q9, hh⟩
    · refine dq_2 .ge 34 true 239 q9 (by decide +kernel) ?_
      cases hh
      exact dq_ret0 (by decide +kernel) rfl
    · refine dq_2 .ge 34 false 208 q9 (by decide +kernel) ?_
      refine dq_aln 0 209 (by decide +kernel) rfl G0 ?_
      obtain ⟨p10, q11, hh⟩ := db hh
      refine dq_gR 212 100 [15] 212 (by decide +kernel) rfl q11 ?_
      refine dq_S (.sipush 160) 3 [] 215 _ [.int 160, va_rf p10] (by decide +kernel) rfl ?_
      refine dq_iln 1 216 (by decide +kernel) rfl G1 ?_
      refine dq_S (.imul) 1 [] 217 _ [.int (160 * i1), va_rf p10] (by decide +kernel) rfl ?_
      refine dq_il 4 219 (by decide +kernel) rfl G4 ?_
      refine dq_S (.iadd) 1 [] 220 _ [.int ((160 * i1) + i4), va_rf p10] (by decide +kernel) rfl ?_
      refine dq_aln 0 221 (by decide +kernel) rfl G0 ?_
      obtain ⟨p12, q13, hh⟩ := db hh
      refine dq_gR 227 105 [15] 224 (by decide +kernel) rfl q13 ?_
      refine dq_S (.bipush 6) 2 [] 226 _ [.int 6, va_rf p12, .int ((160 * i1) + i4), va_rf p10] (by decide +kernel) rfl ?_
      refine dq_iln 2 227 (by decide +kernel) rfl G2 ?_
      refine dq_S (.imul) 1 [] 228 _ [.int (6 * i2), va_rf p12, .int ((160 * i1) + i4), va_rf p10] (by decide +kernel) rfl ?_
      refine dq_il 4 230 (by decide +kernel) rfl G4 ?_
      refine dq_S (.iadd) 1 [] 231 _ [.int ((6 * i2) + i4), va_rf p12, .int ((160 * i1) + i4), va_rf p10] (by decide +kernel) rfl ?_
      obtain ⟨y14, q15, hh⟩ := db hh
      refine dq_aJ 232 (by decide +kernel) rfl q15 ?_
      obtain ⟨h16, q17, hh⟩ := db hh
      refine dq_sJ 233 (by decide +kernel) rfl q17 ?_
      refine dq_incy 4 1 1 236 (by decide +kernel) ⟨rfl, by decide +kernel, by decide +kernel⟩ G4 ?_
      have g18 := dg_ne (i := 4) (u := .int (i4 + 1)) (by decide) (Or.inl (by decide)) G0
      have g19 := dg_ne (i := 4) (u := .int (i4 + 1)) (by decide) (Or.inl (by decide)) G1
      have g20 := dg_ne (i := 4) (u := .int (i4 + 1)) (by decide) (Or.inl (by decide)) G2
      have g21 := dg_ne (i := 4) (u := .int (i4 + 1)) (by decide) (Or.inr rfl) G3
      have g22 := dg_eq (lv) 4 (.int (i4 + 1))
      refine dq_S (.goto (-48)) 3 [] 188 _ [] (by decide +kernel) rfl ?_
      exact ih _ _ _ _ _ _ _ _ g18 g19 g20 g21 g22 hh
def b384_71 (L : Nat) (xs : Nat → Int32) (zf : Value) (D : dD) (w : Nat) : Nat → Option Nat → Int32 → Int32 → Int32 → rm_H → Option dR
  | 0, _, _, _, _, _ => none
  | n + 1, o0, i1, i2, i3, h =>
    (dgI L xs h 76 [15] o0).bind fun x1 =>
    if mx_f2 .gt i3 x1 = true then
      (dgR L xs h 102 [15] o0).bind fun p4 =>
      (daI L xs h p4 i2).bind fun x6 =>
      ((D 376 [.int 3, .int i1] h).bind dxJ).bind fun y12 =>
      ((dcV L xs D 385 [15] o0 [.int i1, .int x6, .long y12.1] y12.2).bind dxV).bind fun h16 =>
      b384_188 L xs zf D w w o0 i1 i2 x6 0 h16
    else
      (dgR L xs h 104 [15] o0).bind fun p25 =>
      (daB L xs h p25 ((401 * i2) + i3)).bind fun x27 =>
      if mx_f1 .ne x27 = true then
        b384_100 L xs zf D w (b384_71 L xs zf D w n) w o0 i1 i2 i3 0 h
      else
        b384_161 L xs zf D w (b384_71 L xs zf D w n) o0 i1 i2 i3 h
theorem c384_71 {L : Nat} {xs : Nat → Int32} {zf : Value} {D : dD} {w k : Nat} (hD : dO L xs zf D k) (hz : zf.category = 1) : ∀ (n : Nat) (o0 : Option Nat) (i1 : Int32) (i2 : Int32) (i3 : Int32) (lv : rm_L) (h : rm_H) (r : dR), rm_get lv 0 = some (va_rf o0) → rm_get lv 1 = some (.int i1) → rm_get lv 2 = some (.int i2) → rm_get lv 3 = some (.int i3) → b384_71 L xs zf D w n  o0 i1 i2 i3 h = some r → dq L xs zf ah_M384 71 lv [] h (k + 1) r := by
  intro n
  induction n with
  | zero =>
    intro o0 i1 i2 i3 lv h r G0 G1 G2 G3 hh
    cases hh
  | succ n ih =>
    intro o0 i1 i2 i3 lv h r G0 G1 G2 G3 hh
    rw [b384_71] at hh
    refine dq_iln 3 72 (by decide +kernel) rfl G3 ?_
    refine dq_aln 0 73 (by decide +kernel) rfl G0 ?_
    obtain ⟨x1, q2, hh⟩ := db hh
    refine dq_gI 612 76 [15] 76 (by decide +kernel) rfl q2 ?_
    rcases di hh with ⟨q3, hh⟩ | ⟨q3, hh⟩
    · refine dq_2 .gt 91 true 167 q3 (by decide +kernel) ?_
      refine dq_aln 0 168 (by decide +kernel) rfl G0 ?_
      obtain ⟨p4, q5, hh⟩ := db hh
      refine dq_gR 218 102 [15] 171 (by decide +kernel) rfl q5 ?_
      refine dq_iln 2 172 (by decide +kernel) rfl G2 ?_
      obtain ⟨x6, q7, hh⟩ := db hh
      refine dq_aI 173 (by decide +kernel) rfl q7 ?_
      refine dq_isn 3 174 (by decide +kernel) (by decide +kernel) ?_
      have g8 := dg_ne (i := 3) (u := .int x6) (by decide) (Or.inl (by decide)) G0
      have g9 := dg_ne (i := 3) (u := .int x6) (by decide) (Or.inl (by decide)) G1
      have g10 := dg_ne (i := 3) (u := .int x6) (by decide) (Or.inr rfl) G2
      have g11 := dg_eq (lv) 3 (.int x6)
      refine dq_aln 0 175 (by decide +kernel) rfl g8 ?_
      refine dq_iln 1 176 (by decide +kernel) rfl g9 ?_
      refine dq_iln 3 177 (by decide +kernel) rfl g11 ?_
      refine dq_S (.iconst 3) 1 [] 178 _ [.int 3, .int x6, .int i1, va_rf o0] (by decide +kernel) rfl ?_
      refine dq_iln 1 179 (by decide +kernel) rfl g9 ?_
      obtain ⟨y12, q13, hh⟩ := db hh
      obtain ⟨a14, q15, q13⟩ := db q13
      rw [dq_xJ q13] at q15
      refine dq_cst hD 595 376 0 2 [.int 3, .int i1] [.int x6, .int i1, va_rf o0] 182 [.long y12.1, .int x6, .int i1, va_rf o0] (by decide +kernel) ap_376 ⟨⟨Nat.le_of_ble_eq_true rfl, by decide⟩, rfl, rfl⟩ (dq_ok8 [1, 1] [1, 1, 1] (dc_i (dc_i dc_n)) (dc_i (dc_i (dc_r dc_n))) (by decide +kernel)) (by decide +kernel) rfl q15 rfl ?_
      obtain ⟨h16, q17, hh⟩ := db hh
      obtain ⟨a18, q19, q17⟩ := db q17
      rw [dq_xV q17] at q19
      refine dq_cvi hD 628 385 5 3 [15] o0 [.int i1, .int x6, .long y12.1] [] 185 [] (by decide +kernel) ap_385 ⟨⟨Nat.le_of_ble_eq_true rfl, by decide⟩, rfl, rfl⟩ (dq_ok8 [1, 1, 1, 2] [] (dc_r (dc_i (dc_i (dc_j dc_n)))) dc_n (by decide +kernel)) (by decide +kernel) rfl q19 rfl ?_
      refine dq_S (.iconst 0) 1 [] 186 _ [.int 0] (by decide +kernel) rfl ?_
      refine dq_is 4 188 (by decide +kernel) (by decide +kernel) ?_
      have g20 := dg_ne (i := 4) (u := .int 0) (by decide) (Or.inl (by decide)) g8
      have g21 := dg_ne (i := 4) (u := .int 0) (by decide) (Or.inl (by decide)) g9
      have g22 := dg_ne (i := 4) (u := .int 0) (by decide) (Or.inl (by decide)) g10
      have g23 := dg_ne (i := 4) (u := .int 0) (by decide) (Or.inr rfl) g11
      have g24 := dg_eq (rm_set1 (lv) 3 (.int x6)) 4 (.int 0)
      exact c384_188 hD hz _ _ _ _ _ _ _ _ _ g20 g21 g22 g23 g24 hh
    · refine dq_2 .gt 91 false 79 q3 (by decide +kernel) ?_
      refine dq_aln 0 80 (by decide +kernel) rfl G0 ?_
      obtain ⟨p25, q26, hh⟩ := db hh
      refine dq_gR 224 104 [15] 83 (by decide +kernel) rfl q26 ?_
      refine dq_S (.sipush 401) 3 [] 86 _ [.int 401, va_rf p25] (by decide +kernel) rfl ?_
      refine dq_iln 2 87 (by decide +kernel) rfl G2 ?_
      refine dq_S (.imul) 1 [] 88 _ [.int (401 * i2), va_rf p25] (by decide +kernel) rfl ?_
      refine dq_iln 3 89 (by decide +kernel) rfl G3 ?_
      refine dq_S (.iadd) 1 [] 90 _ [.int ((401 * i2) + i3), va_rf p25] (by decide +kernel) rfl ?_
      obtain ⟨x27, q28, hh⟩ := db hh
      refine dq_aB 91 (by decide +kernel) rfl q28 ?_
      rcases di hh with ⟨q29, hh⟩ | ⟨q29, hh⟩
      · refine dq_1 .ne 6 true 97 q29 (by decide +kernel) ?_
        refine dq_S (.iconst 0) 1 [] 98 _ [.int 0] (by decide +kernel) rfl ?_
        refine dq_is 4 100 (by decide +kernel) (by decide +kernel) ?_
        have g30 := dg_ne (i := 4) (u := .int 0) (by decide) (Or.inl (by decide)) G0
        have g31 := dg_ne (i := 4) (u := .int 0) (by decide) (Or.inl (by decide)) G1
        have g32 := dg_ne (i := 4) (u := .int 0) (by decide) (Or.inl (by decide)) G2
        have g33 := dg_ne (i := 4) (u := .int 0) (by decide) (Or.inr rfl) G3
        have g34 := dg_eq (lv) 4 (.int 0)
        exact c384_100 hD hz ih _ _ _ _ _ _ _ _ _ g30 g31 g32 g33 g34 hh
      · refine dq_1 .ne 6 false 94 q29 (by decide +kernel) ?_
        refine dq_S (.goto 67) 3 [] 161 _ [] (by decide +kernel) rfl ?_
        exact c384_161 hD hz ih _ _ _ _ _ _ _ G0 G1 G2 G3 hh
def b384_22 (L : Nat) (xs : Nat → Int32) (zf : Value) (D : dD) (w : Nat) : Nat → Option Nat → Int32 → Int32 → Int32 → rm_H → Option dR
  | 0, _, _, _, _, _ => none
  | n + 1, o0, i1, i2, i3, h =>
    (dgR L xs h 93 [15] o0).bind fun p1 =>
    (daI L xs h p1 i1).bind fun x3 =>
    if mx_f2 .ge i3 x3 = true then
      (dgR L xs h 103 [15] o0).bind fun p6 =>
      (dsB h p6 i2 0).bind fun h8 =>
      b384_71 L xs zf D w w o0 i1 i2 1 h8
    else
      (dgR L xs h 101 [15] o0).bind fun p14 =>
      (dgR L xs h 101 [15] o0).bind fun p16 =>
      (daI L xs h p16 (((6 * i1) + i3) + 1)).bind fun x18 =>
      (dsI h p14 ((6 * i1) + i3) x18).bind fun h20 =>
      b384_22 L xs zf D w n o0 i1 i2 (i3 + 1) h20
theorem c384_22 {L : Nat} {xs : Nat → Int32} {zf : Value} {D : dD} {w k : Nat} (hD : dO L xs zf D k) (hz : zf.category = 1) : ∀ (n : Nat) (o0 : Option Nat) (i1 : Int32) (i2 : Int32) (i3 : Int32) (lv : rm_L) (h : rm_H) (r : dR), rm_get lv 0 = some (va_rf o0) → rm_get lv 1 = some (.int i1) → rm_get lv 2 = some (.int i2) → rm_get lv 3 = some (.int i3) → b384_22 L xs zf D w n  o0 i1 i2 i3 h = some r → dq L xs zf ah_M384 22 lv [] h (k + 1) r := by
  intro n
  induction n with
  | zero =>
    intro o0 i1 i2 i3 lv h r G0 G1 G2 G3 hh
    cases hh
  | succ n ih =>
    intro o0 i1 i2 i3 lv h r G0 G1 G2 G3 hh
    rw [b384_22] at hh
    refine dq_iln 3 23 (by decide +kernel) rfl G3 ?_
    refine dq_aln 0 24 (by decide +kernel) rfl G0 ?_
    obtain ⟨p1, q2, hh⟩ := db hh
    refine dq_gR 190 93 [15] 27 (by decide +kernel) rfl q2 ?_
    refine dq_iln 1 28 (by decide +kernel) rfl G1 ?_
    obtain ⟨x3, q4, hh⟩ := db hh
    refine dq_aI 29 (by decide +kernel) rfl q4 ?_
    rcases di hh with ⟨q5, hh⟩ | ⟨q5, hh⟩
    · refine dq_2 .ge 33 true 62 q5 (by decide +kernel) ?_
      refine dq_aln 0 63 (by decide +kernel) rfl G0 ?_
      obtain ⟨p6, q7, hh⟩ := db hh
      refine dq_gR 221 103 [15] 66 (by decide +kernel) rfl q7 ?_
      refine dq_iln 2 67 (by decide +kernel) rfl G2 ?_
      refine dq_S (.iconst 0) 1 [] 68 _ [.int 0, .int i2, va_rf p6] (by decide +kernel) rfl ?_
      obtain ⟨h8, q9, hh⟩ := db hh
      refine dq_sB1 69 (by decide +kernel) rfl q9 ?_
      refine dq_S (.iconst 1) 1 [] 70 _ [.int 1] (by decide +kernel) rfl ?_
      refine dq_isn 3 71 (by decide +kernel) (by decide +kernel) ?_
      have g10 := dg_ne (i := 3) (u := .int 1) (by decide) (Or.inl (by decide)) G0
      have g11 := dg_ne (i := 3) (u := .int 1) (by decide) (Or.inl (by decide)) G1
      have g12 := dg_ne (i := 3) (u := .int 1) (by decide) (Or.inr rfl) G2
      have g13 := dg_eq (lv) 3 (.int 1)
      exact c384_71 hD hz _ _ _ _ _ _ _ _ g10 g11 g12 g13 hh
    · refine dq_2 .ge 33 false 32 q5 (by decide +kernel) ?_
      refine dq_aln 0 33 (by decide +kernel) rfl G0 ?_
      obtain ⟨p14, q15, hh⟩ := db hh
      refine dq_gR 215 101 [15] 36 (by decide +kernel) rfl q15 ?_
      refine dq_S (.bipush 6) 2 [] 38 _ [.int 6, va_rf p14] (by decide +kernel) rfl ?_
      refine dq_iln 1 39 (by decide +kernel) rfl G1 ?_
      refine dq_S (.imul) 1 [] 40 _ [.int (6 * i1), va_rf p14] (by decide +kernel) rfl ?_
      refine dq_iln 3 41 (by decide +kernel) rfl G3 ?_
      refine dq_S (.iadd) 1 [] 42 _ [.int ((6 * i1) + i3), va_rf p14] (by decide +kernel) rfl ?_
      refine dq_aln 0 43 (by decide +kernel) rfl G0 ?_
      obtain ⟨p16, q17, hh⟩ := db hh
      refine dq_gR 215 101 [15] 46 (by decide +kernel) rfl q17 ?_
      refine dq_S (.bipush 6) 2 [] 48 _ [.int 6, va_rf p16, .int ((6 * i1) + i3), va_rf p14] (by decide +kernel) rfl ?_
      refine dq_iln 1 49 (by decide +kernel) rfl G1 ?_
      refine dq_S (.imul) 1 [] 50 _ [.int (6 * i1), va_rf p16, .int ((6 * i1) + i3), va_rf p14] (by decide +kernel) rfl ?_
      refine dq_iln 3 51 (by decide +kernel) rfl G3 ?_
      refine dq_S (.iadd) 1 [] 52 _ [.int ((6 * i1) + i3), va_rf p16, .int ((6 * i1) + i3), va_rf p14] (by decide +kernel) rfl ?_
      refine dq_S (.iconst 1) 1 [] 53 _ [.int 1, .int ((6 * i1) + i3), va_rf p16, .int ((6 * i1) + i3), va_rf p14] (by decide +kernel) rfl ?_
      refine dq_S (.iadd) 1 [] 54 _ [.int (((6 * i1) + i3) + 1), va_rf p16, .int ((6 * i1) + i3), va_rf p14] (by decide +kernel) rfl ?_
      obtain ⟨x18, q19, hh⟩ := db hh
      refine dq_aI 55 (by decide +kernel) rfl q19 ?_
      obtain ⟨h20, q21, hh⟩ := db hh
      refine dq_sI 56 (by decide +kernel) rfl q21 ?_
      refine dq_incy 3 1 1 59 (by decide +kernel) ⟨rfl, by decide +kernel, by decide +kernel⟩ G3 ?_
      have g22 := dg_ne (i := 3) (u := .int (i3 + 1)) (by decide) (Or.inl (by decide)) G0
      have g23 := dg_ne (i := 3) (u := .int (i3 + 1)) (by decide) (Or.inl (by decide)) G1
      have g24 := dg_ne (i := 3) (u := .int (i3 + 1)) (by decide) (Or.inr rfl) G2
      have g25 := dg_eq (lv) 3 (.int (i3 + 1))
      refine dq_S (.goto (-37)) 3 [] 22 _ [] (by decide +kernel) rfl ?_
      exact ih _ _ _ _ _ _ _ g22 g23 g24 g25 hh
def b384_0 (L : Nat) (xs : Nat → Int32) (zf : Value) (D : dD) (w : Nat) (o0 : Option Nat) (i1 : Int32) (h : rm_H) : Option dR :=
  (dgR L xs h 101 [15] o0).bind fun p1 =>
  (daI L xs h p1 (6 * i1)).bind fun x3 =>
  (dgR L xs h 93 [15] o0).bind fun p8 =>
  (daI L xs h p8 i1).bind fun x10 =>
  (dsI h p8 i1 (x10 - 1)).bind fun h12 =>
  b384_22 L xs zf D w w o0 i1 x3 0 h12
theorem c384_0 {L : Nat} {xs : Nat → Int32} {zf : Value} {D : dD} {w k : Nat} (hD : dO L xs zf D k) (hz : zf.category = 1) : ∀ (o0 : Option Nat) (i1 : Int32) (lv : rm_L) (h : rm_H) (r : dR), rm_get lv 0 = some (va_rf o0) → rm_get lv 1 = some (.int i1) → b384_0 L xs zf D w  o0 i1 h = some r → dq L xs zf ah_M384 0 lv [] h (k + 1) r := by
  intro o0 i1 lv h r G0 G1 hh
  unfold b384_0 at hh
  refine dq_aln 0 1 (by decide +kernel) rfl G0 ?_
  obtain ⟨p1, q2, hh⟩ := db hh
  refine dq_gR 215 101 [15] 4 (by decide +kernel) rfl q2 ?_
  refine dq_S (.bipush 6) 2 [] 6 _ [.int 6, va_rf p1] (by decide +kernel) rfl ?_
  refine dq_iln 1 7 (by decide +kernel) rfl G1 ?_
  refine dq_S (.imul) 1 [] 8 _ [.int (6 * i1), va_rf p1] (by decide +kernel) rfl ?_
  obtain ⟨x3, q4, hh⟩ := db hh
  refine dq_aI 9 (by decide +kernel) rfl q4 ?_
  refine dq_isn 2 10 (by decide +kernel) (by decide +kernel) ?_
  have g5 := dg_ne (i := 2) (u := .int x3) (by decide) (Or.inl (by decide)) G0
  have g6 := dg_ne (i := 2) (u := .int x3) (by decide) (Or.inr rfl) G1
  have g7 := dg_eq (lv) 2 (.int x3)
  refine dq_aln 0 11 (by decide +kernel) rfl g5 ?_
  obtain ⟨p8, q9, hh⟩ := db hh
  refine dq_gR 190 93 [15] 14 (by decide +kernel) rfl q9 ?_
  refine dq_iln 1 15 (by decide +kernel) rfl g6 ?_
  refine dq_d2 16 (by decide +kernel) rfl ?_
  obtain ⟨x10, q11, hh⟩ := db hh
  refine dq_aI 17 (by decide +kernel) rfl q11 ?_
  refine dq_S (.iconst 1) 1 [] 18 _ [.int 1, .int x10, .int i1, va_rf p8] (by decide +kernel) rfl ?_
  refine dq_S (.isub) 1 [] 19 _ [.int (x10 - 1), .int i1, va_rf p8] (by decide +kernel) rfl ?_
  obtain ⟨h12, q13, hh⟩ := db hh
  refine dq_sI 20 (by decide +kernel) rfl q13 ?_
  refine dq_S (.iconst 0) 1 [] 21 _ [.int 0] (by decide +kernel) rfl ?_
  refine dq_isn 3 22 (by decide +kernel) (by decide +kernel) ?_
  have g14 := dg_ne (i := 3) (u := .int 0) (by decide) (Or.inl (by decide)) g5
  have g15 := dg_ne (i := 3) (u := .int 0) (by decide) (Or.inl (by decide)) g6
  have g16 := dg_ne (i := 3) (u := .int 0) (by decide) (Or.inr rfl) g7
  have g17 := dg_eq (rm_set1 (lv) 2 (.int x3)) 3 (.int 0)
  exact c384_22 hD hz _ _ _ _ _ _ _ _ g14 g15 g16 g17 hh
def f384 (L : Nat) (xs : Nat → Int32) (zf : Value) (D : dD) (w : Nat) (As : List Value) (h : rm_H) : Option dR := match As with
  | [v0, .int i1] => (rm_rf v0).bind fun o0 => b384_0 L xs zf D w o0 i1 h
  | _ => none
theorem d384 {L : Nat} {xs : Nat → Int32} {zf : Value} {D : dD} {w k : Nat} (hD : dO L xs zf D k) (hz : zf.category = 1) (As : List Value) (h : rm_H) (r : dR) (hh : f384 L xs zf D w As h = some r) : dq L xs zf ah_M384 0 (lv_args 0 As) [] h (k + 1) r := by
  unfold f384 at hh
  split at hh
  · obtain ⟨o0, e0, hb0⟩ := db hh
    have e0 := rm_rf_v _ _ e0
    subst e0
    refine c384_0 hD hz _ _ _ _ _ ?_ ?_ hb0
    all_goals (simp only [la_r, la_i, la_j]; rfl)
  · cases hh
def b385_89 (L : Nat) (xs : Nat → Int32) (zf : Value) (D : dD) (w : Nat) (s0 : Int32) (s1 : Int32) (s2 : Option Nat) (h : rm_H) : Option dR :=
  (dsI h s2 s1 s0).bind fun h1 =>
  some (none, h1)
theorem c385_89 {L : Nat} {xs : Nat → Int32} {zf : Value} {D : dD} {w k : Nat} (hD : dO L xs zf D k) (hz : zf.category = 1) : ∀ (s0 : Int32) (s1 : Int32) (s2 : Option Nat) (lv : rm_L) (h : rm_H) (r : dR), b385_89 L xs zf D w  s0 s1 s2 h = some r → dq L xs zf ah_M385 89 lv [.int s0, .int s1, va_rf s2] h (k + 1) r := by
  intro s0 s1 s2 lv h r hh
  unfold b385_89 at hh
  obtain ⟨h1, q2, hh⟩ := db hh
  refine dq_sI 90 (by decide +kernel) rfl q2 ?_
  cases hh
  exact dq_ret0 (by decide +kernel) rfl
def b385_0 (L : Nat) (xs : Nat → Int32) (zf : Value) (D : dD) (w : Nat) (o0 : Option Nat) (i1 : Int32) (i2 : Int32) (j3 : Int64) (h : rm_H) : Option dR :=
  (dgR L xs h 91 [15] o0).bind fun p1 =>
  (daI L xs h p1 i1).bind fun x3 =>
  (dgR L xs h 91 [15] o0).bind fun p10 =>
  (daI L xs h p10 i1).bind fun x12 =>
  (dsI h p10 i1 (x12 + 1)).bind fun h14 =>
  (dgR L xs h14 97 [15] o0).bind fun p16 =>
  (dsI h14 p16 ((10 * i1) + x3) i2).bind fun h18 =>
  (dgR L xs h18 99 [15] o0).bind fun p20 =>
  (dsJ h18 p20 ((10 * i1) + x3) j3).bind fun h22 =>
  (dgR L xs h22 49 [15] o0).bind fun p24 =>
  (daI L xs h22 p24 i2).bind fun x26 =>
  (dgR L xs h22 98 [15] o0).bind fun p34 =>
  (dgR L xs h22 12 [15] o0).bind fun p36 =>
  (dgR L xs h22 12 [15] o0).bind fun p38 =>
  (daI L xs h22 p38 x26).bind fun x40 =>
  (daI L xs h22 p36 x40).bind fun x42 =>
  if mx_f1 .ne x42 = true then
    (dgR L xs h22 12 [15] o0).bind fun p45 =>
    (dgR L xs h22 12 [15] o0).bind fun p47 =>
    (daI L xs h22 p47 x26).bind fun x49 =>
    (daI L xs h22 p45 x49).bind fun x51 =>
    ((dcV L xs D 386 [15] o0 [.int x51] h22).bind dxI).bind fun x53 =>
    b385_89 L xs zf D w x53.1 ((10 * i1) + x3) p34 x53.2
  else
    b385_89 L xs zf D w x26 ((10 * i1) + x3) p34 h22
theorem c385_0 {L : Nat} {xs : Nat → Int32} {zf : Value} {D : dD} {w k : Nat} (hD : dO L xs zf D k) (hz : zf.category = 1) : ∀ (o0 : Option Nat) (i1 : Int32) (i2 : Int32) (j3 : Int64) (lv : rm_L) (h : rm_H) (r : dR), rm_get lv 0 = some (va_rf o0) → rm_get lv 1 = some (.int i1) → rm_get lv 2 = some (.int i2) → rm_get lv 3 = some (.long j3) → b385_0 L xs zf D w  o0 i1 i2 j3 h = some r → dq L xs zf ah_M385 0 lv [] h (k + 1) r := by
  intro o0 i1 i2 j3 lv h r G0 G1 G2 G3 hh
  unfold b385_0 at hh
  refine dq_S (.bipush 10) 2 [] 2 _ [.int 10] (by decide +kernel) rfl ?_
  refine dq_iln 1 3 (by decide +kernel) rfl G1 ?_
  refine dq_S (.imul) 1 [] 4 _ [.int (10 * i1)] (by decide +kernel) rfl ?_
  refine dq_aln 0 5 (by decide +kernel) rfl G0 ?_
  obtain ⟨p1, q2, hh⟩ := db hh
  refine dq_gR 184 91 [15] 8 (by decide +kernel) rfl q2 ?_
  refine dq_iln 1 9 (by decide +kernel) rfl G1 ?_
  obtain ⟨x3, q4, hh⟩ := db hh
  refine dq_aI 10 (by decide +kernel) rfl q4 ?_
  refine dq_S (.iadd) 1 [] 11 _ [.int ((10 * i1) + x3)] (by decide +kernel) rfl ?_
  refine dq_is 5 13 (by decide +kernel) (by decide +kernel) ?_
  have g5 := dg_ne (i := 5) (u := .int ((10 * i1) + x3)) (by decide) (Or.inl (by decide)) G0
  have g6 := dg_ne (i := 5) (u := .int ((10 * i1) + x3)) (by decide) (Or.inl (by decide)) G1
  have g7 := dg_ne (i := 5) (u := .int ((10 * i1) + x3)) (by decide) (Or.inl (by decide)) G2
  have g8 := dg_ne (i := 5) (u := .int ((10 * i1) + x3)) (by decide) (Or.inl (by decide)) G3
  have g9 := dg_eq (lv) 5 (.int ((10 * i1) + x3))
  refine dq_aln 0 14 (by decide +kernel) rfl g5 ?_
  obtain ⟨p10, q11, hh⟩ := db hh
  refine dq_gR 184 91 [15] 17 (by decide +kernel) rfl q11 ?_
  refine dq_iln 1 18 (by decide +kernel) rfl g6 ?_
  refine dq_d2 19 (by decide +kernel) rfl ?_
  obtain ⟨x12, q13, hh⟩ := db hh
  refine dq_aI 20 (by decide +kernel) rfl q13 ?_
  refine dq_S (.iconst 1) 1 [] 21 _ [.int 1, .int x12, .int i1, va_rf p10] (by decide +kernel) rfl ?_
  refine dq_S (.iadd) 1 [] 22 _ [.int (x12 + 1), .int i1, va_rf p10] (by decide +kernel) rfl ?_
  obtain ⟨h14, q15, hh⟩ := db hh
  refine dq_sI 23 (by decide +kernel) rfl q15 ?_
  refine dq_aln 0 24 (by decide +kernel) rfl g5 ?_
  obtain ⟨p16, q17, hh⟩ := db hh
  refine dq_gR 203 97 [15] 27 (by decide +kernel) rfl q17 ?_
  refine dq_il 5 29 (by decide +kernel) rfl g9 ?_
  refine dq_iln 2 30 (by decide +kernel) rfl g7 ?_
  obtain ⟨h18, q19, hh⟩ := db hh
  refine dq_sI 31 (by decide +kernel) rfl q19 ?_
  refine dq_aln 0 32 (by decide +kernel) rfl g5 ?_
  obtain ⟨p20, q21, hh⟩ := db hh
  refine dq_gR 209 99 [15] 35 (by decide +kernel) rfl q21 ?_
  refine dq_il 5 37 (by decide +kernel) rfl g9 ?_
  refine dq_lln 3 38 (by decide +kernel) rfl g8 ?_
  obtain ⟨h22, q23, hh⟩ := db hh
  refine dq_sJ 39 (by decide +kernel) rfl q23 ?_
  refine dq_aln 0 40 (by decide +kernel) rfl g5 ?_
  obtain ⟨p24, q25, hh⟩ := db hh
  refine dq_gR 133 49 [15] 43 (by decide +kernel) rfl q25 ?_
  refine dq_iln 2 44 (by decide +kernel) rfl g7 ?_
  obtain ⟨x26, q27, hh⟩ := db hh
  refine dq_aI 45 (by decide +kernel) rfl q27 ?_
  refine dq_is 6 47 (by decide +kernel) (by decide +kernel) ?_
  have g28 := dg_ne (i := 6) (u := .int x26) (by decide) (Or.inl (by decide)) g5
  have g29 := dg_ne (i := 6) (u := .int x26) (by decide) (Or.inl (by decide)) g6
  have g30 := dg_ne (i := 6) (u := .int x26) (by decide) (Or.inl (by decide)) g7
  have g31 := dg_ne (i := 6) (u := .int x26) (by decide) (Or.inl (by decide)) g8
  have g32 := dg_ne (i := 6) (u := .int x26) (by decide) (Or.inr rfl) g9
  have g33 := dg_eq (rm_set1 (lv) 5 (.int ((10 * i1) + x3))) 6 (.int x26)
  refine dq_aln 0 48 (by decide +kernel) rfl g28 ?_
  obtain ⟨p34, q35, hh⟩ := db hh
  refine dq_gR 206 98 [15] 51 (by decide +kernel) rfl q35 ?_
  refine dq_il 5 53 (by decide +kernel) rfl g32 ?_
  refine dq_aln 0 54 (by decide +kernel) rfl g28 ?_
  obtain ⟨p36, q37, hh⟩ := db hh
  refine dq_gR 39 12 [15] 57 (by decide +kernel) rfl q37 ?_
  refine dq_aln 0 58 (by decide +kernel) rfl g28 ?_
  obtain ⟨p38, q39, hh⟩ := db hh
  refine dq_gR 39 12 [15] 61 (by decide +kernel) rfl q39 ?_
  refine dq_il 6 63 (by decide +kernel) rfl g33 ?_
  obtain ⟨x40, q41, hh⟩ := db hh
  refine dq_aI 64 (by decide +kernel) rfl q41 ?_
  obtain ⟨x42, q43, hh⟩ := db hh
  refine dq_aI 65 (by decide +kernel) rfl q43 ?_
  rcases di hh with ⟨q44, hh⟩ | ⟨q44, hh⟩
  · refine dq_1 .ne 8 true 73 q44 (by decide +kernel) ?_
    refine dq_aln 0 74 (by decide +kernel) rfl g28 ?_
    refine dq_aln 0 75 (by decide +kernel) rfl g28 ?_
    obtain ⟨p45, q46, hh⟩ := db hh
    refine dq_gR 39 12 [15] 78 (by decide +kernel) rfl q46 ?_
    refine dq_aln 0 79 (by decide +kernel) rfl g28 ?_
    obtain ⟨p47, q48, hh⟩ := db hh
    refine dq_gR 39 12 [15] 82 (by decide +kernel) rfl q48 ?_
    refine dq_il 6 84 (by decide +kernel) rfl g33 ?_
    obtain ⟨x49, q50, hh⟩ := db hh
    refine dq_aI 85 (by decide +kernel) rfl q50 ?_
    obtain ⟨x51, q52, hh⟩ := db hh
    refine dq_aI 86 (by decide +kernel) rfl q52 ?_
    obtain ⟨x53, q54, hh⟩ := db hh
    obtain ⟨a55, q56, q54⟩ := db q54
    rw [dq_xI q54] at q56
    refine dq_cvi hD 632 386 5 1 [15] o0 [.int x51] [.int ((10 * i1) + x3), va_rf p34] 89 [.int x53.1, .int ((10 * i1) + x3), va_rf p34] (by decide +kernel) ap_386 ⟨⟨Nat.le_of_ble_eq_true rfl, by decide⟩, rfl, rfl⟩ (dq_ok8 [1, 1] [1, 1] (dc_r (dc_i dc_n)) (dc_i (dc_r dc_n)) (by decide +kernel)) (by decide +kernel) rfl q56 rfl ?_
    exact c385_89 hD hz _ _ _ _ _ _  hh
  · refine dq_1 .ne 8 false 68 q44 (by decide +kernel) ?_
    refine dq_il 6 70 (by decide +kernel) rfl g33 ?_
    refine dq_S (.goto 19) 3 [] 89 _ [.int x26, .int ((10 * i1) + x3), va_rf p34] (by decide +kernel) rfl ?_
    exact c385_89 hD hz _ _ _ _ _ _  hh
def f385 (L : Nat) (xs : Nat → Int32) (zf : Value) (D : dD) (w : Nat) (As : List Value) (h : rm_H) : Option dR := match As with
  | [v0, .int i1, .int i2, .long j3] => (rm_rf v0).bind fun o0 => b385_0 L xs zf D w o0 i1 i2 j3 h
  | _ => none
theorem d385 {L : Nat} {xs : Nat → Int32} {zf : Value} {D : dD} {w k : Nat} (hD : dO L xs zf D k) (hz : zf.category = 1) (As : List Value) (h : rm_H) (r : dR) (hh : f385 L xs zf D w As h = some r) : dq L xs zf ah_M385 0 (lv_args 0 As) [] h (k + 1) r := by
  unfold f385 at hh
  split at hh
  · obtain ⟨o0, e0, hb0⟩ := db hh
    have e0 := rm_rf_v _ _ e0
    subst e0
    refine c385_0 hD hz _ _ _ _ _ _ _ ?_ ?_ ?_ ?_ hb0
    all_goals (simp only [la_r, la_i, la_j]; rfl)
  · cases hh
def b386_36 (L : Nat) (xs : Nat → Int32) (zf : Value) (D : dD) (w : Nat) (K4 : Option Nat → Int32 → Int32 → rm_H → Option dR) (o0 : Option Nat) (i3 : Int32) (s0 : Int32) (h : rm_H) : Option dR :=
  K4 o0 s0 i3 h
theorem c386_36 {L : Nat} {xs : Nat → Int32} {zf : Value} {D : dD} {w k : Nat} {K4 : Option Nat → Int32 → Int32 → rm_H → Option dR} (hD : dO L xs zf D k) (hz : zf.category = 1) (hK4 : ∀ (o0 : Option Nat) (i2 : Int32) (i3 : Int32) (lv : rm_L) (h : rm_H) (r : dR), rm_get lv 0 = some (va_rf o0) → rm_get lv 2 = some (.int i2) → rm_get lv 3 = some (.int i3) → K4 o0 i2 i3 h = some r → dq L xs zf ah_M386 4 lv [] h (k + 1) r) : ∀ (o0 : Option Nat) (i3 : Int32) (s0 : Int32) (lv : rm_L) (h : rm_H) (r : dR), rm_get lv 0 = some (va_rf o0) → rm_get lv 3 = some (.int i3) → b386_36 L xs zf D w K4  o0 i3 s0 h = some r → dq L xs zf ah_M386 36 lv [.int s0] h (k + 1) r := by
  intro o0 i3 s0 lv h r G0 G3 hh
  unfold b386_36 at hh
  refine dq_isn 2 37 (by decide +kernel) (by decide +kernel) ?_
  have g1 := dg_ne (i := 2) (u := .int s0) (by decide) (Or.inl (by decide)) G0
  have g2 := dg_ne (i := 2) (u := .int s0) (by decide) (Or.inl (by decide)) G3
  have g3 := dg_eq (lv) 2 (.int s0)
  refine dq_S (.goto (-33)) 3 [] 4 _ [] (by decide +kernel) rfl ?_
  exact hK4 _ _ _ _ _ _ g1 g3 g2 hh
def b386_25 (L : Nat) (xs : Nat → Int32) (zf : Value) (D : dD) (w : Nat) (K4 : Option Nat → Int32 → Int32 → rm_H → Option dR) (o0 : Option Nat) (i2 : Int32) (i4 : Int32) (s0 : Int32) (h : rm_H) : Option dR :=
  if mx_f1 .eq s0 = true then
    b386_36 L xs zf D w K4 o0 s0 i2 h
  else
    b386_36 L xs zf D w K4 o0 s0 i4 h
theorem c386_25 {L : Nat} {xs : Nat → Int32} {zf : Value} {D : dD} {w k : Nat} {K4 : Option Nat → Int32 → Int32 → rm_H → Option dR} (hD : dO L xs zf D k) (hz : zf.category = 1) (hK4 : ∀ (o0 : Option Nat) (i2 : Int32) (i3 : Int32) (lv : rm_L) (h : rm_H) (r : dR), rm_get lv 0 = some (va_rf o0) → rm_get lv 2 = some (.int i2) → rm_get lv 3 = some (.int i3) → K4 o0 i2 i3 h = some r → dq L xs zf ah_M386 4 lv [] h (k + 1) r) : ∀ (o0 : Option Nat) (i2 : Int32) (i4 : Int32) (s0 : Int32) (lv : rm_L) (h : rm_H) (r : dR), rm_get lv 0 = some (va_rf o0) → rm_get lv 2 = some (.int i2) → rm_get lv 4 = some (.int i4) → b386_25 L xs zf D w K4  o0 i2 i4 s0 h = some r → dq L xs zf ah_M386 25 lv [.int s0] h (k + 1) r := by
  intro o0 i2 i4 s0 lv h r G0 G2 G4 hh
  unfold b386_25 at hh
  refine dq_isn 3 26 (by decide +kernel) (by decide +kernel) ?_
  have g1 := dg_ne (i := 3) (u := .int s0) (by decide) (Or.inl (by decide)) G0
  have g2 := dg_ne (i := 3) (u := .int s0) (by decide) (Or.inr rfl) G2
  have g3 := dg_ne (i := 3) (u := .int s0) (by decide) (Or.inl (by decide)) G4
  have g4 := dg_eq (lv) 3 (.int s0)
  refine dq_iln 3 27 (by decide +kernel) rfl g4 ?_
  rcases di hh with ⟨q5, hh⟩ | ⟨q5, hh⟩
  · refine dq_1 .eq 8 true 35 q5 (by decide +kernel) ?_
    refine dq_iln 2 36 (by decide +kernel) rfl g2 ?_
    exact c386_36 hD hz hK4 _ _ _ _ _ _ g1 g4 hh
  · refine dq_1 .eq 8 false 30 q5 (by decide +kernel) ?_
    refine dq_il 4 32 (by decide +kernel) rfl g3 ?_
    refine dq_S (.goto 4) 3 [] 36 _ [.int i4] (by decide +kernel) rfl ?_
    exact c386_36 hD hz hK4 _ _ _ _ _ _ g1 g4 hh
def b386_4 (L : Nat) (xs : Nat → Int32) (zf : Value) (D : dD) (w : Nat) : Nat → Option Nat → Int32 → Int32 → rm_H → Option dR
  | 0, _, _, _, _ => none
  | n + 1, o0, i2, i3, h =>
    if mx_f1 .eq i3 = true then
      drI (some .int) i2 h
    else
      ((dcV L xs D 387 [15] o0 [.int i2] h).bind dxI).bind fun x2 =>
      if mx_f1 .eq x2.1 = true then
        b386_25 L xs zf D w (b386_4 L xs zf D w n) o0 i2 x2.1 0 x2.2
      else
        b386_25 L xs zf D w (b386_4 L xs zf D w n) o0 i2 x2.1 1 x2.2
theorem c386_4 {L : Nat} {xs : Nat → Int32} {zf : Value} {D : dD} {w k : Nat} (hD : dO L xs zf D k) (hz : zf.category = 1) : ∀ (n : Nat) (o0 : Option Nat) (i2 : Int32) (i3 : Int32) (lv : rm_L) (h : rm_H) (r : dR), rm_get lv 0 = some (va_rf o0) → rm_get lv 2 = some (.int i2) → rm_get lv 3 = some (.int i3) → b386_4 L xs zf D w n  o0 i2 i3 h = some r → dq L xs zf ah_M386 4 lv [] h (k + 1) r := by
  intro n
  induction n with
  | zero =>
    intro o0 i2 i3 lv h r G0 G2 G3 hh
    cases hh
  | succ n ih =>
    intro o0 i2 i3 lv h r G0 G2 G3 hh
    rw [b386_4] at hh
    refine dq_iln 3 5 (by decide +kernel) rfl G3 ?_
    rcases di hh with ⟨q1, hh⟩ | ⟨q1, hh⟩
    · refine dq_1 .eq 35 true 40 q1 (by decide +kernel) ?_
      refine dq_iln 2 41 (by decide +kernel) rfl G2 ?_
      exact dq_retI (some .int) (by decide +kernel) rfl hh
    · refine dq_1 .eq 35 false 8 q1 (by decide +kernel) ?_
      refine dq_aln 0 9 (by decide +kernel) rfl G0 ?_
      refine dq_iln 2 10 (by decide +kernel) rfl G2 ?_
      obtain ⟨x2, q3, hh⟩ := db hh
      obtain ⟨a4, q5, q3⟩ := db q3
      rw [dq_xI q3] at q5
      refine dq_cvi hD 635 387 5 1 [15] o0 [.int i2] [] 13 [.int x2.1] (by decide +kernel) ap_387 ⟨⟨Nat.le_of_ble_eq_true rfl, by decide⟩, rfl, rfl⟩ (dq_ok8 [1, 1] [] (dc_r (dc_i dc_n)) dc_n (by decide +kernel)) (by decide +kernel) rfl q5 rfl ?_
      refine dq_is 4 15 (by decide +kernel) (by decide +kernel) ?_
      have g6 := dg_ne (i := 4) (u := .int x2.1) (by decide) (Or.inl (by decide)) G0
      have g7 := dg_ne (i := 4) (u := .int x2.1) (by decide) (Or.inl (by decide)) G2
      have g8 := dg_ne (i := 4) (u := .int x2.1) (by decide) (Or.inr rfl) G3
      have g9 := dg_eq (lv) 4 (.int x2.1)
      refine dq_il 4 17 (by decide +kernel) rfl g9 ?_
      rcases di hh with ⟨q10, hh⟩ | ⟨q10, hh⟩
      · refine dq_1 .eq 7 true 24 q10 (by decide +kernel) ?_
        refine dq_S (.iconst 0) 1 [] 25 _ [.int 0] (by decide +kernel) rfl ?_
        exact c386_25 hD hz ih _ _ _ _ _ _ _ g6 g7 g9 hh
      · refine dq_1 .eq 7 false 20 q10 (by decide +kernel) ?_
        refine dq_S (.iconst 1) 1 [] 21 _ [.int 1] (by decide +kernel) rfl ?_
        refine dq_S (.goto 4) 3 [] 25 _ [.int 1] (by decide +kernel) rfl ?_
        exact c386_25 hD hz ih _ _ _ _ _ _ _ g6 g7 g9 hh
def b386_0 (L : Nat) (xs : Nat → Int32) (zf : Value) (D : dD) (w : Nat) (o0 : Option Nat) (i1 : Int32) (h : rm_H) : Option dR :=
  b386_4 L xs zf D w w o0 i1 1 h
theorem c386_0 {L : Nat} {xs : Nat → Int32} {zf : Value} {D : dD} {w k : Nat} (hD : dO L xs zf D k) (hz : zf.category = 1) : ∀ (o0 : Option Nat) (i1 : Int32) (lv : rm_L) (h : rm_H) (r : dR), rm_get lv 0 = some (va_rf o0) → rm_get lv 1 = some (.int i1) → b386_0 L xs zf D w  o0 i1 h = some r → dq L xs zf ah_M386 0 lv [] h (k + 1) r := by
  intro o0 i1 lv h r G0 G1 hh
  unfold b386_0 at hh
  refine dq_iln 1 1 (by decide +kernel) rfl G1 ?_
  refine dq_isn 2 2 (by decide +kernel) (by decide +kernel) ?_
  have g1 := dg_ne (i := 2) (u := .int i1) (by decide) (Or.inl (by decide)) G0
  have g2 := dg_ne (i := 2) (u := .int i1) (by decide) (Or.inr rfl) G1
  have g3 := dg_eq (lv) 2 (.int i1)
  refine dq_S (.iconst 1) 1 [] 3 _ [.int 1] (by decide +kernel) rfl ?_
  refine dq_isn 3 4 (by decide +kernel) (by decide +kernel) ?_
  have g4 := dg_ne (i := 3) (u := .int 1) (by decide) (Or.inl (by decide)) g1
  have g5 := dg_ne (i := 3) (u := .int 1) (by decide) (Or.inl (by decide)) g2
  have g6 := dg_ne (i := 3) (u := .int 1) (by decide) (Or.inr rfl) g3
  have g7 := dg_eq (rm_set1 (lv) 2 (.int i1)) 3 (.int 1)
  exact c386_4 hD hz _ _ _ _ _ _ _ g4 g6 g7 hh
def f386 (L : Nat) (xs : Nat → Int32) (zf : Value) (D : dD) (w : Nat) (As : List Value) (h : rm_H) : Option dR := match As with
  | [v0, .int i1] => (rm_rf v0).bind fun o0 => b386_0 L xs zf D w o0 i1 h
  | _ => none
theorem d386 {L : Nat} {xs : Nat → Int32} {zf : Value} {D : dD} {w k : Nat} (hD : dO L xs zf D k) (hz : zf.category = 1) (As : List Value) (h : rm_H) (r : dR) (hh : f386 L xs zf D w As h = some r) : dq L xs zf ah_M386 0 (lv_args 0 As) [] h (k + 1) r := by
  unfold f386 at hh
  split at hh
  · obtain ⟨o0, e0, hb0⟩ := db hh
    have e0 := rm_rf_v _ _ e0
    subst e0
    refine c386_0 hD hz _ _ _ _ _ ?_ ?_ hb0
    all_goals (simp only [la_r, la_i, la_j]; rfl)
  · cases hh
def b387_99 (L : Nat) (xs : Nat → Int32) (zf : Value) (D : dD) (w : Nat) (s0 : Int32) (h : rm_H) : Option dR :=
  drI (some .int) s0 h
theorem c387_99 {L : Nat} {xs : Nat → Int32} {zf : Value} {D : dD} {w k : Nat} (hD : dO L xs zf D k) (hz : zf.category = 1) : ∀ (s0 : Int32) (lv : rm_L) (h : rm_H) (r : dR), b387_99 L xs zf D w  s0 h = some r → dq L xs zf ah_M387 99 lv [.int s0] h (k + 1) r := by
  intro s0 lv h r hh
  unfold b387_99 at hh
  exact dq_retI (some .int) (by decide +kernel) rfl hh
def b387_0 (L : Nat) (xs : Nat → Int32) (zf : Value) (D : dD) (w : Nat) (o0 : Option Nat) (i1 : Int32) (h : rm_H) : Option dR :=
  (dgR L xs h 11 [15] o0).bind fun p1 =>
  (daI L xs h p1 i1).bind fun x3 =>
  if x3 = 7 then
    (dgR L xs h 13 [15] o0).bind fun p6 =>
    (daI L xs h p6 i1).bind fun x8 =>
    drI (some .int) x8 h
  else if x3 = 9 then
    (dgR L xs h 12 [15] o0).bind fun p11 =>
    (dgR L xs h 12 [15] o0).bind fun p13 =>
    (daI L xs h p13 i1).bind fun x15 =>
    (daI L xs h p11 x15).bind fun x17 =>
    drI (some .int) x17 h
  else if x3 = 11 then
    (dgR L xs h 12 [15] o0).bind fun p20 =>
    (daI L xs h p20 i1).bind fun x22 =>
    if mx_f1 .ne x22 = true then
      (dgR L xs h 12 [15] o0).bind fun p25 =>
      (daI L xs h p25 i1).bind fun x27 =>
      b387_99 L xs zf D w x27 h
    else
      (dgR L xs h 13 [15] o0).bind fun p29 =>
      (daI L xs h p29 i1).bind fun x31 =>
      b387_99 L xs zf D w x31 h
  else if x3 = 12 then
    (dgR L xs h 12 [15] o0).bind fun p34 =>
    (daI L xs h p34 i1).bind fun x36 =>
    if mx_f1 .ne x36 = true then
      (dgR L xs h 12 [15] o0).bind fun p39 =>
      (daI L xs h p39 i1).bind fun x41 =>
      b387_99 L xs zf D w x41 h
    else
      (dgR L xs h 13 [15] o0).bind fun p43 =>
      (daI L xs h p43 i1).bind fun x45 =>
      b387_99 L xs zf D w x45 h
  else if x3 = 26 then
    (dgR L xs h 13 [15] o0).bind fun p48 =>
    (daI L xs h p48 i1).bind fun x50 =>
    drI (some .int) x50 h
  else if Op.lookupswitch.offset (#[(7, 50), (9, 57), (11, 69), (12, 69), (26, 50)] : Array (Int × Int)).toList 94 (Int32.toInt x3) = 94 then
    (dgR L xs h 12 [15] o0).bind fun p53 =>
    (daI L xs h p53 i1).bind fun x55 =>
    drI (some .int) x55 h
  else none
theorem c387_0 {L : Nat} {xs : Nat → Int32} {zf : Value} {D : dD} {w k : Nat} (hD : dO L xs zf D k) (hz : zf.category = 1) : ∀ (o0 : Option Nat) (i1 : Int32) (lv : rm_L) (h : rm_H) (r : dR), rm_get lv 0 = some (va_rf o0) → rm_get lv 1 = some (.int i1) → b387_0 L xs zf D w  o0 i1 h = some r → dq L xs zf ah_M387 0 lv [] h (k + 1) r := by
  intro o0 i1 lv h r G0 G1 hh
  unfold b387_0 at hh
  refine dq_aln 0 1 (by decide +kernel) rfl G0 ?_
  obtain ⟨p1, q2, hh⟩ := db hh
  refine dq_gR 36 11 [15] 4 (by decide +kernel) rfl q2 ?_
  refine dq_iln 1 5 (by decide +kernel) rfl G1 ?_
  obtain ⟨x3, q4, hh⟩ := db hh
  refine dq_aI 6 (by decide +kernel) rfl q4 ?_
  rcases dp hh with ⟨q5, hh⟩ | ⟨_, hh⟩
  · refine dq_eq 7 q5 ?_
    refine dq_S (.lookupswitch 94 #[(7, 50), (9, 57), (11, 69), (12, 69), (26, 50)]) 50 [] 56 _ [] (by decide +kernel) rfl ?_
    refine dq_aln 0 57 (by decide +kernel) rfl G0 ?_
    obtain ⟨p6, q7, hh⟩ := db hh
    refine dq_gR 42 13 [15] 60 (by decide +kernel) rfl q7 ?_
    refine dq_iln 1 61 (by decide +kernel) rfl G1 ?_
    obtain ⟨x8, q9, hh⟩ := db hh
    refine dq_aI 62 (by decide +kernel) rfl q9 ?_
    exact dq_retI (some .int) (by decide +kernel) rfl hh
  rcases dp hh with ⟨q10, hh⟩ | ⟨_, hh⟩
  · refine dq_eq 9 q10 ?_
    refine dq_S (.lookupswitch 94 #[(7, 50), (9, 57), (11, 69), (12, 69), (26, 50)]) 50 [] 63 _ [] (by decide +kernel) rfl ?_
    refine dq_aln 0 64 (by decide +kernel) rfl G0 ?_
    obtain ⟨p11, q12, hh⟩ := db hh
    refine dq_gR 39 12 [15] 67 (by decide +kernel) rfl q12 ?_
    refine dq_aln 0 68 (by decide +kernel) rfl G0 ?_
    obtain ⟨p13, q14, hh⟩ := db hh
    refine dq_gR 39 12 [15] 71 (by decide +kernel) rfl q14 ?_
    refine dq_iln 1 72 (by decide +kernel) rfl G1 ?_
    obtain ⟨x15, q16, hh⟩ := db hh
    refine dq_aI 73 (by decide +kernel) rfl q16 ?_
    obtain ⟨x17, q18, hh⟩ := db hh
    refine dq_aI 74 (by decide +kernel) rfl q18 ?_
    exact dq_retI (some .int) (by decide +kernel) rfl hh
  rcases dp hh with ⟨q19, hh⟩ | ⟨_, hh⟩
  · refine dq_eq 11 q19 ?_
    refine dq_S (.lookupswitch 94 #[(7, 50), (9, 57), (11, 69), (12, 69), (26, 50)]) 50 [] 75 _ [] (by decide +kernel) rfl ?_
    refine dq_aln 0 76 (by decide +kernel) rfl G0 ?_
    obtain ⟨p20, q21, hh⟩ := db hh
    refine dq_gR 39 12 [15] 79 (by decide +kernel) rfl q21 ?_
    refine dq_iln 1 80 (by decide +kernel) rfl G1 ?_
    obtain ⟨x22, q23, hh⟩ := db hh
    refine dq_aI 81 (by decide +kernel) rfl q23 ?_
    rcases di hh with ⟨q24, hh⟩ | ⟨q24, hh⟩
    · refine dq_1 .ne 12 true 93 q24 (by decide +kernel) ?_
      refine dq_aln 0 94 (by decide +kernel) rfl G0 ?_
      obtain ⟨p25, q26, hh⟩ := db hh
      refine dq_gR 39 12 [15] 97 (by decide +kernel) rfl q26 ?_
      refine dq_iln 1 98 (by decide +kernel) rfl G1 ?_
      obtain ⟨x27, q28, hh⟩ := db hh
      refine dq_aI 99 (by decide +kernel) rfl q28 ?_
      exact c387_99 hD hz _ _ _ _  hh
    · refine dq_1 .ne 12 false 84 q24 (by decide +kernel) ?_
      refine dq_aln 0 85 (by decide +kernel) rfl G0 ?_
      obtain ⟨p29, q30, hh⟩ := db hh
      refine dq_gR 42 13 [15] 88 (by decide +kernel) rfl q30 ?_
      refine dq_iln 1 89 (by decide +kernel) rfl G1 ?_
      obtain ⟨x31, q32, hh⟩ := db hh
      refine dq_aI 90 (by decide +kernel) rfl q32 ?_
      refine dq_S (.goto 9) 3 [] 99 _ [.int x31] (by decide +kernel) rfl ?_
      exact c387_99 hD hz _ _ _ _  hh
  rcases dp hh with ⟨q33, hh⟩ | ⟨_, hh⟩
  · refine dq_eq 12 q33 ?_
    refine dq_S (.lookupswitch 94 #[(7, 50), (9, 57), (11, 69), (12, 69), (26, 50)]) 50 [] 75 _ [] (by decide +kernel) rfl ?_
    refine dq_aln 0 76 (by decide +kernel) rfl G0 ?_
    obtain ⟨p34, q35, hh⟩ := db hh
    refine dq_gR 39 12 [15] 79 (by decide +kernel) rfl q35 ?_
    refine dq_iln 1 80 (by decide +kernel) rfl G1 ?_
    obtain ⟨x36, q37, hh⟩ := db hh
    refine dq_aI 81 (by decide +kernel) rfl q37 ?_
    rcases di hh with ⟨q38, hh⟩ | ⟨q38, hh⟩
    · refine dq_1 .ne 12 true 93 q38 (by decide +kernel) ?_
      refine dq_aln 0 94 (by decide +kernel) rfl G0 ?_
      obtain ⟨p39, q40, hh⟩ := db hh
      refine dq_gR 39 12 [15] 97 (by decide +kernel) rfl q40 ?_
      refine dq_iln 1 98 (by decide +kernel) rfl G1 ?_
      obtain ⟨x41, q42, hh⟩ := db hh
      refine dq_aI 99 (by decide +kernel) rfl q42 ?_
      exact c387_99 hD hz _ _ _ _  hh
    · refine dq_1 .ne 12 false 84 q38 (by decide +kernel) ?_
      refine dq_aln 0 85 (by decide +kernel) rfl G0 ?_
      obtain ⟨p43, q44, hh⟩ := db hh
      refine dq_gR 42 13 [15] 88 (by decide +kernel) rfl q44 ?_
      refine dq_iln 1 89 (by decide +kernel) rfl G1 ?_
      obtain ⟨x45, q46, hh⟩ := db hh
      refine dq_aI 90 (by decide +kernel) rfl q46 ?_
      refine dq_S (.goto 9) 3 [] 99 _ [.int x45] (by decide +kernel) rfl ?_
      exact c387_99 hD hz _ _ _ _  hh
  rcases dp hh with ⟨q47, hh⟩ | ⟨_, hh⟩
  · refine dq_eq 26 q47 ?_
    refine dq_S (.lookupswitch 94 #[(7, 50), (9, 57), (11, 69), (12, 69), (26, 50)]) 50 [] 56 _ [] (by decide +kernel) rfl ?_
    refine dq_aln 0 57 (by decide +kernel) rfl G0 ?_
    obtain ⟨p48, q49, hh⟩ := db hh
    refine dq_gR 42 13 [15] 60 (by decide +kernel) rfl q49 ?_
    refine dq_iln 1 61 (by decide +kernel) rfl G1 ?_
    obtain ⟨x50, q51, hh⟩ := db hh
    refine dq_aI 62 (by decide +kernel) rfl q51 ?_
    exact dq_retI (some .int) (by decide +kernel) rfl hh
  rcases dp hh with ⟨q52, hh⟩ | ⟨_, hh⟩
  · refine dq_lkd 94 #[(7, 50), (9, 57), (11, 69), (12, 69), (26, 50)] 50 100 (by decide +kernel) (by decide +kernel) q52 ?_
    refine dq_aln 0 101 (by decide +kernel) rfl G0 ?_
    obtain ⟨p53, q54, hh⟩ := db hh
    refine dq_gR 39 12 [15] 104 (by decide +kernel) rfl q54 ?_
    refine dq_iln 1 105 (by decide +kernel) rfl G1 ?_
    obtain ⟨x55, q56, hh⟩ := db hh
    refine dq_aI 106 (by decide +kernel) rfl q56 ?_
    exact dq_retI (some .int) (by decide +kernel) rfl hh
  cases hh
def f387 (L : Nat) (xs : Nat → Int32) (zf : Value) (D : dD) (w : Nat) (As : List Value) (h : rm_H) : Option dR := match As with
  | [v0, .int i1] => (rm_rf v0).bind fun o0 => b387_0 L xs zf D w o0 i1 h
  | _ => none
theorem d387 {L : Nat} {xs : Nat → Int32} {zf : Value} {D : dD} {w k : Nat} (hD : dO L xs zf D k) (hz : zf.category = 1) (As : List Value) (h : rm_H) (r : dR) (hh : f387 L xs zf D w As h = some r) : dq L xs zf ah_M387 0 (lv_args 0 As) [] h (k + 1) r := by
  unfold f387 at hh
  split at hh
  · obtain ⟨o0, e0, hb0⟩ := db hh
    have e0 := rm_rf_v _ _ e0
    subst e0
    refine c387_0 hD hz _ _ _ _ _ ?_ ?_ hb0
    all_goals (simp only [la_r, la_i, la_j]; rfl)
  · cases hh
def b388_697 (L : Nat) (xs : Nat → Int32) (zf : Value) (D : dD) (w : Nat) (o0 : Option Nat) (i2 : Int32) (i4 : Int32) (h : rm_H) : Option dR :=
  (dgR L xs h 98 [15] o0).bind fun p1 =>
  ((dcV L xs D 393 [15] o0 [.int i4] h).bind dxI).bind fun x3 =>
  (dsI x3.2 p1 i2 x3.1).bind fun h7 =>
  drI (some .int) 0 h7
theorem c388_697 {L : Nat} {xs : Nat → Int32} {zf : Value} {D : dD} {w k : Nat} (hD : dO L xs zf D k) (hz : zf.category = 1) : ∀ (o0 : Option Nat) (i2 : Int32) (i4 : Int32) (lv : rm_L) (h : rm_H) (r : dR), rm_get lv 0 = some (va_rf o0) → rm_get lv 2 = some (.int i2) → rm_get lv 4 = some (.int i4) → b388_697 L xs zf D w  o0 i2 i4 h = some r → dq L xs zf ah_M388 697 lv [] h (k + 1) r := by
  intro o0 i2 i4 lv h r G0 G2 G4 hh
  unfold b388_697 at hh
  refine dq_aln 0 698 (by decide +kernel) rfl G0 ?_
  obtain ⟨p1, q2, hh⟩ := db hh
  refine dq_gR 206 98 [15] 701 (by decide +kernel) rfl q2 ?_
  refine dq_iln 2 702 (by decide +kernel) rfl G2 ?_
  refine dq_aln 0 703 (by decide +kernel) rfl G0 ?_
  refine dq_il 4 705 (by decide +kernel) rfl G4 ?_
  obtain ⟨x3, q4, hh⟩ := db hh
  obtain ⟨a5, q6, q4⟩ := db q4
  rw [dq_xI q4] at q6
  refine dq_cvi hD 644 393 5 1 [15] o0 [.int i4] [.int i2, va_rf p1] 708 [.int x3.1, .int i2, va_rf p1] (by decide +kernel) ap_393 ⟨⟨Nat.le_of_ble_eq_true rfl, by decide⟩, rfl, rfl⟩ (dq_ok8 [1, 1] [1, 1] (dc_r (dc_i dc_n)) (dc_i (dc_r dc_n)) (by decide +kernel)) (by decide +kernel) rfl q6 rfl ?_
  obtain ⟨h7, q8, hh⟩ := db hh
  refine dq_sI 709 (by decide +kernel) rfl q8 ?_
  refine dq_S (.iconst 0) 1 [] 710 _ [.int 0] (by decide +kernel) rfl ?_
  exact dq_retI (some .int) (by decide +kernel) rfl hh
def b388_231 (L : Nat) (xs : Nat → Int32) (zf : Value) (D : dD) (w : Nat) (o0 : Option Nat) (i2 : Int32) (i4 : Int32) (s0 : Int32) (s1 : Int32) (s2 : Int32) (s3 : Option Nat) (h : rm_H) : Option dR :=
  ((D 376 [.int s1, .int s0] h).bind dxJ).bind fun y1 =>
  ((dcV L xs D 389 [15] s3 [.int s2, .long y1.1] y1.2).bind dxV).bind fun h5 =>
  b388_697 L xs zf D w o0 i2 i4 h5
theorem c388_231 {L : Nat} {xs : Nat → Int32} {zf : Value} {D : dD} {w k : Nat} (hD : dO L xs zf D k) (hz : zf.category = 1) : ∀ (o0 : Option Nat) (i2 : Int32) (i4 : Int32) (s0 : Int32) (s1 : Int32) (s2 : Int32) (s3 : Option Nat) (lv : rm_L) (h : rm_H) (r : dR), rm_get lv 0 = some (va_rf o0) → rm_get lv 2 = some (.int i2) → rm_get lv 4 = some (.int i4) → b388_231 L xs zf D w  o0 i2 i4 s0 s1 s2 s3 h = some r → dq L xs zf ah_M388 231 lv [.int s0, .int s1, .int s2, va_rf s3] h (k + 1) r := by
  intro o0 i2 i4 s0 s1 s2 s3 lv h r G0 G2 G4 hh
  unfold b388_231 at hh
  obtain ⟨y1, q2, hh⟩ := db hh
  obtain ⟨a3, q4, q2⟩ := db q2
  rw [dq_xJ q2] at q4
  refine dq_cst hD 595 376 0 2 [.int s1, .int s0] [.int s2, va_rf s3] 234 [.long y1.1, .int s2, va_rf s3] (by decide +kernel) ap_376 ⟨⟨Nat.le_of_ble_eq_true rfl, by decide⟩, rfl, rfl⟩ (dq_ok8 [1, 1] [1, 1] (dc_i (dc_i dc_n)) (dc_i (dc_r dc_n)) (by decide +kernel)) (by decide +kernel) rfl q4 rfl ?_
  obtain ⟨h5, q6, hh⟩ := db hh
  obtain ⟨a7, q8, q6⟩ := db q6
  rw [dq_xV q6] at q8
  refine dq_cvi hD 659 389 5 2 [15] s3 [.int s2, .long y1.1] [] 237 [] (by decide +kernel) ap_389 ⟨⟨Nat.le_of_ble_eq_true rfl, by decide⟩, rfl, rfl⟩ (dq_ok8 [1, 1, 2] [] (dc_r (dc_i (dc_j dc_n))) dc_n (by decide +kernel)) (by decide +kernel) rfl q8 rfl ?_
  refine dq_S (.goto 460) 3 [] 697 _ [] (by decide +kernel) rfl ?_
  exact c388_697 hD hz _ _ _ _ _ _ G0 G2 G4 hh
def b388_383 (L : Nat) (xs : Nat → Int32) (zf : Value) (D : dD) (w : Nat) (o0 : Option Nat) (i2 : Int32) (i4 : Int32) (s0 : Int32) (s1 : Int32) (s2 : Int32) (s3 : Option Nat) (h : rm_H) : Option dR :=
  ((D 376 [.int s1, .int s0] h).bind dxJ).bind fun y1 =>
  ((dcV L xs D 389 [15] s3 [.int s2, .long y1.1] y1.2).bind dxV).bind fun h5 =>
  b388_697 L xs zf D w o0 i2 i4 h5
theorem c388_383 {L : Nat} {xs : Nat → Int32} {zf : Value} {D : dD} {w k : Nat} (hD : dO L xs zf D k) (hz : zf.category = 1) : ∀ (o0 : Option Nat) (i2 : Int32) (i4 : Int32) (s0 : Int32) (s1 : Int32) (s2 : Int32) (s3 : Option Nat) (lv : rm_L) (h : rm_H) (r : dR), rm_get lv 0 = some (va_rf o0) → rm_get lv 2 = some (.int i2) → rm_get lv 4 = some (.int i4) → b388_383 L xs zf D w  o0 i2 i4 s0 s1 s2 s3 h = some r → dq L xs zf ah_M388 383 lv [.int s0, .int s1, .int s2, va_rf s3] h (k + 1) r := by
  intro o0 i2 i4 s0 s1 s2 s3 lv h r G0 G2 G4 hh
  unfold b388_383 at hh
  obtain ⟨y1, q2, hh⟩ := db hh
  obtain ⟨a3, q4, q2⟩ := db q2
  rw [dq_xJ q2] at q4
  refine dq_cst hD 595 376 0 2 [.int s1, .int s0] [.int s2, va_rf s3] 386 [.long y1.1, .int s2, va_rf s3] (by decide +kernel) ap_376 ⟨⟨Nat.le_of_ble_eq_true rfl, by decide⟩, rfl, rfl⟩ (dq_ok8 [1, 1] [1, 1] (dc_i (dc_i dc_n)) (dc_i (dc_r dc_n)) (by decide +kernel)) (by decide +kernel) rfl q4 rfl ?_
  obtain ⟨h5, q6, hh⟩ := db hh
  obtain ⟨a7, q8, q6⟩ := db q6
  rw [dq_xV q6] at q8
  refine dq_cvi hD 659 389 5 2 [15] s3 [.int s2, .long y1.1] [] 389 [] (by decide +kernel) ap_389 ⟨⟨Nat.le_of_ble_eq_true rfl, by decide⟩, rfl, rfl⟩ (dq_ok8 [1, 1, 2] [] (dc_r (dc_i (dc_j dc_n))) dc_n (by decide +kernel)) (by decide +kernel) rfl q8 rfl ?_
  refine dq_S (.goto 308) 3 [] 697 _ [] (by decide +kernel) rfl ?_
  exact c388_697 hD hz _ _ _ _ _ _ G0 G2 G4 hh
def b388_487 (L : Nat) (xs : Nat → Int32) (zf : Value) (D : dD) (w : Nat) (o0 : Option Nat) (i2 : Int32) (i4 : Int32) (h : rm_H) : Option dR :=
  (dgI L xs h 81 [15] o0).bind fun x1 =>
  (dpF h 81 [15] o0 (.int (x1 + 1))).bind fun h3 =>
  b388_697 L xs zf D w o0 i2 i4 h3
theorem c388_487 {L : Nat} {xs : Nat → Int32} {zf : Value} {D : dD} {w k : Nat} (hD : dO L xs zf D k) (hz : zf.category = 1) : ∀ (o0 : Option Nat) (i2 : Int32) (i4 : Int32) (lv : rm_L) (h : rm_H) (r : dR), rm_get lv 0 = some (va_rf o0) → rm_get lv 2 = some (.int i2) → rm_get lv 4 = some (.int i4) → b388_487 L xs zf D w  o0 i2 i4 h = some r → dq L xs zf ah_M388 487 lv [] h (k + 1) r := by
  intro o0 i2 i4 lv h r G0 G2 G4 hh
  unfold b388_487 at hh
  refine dq_aln 0 488 (by decide +kernel) rfl G0 ?_
  refine dq_dup 489 (by decide +kernel) rfl ?_
  obtain ⟨x1, q2, hh⟩ := db hh
  refine dq_gI 681 81 [15] 492 (by decide +kernel) rfl q2 ?_
  refine dq_S (.iconst 1) 1 [] 493 _ [.int 1, .int x1, va_rf o0] (by decide +kernel) rfl ?_
  refine dq_S (.iadd) 1 [] 494 _ [.int (x1 + 1), va_rf o0] (by decide +kernel) rfl ?_
  obtain ⟨h3, q4, hh⟩ := db hh
  refine dq_put 681 81 [15] 497 (by decide +kernel) rfl q4 ?_
  refine dq_S (.goto 200) 3 [] 697 _ [] (by decide +kernel) rfl ?_
  exact c388_697 hD hz _ _ _ _ _ _ G0 G2 G4 hh
def b388_556 (L : Nat) (xs : Nat → Int32) (zf : Value) (D : dD) (w : Nat) (s0 : Int32) (s1 : Option Nat) (s2 : Int32) (s3 : Option Nat) (h : rm_H) : Option dR :=
  ((dcV L xs D 401 [15] s1 [.int s0] h).bind dxI).bind fun x1 =>
  (dsI x1.2 s3 s2 x1.1).bind fun h5 =>
  drI (some .int) 0 h5
theorem c388_556 {L : Nat} {xs : Nat → Int32} {zf : Value} {D : dD} {w k : Nat} (hD : dO L xs zf D k) (hz : zf.category = 1) : ∀ (s0 : Int32) (s1 : Option Nat) (s2 : Int32) (s3 : Option Nat) (lv : rm_L) (h : rm_H) (r : dR), b388_556 L xs zf D w  s0 s1 s2 s3 h = some r → dq L xs zf ah_M388 556 lv [.int s0, va_rf s1, .int s2, va_rf s3] h (k + 1) r := by
  intro s0 s1 s2 s3 lv h r hh
  unfold b388_556 at hh
  obtain ⟨x1, q2, hh⟩ := db hh
  obtain ⟨a3, q4, q2⟩ := db q2
  rw [dq_xI q2] at q4
  refine dq_cvi hD 684 401 5 1 [15] s1 [.int s0] [.int s2, va_rf s3] 559 [.int x1.1, .int s2, va_rf s3] (by decide +kernel) ap_401 ⟨⟨Nat.le_of_ble_eq_true rfl, by decide⟩, rfl, rfl⟩ (dq_ok8 [1, 1] [1, 1] (dc_r (dc_i dc_n)) (dc_i (dc_r dc_n)) (by decide +kernel)) (by decide +kernel) rfl q4 rfl ?_
  obtain ⟨h5, q6, hh⟩ := db hh
  refine dq_sI 560 (by decide +kernel) rfl q6 ?_
  refine dq_S (.iconst 0) 1 [] 561 _ [.int 0] (by decide +kernel) rfl ?_
  exact dq_retI (some .int) (by decide +kernel) rfl hh
def b388_530 (L : Nat) (xs : Nat → Int32) (zf : Value) (D : dD) (w : Nat) (o0 : Option Nat) (i2 : Int32) (i3 : Int32) (i5 : Int32) (h : rm_H) : Option dR :=
  (dgR L xs h 98 [15] o0).bind fun p1 =>
  if mx_f1 .eq i5 = true then
    (dgR L xs h 14 [15] o0).bind fun p4 =>
    (daI L xs h p4 i3).bind fun x6 =>
    b388_556 L xs zf D w x6 o0 i2 p1 h
  else
    (dgR L xs h 13 [15] o0).bind fun p8 =>
    (daI L xs h p8 i3).bind fun x10 =>
    b388_556 L xs zf D w x10 o0 i2 p1 h
theorem c388_530 {L : Nat} {xs : Nat → Int32} {zf : Value} {D : dD} {w k : Nat} (hD : dO L xs zf D k) (hz : zf.category = 1) : ∀ (o0 : Option Nat) (i2 : Int32) (i3 : Int32) (i5 : Int32) (lv : rm_L) (h : rm_H) (r : dR), rm_get lv 0 = some (va_rf o0) → rm_get lv 2 = some (.int i2) → rm_get lv 3 = some (.int i3) → rm_get lv 5 = some (.int i5) → b388_530 L xs zf D w  o0 i2 i3 i5 h = some r → dq L xs zf ah_M388 530 lv [] h (k + 1) r := by
  intro o0 i2 i3 i5 lv h r G0 G2 G3 G5 hh
  unfold b388_530 at hh
  refine dq_aln 0 531 (by decide +kernel) rfl G0 ?_
  obtain ⟨p1, q2, hh⟩ := db hh
  refine dq_gR 206 98 [15] 534 (by decide +kernel) rfl q2 ?_
  refine dq_iln 2 535 (by decide +kernel) rfl G2 ?_
  refine dq_aln 0 536 (by decide +kernel) rfl G0 ?_
  refine dq_il 5 538 (by decide +kernel) rfl G5 ?_
  rcases di hh with ⟨q3, hh⟩ | ⟨q3, hh⟩
  · refine dq_1 .eq 12 true 550 q3 (by decide +kernel) ?_
    refine dq_aln 0 551 (by decide +kernel) rfl G0 ?_
    obtain ⟨p4, q5, hh⟩ := db hh
    refine dq_gR 45 14 [15] 554 (by decide +kernel) rfl q5 ?_
    refine dq_iln 3 555 (by decide +kernel) rfl G3 ?_
    obtain ⟨x6, q7, hh⟩ := db hh
    refine dq_aI 556 (by decide +kernel) rfl q7 ?_
    exact c388_556 hD hz _ _ _ _ _ _ _  hh
  · refine dq_1 .eq 12 false 541 q3 (by decide +kernel) ?_
    refine dq_aln 0 542 (by decide +kernel) rfl G0 ?_
    obtain ⟨p8, q9, hh⟩ := db hh
    refine dq_gR 42 13 [15] 545 (by decide +kernel) rfl q9 ?_
    refine dq_iln 3 546 (by decide +kernel) rfl G3 ?_
    obtain ⟨x10, q11, hh⟩ := db hh
    refine dq_aI 547 (by decide +kernel) rfl q11 ?_
    refine dq_S (.goto 9) 3 [] 556 _ [.int x10, va_rf o0, .int i2, va_rf p1] (by decide +kernel) rfl ?_
    exact c388_556 hD hz _ _ _ _ _ _ _  hh
def b388_514 (L : Nat) (xs : Nat → Int32) (zf : Value) (D : dD) (w : Nat) (o0 : Option Nat) (i2 : Int32) (i3 : Int32) (i4 : Int32) (s0 : Int32) (h : rm_H) : Option dR :=
  if mx_f1 .ne s0 = true then
    b388_530 L xs zf D w o0 i2 i3 s0 h
  else
    (dgR L xs h 14 [15] o0).bind fun p7 =>
    (daI L xs h p7 i3).bind fun x9 =>
    if mx_f1 .eq x9 = true then
      b388_697 L xs zf D w o0 i2 i4 h
    else
      b388_530 L xs zf D w o0 i2 i3 s0 h
theorem c388_514 {L : Nat} {xs : Nat → Int32} {zf : Value} {D : dD} {w k : Nat} (hD : dO L xs zf D k) (hz : zf.category = 1) : ∀ (o0 : Option Nat) (i2 : Int32) (i3 : Int32) (i4 : Int32) (s0 : Int32) (lv : rm_L) (h : rm_H) (r : dR), rm_get lv 0 = some (va_rf o0) → rm_get lv 2 = some (.int i2) → rm_get lv 3 = some (.int i3) → rm_get lv 4 = some (.int i4) → b388_514 L xs zf D w  o0 i2 i3 i4 s0 h = some r → dq L xs zf ah_M388 514 lv [.int s0] h (k + 1) r := by
  intro o0 i2 i3 i4 s0 lv h r G0 G2 G3 G4 hh
  unfold b388_514 at hh
  refine dq_is 5 516 (by decide +kernel) (by decide +kernel) ?_
  have g1 := dg_ne (i := 5) (u := .int s0) (by decide) (Or.inl (by decide)) G0
  have g2 := dg_ne (i := 5) (u := .int s0) (by decide) (Or.inl (by decide)) G2
  have g3 := dg_ne (i := 5) (u := .int s0) (by decide) (Or.inl (by decide)) G3
  have g4 := dg_ne (i := 5) (u := .int s0) (by decide) (Or.inr rfl) G4
  have g5 := dg_eq (lv) 5 (.int s0)
  refine dq_il 5 518 (by decide +kernel) rfl g5 ?_
  rcases di hh with ⟨q6, hh⟩ | ⟨q6, hh⟩
  · refine dq_1 .ne 12 true 530 q6 (by decide +kernel) ?_
    exact c388_530 hD hz _ _ _ _ _ _ _ g1 g2 g3 g5 hh
  · refine dq_1 .ne 12 false 521 q6 (by decide +kernel) ?_
    refine dq_aln 0 522 (by decide +kernel) rfl g1 ?_
    obtain ⟨p7, q8, hh⟩ := db hh
    refine dq_gR 45 14 [15] 525 (by decide +kernel) rfl q8 ?_
    refine dq_iln 3 526 (by decide +kernel) rfl g3 ?_
    obtain ⟨x9, q10, hh⟩ := db hh
    refine dq_aI 527 (by decide +kernel) rfl q10 ?_
    rcases di hh with ⟨q11, hh⟩ | ⟨q11, hh⟩
    · refine dq_1 .eq 170 true 697 q11 (by decide +kernel) ?_
      exact c388_697 hD hz _ _ _ _ _ _ g1 g2 g4 hh
    · refine dq_1 .eq 170 false 530 q11 (by decide +kernel) ?_
      exact c388_530 hD hz _ _ _ _ _ _ _ g1 g2 g3 g5 hh
def b388_638 (L : Nat) (xs : Nat → Int32) (zf : Value) (D : dD) (w : Nat) (h : rm_H) : Option dR :=
  drI (some .int) 0 h
theorem c388_638 {L : Nat} {xs : Nat → Int32} {zf : Value} {D : dD} {w k : Nat} (hD : dO L xs zf D k) (hz : zf.category = 1) : ∀ (lv : rm_L) (h : rm_H) (r : dR), b388_638 L xs zf D w  h = some r → dq L xs zf ah_M388 638 lv [] h (k + 1) r := by
  intro lv h r hh
  unfold b388_638 at hh
  refine dq_S (.iconst 0) 1 [] 639 _ [.int 0] (by decide +kernel) rfl ?_
  exact dq_retI (some .int) (by decide +kernel) rfl hh
def b388_688 (L : Nat) (xs : Nat → Int32) (zf : Value) (D : dD) (w : Nat) (h : rm_H) : Option dR :=
  drI (some .int) 0 h
theorem c388_688 {L : Nat} {xs : Nat → Int32} {zf : Value} {D : dD} {w k : Nat} (hD : dO L xs zf D k) (hz : zf.category = 1) : ∀ (lv : rm_L) (h : rm_H) (r : dR), b388_688 L xs zf D w  h = some r → dq L xs zf ah_M388 688 lv [] h (k + 1) r := by
  intro lv h r hh
  unfold b388_688 at hh
  refine dq_S (.iconst 0) 1 [] 689 _ [.int 0] (by decide +kernel) rfl ?_
  exact dq_retI (some .int) (by decide +kernel) rfl hh
def b388_685 (L : Nat) (xs : Nat → Int32) (zf : Value) (D : dD) (w : Nat) (s0 : Int64) (s1 : Int32) (s2 : Option Nat) (h : rm_H) : Option dR :=
  ((dcV L xs D 389 [15] s2 [.int s1, .long s0] h).bind dxV).bind fun h1 =>
  b388_688 L xs zf D w h1
theorem c388_685 {L : Nat} {xs : Nat → Int32} {zf : Value} {D : dD} {w k : Nat} (hD : dO L xs zf D k) (hz : zf.category = 1) : ∀ (s0 : Int64) (s1 : Int32) (s2 : Option Nat) (lv : rm_L) (h : rm_H) (r : dR), b388_685 L xs zf D w  s0 s1 s2 h = some r → dq L xs zf ah_M388 685 lv [.long s0, .int s1, va_rf s2] h (k + 1) r := by
  intro s0 s1 s2 lv h r hh
  unfold b388_685 at hh
  obtain ⟨h1, q2, hh⟩ := db hh
  obtain ⟨a3, q4, q2⟩ := db q2
  rw [dq_xV q2] at q4
  refine dq_cvi hD 659 389 5 2 [15] s2 [.int s1, .long s0] [] 688 [] (by decide +kernel) ap_389 ⟨⟨Nat.le_of_ble_eq_true rfl, by decide⟩, rfl, rfl⟩ (dq_ok8 [1, 1, 2] [] (dc_r (dc_i (dc_j dc_n))) dc_n (by decide +kernel)) (by decide +kernel) rfl q4 rfl ?_
  exact c388_688 hD hz  _ _ _  hh
def b388_0 (L : Nat) (xs : Nat → Int32) (zf : Value) (D : dD) (w : Nat) (o0 : Option Nat) (i1 : Int32) (i2 : Int32) (i3 : Int32) (h : rm_H) : Option dR :=
  (dgR L xs h 11 [15] o0).bind fun p6 =>
  (daI L xs h p6 i3).bind fun x8 =>
  if dsw 1 31 x8 = true then
    ((dcV L xs D 390 [15] o0 [.int i1] h).bind dxJ).bind fun y11 =>
    b388_697 L xs zf D w o0 i2 i3 y11.2
  else if x8 = 1 then
    (dgR L xs h 21 [15] o0).bind fun p22 =>
    (daI L xs h p22 i3).bind fun x24 =>
    ((D 376 [.int 1, .int x24] h).bind dxJ).bind fun y26 =>
    ((dcV L xs D 389 [15] o0 [.int i1, .long y26.1] y26.2).bind dxV).bind fun h30 =>
    b388_697 L xs zf D w o0 i2 i3 h30
  else if x8 = 2 then
    ((dcV L xs D 389 [15] o0 [.int i1, .long 0] h).bind dxV).bind fun h35 =>
    b388_697 L xs zf D w o0 i2 i3 h35
  else if x8 = 3 then
    (dgR L xs h 99 [15] o0).bind fun p40 =>
    (daJ L xs h p40 i2).bind fun y42 =>
    ((dcV L xs D 389 [15] o0 [.int i1, .long y42] h).bind dxV).bind fun h44 =>
    b388_697 L xs zf D w o0 i2 i3 h44
  else if x8 = 4 then
    (dgR L xs h 100 [15] o0).bind fun p49 =>
    (dgR L xs h 20 [15] o0).bind fun p51 =>
    (daI L xs h p51 i3).bind fun x53 =>
    (daJ L xs h p49 ((16 * i2) + x53)).bind fun y55 =>
    ((dcV L xs D 389 [15] o0 [.int i1, .long y55] h).bind dxV).bind fun h57 =>
    b388_697 L xs zf D w o0 i2 i3 h57
  else if x8 = 5 then
    (dgR L xs h 100 [15] o0).bind fun p62 =>
    (dgR L xs h 20 [15] o0).bind fun p64 =>
    (daI L xs h p64 i3).bind fun x66 =>
    (daJ L xs h p62 ((16 * i2) + x66)).bind fun y68 =>
    ((dcV L xs D 389 [15] o0 [.int i1, .long y68] h).bind dxV).bind fun h70 =>
    b388_697 L xs zf D w o0 i2 i3 h70
  else if x8 = 6 then
    ((dcV L xs D 390 [15] o0 [.int i1] h).bind dxJ).bind fun y75 =>
    if mx_f1 .ne (lg_cmp y75.1 0) = true then
      b388_231 L xs zf D w o0 i2 i3 1 1 i1 o0 y75.2
    else
      b388_231 L xs zf D w o0 i2 i3 0 1 i1 o0 y75.2
  else if x8 = 7 then
    ((dcV L xs D 400 [15] o0 [.int i1, .int i2, .int i3] h).bind dxI).bind fun x81 =>
    drI (some .int) x81.1 x81.2
  else if x8 = 8 then
    ((dcV L xs D 397 [15] o0 [.int i1, .int i2, .int i3] h).bind dxI).bind fun x86 =>
    drI (some .int) x86.1 x86.2
  else if x8 = 9 then
    ((dcV L xs D 390 [15] o0 [.int i1] h).bind dxJ).bind fun y91 =>
    b388_697 L xs zf D w o0 i2 i3 y91.2
  else if x8 = 10 then
    ((dcV L xs D 390 [15] o0 [.int i1] h).bind dxJ).bind fun y102 =>
    if mx_f1 .ne (lg_cmp y102.1 0) = true then
      (dgR L xs y102.2 20 [15] o0).bind fun p113 =>
      (daI L xs y102.2 p113 i3).bind fun x115 =>
      ((dcV L xs D 391 [15] o0 [.int i1, .long y102.1, .int x115] y102.2).bind dxJ).bind fun y117 =>
      ((dcV L xs D 389 [15] o0 [.int i1, .long y117.1] y117.2).bind dxV).bind fun h121 =>
      b388_697 L xs zf D w o0 i2 i3 h121
    else
      drI (some .int) 1 y102.2
  else if x8 = 11 then
    ((dcV L xs D 392 [15] o0 [.int i1, .int i2, .int i3] h).bind dxI).bind fun x126 =>
    drI (some .int) x126.1 x126.2
  else if x8 = 12 then
    ((dcV L xs D 399 [15] o0 [.int i1, .int i2, .int i3] h).bind dxI).bind fun x131 =>
    drI (some .int) x131.1 x131.2
  else if x8 = 13 then
    ((dcV L xs D 390 [15] o0 [.int i1] h).bind dxJ).bind fun y136 =>
    ((dcV L xs D 390 [15] o0 [.int i1] y136.2).bind dxJ).bind fun y146 =>
    (dgR L xs y146.2 21 [15] o0).bind fun p157 =>
    (daI L xs y146.2 p157 i3).bind fun x159 =>
    if mx_f2 .ne x159 43 = true then
      if mx_f2 .ne x159 45 = true then
        if mx_f2 .ne x159 42 = true then
          if mx_f2 .ne x159 60 = true then
            if mx_f2 .ne (Int64.toInt32 y146.1) (Int64.toInt32 y136.1) = true then
              b388_383 L xs zf D w o0 i2 i3 0 1 i1 o0 y146.2
            else
              b388_383 L xs zf D w o0 i2 i3 1 1 i1 o0 y146.2
          else
            if mx_f2 .ge (Int64.toInt32 y146.1) (Int64.toInt32 y136.1) = true then
              b388_383 L xs zf D w o0 i2 i3 0 1 i1 o0 y146.2
            else
              b388_383 L xs zf D w o0 i2 i3 1 1 i1 o0 y146.2
        else
          b388_383 L xs zf D w o0 i2 i3 ((Int64.toInt32 y146.1) * (Int64.toInt32 y136.1)) 1 i1 o0 y146.2
      else
        b388_383 L xs zf D w o0 i2 i3 ((Int64.toInt32 y146.1) - (Int64.toInt32 y136.1)) 1 i1 o0 y146.2
    else
      b388_383 L xs zf D w o0 i2 i3 ((Int64.toInt32 y146.1) + (Int64.toInt32 y136.1)) 1 i1 o0 y146.2
  else if x8 = 14 then
    ((dcV L xs D 390 [15] o0 [.int i1] h).bind dxJ).bind fun y176 =>
    b388_697 L xs zf D w o0 i2 i3 y176.2
  else if x8 = 15 then
    ((dcV L xs D 390 [15] o0 [.int i1] h).bind dxJ).bind fun y187 =>
    b388_697 L xs zf D w o0 i2 i3 y187.2
  else if x8 = 16 then
    ((dcV L xs D 390 [15] o0 [.int i1] h).bind dxJ).bind fun y198 =>
    b388_697 L xs zf D w o0 i2 i3 y198.2
  else if x8 = 17 then
    ((dcV L xs D 390 [15] o0 [.int i1] h).bind dxJ).bind fun y209 =>
    b388_697 L xs zf D w o0 i2 i3 y209.2
  else if x8 = 18 then
    ((dcV L xs D 390 [15] o0 [.int i1] h).bind dxJ).bind fun y220 =>
    b388_697 L xs zf D w o0 i2 i3 y220.2
  else if x8 = 19 then
    ((dcV L xs D 390 [15] o0 [.int i1] h).bind dxJ).bind fun y231 =>
    b388_697 L xs zf D w o0 i2 i3 y231.2
  else if x8 = 20 then
    (dgR L xs h 100 [15] o0).bind fun p242 =>
    (dgR L xs h 20 [15] o0).bind fun p244 =>
    (daI L xs h p244 i3).bind fun x246 =>
    ((dcV L xs D 390 [15] o0 [.int i1] h).bind dxJ).bind fun y248 =>
    (dsJ y248.2 p242 ((16 * i2) + x246) y248.1).bind fun h252 =>
    b388_697 L xs zf D w o0 i2 i3 h252
  else if x8 = 21 then
    ((dcV L xs D 390 [15] o0 [.int i1] h).bind dxJ).bind fun y255 =>
    if mx_f1 .eq (Int64.toInt32 y255.1) = true then
      b388_514 L xs zf D w o0 i2 i3 i3 0 y255.2
    else
      b388_514 L xs zf D w o0 i2 i3 i3 1 y255.2
  else if x8 = 22 then
    ((dcV L xs D 390 [15] o0 [.int i1] h).bind dxJ).bind fun y261 =>
    if mx_f1 .eq (Int64.toInt32 y261.1) = true then
      b388_697 L xs zf D w o0 i2 i3 y261.2
    else
      (dgR L xs y261.2 98 [15] o0).bind fun p266 =>
      (dgR L xs y261.2 13 [15] o0).bind fun p268 =>
      (daI L xs y261.2 p268 i3).bind fun x270 =>
      ((dcV L xs D 401 [15] o0 [.int x270] y261.2).bind dxI).bind fun x272 =>
      (dsI x272.2 p266 i2 x272.1).bind fun h276 =>
      drI (some .int) 0 h276
  else if x8 = 23 then
    ((dcV L xs D 390 [15] o0 [.int i1] h).bind dxJ).bind fun y279 =>
    (dgI L xs y279.2 81 [15] o0).bind fun x289 =>
    if mx_f2 .ge x289 200 = true then
      b388_487 L xs zf D w o0 i2 i3 y279.2
    else
      (dgR L xs y279.2 107 [15] o0).bind fun p292 =>
      (dgI L xs y279.2 81 [15] o0).bind fun x294 =>
      (dsI y279.2 p292 x294 (Int64.toInt32 y279.1)).bind fun h296 =>
      (dgR L xs h296 108 [15] o0).bind fun p298 =>
      (dgI L xs h296 81 [15] o0).bind fun x300 =>
      (dsI h296 p298 x300 i1).bind fun h302 =>
      b388_487 L xs zf D w o0 i2 i3 h302
  else if x8 = 24 then
    ((dcV L xs D 390 [15] o0 [.int i1] h).bind dxJ).bind fun y305 =>
    (dgR L xs y305.2 91 [15] o0).bind fun p315 =>
    (daI L xs y305.2 p315 i1).bind fun x317 =>
    (dsI y305.2 p315 i1 (x317 - 1)).bind fun h319 =>
    (dgR L xs h319 91 [15] o0).bind fun p321 =>
    (daI L xs h319 p321 i1).bind fun x323 =>
    if mx_f1 .le x323 = true then
      b388_638 L xs zf D w h319
    else
      ((dcV L xs D 389 [15] o0 [.int i1, .long y305.1] h319).bind dxV).bind fun h326 =>
      b388_638 L xs zf D w h326
  else if x8 = 25 then
    (dgR L xs h 16 [15] o0).bind fun p331 =>
    (dgR L xs h 16 [15] o0).bind fun p333 =>
    (daI L xs h p333 i3).bind fun x335 =>
    (daI L xs h p331 x335).bind fun x337 =>
    b388_697 L xs zf D w o0 i2 x337 h
  else if x8 = 26 then
    ((dcV L xs D 400 [15] o0 [.int i1, .int i2, .int i3] h).bind dxI).bind fun x345 =>
    drI (some .int) x345.1 x345.2
  else if x8 = 27 then
    ((dcV L xs D 390 [15] o0 [.int i1] h).bind dxJ).bind fun y350 =>
    b388_697 L xs zf D w o0 i2 i3 y350.2
  else if x8 = 28 then
    ((dcV L xs D 390 [15] o0 [.int i1] h).bind dxJ).bind fun y361 =>
    b388_697 L xs zf D w o0 i2 i3 y361.2
  else if x8 = 29 then
    ((dcV L xs D 390 [15] o0 [.int i1] h).bind dxJ).bind fun y372 =>
    b388_697 L xs zf D w o0 i2 i3 y372.2
  else if x8 = 30 then
    ((dcV L xs D 390 [15] o0 [.int i1] h).bind dxJ).bind fun y383 =>
    b388_697 L xs zf D w o0 i2 i3 y383.2
  else if x8 = 31 then
    (dgR L xs h 91 [15] o0).bind fun p394 =>
    (daI L xs h p394 i1).bind fun x396 =>
    (dsI h p394 i1 (x396 - 1)).bind fun h398 =>
    (dgR L xs h398 91 [15] o0).bind fun p400 =>
    (daI L xs h398 p400 i1).bind fun x402 =>
    if mx_f1 .le x402 = true then
      b388_688 L xs zf D w h398
    else
      (dgR L xs h398 43 [15] o0).bind fun p405 =>
      (dgR L xs h398 21 [15] o0).bind fun p407 =>
      (daI L xs h398 p407 i3).bind fun x409 =>
      (daI L xs h398 p405 x409).bind fun x411 =>
      if mx_f1 .ne x411 = true then
        b388_685 L xs zf D w 0 i1 o0 h398
      else
        (dgR L xs h398 99 [15] o0).bind fun p414 =>
        (daJ L xs h398 p414 i2).bind fun y416 =>
        b388_685 L xs zf D w y416 i1 o0 h398
  else none
theorem c388_0 {L : Nat} {xs : Nat → Int32} {zf : Value} {D : dD} {w k : Nat} (hD : dO L xs zf D k) (hz : zf.category = 1) : ∀ (o0 : Option Nat) (i1 : Int32) (i2 : Int32) (i3 : Int32) (lv : rm_L) (h : rm_H) (r : dR), rm_get lv 0 = some (va_rf o0) → rm_get lv 1 = some (.int i1) → rm_get lv 2 = some (.int i2) → rm_get lv 3 = some (.int i3) → b388_0 L xs zf D w  o0 i1 i2 i3 h = some r → dq L xs zf ah_M388 0 lv [] h (k + 1) r := by
  intro o0 i1 i2 i3 lv h r G0 G1 G2 G3 hh
  unfold b388_0 at hh
  refine dq_iln 3 1 (by decide +kernel) rfl G3 ?_
  refine dq_is 4 3 (by decide +kernel) (by decide +kernel) ?_
  have g1 := dg_ne (i := 4) (u := .int i3) (by decide) (Or.inl (by decide)) G0
  have g2 := dg_ne (i := 4) (u := .int i3) (by decide) (Or.inl (by decide)) G1
  have g3 := dg_ne (i := 4) (u := .int i3) (by decide) (Or.inl (by decide)) G2
  have g4 := dg_ne (i := 4) (u := .int i3) (by decide) (Or.inr rfl) G3
  have g5 := dg_eq (lv) 4 (.int i3)
  refine dq_aln 0 4 (by decide +kernel) rfl g1 ?_
  obtain ⟨p6, q7, hh⟩ := db hh
  refine dq_gR 36 11 [15] 7 (by decide +kernel) rfl q7 ?_
  refine dq_iln 3 8 (by decide +kernel) rfl g4 ?_
  obtain ⟨x8, q9, hh⟩ := db hh
  refine dq_aI 9 (by decide +kernel) rfl q9 ?_
  rcases di hh with ⟨q10, hh⟩ | ⟨_, hh⟩
  · refine dq_sd 681 1 31 #[139, 157, 166, 180, 180, 204, 407, 391, 681, 231, 383, 399, 268, 681, 681, 681, 681, 681, 681, 415, 491, 553, 439, 596, 580, 407, 681, 681, 681, 681, 631] 139 690 (by decide +kernel) (by decide +kernel) q10 ?_
    refine dq_aln 0 691 (by decide +kernel) rfl g1 ?_
    refine dq_iln 1 692 (by decide +kernel) rfl g2 ?_
    obtain ⟨y11, q12, hh⟩ := db hh
    obtain ⟨a13, q14, q12⟩ := db q12
    rw [dq_xJ q12] at q14
    refine dq_cvi hD 663 390 5 1 [15] o0 [.int i1] [] 695 [.long y11.1] (by decide +kernel) ap_390 ⟨⟨Nat.le_of_ble_eq_true rfl, by decide⟩, rfl, rfl⟩ (dq_ok8 [1, 1] [] (dc_r (dc_i dc_n)) dc_n (by decide +kernel)) (by decide +kernel) rfl q14 rfl ?_
    refine dq_ls 5 697 (by decide +kernel) (by decide +kernel) ?_
    have g15 := dg_ne2 (i := 5) (u := .long y11.1) (by decide) (by decide) (Or.inl (by decide)) g1
    have g16 := dg_ne2 (i := 5) (u := .long y11.1) (by decide) (by decide) (Or.inl (by decide)) g2
    have g17 := dg_ne2 (i := 5) (u := .long y11.1) (by decide) (by decide) (Or.inl (by decide)) g3
    have g18 := dg_ne2 (i := 5) (u := .long y11.1) (by decide) (by decide) (Or.inl (by decide)) g4
    have g19 := dg_ne2 (i := 5) (u := .long y11.1) (by decide) (by decide) (Or.inr rfl) g5
    have g20 := dg_eq2 (rm_set1 (lv) 4 (.int i3)) 5 (.long y11.1)
    exact c388_697 hD hz _ _ _ _ _ _ g15 g17 g19 hh
  rcases dp hh with ⟨q21, hh⟩ | ⟨_, hh⟩
  · refine dq_eq 1 q21 ?_
    refine dq_S (.tableswitch 681 1 31 #[139, 157, 166, 180, 180, 204, 407, 391, 681, 231, 383, 399, 268, 681, 681, 681, 681, 681, 681, 415, 491, 553, 439, 596, 580, 407, 681, 681, 681, 681, 631]) 139 [] 148 _ [] (by decide +kernel) rfl ?_
    refine dq_aln 0 149 (by decide +kernel) rfl g1 ?_
    refine dq_iln 1 150 (by decide +kernel) rfl g2 ?_
    refine dq_S (.iconst 1) 1 [] 151 _ [.int 1, .int i1, va_rf o0] (by decide +kernel) rfl ?_
    refine dq_aln 0 152 (by decide +kernel) rfl g1 ?_
    obtain ⟨p22, q23, hh⟩ := db hh
    refine dq_gR 66 21 [15] 155 (by decide +kernel) rfl q23 ?_
    refine dq_iln 3 156 (by decide +kernel) rfl g4 ?_
    obtain ⟨x24, q25, hh⟩ := db hh
    refine dq_aI 157 (by decide +kernel) rfl q25 ?_
    obtain ⟨y26, q27, hh⟩ := db hh
    obtain ⟨a28, q29, q27⟩ := db q27
    rw [dq_xJ q27] at q29
    refine dq_cst hD 595 376 0 2 [.int 1, .int x24] [.int i1, va_rf o0] 160 [.long y26.1, .int i1, va_rf o0] (by decide +kernel) ap_376 ⟨⟨Nat.le_of_ble_eq_true rfl, by decide⟩, rfl, rfl⟩ (dq_ok8 [1, 1] [1, 1] (dc_i (dc_i dc_n)) (dc_i (dc_r dc_n)) (by decide +kernel)) (by decide +kernel) rfl q29 rfl ?_
    obtain ⟨h30, q31, hh⟩ := db hh
    obtain ⟨a32, q33, q31⟩ := db q31
    rw [dq_xV q31] at q33
    refine dq_cvi hD 659 389 5 2 [15] o0 [.int i1, .long y26.1] [] 163 [] (by decide +kernel) ap_389 ⟨⟨Nat.le_of_ble_eq_true rfl, by decide⟩, rfl, rfl⟩ (dq_ok8 [1, 1, 2] [] (dc_r (dc_i (dc_j dc_n))) dc_n (by decide +kernel)) (by decide +kernel) rfl q33 rfl ?_
    refine dq_S (.goto 534) 3 [] 697 _ [] (by decide +kernel) rfl ?_
    exact c388_697 hD hz _ _ _ _ _ _ g1 g3 g5 hh
  rcases dp hh with ⟨q34, hh⟩ | ⟨_, hh⟩
  · refine dq_eq 2 q34 ?_
    refine dq_S (.tableswitch 681 1 31 #[139, 157, 166, 180, 180, 204, 407, 391, 681, 231, 383, 399, 268, 681, 681, 681, 681, 681, 681, 415, 491, 553, 439, 596, 580, 407, 681, 681, 681, 681, 631]) 139 [] 166 _ [] (by decide +kernel) rfl ?_
    refine dq_aln 0 167 (by decide +kernel) rfl g1 ?_
    refine dq_iln 1 168 (by decide +kernel) rfl g2 ?_
    refine dq_S (.lconst 0) 1 [] 169 _ [.long 0, .int i1, va_rf o0] (by decide +kernel) rfl ?_
    obtain ⟨h35, q36, hh⟩ := db hh
    obtain ⟨a37, q38, q36⟩ := db q36
    rw [dq_xV q36] at q38
    refine dq_cvi hD 659 389 5 2 [15] o0 [.int i1, .long 0] [] 172 [] (by decide +kernel) ap_389 ⟨⟨Nat.le_of_ble_eq_true rfl, by decide⟩, rfl, rfl⟩ (dq_ok8 [1, 1, 2] [] (dc_r (dc_i (dc_j dc_n))) dc_n (by decide +kernel)) (by decide +kernel) rfl q38 rfl ?_
    refine dq_S (.goto 525) 3 [] 697 _ [] (by decide +kernel) rfl ?_
    exact c388_697 hD hz _ _ _ _ _ _ g1 g3 g5 hh
  rcases dp hh with ⟨q39, hh⟩ | ⟨_, hh⟩
  · refine dq_eq 3 q39 ?_
    refine dq_S (.tableswitch 681 1 31 #[139, 157, 166, 180, 180, 204, 407, 391, 681, 231, 383, 399, 268, 681, 681, 681, 681, 681, 681, 415, 491, 553, 439, 596, 580, 407, 681, 681, 681, 681, 631]) 139 [] 175 _ [] (by decide +kernel) rfl ?_
    refine dq_aln 0 176 (by decide +kernel) rfl g1 ?_
    refine dq_iln 1 177 (by decide +kernel) rfl g2 ?_
    refine dq_aln 0 178 (by decide +kernel) rfl g1 ?_
    obtain ⟨p40, q41, hh⟩ := db hh
    refine dq_gR 209 99 [15] 181 (by decide +kernel) rfl q41 ?_
    refine dq_iln 2 182 (by decide +kernel) rfl g3 ?_
    obtain ⟨y42, q43, hh⟩ := db hh
    refine dq_aJ 183 (by decide +kernel) rfl q43 ?_
    obtain ⟨h44, q45, hh⟩ := db hh
    obtain ⟨a46, q47, q45⟩ := db q45
    rw [dq_xV q45] at q47
    refine dq_cvi hD 659 389 5 2 [15] o0 [.int i1, .long y42] [] 186 [] (by decide +kernel) ap_389 ⟨⟨Nat.le_of_ble_eq_true rfl, by decide⟩, rfl, rfl⟩ (dq_ok8 [1, 1, 2] [] (dc_r (dc_i (dc_j dc_n))) dc_n (by decide +kernel)) (by decide +kernel) rfl q47 rfl ?_
    refine dq_S (.goto 511) 3 [] 697 _ [] (by decide +kernel) rfl ?_
    exact c388_697 hD hz _ _ _ _ _ _ g1 g3 g5 hh
  rcases dp hh with ⟨q48, hh⟩ | ⟨_, hh⟩
  · refine dq_eq 4 q48 ?_
    refine dq_S (.tableswitch 681 1 31 #[139, 157, 166, 180, 180, 204, 407, 391, 681, 231, 383, 399, 268, 681, 681, 681, 681, 681, 681, 415, 491, 553, 439, 596, 580, 407, 681, 681, 681, 681, 631]) 139 [] 189 _ [] (by decide +kernel) rfl ?_
    refine dq_aln 0 190 (by decide +kernel) rfl g1 ?_
    refine dq_iln 1 191 (by decide +kernel) rfl g2 ?_
    refine dq_aln 0 192 (by decide +kernel) rfl g1 ?_
    obtain ⟨p49, q50, hh⟩ := db hh
    refine dq_gR 212 100 [15] 195 (by decide +kernel) rfl q50 ?_
    refine dq_S (.bipush 16) 2 [] 197 _ [.int 16, va_rf p49, .int i1, va_rf o0] (by decide +kernel) rfl ?_
    refine dq_iln 2 198 (by decide +kernel) rfl g3 ?_
    refine dq_S (.imul) 1 [] 199 _ [.int (16 * i2), va_rf p49, .int i1, va_rf o0] (by decide +kernel) rfl ?_
    refine dq_aln 0 200 (by decide +kernel) rfl g1 ?_
    obtain ⟨p51, q52, hh⟩ := db hh
    refine dq_gR 63 20 [15] 203 (by decide +kernel) rfl q52 ?_
    refine dq_iln 3 204 (by decide +kernel) rfl g4 ?_
    obtain ⟨x53, q54, hh⟩ := db hh
    refine dq_aI 205 (by decide +kernel) rfl q54 ?_
    refine dq_S (.iadd) 1 [] 206 _ [.int ((16 * i2) + x53), va_rf p49, .int i1, va_rf o0] (by decide +kernel) rfl ?_
    obtain ⟨y55, q56, hh⟩ := db hh
    refine dq_aJ 207 (by decide +kernel) rfl q56 ?_
    obtain ⟨h57, q58, hh⟩ := db hh
    obtain ⟨a59, q60, q58⟩ := db q58
    rw [dq_xV q58] at q60
    refine dq_cvi hD 659 389 5 2 [15] o0 [.int i1, .long y55] [] 210 [] (by decide +kernel) ap_389 ⟨⟨Nat.le_of_ble_eq_true rfl, by decide⟩, rfl, rfl⟩ (dq_ok8 [1, 1, 2] [] (dc_r (dc_i (dc_j dc_n))) dc_n (by decide +kernel)) (by decide +kernel) rfl q60 rfl ?_
    refine dq_S (.goto 487) 3 [] 697 _ [] (by decide +kernel) rfl ?_
    exact c388_697 hD hz _ _ _ _ _ _ g1 g3 g5 hh
  rcases dp hh with ⟨q61, hh⟩ | ⟨_, hh⟩
  · refine dq_eq 5 q61 ?_
    refine dq_S (.tableswitch 681 1 31 #[139, 157, 166, 180, 180, 204, 407, 391, 681, 231, 383, 399, 268, 681, 681, 681, 681, 681, 681, 415, 491, 553, 439, 596, 580, 407, 681, 681, 681, 681, 631]) 139 [] 189 _ [] (by decide +kernel) rfl ?_
    refine dq_aln 0 190 (by decide +kernel) rfl g1 ?_
    refine dq_iln 1 191 (by decide +kernel) rfl g2 ?_
    refine dq_aln 0 192 (by decide +kernel) rfl g1 ?_
    obtain ⟨p62, q63, hh⟩ := db hh
    refine dq_gR 212 100 [15] 195 (by decide +kernel) rfl q63 ?_
    refine dq_S (.bipush 16) 2 [] 197 _ [.int 16, va_rf p62, .int i1, va_rf o0] (by decide +kernel) rfl ?_
    refine dq_iln 2 198 (by decide +kernel) rfl g3 ?_
    refine dq_S (.imul) 1 [] 199 _ [.int (16 * i2), va_rf p62, .int i1, va_rf o0] (by decide +kernel) rfl ?_
    refine dq_aln 0 200 (by decide +kernel) rfl g1 ?_
    obtain ⟨p64, q65, hh⟩ := db hh
    refine dq_gR 63 20 [15] 203 (by decide +kernel) rfl q65 ?_
    refine dq_iln 3 204 (by decide +kernel) rfl g4 ?_
    obtain ⟨x66, q67, hh⟩ := db hh
    refine dq_aI 205 (by decide +kernel) rfl q67 ?_
    refine dq_S (.iadd) 1 [] 206 _ [.int ((16 * i2) + x66), va_rf p62, .int i1, va_rf o0] (by decide +kernel) rfl ?_
    obtain ⟨y68, q69, hh⟩ := db hh
    refine dq_aJ 207 (by decide +kernel) rfl q69 ?_
    obtain ⟨h70, q71, hh⟩ := db hh
    obtain ⟨a72, q73, q71⟩ := db q71
    rw [dq_xV q71] at q73
    refine dq_cvi hD 659 389 5 2 [15] o0 [.int i1, .long y68] [] 210 [] (by decide +kernel) ap_389 ⟨⟨Nat.le_of_ble_eq_true rfl, by decide⟩, rfl, rfl⟩ (dq_ok8 [1, 1, 2] [] (dc_r (dc_i (dc_j dc_n))) dc_n (by decide +kernel)) (by decide +kernel) rfl q73 rfl ?_
    refine dq_S (.goto 487) 3 [] 697 _ [] (by decide +kernel) rfl ?_
    exact c388_697 hD hz _ _ _ _ _ _ g1 g3 g5 hh
  rcases dp hh with ⟨q74, hh⟩ | ⟨_, hh⟩
  · refine dq_eq 6 q74 ?_
    refine dq_S (.tableswitch 681 1 31 #[139, 157, 166, 180, 180, 204, 407, 391, 681, 231, 383, 399, 268, 681, 681, 681, 681, 681, 681, 415, 491, 553, 439, 596, 580, 407, 681, 681, 681, 681, 631]) 139 [] 213 _ [] (by decide +kernel) rfl ?_
    refine dq_aln 0 214 (by decide +kernel) rfl g1 ?_
    refine dq_iln 1 215 (by decide +kernel) rfl g2 ?_
    refine dq_S (.iconst 1) 1 [] 216 _ [.int 1, .int i1, va_rf o0] (by decide +kernel) rfl ?_
    refine dq_aln 0 217 (by decide +kernel) rfl g1 ?_
    refine dq_iln 1 218 (by decide +kernel) rfl g2 ?_
    obtain ⟨y75, q76, hh⟩ := db hh
    obtain ⟨a77, q78, q76⟩ := db q76
    rw [dq_xJ q76] at q78
    refine dq_cvi hD 663 390 5 1 [15] o0 [.int i1] [.int 1, .int i1, va_rf o0] 221 [.long y75.1, .int 1, .int i1, va_rf o0] (by decide +kernel) ap_390 ⟨⟨Nat.le_of_ble_eq_true rfl, by decide⟩, rfl, rfl⟩ (dq_ok8 [1, 1] [1, 1, 1] (dc_r (dc_i dc_n)) (dc_i (dc_i (dc_r dc_n))) (by decide +kernel)) (by decide +kernel) rfl q78 rfl ?_
    refine dq_S (.lconst 0) 1 [] 222 _ [.long 0, .long y75.1, .int 1, .int i1, va_rf o0] (by decide +kernel) rfl ?_
    refine dq_S (.lcmp) 1 [] 223 _ [.int (lg_cmp y75.1 0), .int 1, .int i1, va_rf o0] (by decide +kernel) rfl ?_
    rcases di hh with ⟨q79, hh⟩ | ⟨q79, hh⟩
    · refine dq_1 .ne 7 true 230 q79 (by decide +kernel) ?_
      refine dq_S (.iconst 1) 1 [] 231 _ [.int 1, .int 1, .int i1, va_rf o0] (by decide +kernel) rfl ?_
      exact c388_231 hD hz _ _ _ _ _ _ _ _ _ _ g1 g3 g5 hh
    · refine dq_1 .ne 7 false 226 q79 (by decide +kernel) ?_
      refine dq_S (.iconst 0) 1 [] 227 _ [.int 0, .int 1, .int i1, va_rf o0] (by decide +kernel) rfl ?_
      refine dq_S (.goto 4) 3 [] 231 _ [.int 0, .int 1, .int i1, va_rf o0] (by decide +kernel) rfl ?_
      exact c388_231 hD hz _ _ _ _ _ _ _ _ _ _ g1 g3 g5 hh
  rcases dp hh with ⟨q80, hh⟩ | ⟨_, hh⟩
  · refine dq_eq 7 q80 ?_
    refine dq_S (.tableswitch 681 1 31 #[139, 157, 166, 180, 180, 204, 407, 391, 681, 231, 383, 399, 268, 681, 681, 681, 681, 681, 681, 415, 491, 553, 439, 596, 580, 407, 681, 681, 681, 681, 631]) 139 [] 416 _ [] (by decide +kernel) rfl ?_
    refine dq_aln 0 417 (by decide +kernel) rfl g1 ?_
    refine dq_iln 1 418 (by decide +kernel) rfl g2 ?_
    refine dq_iln 2 419 (by decide +kernel) rfl g3 ?_
    refine dq_iln 3 420 (by decide +kernel) rfl g4 ?_
    obtain ⟨x81, q82, hh⟩ := db hh
    obtain ⟨a83, q84, q82⟩ := db q82
    rw [dq_xI q82] at q84
    refine dq_cvi hD 678 400 5 3 [15] o0 [.int i1, .int i2, .int i3] [] 423 [.int x81.1] (by decide +kernel) ap_400 ⟨⟨Nat.le_of_ble_eq_true rfl, by decide⟩, rfl, rfl⟩ (dq_ok8 [1, 1, 1, 1] [] (dc_r (dc_i (dc_i (dc_i dc_n)))) dc_n (by decide +kernel)) (by decide +kernel) rfl q84 rfl ?_
    exact dq_retI (some .int) (by decide +kernel) rfl hh
  rcases dp hh with ⟨q85, hh⟩ | ⟨_, hh⟩
  · refine dq_eq 8 q85 ?_
    refine dq_S (.tableswitch 681 1 31 #[139, 157, 166, 180, 180, 204, 407, 391, 681, 231, 383, 399, 268, 681, 681, 681, 681, 681, 681, 415, 491, 553, 439, 596, 580, 407, 681, 681, 681, 681, 631]) 139 [] 400 _ [] (by decide +kernel) rfl ?_
    refine dq_aln 0 401 (by decide +kernel) rfl g1 ?_
    refine dq_iln 1 402 (by decide +kernel) rfl g2 ?_
    refine dq_iln 2 403 (by decide +kernel) rfl g3 ?_
    refine dq_iln 3 404 (by decide +kernel) rfl g4 ?_
    obtain ⟨x86, q87, hh⟩ := db hh
    obtain ⟨a88, q89, q87⟩ := db q87
    rw [dq_xI q87] at q89
    refine dq_cvi hD 672 397 5 3 [15] o0 [.int i1, .int i2, .int i3] [] 407 [.int x86.1] (by decide +kernel) ap_397 ⟨⟨Nat.le_of_ble_eq_true rfl, by decide⟩, rfl, rfl⟩ (dq_ok8 [1, 1, 1, 1] [] (dc_r (dc_i (dc_i (dc_i dc_n)))) dc_n (by decide +kernel)) (by decide +kernel) rfl q89 rfl ?_
    exact dq_retI (some .int) (by decide +kernel) rfl hh
  rcases dp hh with ⟨q90, hh⟩ | ⟨_, hh⟩
  · refine dq_eq 9 q90 ?_
    refine dq_S (.tableswitch 681 1 31 #[139, 157, 166, 180, 180, 204, 407, 391, 681, 231, 383, 399, 268, 681, 681, 681, 681, 681, 681, 415, 491, 553, 439, 596, 580, 407, 681, 681, 681, 681, 631]) 139 [] 690 _ [] (by decide +kernel) rfl ?_
    refine dq_aln 0 691 (by decide +kernel) rfl g1 ?_
    refine dq_iln 1 692 (by decide +kernel) rfl g2 ?_
    obtain ⟨y91, q92, hh⟩ := db hh
    obtain ⟨a93, q94, q92⟩ := db q92
    rw [dq_xJ q92] at q94
    refine dq_cvi hD 663 390 5 1 [15] o0 [.int i1] [] 695 [.long y91.1] (by decide +kernel) ap_390 ⟨⟨Nat.le_of_ble_eq_true rfl, by decide⟩, rfl, rfl⟩ (dq_ok8 [1, 1] [] (dc_r (dc_i dc_n)) dc_n (by decide +kernel)) (by decide +kernel) rfl q94 rfl ?_
    refine dq_ls 5 697 (by decide +kernel) (by decide +kernel) ?_
    have g95 := dg_ne2 (i := 5) (u := .long y91.1) (by decide) (by decide) (Or.inl (by decide)) g1
    have g96 := dg_ne2 (i := 5) (u := .long y91.1) (by decide) (by decide) (Or.inl (by decide)) g2
    have g97 := dg_ne2 (i := 5) (u := .long y91.1) (by decide) (by decide) (Or.inl (by decide)) g3
    have g98 := dg_ne2 (i := 5) (u := .long y91.1) (by decide) (by decide) (Or.inl (by decide)) g4
    have g99 := dg_ne2 (i := 5) (u := .long y91.1) (by decide) (by decide) (Or.inr rfl) g5
    have g100 := dg_eq2 (rm_set1 (lv) 4 (.int i3)) 5 (.long y91.1)
    exact c388_697 hD hz _ _ _ _ _ _ g95 g97 g99 hh
  rcases dp hh with ⟨q101, hh⟩ | ⟨_, hh⟩
  · refine dq_eq 10 q101 ?_
    refine dq_S (.tableswitch 681 1 31 #[139, 157, 166, 180, 180, 204, 407, 391, 681, 231, 383, 399, 268, 681, 681, 681, 681, 681, 681, 415, 491, 553, 439, 596, 580, 407, 681, 681, 681, 681, 631]) 139 [] 240 _ [] (by decide +kernel) rfl ?_
    refine dq_aln 0 241 (by decide +kernel) rfl g1 ?_
    refine dq_iln 1 242 (by decide +kernel) rfl g2 ?_
    obtain ⟨y102, q103, hh⟩ := db hh
    obtain ⟨a104, q105, q103⟩ := db q103
    rw [dq_xJ q103] at q105
    refine dq_cvi hD 663 390 5 1 [15] o0 [.int i1] [] 245 [.long y102.1] (by decide +kernel) ap_390 ⟨⟨Nat.le_of_ble_eq_true rfl, by decide⟩, rfl, rfl⟩ (dq_ok8 [1, 1] [] (dc_r (dc_i dc_n)) dc_n (by decide +kernel)) (by decide +kernel) rfl q105 rfl ?_
    refine dq_ls 5 247 (by decide +kernel) (by decide +kernel) ?_
    have g106 := dg_ne2 (i := 5) (u := .long y102.1) (by decide) (by decide) (Or.inl (by decide)) g1
    have g107 := dg_ne2 (i := 5) (u := .long y102.1) (by decide) (by decide) (Or.inl (by decide)) g2
    have g108 := dg_ne2 (i := 5) (u := .long y102.1) (by decide) (by decide) (Or.inl (by decide)) g3
    have g109 := dg_ne2 (i := 5) (u := .long y102.1) (by decide) (by decide) (Or.inl (by decide)) g4
    have g110 := dg_ne2 (i := 5) (u := .long y102.1) (by decide) (by decide) (Or.inr rfl) g5
    have g111 := dg_eq2 (rm_set1 (lv) 4 (.int i3)) 5 (.long y102.1)
    refine dq_ll 5 249 (by decide +kernel) rfl g111 ?_
    refine dq_S (.lconst 0) 1 [] 250 _ [.long 0, .long y102.1] (by decide +kernel) rfl ?_
    refine dq_S (.lcmp) 1 [] 251 _ [.int (lg_cmp y102.1 0)] (by decide +kernel) rfl ?_
    rcases di hh with ⟨q112, hh⟩ | ⟨q112, hh⟩
    · refine dq_1 .ne 5 true 256 q112 (by decide +kernel) ?_
      refine dq_aln 0 257 (by decide +kernel) rfl g106 ?_
      refine dq_iln 1 258 (by decide +kernel) rfl g107 ?_
      refine dq_aln 0 259 (by decide +kernel) rfl g106 ?_
      refine dq_iln 1 260 (by decide +kernel) rfl g107 ?_
      refine dq_ll 5 262 (by decide +kernel) rfl g111 ?_
      refine dq_aln 0 263 (by decide +kernel) rfl g106 ?_
      obtain ⟨p113, q114, hh⟩ := db hh
      refine dq_gR 63 20 [15] 266 (by decide +kernel) rfl q114 ?_
      refine dq_iln 3 267 (by decide +kernel) rfl g109 ?_
      obtain ⟨x115, q116, hh⟩ := db hh
      refine dq_aI 268 (by decide +kernel) rfl q116 ?_
      obtain ⟨y117, q118, hh⟩ := db hh
      obtain ⟨a119, q120, q118⟩ := db q118
      rw [dq_xJ q118] at q120
      refine dq_cvi hD 666 391 5 3 [15] o0 [.int i1, .long y102.1, .int x115] [.int i1, va_rf o0] 271 [.long y117.1, .int i1, va_rf o0] (by decide +kernel) ap_391 ⟨⟨Nat.le_of_ble_eq_true rfl, by decide⟩, rfl, rfl⟩ (dq_ok8 [1, 1, 2, 1] [1, 1] (dc_r (dc_i (dc_j (dc_i dc_n)))) (dc_i (dc_r dc_n)) (by decide +kernel)) (by decide +kernel) rfl q120 rfl ?_
      obtain ⟨h121, q122, hh⟩ := db hh
      obtain ⟨a123, q124, q122⟩ := db q122
      rw [dq_xV q122] at q124
      refine dq_cvi hD 659 389 5 2 [15] o0 [.int i1, .long y117.1] [] 274 [] (by decide +kernel) ap_389 ⟨⟨Nat.le_of_ble_eq_true rfl, by decide⟩, rfl, rfl⟩ (dq_ok8 [1, 1, 2] [] (dc_r (dc_i (dc_j dc_n))) dc_n (by decide +kernel)) (by decide +kernel) rfl q124 rfl ?_
      refine dq_S (.goto 423) 3 [] 697 _ [] (by decide +kernel) rfl ?_
      exact c388_697 hD hz _ _ _ _ _ _ g106 g108 g110 hh
    · refine dq_1 .ne 5 false 254 q112 (by decide +kernel) ?_
      refine dq_S (.iconst 1) 1 [] 255 _ [.int 1] (by decide +kernel) rfl ?_
      exact dq_retI (some .int) (by decide +kernel) rfl hh
  rcases dp hh with ⟨q125, hh⟩ | ⟨_, hh⟩
  · refine dq_eq 11 q125 ?_
    refine dq_S (.tableswitch 681 1 31 #[139, 157, 166, 180, 180, 204, 407, 391, 681, 231, 383, 399, 268, 681, 681, 681, 681, 681, 681, 415, 491, 553, 439, 596, 580, 407, 681, 681, 681, 681, 631]) 139 [] 392 _ [] (by decide +kernel) rfl ?_
    refine dq_aln 0 393 (by decide +kernel) rfl g1 ?_
    refine dq_iln 1 394 (by decide +kernel) rfl g2 ?_
    refine dq_iln 2 395 (by decide +kernel) rfl g3 ?_
    refine dq_iln 3 396 (by decide +kernel) rfl g4 ?_
    obtain ⟨x126, q127, hh⟩ := db hh
    obtain ⟨a128, q129, q127⟩ := db q127
    rw [dq_xI q127] at q129
    refine dq_cvi hD 669 392 5 3 [15] o0 [.int i1, .int i2, .int i3] [] 399 [.int x126.1] (by decide +kernel) ap_392 ⟨⟨Nat.le_of_ble_eq_true rfl, by decide⟩, rfl, rfl⟩ (dq_ok8 [1, 1, 1, 1] [] (dc_r (dc_i (dc_i (dc_i dc_n)))) dc_n (by decide +kernel)) (by decide +kernel) rfl q129 rfl ?_
    exact dq_retI (some .int) (by decide +kernel) rfl hh
  rcases dp hh with ⟨q130, hh⟩ | ⟨_, hh⟩
  · refine dq_eq 12 q130 ?_
    refine dq_S (.tableswitch 681 1 31 #[139, 157, 166, 180, 180, 204, 407, 391, 681, 231, 383, 399, 268, 681, 681, 681, 681, 681, 681, 415, 491, 553, 439, 596, 580, 407, 681, 681, 681, 681, 631]) 139 [] 408 _ [] (by decide +kernel) rfl ?_
    refine dq_aln 0 409 (by decide +kernel) rfl g1 ?_
    refine dq_iln 1 410 (by decide +kernel) rfl g2 ?_
    refine dq_iln 2 411 (by decide +kernel) rfl g3 ?_
    refine dq_iln 3 412 (by decide +kernel) rfl g4 ?_
    obtain ⟨x131, q132, hh⟩ := db hh
    obtain ⟨a133, q134, q132⟩ := db q132
    rw [dq_xI q132] at q134
    refine dq_cvi hD 675 399 5 3 [15] o0 [.int i1, .int i2, .int i3] [] 415 [.int x131.1] (by decide +kernel) ap_399 ⟨⟨Nat.le_of_ble_eq_true rfl, by decide⟩, rfl, rfl⟩ (dq_ok8 [1, 1, 1, 1] [] (dc_r (dc_i (dc_i (dc_i dc_n)))) dc_n (by decide +kernel)) (by decide +kernel) rfl q134 rfl ?_
    exact dq_retI (some .int) (by decide +kernel) rfl hh
  rcases dp hh with ⟨q135, hh⟩ | ⟨_, hh⟩
  · refine dq_eq 13 q135 ?_
    refine dq_S (.tableswitch 681 1 31 #[139, 157, 166, 180, 180, 204, 407, 391, 681, 231, 383, 399, 268, 681, 681, 681, 681, 681, 681, 415, 491, 553, 439, 596, 580, 407, 681, 681, 681, 681, 631]) 139 [] 277 _ [] (by decide +kernel) rfl ?_
    refine dq_aln 0 278 (by decide +kernel) rfl g1 ?_
    refine dq_iln 1 279 (by decide +kernel) rfl g2 ?_
    obtain ⟨y136, q137, hh⟩ := db hh
    obtain ⟨a138, q139, q137⟩ := db q137
    rw [dq_xJ q137] at q139
    refine dq_cvi hD 663 390 5 1 [15] o0 [.int i1] [] 282 [.long y136.1] (by decide +kernel) ap_390 ⟨⟨Nat.le_of_ble_eq_true rfl, by decide⟩, rfl, rfl⟩ (dq_ok8 [1, 1] [] (dc_r (dc_i dc_n)) dc_n (by decide +kernel)) (by decide +kernel) rfl q139 rfl ?_
    refine dq_S (.l2i) 1 [] 283 _ [.int (Int64.toInt32 y136.1)] (by decide +kernel) rfl ?_
    refine dq_is 5 285 (by decide +kernel) (by decide +kernel) ?_
    have g140 := dg_ne (i := 5) (u := .int (Int64.toInt32 y136.1)) (by decide) (Or.inl (by decide)) g1
    have g141 := dg_ne (i := 5) (u := .int (Int64.toInt32 y136.1)) (by decide) (Or.inl (by decide)) g2
    have g142 := dg_ne (i := 5) (u := .int (Int64.toInt32 y136.1)) (by decide) (Or.inl (by decide)) g3
    have g143 := dg_ne (i := 5) (u := .int (Int64.toInt32 y136.1)) (by decide) (Or.inl (by decide)) g4
    have g144 := dg_ne (i := 5) (u := .int (Int64.toInt32 y136.1)) (by decide) (Or.inr rfl) g5
    have g145 := dg_eq (rm_set1 (lv) 4 (.int i3)) 5 (.int (Int64.toInt32 y136.1))
    refine dq_aln 0 286 (by decide +kernel) rfl g140 ?_
    refine dq_iln 1 287 (by decide +kernel) rfl g141 ?_
    obtain ⟨y146, q147, hh⟩ := db hh
    obtain ⟨a148, q149, q147⟩ := db q147
    rw [dq_xJ q147] at q149
    refine dq_cvi hD 663 390 5 1 [15] o0 [.int i1] [] 290 [.long y146.1] (by decide +kernel) ap_390 ⟨⟨Nat.le_of_ble_eq_true rfl, by decide⟩, rfl, rfl⟩ (dq_ok8 [1, 1] [] (dc_r (dc_i dc_n)) dc_n (by decide +kernel)) (by decide +kernel) rfl q149 rfl ?_
    refine dq_S (.l2i) 1 [] 291 _ [.int (Int64.toInt32 y146.1)] (by decide +kernel) rfl ?_
    refine dq_is 6 293 (by decide +kernel) (by decide +kernel) ?_
    have g150 := dg_ne (i := 6) (u := .int (Int64.toInt32 y146.1)) (by decide) (Or.inl (by decide)) g140
    have g151 := dg_ne (i := 6) (u := .int (Int64.toInt32 y146.1)) (by decide) (Or.inl (by decide)) g141
    have g152 := dg_ne (i := 6) (u := .int (Int64.toInt32 y146.1)) (by decide) (Or.inl (by decide)) g142
    have g153 := dg_ne (i := 6) (u := .int (Int64.toInt32 y146.1)) (by decide) (Or.inl (by decide)) g143
    have g154 := dg_ne (i := 6) (u := .int (Int64.toInt32 y146.1)) (by decide) (Or.inl (by decide)) g144
    have g155 := dg_ne (i := 6) (u := .int (Int64.toInt32 y146.1)) (by decide) (Or.inr rfl) g145
    have g156 := dg_eq (rm_set1 (rm_set1 (lv) 4 (.int i3)) 5 (.int (Int64.toInt32 y136.1))) 6 (.int (Int64.toInt32 y146.1))
    refine dq_aln 0 294 (by decide +kernel) rfl g150 ?_
    obtain ⟨p157, q158, hh⟩ := db hh
    refine dq_gR 66 21 [15] 297 (by decide +kernel) rfl q158 ?_
    refine dq_iln 3 298 (by decide +kernel) rfl g153 ?_
    obtain ⟨x159, q160, hh⟩ := db hh
    refine dq_aI 299 (by decide +kernel) rfl q160 ?_
    refine dq_is 7 301 (by decide +kernel) (by decide +kernel) ?_
    have g161 := dg_ne (i := 7) (u := .int x159) (by decide) (Or.inl (by decide)) g150
    have g162 := dg_ne (i := 7) (u := .int x159) (by decide) (Or.inl (by decide)) g151
    have g163 := dg_ne (i := 7) (u := .int x159) (by decide) (Or.inl (by decide)) g152
    have g164 := dg_ne (i := 7) (u := .int x159) (by decide) (Or.inl (by decide)) g153
    have g165 := dg_ne (i := 7) (u := .int x159) (by decide) (Or.inl (by decide)) g154
    have g166 := dg_ne (i := 7) (u := .int x159) (by decide) (Or.inl (by decide)) g155
    have g167 := dg_ne (i := 7) (u := .int x159) (by decide) (Or.inr rfl) g156
    have g168 := dg_eq (rm_set1 (rm_set1 (rm_set1 (lv) 4 (.int i3)) 5 (.int (Int64.toInt32 y136.1))) 6 (.int (Int64.toInt32 y146.1))) 7 (.int x159)
    refine dq_aln 0 302 (by decide +kernel) rfl g161 ?_
    refine dq_iln 1 303 (by decide +kernel) rfl g162 ?_
    refine dq_S (.iconst 1) 1 [] 304 _ [.int 1, .int i1, va_rf o0] (by decide +kernel) rfl ?_
    refine dq_il 7 306 (by decide +kernel) rfl g168 ?_
    refine dq_S (.bipush 43) 2 [] 308 _ [.int 43, .int x159, .int 1, .int i1, va_rf o0] (by decide +kernel) rfl ?_
    rcases di hh with ⟨q169, hh⟩ | ⟨q169, hh⟩
    · refine dq_2 .ne 11 true 319 q169 (by decide +kernel) ?_
      refine dq_il 7 321 (by decide +kernel) rfl g168 ?_
      refine dq_S (.bipush 45) 2 [] 323 _ [.int 45, .int x159, .int 1, .int i1, va_rf o0] (by decide +kernel) rfl ?_
      rcases di hh with ⟨q170, hh⟩ | ⟨q170, hh⟩
      · refine dq_2 .ne 11 true 334 q170 (by decide +kernel) ?_
        refine dq_il 7 336 (by decide +kernel) rfl g168 ?_
        refine dq_S (.bipush 42) 2 [] 338 _ [.int 42, .int x159, .int 1, .int i1, va_rf o0] (by decide +kernel) rfl ?_
        rcases di hh with ⟨q171, hh⟩ | ⟨q171, hh⟩
        · refine dq_2 .ne 11 true 349 q171 (by decide +kernel) ?_
          refine dq_il 7 351 (by decide +kernel) rfl g168 ?_
          refine dq_S (.bipush 60) 2 [] 353 _ [.int 60, .int x159, .int 1, .int i1, va_rf o0] (by decide +kernel) rfl ?_
          rcases di hh with ⟨q172, hh⟩ | ⟨q172, hh⟩
          · refine dq_2 .ne 18 true 371 q172 (by decide +kernel) ?_
            refine dq_il 6 373 (by decide +kernel) rfl g167 ?_
            refine dq_il 5 375 (by decide +kernel) rfl g166 ?_
            rcases di hh with ⟨q173, hh⟩ | ⟨q173, hh⟩
            · refine dq_2 .ne 7 true 382 q173 (by decide +kernel) ?_
              refine dq_S (.iconst 0) 1 [] 383 _ [.int 0, .int 1, .int i1, va_rf o0] (by decide +kernel) rfl ?_
              exact c388_383 hD hz _ _ _ _ _ _ _ _ _ _ g161 g163 g165 hh
            · refine dq_2 .ne 7 false 378 q173 (by decide +kernel) ?_
              refine dq_S (.iconst 1) 1 [] 379 _ [.int 1, .int 1, .int i1, va_rf o0] (by decide +kernel) rfl ?_
              refine dq_S (.goto 4) 3 [] 383 _ [.int 1, .int 1, .int i1, va_rf o0] (by decide +kernel) rfl ?_
              exact c388_383 hD hz _ _ _ _ _ _ _ _ _ _ g161 g163 g165 hh
          · refine dq_2 .ne 18 false 356 q172 (by decide +kernel) ?_
            refine dq_il 6 358 (by decide +kernel) rfl g167 ?_
            refine dq_il 5 360 (by decide +kernel) rfl g166 ?_
            rcases di hh with ⟨q174, hh⟩ | ⟨q174, hh⟩
            · refine dq_2 .ge 7 true 367 q174 (by decide +kernel) ?_
              refine dq_S (.iconst 0) 1 [] 368 _ [.int 0, .int 1, .int i1, va_rf o0] (by decide +kernel) rfl ?_
              refine dq_S (.goto 15) 3 [] 383 _ [.int 0, .int 1, .int i1, va_rf o0] (by decide +kernel) rfl ?_
              exact c388_383 hD hz _ _ _ _ _ _ _ _ _ _ g161 g163 g165 hh
            · refine dq_2 .ge 7 false 363 q174 (by decide +kernel) ?_
              refine dq_S (.iconst 1) 1 [] 364 _ [.int 1, .int 1, .int i1, va_rf o0] (by decide +kernel) rfl ?_
              refine dq_S (.goto 19) 3 [] 383 _ [.int 1, .int 1, .int i1, va_rf o0] (by decide +kernel) rfl ?_
              exact c388_383 hD hz _ _ _ _ _ _ _ _ _ _ g161 g163 g165 hh
        · refine dq_2 .ne 11 false 341 q171 (by decide +kernel) ?_
          refine dq_il 6 343 (by decide +kernel) rfl g167 ?_
          refine dq_il 5 345 (by decide +kernel) rfl g166 ?_
          refine dq_S (.imul) 1 [] 346 _ [.int ((Int64.toInt32 y146.1) * (Int64.toInt32 y136.1)), .int 1, .int i1, va_rf o0] (by decide +kernel) rfl ?_
          refine dq_S (.goto 37) 3 [] 383 _ [.int ((Int64.toInt32 y146.1) * (Int64.toInt32 y136.1)), .int 1, .int i1, va_rf o0] (by decide +kernel) rfl ?_
          exact c388_383 hD hz _ _ _ _ _ _ _ _ _ _ g161 g163 g165 hh
      · refine dq_2 .ne 11 false 326 q170 (by decide +kernel) ?_
        refine dq_il 6 328 (by decide +kernel) rfl g167 ?_
        refine dq_il 5 330 (by decide +kernel) rfl g166 ?_
        refine dq_S (.isub) 1 [] 331 _ [.int ((Int64.toInt32 y146.1) - (Int64.toInt32 y136.1)), .int 1, .int i1, va_rf o0] (by decide +kernel) rfl ?_
        refine dq_S (.goto 52) 3 [] 383 _ [.int ((Int64.toInt32 y146.1) - (Int64.toInt32 y136.1)), .int 1, .int i1, va_rf o0] (by decide +kernel) rfl ?_
        exact c388_383 hD hz _ _ _ _ _ _ _ _ _ _ g161 g163 g165 hh
    · refine dq_2 .ne 11 false 311 q169 (by decide +kernel) ?_
      refine dq_il 6 313 (by decide +kernel) rfl g167 ?_
      refine dq_il 5 315 (by decide +kernel) rfl g166 ?_
      refine dq_S (.iadd) 1 [] 316 _ [.int ((Int64.toInt32 y146.1) + (Int64.toInt32 y136.1)), .int 1, .int i1, va_rf o0] (by decide +kernel) rfl ?_
      refine dq_S (.goto 67) 3 [] 383 _ [.int ((Int64.toInt32 y146.1) + (Int64.toInt32 y136.1)), .int 1, .int i1, va_rf o0] (by decide +kernel) rfl ?_
      exact c388_383 hD hz _ _ _ _ _ _ _ _ _ _ g161 g163 g165 hh
  rcases dp hh with ⟨q175, hh⟩ | ⟨_, hh⟩
  · refine dq_eq 14 q175 ?_
    refine dq_S (.tableswitch 681 1 31 #[139, 157, 166, 180, 180, 204, 407, 391, 681, 231, 383, 399, 268, 681, 681, 681, 681, 681, 681, 415, 491, 553, 439, 596, 580, 407, 681, 681, 681, 681, 631]) 139 [] 690 _ [] (by decide +kernel) rfl ?_
    refine dq_aln 0 691 (by decide +kernel) rfl g1 ?_
    refine dq_iln 1 692 (by decide +kernel) rfl g2 ?_
    obtain ⟨y176, q177, hh⟩ := db hh
    obtain ⟨a178, q179, q177⟩ := db q177
    rw [dq_xJ q177] at q179
    refine dq_cvi hD 663 390 5 1 [15] o0 [.int i1] [] 695 [.long y176.1] (by decide +kernel) ap_390 ⟨⟨Nat.le_of_ble_eq_true rfl, by decide⟩, rfl, rfl⟩ (dq_ok8 [1, 1] [] (dc_r (dc_i dc_n)) dc_n (by decide +kernel)) (by decide +kernel) rfl q179 rfl ?_
    refine dq_ls 5 697 (by decide +kernel) (by decide +kernel) ?_
    have g180 := dg_ne2 (i := 5) (u := .long y176.1) (by decide) (by decide) (Or.inl (by decide)) g1
    have g181 := dg_ne2 (i := 5) (u := .long y176.1) (by decide) (by decide) (Or.inl (by decide)) g2
    have g182 := dg_ne2 (i := 5) (u := .long y176.1) (by decide) (by decide) (Or.inl (by decide)) g3
    have g183 := dg_ne2 (i := 5) (u := .long y176.1) (by decide) (by decide) (Or.inl (by decide)) g4
    have g184 := dg_ne2 (i := 5) (u := .long y176.1) (by decide) (by decide) (Or.inr rfl) g5
    have g185 := dg_eq2 (rm_set1 (lv) 4 (.int i3)) 5 (.long y176.1)
    exact c388_697 hD hz _ _ _ _ _ _ g180 g182 g184 hh
  rcases dp hh with ⟨q186, hh⟩ | ⟨_, hh⟩
  · refine dq_eq 15 q186 ?_
    refine dq_S (.tableswitch 681 1 31 #[139, 157, 166, 180, 180, 204, 407, 391, 681, 231, 383, 399, 268, 681, 681, 681, 681, 681, 681, 415, 491, 553, 439, 596, 580, 407, 681, 681, 681, 681, 631]) 139 [] 690 _ [] (by decide +kernel) rfl ?_
    refine dq_aln 0 691 (by decide +kernel) rfl g1 ?_
    refine dq_iln 1 692 (by decide +kernel) rfl g2 ?_
    obtain ⟨y187, q188, hh⟩ := db hh
    obtain ⟨a189, q190, q188⟩ := db q188
    rw [dq_xJ q188] at q190
    refine dq_cvi hD 663 390 5 1 [15] o0 [.int i1] [] 695 [.long y187.1] (by decide +kernel) ap_390 ⟨⟨Nat.le_of_ble_eq_true rfl, by decide⟩, rfl, rfl⟩ (dq_ok8 [1, 1] [] (dc_r (dc_i dc_n)) dc_n (by decide +kernel)) (by decide +kernel) rfl q190 rfl ?_
    refine dq_ls 5 697 (by decide +kernel) (by decide +kernel) ?_
    have g191 := dg_ne2 (i := 5) (u := .long y187.1) (by decide) (by decide) (Or.inl (by decide)) g1
    have g192 := dg_ne2 (i := 5) (u := .long y187.1) (by decide) (by decide) (Or.inl (by decide)) g2
    have g193 := dg_ne2 (i := 5) (u := .long y187.1) (by decide) (by decide) (Or.inl (by decide)) g3
    have g194 := dg_ne2 (i := 5) (u := .long y187.1) (by decide) (by decide) (Or.inl (by decide)) g4
    have g195 := dg_ne2 (i := 5) (u := .long y187.1) (by decide) (by decide) (Or.inr rfl) g5
    have g196 := dg_eq2 (rm_set1 (lv) 4 (.int i3)) 5 (.long y187.1)
    exact c388_697 hD hz _ _ _ _ _ _ g191 g193 g195 hh
  rcases dp hh with ⟨q197, hh⟩ | ⟨_, hh⟩
  · refine dq_eq 16 q197 ?_
    refine dq_S (.tableswitch 681 1 31 #[139, 157, 166, 180, 180, 204, 407, 391, 681, 231, 383, 399, 268, 681, 681, 681, 681, 681, 681, 415, 491, 553, 439, 596, 580, 407, 681, 681, 681, 681, 631]) 139 [] 690 _ [] (by decide +kernel) rfl ?_
    refine dq_aln 0 691 (by decide +kernel) rfl g1 ?_
    refine dq_iln 1 692 (by decide +kernel) rfl g2 ?_
    obtain ⟨y198, q199, hh⟩ := db hh
    obtain ⟨a200, q201, q199⟩ := db q199
    rw [dq_xJ q199] at q201
    refine dq_cvi hD 663 390 5 1 [15] o0 [.int i1] [] 695 [.long y198.1] (by decide +kernel) ap_390 ⟨⟨Nat.le_of_ble_eq_true rfl, by decide⟩, rfl, rfl⟩ (dq_ok8 [1, 1] [] (dc_r (dc_i dc_n)) dc_n (by decide +kernel)) (by decide +kernel) rfl q201 rfl ?_
    refine dq_ls 5 697 (by decide +kernel) (by decide +kernel) ?_
    have g202 := dg_ne2 (i := 5) (u := .long y198.1) (by decide) (by decide) (Or.inl (by decide)) g1
    have g203 := dg_ne2 (i := 5) (u := .long y198.1) (by decide) (by decide) (Or.inl (by decide)) g2
    have g204 := dg_ne2 (i := 5) (u := .long y198.1) (by decide) (by decide) (Or.inl (by decide)) g3
    have g205 := dg_ne2 (i := 5) (u := .long y198.1) (by decide) (by decide) (Or.inl (by decide)) g4
    have g206 := dg_ne2 (i := 5) (u := .long y198.1) (by decide) (by decide) (Or.inr rfl) g5
    have g207 := dg_eq2 (rm_set1 (lv) 4 (.int i3)) 5 (.long y198.1)
    exact c388_697 hD hz _ _ _ _ _ _ g202 g204 g206 hh
  rcases dp hh with ⟨q208, hh⟩ | ⟨_, hh⟩
  · refine dq_eq 17 q208 ?_
    refine dq_S (.tableswitch 681 1 31 #[139, 157, 166, 180, 180, 204, 407, 391, 681, 231, 383, 399, 268, 681, 681, 681, 681, 681, 681, 415, 491, 553, 439, 596, 580, 407, 681, 681, 681, 681, 631]) 139 [] 690 _ [] (by decide +kernel) rfl ?_
    refine dq_aln 0 691 (by decide +kernel) rfl g1 ?_
    refine dq_iln 1 692 (by decide +kernel) rfl g2 ?_
    obtain ⟨y209, q210, hh⟩ := db hh
    obtain ⟨a211, q212, q210⟩ := db q210
    rw [dq_xJ q210] at q212
    refine dq_cvi hD 663 390 5 1 [15] o0 [.int i1] [] 695 [.long y209.1] (by decide +kernel) ap_390 ⟨⟨Nat.le_of_ble_eq_true rfl, by decide⟩, rfl, rfl⟩ (dq_ok8 [1, 1] [] (dc_r (dc_i dc_n)) dc_n (by decide +kernel)) (by decide +kernel) rfl q212 rfl ?_
    refine dq_ls 5 697 (by decide +kernel) (by decide +kernel) ?_
    have g213 := dg_ne2 (i := 5) (u := .long y209.1) (by decide) (by decide) (Or.inl (by decide)) g1
    have g214 := dg_ne2 (i := 5) (u := .long y209.1) (by decide) (by decide) (Or.inl (by decide)) g2
    have g215 := dg_ne2 (i := 5) (u := .long y209.1) (by decide) (by decide) (Or.inl (by decide)) g3
    have g216 := dg_ne2 (i := 5) (u := .long y209.1) (by decide) (by decide) (Or.inl (by decide)) g4
    have g217 := dg_ne2 (i := 5) (u := .long y209.1) (by decide) (by decide) (Or.inr rfl) g5
    have g218 := dg_eq2 (rm_set1 (lv) 4 (.int i3)) 5 (.long y209.1)
    exact c388_697 hD hz _ _ _ _ _ _ g213 g215 g217 hh
  rcases dp hh with ⟨q219, hh⟩ | ⟨_, hh⟩
  · refine dq_eq 18 q219 ?_
    refine dq_S (.tableswitch 681 1 31 #[139, 157, 166, 180, 180, 204, 407, 391, 681, 231, 383, 399, 268, 681, 681, 681, 681, 681, 681, 415, 491, 553, 439, 596, 580, 407, 681, 681, 681, 681, 631]) 139 [] 690 _ [] (by decide +kernel) rfl ?_
    refine dq_aln 0 691 (by decide +kernel) rfl g1 ?_
    refine dq_iln 1 692 (by decide +kernel) rfl g2 ?_
    obtain ⟨y220, q221, hh⟩ := db hh
    obtain ⟨a222, q223, q221⟩ := db q221
    rw [dq_xJ q221] at q223
    refine dq_cvi hD 663 390 5 1 [15] o0 [.int i1] [] 695 [.long y220.1] (by decide +kernel) ap_390 ⟨⟨Nat.le_of_ble_eq_true rfl, by decide⟩, rfl, rfl⟩ (dq_ok8 [1, 1] [] (dc_r (dc_i dc_n)) dc_n (by decide +kernel)) (by decide +kernel) rfl q223 rfl ?_
    refine dq_ls 5 697 (by decide +kernel) (by decide +kernel) ?_
    have g224 := dg_ne2 (i := 5) (u := .long y220.1) (by decide) (by decide) (Or.inl (by decide)) g1
    have g225 := dg_ne2 (i := 5) (u := .long y220.1) (by decide) (by decide) (Or.inl (by decide)) g2
    have g226 := dg_ne2 (i := 5) (u := .long y220.1) (by decide) (by decide) (Or.inl (by decide)) g3
    have g227 := dg_ne2 (i := 5) (u := .long y220.1) (by decide) (by decide) (Or.inl (by decide)) g4
    have g228 := dg_ne2 (i := 5) (u := .long y220.1) (by decide) (by decide) (Or.inr rfl) g5
    have g229 := dg_eq2 (rm_set1 (lv) 4 (.int i3)) 5 (.long y220.1)
    exact c388_697 hD hz _ _ _ _ _ _ g224 g226 g228 hh
  rcases dp hh with ⟨q230, hh⟩ | ⟨_, hh⟩
  · refine dq_eq 19 q230 ?_
    refine dq_S (.tableswitch 681 1 31 #[139, 157, 166, 180, 180, 204, 407, 391, 681, 231, 383, 399, 268, 681, 681, 681, 681, 681, 681, 415, 491, 553, 439, 596, 580, 407, 681, 681, 681, 681, 631]) 139 [] 690 _ [] (by decide +kernel) rfl ?_
    refine dq_aln 0 691 (by decide +kernel) rfl g1 ?_
    refine dq_iln 1 692 (by decide +kernel) rfl g2 ?_
    obtain ⟨y231, q232, hh⟩ := db hh
    obtain ⟨a233, q234, q232⟩ := db q232
    rw [dq_xJ q232] at q234
    refine dq_cvi hD 663 390 5 1 [15] o0 [.int i1] [] 695 [.long y231.1] (by decide +kernel) ap_390 ⟨⟨Nat.le_of_ble_eq_true rfl, by decide⟩, rfl, rfl⟩ (dq_ok8 [1, 1] [] (dc_r (dc_i dc_n)) dc_n (by decide +kernel)) (by decide +kernel) rfl q234 rfl ?_
    refine dq_ls 5 697 (by decide +kernel) (by decide +kernel) ?_
    have g235 := dg_ne2 (i := 5) (u := .long y231.1) (by decide) (by decide) (Or.inl (by decide)) g1
    have g236 := dg_ne2 (i := 5) (u := .long y231.1) (by decide) (by decide) (Or.inl (by decide)) g2
    have g237 := dg_ne2 (i := 5) (u := .long y231.1) (by decide) (by decide) (Or.inl (by decide)) g3
    have g238 := dg_ne2 (i := 5) (u := .long y231.1) (by decide) (by decide) (Or.inl (by decide)) g4
    have g239 := dg_ne2 (i := 5) (u := .long y231.1) (by decide) (by decide) (Or.inr rfl) g5
    have g240 := dg_eq2 (rm_set1 (lv) 4 (.int i3)) 5 (.long y231.1)
    exact c388_697 hD hz _ _ _ _ _ _ g235 g237 g239 hh
  rcases dp hh with ⟨q241, hh⟩ | ⟨_, hh⟩
  · refine dq_eq 20 q241 ?_
    refine dq_S (.tableswitch 681 1 31 #[139, 157, 166, 180, 180, 204, 407, 391, 681, 231, 383, 399, 268, 681, 681, 681, 681, 681, 681, 415, 491, 553, 439, 596, 580, 407, 681, 681, 681, 681, 631]) 139 [] 424 _ [] (by decide +kernel) rfl ?_
    refine dq_aln 0 425 (by decide +kernel) rfl g1 ?_
    obtain ⟨p242, q243, hh⟩ := db hh
    refine dq_gR 212 100 [15] 428 (by decide +kernel) rfl q243 ?_
    refine dq_S (.bipush 16) 2 [] 430 _ [.int 16, va_rf p242] (by decide +kernel) rfl ?_
    refine dq_iln 2 431 (by decide +kernel) rfl g3 ?_
    refine dq_S (.imul) 1 [] 432 _ [.int (16 * i2), va_rf p242] (by decide +kernel) rfl ?_
    refine dq_aln 0 433 (by decide +kernel) rfl g1 ?_
    obtain ⟨p244, q245, hh⟩ := db hh
    refine dq_gR 63 20 [15] 436 (by decide +kernel) rfl q245 ?_
    refine dq_iln 3 437 (by decide +kernel) rfl g4 ?_
    obtain ⟨x246, q247, hh⟩ := db hh
    refine dq_aI 438 (by decide +kernel) rfl q247 ?_
    refine dq_S (.iadd) 1 [] 439 _ [.int ((16 * i2) + x246), va_rf p242] (by decide +kernel) rfl ?_
    refine dq_aln 0 440 (by decide +kernel) rfl g1 ?_
    refine dq_iln 1 441 (by decide +kernel) rfl g2 ?_
    obtain ⟨y248, q249, hh⟩ := db hh
    obtain ⟨a250, q251, q249⟩ := db q249
    rw [dq_xJ q249] at q251
    refine dq_cvi hD 663 390 5 1 [15] o0 [.int i1] [.int ((16 * i2) + x246), va_rf p242] 444 [.long y248.1, .int ((16 * i2) + x246), va_rf p242] (by decide +kernel) ap_390 ⟨⟨Nat.le_of_ble_eq_true rfl, by decide⟩, rfl, rfl⟩ (dq_ok8 [1, 1] [1, 1] (dc_r (dc_i dc_n)) (dc_i (dc_r dc_n)) (by decide +kernel)) (by decide +kernel) rfl q251 rfl ?_
    obtain ⟨h252, q253, hh⟩ := db hh
    refine dq_sJ 445 (by decide +kernel) rfl q253 ?_
    refine dq_S (.goto 252) 3 [] 697 _ [] (by decide +kernel) rfl ?_
    exact c388_697 hD hz _ _ _ _ _ _ g1 g3 g5 hh
  rcases dp hh with ⟨q254, hh⟩ | ⟨_, hh⟩
  · refine dq_eq 21 q254 ?_
    refine dq_S (.tableswitch 681 1 31 #[139, 157, 166, 180, 180, 204, 407, 391, 681, 231, 383, 399, 268, 681, 681, 681, 681, 681, 681, 415, 491, 553, 439, 596, 580, 407, 681, 681, 681, 681, 631]) 139 [] 500 _ [] (by decide +kernel) rfl ?_
    refine dq_aln 0 501 (by decide +kernel) rfl g1 ?_
    refine dq_iln 1 502 (by decide +kernel) rfl g2 ?_
    obtain ⟨y255, q256, hh⟩ := db hh
    obtain ⟨a257, q258, q256⟩ := db q256
    rw [dq_xJ q256] at q258
    refine dq_cvi hD 663 390 5 1 [15] o0 [.int i1] [] 505 [.long y255.1] (by decide +kernel) ap_390 ⟨⟨Nat.le_of_ble_eq_true rfl, by decide⟩, rfl, rfl⟩ (dq_ok8 [1, 1] [] (dc_r (dc_i dc_n)) dc_n (by decide +kernel)) (by decide +kernel) rfl q258 rfl ?_
    refine dq_S (.l2i) 1 [] 506 _ [.int (Int64.toInt32 y255.1)] (by decide +kernel) rfl ?_
    rcases di hh with ⟨q259, hh⟩ | ⟨q259, hh⟩
    · refine dq_1 .eq 7 true 513 q259 (by decide +kernel) ?_
      refine dq_S (.iconst 0) 1 [] 514 _ [.int 0] (by decide +kernel) rfl ?_
      exact c388_514 hD hz _ _ _ _ _ _ _ _ g1 g3 g4 g5 hh
    · refine dq_1 .eq 7 false 509 q259 (by decide +kernel) ?_
      refine dq_S (.iconst 1) 1 [] 510 _ [.int 1] (by decide +kernel) rfl ?_
      refine dq_S (.goto 4) 3 [] 514 _ [.int 1] (by decide +kernel) rfl ?_
      exact c388_514 hD hz _ _ _ _ _ _ _ _ g1 g3 g4 g5 hh
  rcases dp hh with ⟨q260, hh⟩ | ⟨_, hh⟩
  · refine dq_eq 22 q260 ?_
    refine dq_S (.tableswitch 681 1 31 #[139, 157, 166, 180, 180, 204, 407, 391, 681, 231, 383, 399, 268, 681, 681, 681, 681, 681, 681, 415, 491, 553, 439, 596, 580, 407, 681, 681, 681, 681, 631]) 139 [] 562 _ [] (by decide +kernel) rfl ?_
    refine dq_aln 0 563 (by decide +kernel) rfl g1 ?_
    refine dq_iln 1 564 (by decide +kernel) rfl g2 ?_
    obtain ⟨y261, q262, hh⟩ := db hh
    obtain ⟨a263, q264, q262⟩ := db q262
    rw [dq_xJ q262] at q264
    refine dq_cvi hD 663 390 5 1 [15] o0 [.int i1] [] 567 [.long y261.1] (by decide +kernel) ap_390 ⟨⟨Nat.le_of_ble_eq_true rfl, by decide⟩, rfl, rfl⟩ (dq_ok8 [1, 1] [] (dc_r (dc_i dc_n)) dc_n (by decide +kernel)) (by decide +kernel) rfl q264 rfl ?_
    refine dq_S (.l2i) 1 [] 568 _ [.int (Int64.toInt32 y261.1)] (by decide +kernel) rfl ?_
    rcases di hh with ⟨q265, hh⟩ | ⟨q265, hh⟩
    · refine dq_1 .eq 129 true 697 q265 (by decide +kernel) ?_
      exact c388_697 hD hz _ _ _ _ _ _ g1 g3 g5 hh
    · refine dq_1 .eq 129 false 571 q265 (by decide +kernel) ?_
      refine dq_aln 0 572 (by decide +kernel) rfl g1 ?_
      obtain ⟨p266, q267, hh⟩ := db hh
      refine dq_gR 206 98 [15] 575 (by decide +kernel) rfl q267 ?_
      refine dq_iln 2 576 (by decide +kernel) rfl g3 ?_
      refine dq_aln 0 577 (by decide +kernel) rfl g1 ?_
      refine dq_aln 0 578 (by decide +kernel) rfl g1 ?_
      obtain ⟨p268, q269, hh⟩ := db hh
      refine dq_gR 42 13 [15] 581 (by decide +kernel) rfl q269 ?_
      refine dq_iln 3 582 (by decide +kernel) rfl g4 ?_
      obtain ⟨x270, q271, hh⟩ := db hh
      refine dq_aI 583 (by decide +kernel) rfl q271 ?_
      obtain ⟨x272, q273, hh⟩ := db hh
      obtain ⟨a274, q275, q273⟩ := db q273
      rw [dq_xI q273] at q275
      refine dq_cvi hD 684 401 5 1 [15] o0 [.int x270] [.int i2, va_rf p266] 586 [.int x272.1, .int i2, va_rf p266] (by decide +kernel) ap_401 ⟨⟨Nat.le_of_ble_eq_true rfl, by decide⟩, rfl, rfl⟩ (dq_ok8 [1, 1] [1, 1] (dc_r (dc_i dc_n)) (dc_i (dc_r dc_n)) (by decide +kernel)) (by decide +kernel) rfl q275 rfl ?_
      obtain ⟨h276, q277, hh⟩ := db hh
      refine dq_sI 587 (by decide +kernel) rfl q277 ?_
      refine dq_S (.iconst 0) 1 [] 588 _ [.int 0] (by decide +kernel) rfl ?_
      exact dq_retI (some .int) (by decide +kernel) rfl hh
  rcases dp hh with ⟨q278, hh⟩ | ⟨_, hh⟩
  · refine dq_eq 23 q278 ?_
    refine dq_S (.tableswitch 681 1 31 #[139, 157, 166, 180, 180, 204, 407, 391, 681, 231, 383, 399, 268, 681, 681, 681, 681, 681, 681, 415, 491, 553, 439, 596, 580, 407, 681, 681, 681, 681, 631]) 139 [] 448 _ [] (by decide +kernel) rfl ?_
    refine dq_aln 0 449 (by decide +kernel) rfl g1 ?_
    refine dq_iln 1 450 (by decide +kernel) rfl g2 ?_
    obtain ⟨y279, q280, hh⟩ := db hh
    obtain ⟨a281, q282, q280⟩ := db q280
    rw [dq_xJ q280] at q282
    refine dq_cvi hD 663 390 5 1 [15] o0 [.int i1] [] 453 [.long y279.1] (by decide +kernel) ap_390 ⟨⟨Nat.le_of_ble_eq_true rfl, by decide⟩, rfl, rfl⟩ (dq_ok8 [1, 1] [] (dc_r (dc_i dc_n)) dc_n (by decide +kernel)) (by decide +kernel) rfl q282 rfl ?_
    refine dq_S (.l2i) 1 [] 454 _ [.int (Int64.toInt32 y279.1)] (by decide +kernel) rfl ?_
    refine dq_is 5 456 (by decide +kernel) (by decide +kernel) ?_
    have g283 := dg_ne (i := 5) (u := .int (Int64.toInt32 y279.1)) (by decide) (Or.inl (by decide)) g1
    have g284 := dg_ne (i := 5) (u := .int (Int64.toInt32 y279.1)) (by decide) (Or.inl (by decide)) g2
    have g285 := dg_ne (i := 5) (u := .int (Int64.toInt32 y279.1)) (by decide) (Or.inl (by decide)) g3
    have g286 := dg_ne (i := 5) (u := .int (Int64.toInt32 y279.1)) (by decide) (Or.inl (by decide)) g4
    have g287 := dg_ne (i := 5) (u := .int (Int64.toInt32 y279.1)) (by decide) (Or.inr rfl) g5
    have g288 := dg_eq (rm_set1 (lv) 4 (.int i3)) 5 (.int (Int64.toInt32 y279.1))
    refine dq_aln 0 457 (by decide +kernel) rfl g283 ?_
    obtain ⟨x289, q290, hh⟩ := db hh
    refine dq_gI 681 81 [15] 460 (by decide +kernel) rfl q290 ?_
    refine dq_S (.sipush 200) 3 [] 463 _ [.int 200, .int x289] (by decide +kernel) rfl ?_
    rcases di hh with ⟨q291, hh⟩ | ⟨q291, hh⟩
    · refine dq_2 .ge 24 true 487 q291 (by decide +kernel) ?_
      exact c388_487 hD hz _ _ _ _ _ _ g283 g285 g287 hh
    · refine dq_2 .ge 24 false 466 q291 (by decide +kernel) ?_
      refine dq_aln 0 467 (by decide +kernel) rfl g283 ?_
      obtain ⟨p292, q293, hh⟩ := db hh
      refine dq_gR 233 107 [15] 470 (by decide +kernel) rfl q293 ?_
      refine dq_aln 0 471 (by decide +kernel) rfl g283 ?_
      obtain ⟨x294, q295, hh⟩ := db hh
      refine dq_gI 681 81 [15] 474 (by decide +kernel) rfl q295 ?_
      refine dq_il 5 476 (by decide +kernel) rfl g288 ?_
      obtain ⟨h296, q297, hh⟩ := db hh
      refine dq_sI 477 (by decide +kernel) rfl q297 ?_
      refine dq_aln 0 478 (by decide +kernel) rfl g283 ?_
      obtain ⟨p298, q299, hh⟩ := db hh
      refine dq_gR 236 108 [15] 481 (by decide +kernel) rfl q299 ?_
      refine dq_aln 0 482 (by decide +kernel) rfl g283 ?_
      obtain ⟨x300, q301, hh⟩ := db hh
      refine dq_gI 681 81 [15] 485 (by decide +kernel) rfl q301 ?_
      refine dq_iln 1 486 (by decide +kernel) rfl g284 ?_
      obtain ⟨h302, q303, hh⟩ := db hh
      refine dq_sI 487 (by decide +kernel) rfl q303 ?_
      exact c388_487 hD hz _ _ _ _ _ _ g283 g285 g287 hh
  rcases dp hh with ⟨q304, hh⟩ | ⟨_, hh⟩
  · refine dq_eq 24 q304 ?_
    refine dq_S (.tableswitch 681 1 31 #[139, 157, 166, 180, 180, 204, 407, 391, 681, 231, 383, 399, 268, 681, 681, 681, 681, 681, 681, 415, 491, 553, 439, 596, 580, 407, 681, 681, 681, 681, 631]) 139 [] 605 _ [] (by decide +kernel) rfl ?_
    refine dq_aln 0 606 (by decide +kernel) rfl g1 ?_
    refine dq_iln 1 607 (by decide +kernel) rfl g2 ?_
    obtain ⟨y305, q306, hh⟩ := db hh
    obtain ⟨a307, q308, q306⟩ := db q306
    rw [dq_xJ q306] at q308
    refine dq_cvi hD 663 390 5 1 [15] o0 [.int i1] [] 610 [.long y305.1] (by decide +kernel) ap_390 ⟨⟨Nat.le_of_ble_eq_true rfl, by decide⟩, rfl, rfl⟩ (dq_ok8 [1, 1] [] (dc_r (dc_i dc_n)) dc_n (by decide +kernel)) (by decide +kernel) rfl q308 rfl ?_
    refine dq_ls 5 612 (by decide +kernel) (by decide +kernel) ?_
    have g309 := dg_ne2 (i := 5) (u := .long y305.1) (by decide) (by decide) (Or.inl (by decide)) g1
    have g310 := dg_ne2 (i := 5) (u := .long y305.1) (by decide) (by decide) (Or.inl (by decide)) g2
    have g311 := dg_ne2 (i := 5) (u := .long y305.1) (by decide) (by decide) (Or.inl (by decide)) g3
    have g312 := dg_ne2 (i := 5) (u := .long y305.1) (by decide) (by decide) (Or.inl (by decide)) g4
    have g313 := dg_ne2 (i := 5) (u := .long y305.1) (by decide) (by decide) (Or.inr rfl) g5
    have g314 := dg_eq2 (rm_set1 (lv) 4 (.int i3)) 5 (.long y305.1)
    refine dq_aln 0 613 (by decide +kernel) rfl g309 ?_
    obtain ⟨p315, q316, hh⟩ := db hh
    refine dq_gR 184 91 [15] 616 (by decide +kernel) rfl q316 ?_
    refine dq_iln 1 617 (by decide +kernel) rfl g310 ?_
    refine dq_d2 618 (by decide +kernel) rfl ?_
    obtain ⟨x317, q318, hh⟩ := db hh
    refine dq_aI 619 (by decide +kernel) rfl q318 ?_
    refine dq_S (.iconst 1) 1 [] 620 _ [.int 1, .int x317, .int i1, va_rf p315] (by decide +kernel) rfl ?_
    refine dq_S (.isub) 1 [] 621 _ [.int (x317 - 1), .int i1, va_rf p315] (by decide +kernel) rfl ?_
    obtain ⟨h319, q320, hh⟩ := db hh
    refine dq_sI 622 (by decide +kernel) rfl q320 ?_
    refine dq_aln 0 623 (by decide +kernel) rfl g309 ?_
    obtain ⟨p321, q322, hh⟩ := db hh
    refine dq_gR 184 91 [15] 626 (by decide +kernel) rfl q322 ?_
    refine dq_iln 1 627 (by decide +kernel) rfl g310 ?_
    obtain ⟨x323, q324, hh⟩ := db hh
    refine dq_aI 628 (by decide +kernel) rfl q324 ?_
    rcases di hh with ⟨q325, hh⟩ | ⟨q325, hh⟩
    · refine dq_1 .le 10 true 638 q325 (by decide +kernel) ?_
      exact c388_638 hD hz  _ _ _  hh
    · refine dq_1 .le 10 false 631 q325 (by decide +kernel) ?_
      refine dq_aln 0 632 (by decide +kernel) rfl g309 ?_
      refine dq_iln 1 633 (by decide +kernel) rfl g310 ?_
      refine dq_ll 5 635 (by decide +kernel) rfl g314 ?_
      obtain ⟨h326, q327, hh⟩ := db hh
      obtain ⟨a328, q329, q327⟩ := db q327
      rw [dq_xV q327] at q329
      refine dq_cvi hD 659 389 5 2 [15] o0 [.int i1, .long y305.1] [] 638 [] (by decide +kernel) ap_389 ⟨⟨Nat.le_of_ble_eq_true rfl, by decide⟩, rfl, rfl⟩ (dq_ok8 [1, 1, 2] [] (dc_r (dc_i (dc_j dc_n))) dc_n (by decide +kernel)) (by decide +kernel) rfl q329 rfl ?_
      exact c388_638 hD hz  _ _ _  hh
  rcases dp hh with ⟨q330, hh⟩ | ⟨_, hh⟩
  · refine dq_eq 25 q330 ?_
    refine dq_S (.tableswitch 681 1 31 #[139, 157, 166, 180, 180, 204, 407, 391, 681, 231, 383, 399, 268, 681, 681, 681, 681, 681, 681, 415, 491, 553, 439, 596, 580, 407, 681, 681, 681, 681, 631]) 139 [] 589 _ [] (by decide +kernel) rfl ?_
    refine dq_aln 0 590 (by decide +kernel) rfl g1 ?_
    obtain ⟨p331, q332, hh⟩ := db hh
    refine dq_gR 51 16 [15] 593 (by decide +kernel) rfl q332 ?_
    refine dq_aln 0 594 (by decide +kernel) rfl g1 ?_
    obtain ⟨p333, q334, hh⟩ := db hh
    refine dq_gR 51 16 [15] 597 (by decide +kernel) rfl q334 ?_
    refine dq_iln 3 598 (by decide +kernel) rfl g4 ?_
    obtain ⟨x335, q336, hh⟩ := db hh
    refine dq_aI 599 (by decide +kernel) rfl q336 ?_
    obtain ⟨x337, q338, hh⟩ := db hh
    refine dq_aI 600 (by decide +kernel) rfl q338 ?_
    refine dq_is 4 602 (by decide +kernel) (by decide +kernel) ?_
    have g339 := dg_ne (i := 4) (u := .int x337) (by decide) (Or.inl (by decide)) g1
    have g340 := dg_ne (i := 4) (u := .int x337) (by decide) (Or.inl (by decide)) g2
    have g341 := dg_ne (i := 4) (u := .int x337) (by decide) (Or.inl (by decide)) g3
    have g342 := dg_ne (i := 4) (u := .int x337) (by decide) (Or.inr rfl) g4
    have g343 := dg_eq (rm_set1 (lv) 4 (.int i3)) 4 (.int x337)
    refine dq_S (.goto 95) 3 [] 697 _ [] (by decide +kernel) rfl ?_
    exact c388_697 hD hz _ _ _ _ _ _ g339 g341 g343 hh
  rcases dp hh with ⟨q344, hh⟩ | ⟨_, hh⟩
  · refine dq_eq 26 q344 ?_
    refine dq_S (.tableswitch 681 1 31 #[139, 157, 166, 180, 180, 204, 407, 391, 681, 231, 383, 399, 268, 681, 681, 681, 681, 681, 681, 415, 491, 553, 439, 596, 580, 407, 681, 681, 681, 681, 631]) 139 [] 416 _ [] (by decide +kernel) rfl ?_
    refine dq_aln 0 417 (by decide +kernel) rfl g1 ?_
    refine dq_iln 1 418 (by decide +kernel) rfl g2 ?_
    refine dq_iln 2 419 (by decide +kernel) rfl g3 ?_
    refine dq_iln 3 420 (by decide +kernel) rfl g4 ?_
    obtain ⟨x345, q346, hh⟩ := db hh
    obtain ⟨a347, q348, q346⟩ := db q346
    rw [dq_xI q346] at q348
    refine dq_cvi hD 678 400 5 3 [15] o0 [.int i1, .int i2, .int i3] [] 423 [.int x345.1] (by decide +kernel) ap_400 ⟨⟨Nat.le_of_ble_eq_true rfl, by decide⟩, rfl, rfl⟩ (dq_ok8 [1, 1, 1, 1] [] (dc_r (dc_i (dc_i (dc_i dc_n)))) dc_n (by decide +kernel)) (by decide +kernel) rfl q348 rfl ?_
    exact dq_retI (some .int) (by decide +kernel) rfl hh
  rcases dp hh with ⟨q349, hh⟩ | ⟨_, hh⟩
  · refine dq_eq 27 q349 ?_
    refine dq_S (.tableswitch 681 1 31 #[139, 157, 166, 180, 180, 204, 407, 391, 681, 231, 383, 399, 268, 681, 681, 681, 681, 681, 681, 415, 491, 553, 439, 596, 580, 407, 681, 681, 681, 681, 631]) 139 [] 690 _ [] (by decide +kernel) rfl ?_
    refine dq_aln 0 691 (by decide +kernel) rfl g1 ?_
    refine dq_iln 1 692 (by decide +kernel) rfl g2 ?_
    obtain ⟨y350, q351, hh⟩ := db hh
    obtain ⟨a352, q353, q351⟩ := db q351
    rw [dq_xJ q351] at q353
    refine dq_cvi hD 663 390 5 1 [15] o0 [.int i1] [] 695 [.long y350.1] (by decide +kernel) ap_390 ⟨⟨Nat.le_of_ble_eq_true rfl, by decide⟩, rfl, rfl⟩ (dq_ok8 [1, 1] [] (dc_r (dc_i dc_n)) dc_n (by decide +kernel)) (by decide +kernel) rfl q353 rfl ?_
    refine dq_ls 5 697 (by decide +kernel) (by decide +kernel) ?_
    have g354 := dg_ne2 (i := 5) (u := .long y350.1) (by decide) (by decide) (Or.inl (by decide)) g1
    have g355 := dg_ne2 (i := 5) (u := .long y350.1) (by decide) (by decide) (Or.inl (by decide)) g2
    have g356 := dg_ne2 (i := 5) (u := .long y350.1) (by decide) (by decide) (Or.inl (by decide)) g3
    have g357 := dg_ne2 (i := 5) (u := .long y350.1) (by decide) (by decide) (Or.inl (by decide)) g4
    have g358 := dg_ne2 (i := 5) (u := .long y350.1) (by decide) (by decide) (Or.inr rfl) g5
    have g359 := dg_eq2 (rm_set1 (lv) 4 (.int i3)) 5 (.long y350.1)
    exact c388_697 hD hz _ _ _ _ _ _ g354 g356 g358 hh
  rcases dp hh with ⟨q360, hh⟩ | ⟨_, hh⟩
  · refine dq_eq 28 q360 ?_
    refine dq_S (.tableswitch 681 1 31 #[139, 157, 166, 180, 180, 204, 407, 391, 681, 231, 383, 399, 268, 681, 681, 681, 681, 681, 681, 415, 491, 553, 439, 596, 580, 407, 681, 681, 681, 681, 631]) 139 [] 690 _ [] (by decide +kernel) rfl ?_
    refine dq_aln 0 691 (by decide +kernel) rfl g1 ?_
    refine dq_iln 1 692 (by decide +kernel) rfl g2 ?_
    obtain ⟨y361, q362, hh⟩ := db hh
    obtain ⟨a363, q364, q362⟩ := db q362
    rw [dq_xJ q362] at q364
    refine dq_cvi hD 663 390 5 1 [15] o0 [.int i1] [] 695 [.long y361.1] (by decide +kernel) ap_390 ⟨⟨Nat.le_of_ble_eq_true rfl, by decide⟩, rfl, rfl⟩ (dq_ok8 [1, 1] [] (dc_r (dc_i dc_n)) dc_n (by decide +kernel)) (by decide +kernel) rfl q364 rfl ?_
    refine dq_ls 5 697 (by decide +kernel) (by decide +kernel) ?_
    have g365 := dg_ne2 (i := 5) (u := .long y361.1) (by decide) (by decide) (Or.inl (by decide)) g1
    have g366 := dg_ne2 (i := 5) (u := .long y361.1) (by decide) (by decide) (Or.inl (by decide)) g2
    have g367 := dg_ne2 (i := 5) (u := .long y361.1) (by decide) (by decide) (Or.inl (by decide)) g3
    have g368 := dg_ne2 (i := 5) (u := .long y361.1) (by decide) (by decide) (Or.inl (by decide)) g4
    have g369 := dg_ne2 (i := 5) (u := .long y361.1) (by decide) (by decide) (Or.inr rfl) g5
    have g370 := dg_eq2 (rm_set1 (lv) 4 (.int i3)) 5 (.long y361.1)
    exact c388_697 hD hz _ _ _ _ _ _ g365 g367 g369 hh
  rcases dp hh with ⟨q371, hh⟩ | ⟨_, hh⟩
  · refine dq_eq 29 q371 ?_
    refine dq_S (.tableswitch 681 1 31 #[139, 157, 166, 180, 180, 204, 407, 391, 681, 231, 383, 399, 268, 681, 681, 681, 681, 681, 681, 415, 491, 553, 439, 596, 580, 407, 681, 681, 681, 681, 631]) 139 [] 690 _ [] (by decide +kernel) rfl ?_
    refine dq_aln 0 691 (by decide +kernel) rfl g1 ?_
    refine dq_iln 1 692 (by decide +kernel) rfl g2 ?_
    obtain ⟨y372, q373, hh⟩ := db hh
    obtain ⟨a374, q375, q373⟩ := db q373
    rw [dq_xJ q373] at q375
    refine dq_cvi hD 663 390 5 1 [15] o0 [.int i1] [] 695 [.long y372.1] (by decide +kernel) ap_390 ⟨⟨Nat.le_of_ble_eq_true rfl, by decide⟩, rfl, rfl⟩ (dq_ok8 [1, 1] [] (dc_r (dc_i dc_n)) dc_n (by decide +kernel)) (by decide +kernel) rfl q375 rfl ?_
    refine dq_ls 5 697 (by decide +kernel) (by decide +kernel) ?_
    have g376 := dg_ne2 (i := 5) (u := .long y372.1) (by decide) (by decide) (Or.inl (by decide)) g1
    have g377 := dg_ne2 (i := 5) (u := .long y372.1) (by decide) (by decide) (Or.inl (by decide)) g2
    have g378 := dg_ne2 (i := 5) (u := .long y372.1) (by decide) (by decide) (Or.inl (by decide)) g3
    have g379 := dg_ne2 (i := 5) (u := .long y372.1) (by decide) (by decide) (Or.inl (by decide)) g4
    have g380 := dg_ne2 (i := 5) (u := .long y372.1) (by decide) (by decide) (Or.inr rfl) g5
    have g381 := dg_eq2 (rm_set1 (lv) 4 (.int i3)) 5 (.long y372.1)
    exact c388_697 hD hz _ _ _ _ _ _ g376 g378 g380 hh
  rcases dp hh with ⟨q382, hh⟩ | ⟨_, hh⟩
  · refine dq_eq 30 q382 ?_
    refine dq_S (.tableswitch 681 1 31 #[139, 157, 166, 180, 180, 204, 407, 391, 681, 231, 383, 399, 268, 681, 681, 681, 681, 681, 681, 415, 491, 553, 439, 596, 580, 407, 681, 681, 681, 681, 631]) 139 [] 690 _ [] (by decide +kernel) rfl ?_
    refine dq_aln 0 691 (by decide +kernel) rfl g1 ?_
    refine dq_iln 1 692 (by decide +kernel) rfl g2 ?_
    obtain ⟨y383, q384, hh⟩ := db hh
    obtain ⟨a385, q386, q384⟩ := db q384
    rw [dq_xJ q384] at q386
    refine dq_cvi hD 663 390 5 1 [15] o0 [.int i1] [] 695 [.long y383.1] (by decide +kernel) ap_390 ⟨⟨Nat.le_of_ble_eq_true rfl, by decide⟩, rfl, rfl⟩ (dq_ok8 [1, 1] [] (dc_r (dc_i dc_n)) dc_n (by decide +kernel)) (by decide +kernel) rfl q386 rfl ?_
    refine dq_ls 5 697 (by decide +kernel) (by decide +kernel) ?_
    have g387 := dg_ne2 (i := 5) (u := .long y383.1) (by decide) (by decide) (Or.inl (by decide)) g1
    have g388 := dg_ne2 (i := 5) (u := .long y383.1) (by decide) (by decide) (Or.inl (by decide)) g2
    have g389 := dg_ne2 (i := 5) (u := .long y383.1) (by decide) (by decide) (Or.inl (by decide)) g3
    have g390 := dg_ne2 (i := 5) (u := .long y383.1) (by decide) (by decide) (Or.inl (by decide)) g4
    have g391 := dg_ne2 (i := 5) (u := .long y383.1) (by decide) (by decide) (Or.inr rfl) g5
    have g392 := dg_eq2 (rm_set1 (lv) 4 (.int i3)) 5 (.long y383.1)
    exact c388_697 hD hz _ _ _ _ _ _ g387 g389 g391 hh
  rcases dp hh with ⟨q393, hh⟩ | ⟨_, hh⟩
  · refine dq_eq 31 q393 ?_
    refine dq_S (.tableswitch 681 1 31 #[139, 157, 166, 180, 180, 204, 407, 391, 681, 231, 383, 399, 268, 681, 681, 681, 681, 681, 681, 415, 491, 553, 439, 596, 580, 407, 681, 681, 681, 681, 631]) 139 [] 640 _ [] (by decide +kernel) rfl ?_
    refine dq_aln 0 641 (by decide +kernel) rfl g1 ?_
    obtain ⟨p394, q395, hh⟩ := db hh
    refine dq_gR 184 91 [15] 644 (by decide +kernel) rfl q395 ?_
    refine dq_iln 1 645 (by decide +kernel) rfl g2 ?_
    refine dq_d2 646 (by decide +kernel) rfl ?_
    obtain ⟨x396, q397, hh⟩ := db hh
    refine dq_aI 647 (by decide +kernel) rfl q397 ?_
    refine dq_S (.iconst 1) 1 [] 648 _ [.int 1, .int x396, .int i1, va_rf p394] (by decide +kernel) rfl ?_
    refine dq_S (.isub) 1 [] 649 _ [.int (x396 - 1), .int i1, va_rf p394] (by decide +kernel) rfl ?_
    obtain ⟨h398, q399, hh⟩ := db hh
    refine dq_sI 650 (by decide +kernel) rfl q399 ?_
    refine dq_aln 0 651 (by decide +kernel) rfl g1 ?_
    obtain ⟨p400, q401, hh⟩ := db hh
    refine dq_gR 184 91 [15] 654 (by decide +kernel) rfl q401 ?_
    refine dq_iln 1 655 (by decide +kernel) rfl g2 ?_
    obtain ⟨x402, q403, hh⟩ := db hh
    refine dq_aI 656 (by decide +kernel) rfl q403 ?_
    rcases di hh with ⟨q404, hh⟩ | ⟨q404, hh⟩
    · refine dq_1 .le 32 true 688 q404 (by decide +kernel) ?_
      exact c388_688 hD hz  _ _ _  hh
    · refine dq_1 .le 32 false 659 q404 (by decide +kernel) ?_
      refine dq_aln 0 660 (by decide +kernel) rfl g1 ?_
      refine dq_iln 1 661 (by decide +kernel) rfl g2 ?_
      refine dq_aln 0 662 (by decide +kernel) rfl g1 ?_
      obtain ⟨p405, q406, hh⟩ := db hh
      refine dq_gR 115 43 [15] 665 (by decide +kernel) rfl q406 ?_
      refine dq_aln 0 666 (by decide +kernel) rfl g1 ?_
      obtain ⟨p407, q408, hh⟩ := db hh
      refine dq_gR 66 21 [15] 669 (by decide +kernel) rfl q408 ?_
      refine dq_iln 3 670 (by decide +kernel) rfl g4 ?_
      obtain ⟨x409, q410, hh⟩ := db hh
      refine dq_aI 671 (by decide +kernel) rfl q410 ?_
      obtain ⟨x411, q412, hh⟩ := db hh
      refine dq_aI 672 (by decide +kernel) rfl q412 ?_
      rcases di hh with ⟨q413, hh⟩ | ⟨q413, hh⟩
      · refine dq_1 .ne 12 true 684 q413 (by decide +kernel) ?_
        refine dq_S (.lconst 0) 1 [] 685 _ [.long 0, .int i1, va_rf o0] (by decide +kernel) rfl ?_
        exact c388_685 hD hz _ _ _ _ _ _  hh
      · refine dq_1 .ne 12 false 675 q413 (by decide +kernel) ?_
        refine dq_aln 0 676 (by decide +kernel) rfl g1 ?_
        obtain ⟨p414, q415, hh⟩ := db hh
        refine dq_gR 209 99 [15] 679 (by decide +kernel) rfl q415 ?_
        refine dq_iln 2 680 (by decide +kernel) rfl g3 ?_
        obtain ⟨y416, q417, hh⟩ := db hh
        refine dq_aJ 681 (by decide +kernel) rfl q417 ?_
        refine dq_S (.goto 4) 3 [] 685 _ [.long y416, .int i1, va_rf o0] (by decide +kernel) rfl ?_
        exact c388_685 hD hz _ _ _ _ _ _  hh
  cases hh
def f388 (L : Nat) (xs : Nat → Int32) (zf : Value) (D : dD) (w : Nat) (As : List Value) (h : rm_H) : Option dR := match As with
  | [v0, .int i1, .int i2, .int i3] => (rm_rf v0).bind fun o0 => b388_0 L xs zf D w o0 i1 i2 i3 h
  | _ => none
theorem d388 {L : Nat} {xs : Nat → Int32} {zf : Value} {D : dD} {w k : Nat} (hD : dO L xs zf D k) (hz : zf.category = 1) (As : List Value) (h : rm_H) (r : dR) (hh : f388 L xs zf D w As h = some r) : dq L xs zf ah_M388 0 (lv_args 0 As) [] h (k + 1) r := by
  unfold f388 at hh
  split at hh
  · obtain ⟨o0, e0, hb0⟩ := db hh
    have e0 := rm_rf_v _ _ e0
    subst e0
    refine c388_0 hD hz _ _ _ _ _ _ _ ?_ ?_ ?_ ?_ hb0
    all_goals (simp only [la_r, la_i, la_j]; rfl)
  · cases hh
def b389_0 (L : Nat) (xs : Nat → Int32) (zf : Value) (D : dD) (w : Nat) (o0 : Option Nat) (i1 : Int32) (j2 : Int64) (h : rm_H) : Option dR :=
  (dgR L xs h 96 [15] o0).bind fun p1 =>
  (dgR L xs h 92 [15] o0).bind fun p3 =>
  (daI L xs h p3 i1).bind fun x5 =>
  (dsJ h p1 ((10100 * i1) + x5) j2).bind fun h7 =>
  (dgR L xs h7 92 [15] o0).bind fun p9 =>
  (daI L xs h7 p9 i1).bind fun x11 =>
  (dsI h7 p9 i1 (x11 + 1)).bind fun h13 =>
  some (none, h13)
theorem c389_0 {L : Nat} {xs : Nat → Int32} {zf : Value} {D : dD} {w k : Nat} (hD : dO L xs zf D k) (hz : zf.category = 1) : ∀ (o0 : Option Nat) (i1 : Int32) (j2 : Int64) (lv : rm_L) (h : rm_H) (r : dR), rm_get lv 0 = some (va_rf o0) → rm_get lv 1 = some (.int i1) → rm_get lv 2 = some (.long j2) → b389_0 L xs zf D w  o0 i1 j2 h = some r → dq L xs zf ah_M389 0 lv [] h (k + 1) r := by
  intro o0 i1 j2 lv h r G0 G1 G2 hh
  unfold b389_0 at hh
  refine dq_aln 0 1 (by decide +kernel) rfl G0 ?_
  obtain ⟨p1, q2, hh⟩ := db hh
  refine dq_gR 200 96 [15] 4 (by decide +kernel) rfl q2 ?_
  refine dq_S (.sipush 10100) 3 [] 7 _ [.int 10100, va_rf p1] (by decide +kernel) rfl ?_
  refine dq_iln 1 8 (by decide +kernel) rfl G1 ?_
  refine dq_S (.imul) 1 [] 9 _ [.int (10100 * i1), va_rf p1] (by decide +kernel) rfl ?_
  refine dq_aln 0 10 (by decide +kernel) rfl G0 ?_
  obtain ⟨p3, q4, hh⟩ := db hh
  refine dq_gR 187 92 [15] 13 (by decide +kernel) rfl q4 ?_
  refine dq_iln 1 14 (by decide +kernel) rfl G1 ?_
  obtain ⟨x5, q6, hh⟩ := db hh
  refine dq_aI 15 (by decide +kernel) rfl q6 ?_
  refine dq_S (.iadd) 1 [] 16 _ [.int ((10100 * i1) + x5), va_rf p1] (by decide +kernel) rfl ?_
  refine dq_lln 2 17 (by decide +kernel) rfl G2 ?_
  obtain ⟨h7, q8, hh⟩ := db hh
  refine dq_sJ 18 (by decide +kernel) rfl q8 ?_
  refine dq_aln 0 19 (by decide +kernel) rfl G0 ?_
  obtain ⟨p9, q10, hh⟩ := db hh
  refine dq_gR 187 92 [15] 22 (by decide +kernel) rfl q10 ?_
  refine dq_iln 1 23 (by decide +kernel) rfl G1 ?_
  refine dq_d2 24 (by decide +kernel) rfl ?_
  obtain ⟨x11, q12, hh⟩ := db hh
  refine dq_aI 25 (by decide +kernel) rfl q12 ?_
  refine dq_S (.iconst 1) 1 [] 26 _ [.int 1, .int x11, .int i1, va_rf p9] (by decide +kernel) rfl ?_
  refine dq_S (.iadd) 1 [] 27 _ [.int (x11 + 1), .int i1, va_rf p9] (by decide +kernel) rfl ?_
  obtain ⟨h13, q14, hh⟩ := db hh
  refine dq_sI 28 (by decide +kernel) rfl q14 ?_
  cases hh
  exact dq_ret0 (by decide +kernel) rfl
def f389 (L : Nat) (xs : Nat → Int32) (zf : Value) (D : dD) (w : Nat) (As : List Value) (h : rm_H) : Option dR := match As with
  | [v0, .int i1, .long j2] => (rm_rf v0).bind fun o0 => b389_0 L xs zf D w o0 i1 j2 h
  | _ => none
theorem d389 {L : Nat} {xs : Nat → Int32} {zf : Value} {D : dD} {w k : Nat} (hD : dO L xs zf D k) (hz : zf.category = 1) (As : List Value) (h : rm_H) (r : dR) (hh : f389 L xs zf D w As h = some r) : dq L xs zf ah_M389 0 (lv_args 0 As) [] h (k + 1) r := by
  unfold f389 at hh
  split at hh
  · obtain ⟨o0, e0, hb0⟩ := db hh
    have e0 := rm_rf_v _ _ e0
    subst e0
    refine c389_0 hD hz _ _ _ _ _ _ ?_ ?_ ?_ hb0
    all_goals (simp only [la_r, la_i, la_j]; rfl)
  · cases hh
def b390_0 (L : Nat) (xs : Nat → Int32) (zf : Value) (D : dD) (w : Nat) (o0 : Option Nat) (i1 : Int32) (h : rm_H) : Option dR :=
  (dgR L xs h 92 [15] o0).bind fun p1 =>
  (daI L xs h p1 i1).bind fun x3 =>
  (dsI h p1 i1 (x3 - 1)).bind fun h5 =>
  (dgR L xs h5 96 [15] o0).bind fun p7 =>
  (dgR L xs h5 92 [15] o0).bind fun p9 =>
  (daI L xs h5 p9 i1).bind fun x11 =>
  (daJ L xs h5 p7 ((10100 * i1) + x11)).bind fun y13 =>
  some (some (.long y13), h5)
theorem c390_0 {L : Nat} {xs : Nat → Int32} {zf : Value} {D : dD} {w k : Nat} (hD : dO L xs zf D k) (hz : zf.category = 1) : ∀ (o0 : Option Nat) (i1 : Int32) (lv : rm_L) (h : rm_H) (r : dR), rm_get lv 0 = some (va_rf o0) → rm_get lv 1 = some (.int i1) → b390_0 L xs zf D w  o0 i1 h = some r → dq L xs zf ah_M390 0 lv [] h (k + 1) r := by
  intro o0 i1 lv h r G0 G1 hh
  unfold b390_0 at hh
  refine dq_aln 0 1 (by decide +kernel) rfl G0 ?_
  obtain ⟨p1, q2, hh⟩ := db hh
  refine dq_gR 187 92 [15] 4 (by decide +kernel) rfl q2 ?_
  refine dq_iln 1 5 (by decide +kernel) rfl G1 ?_
  refine dq_d2 6 (by decide +kernel) rfl ?_
  obtain ⟨x3, q4, hh⟩ := db hh
  refine dq_aI 7 (by decide +kernel) rfl q4 ?_
  refine dq_S (.iconst 1) 1 [] 8 _ [.int 1, .int x3, .int i1, va_rf p1] (by decide +kernel) rfl ?_
  refine dq_S (.isub) 1 [] 9 _ [.int (x3 - 1), .int i1, va_rf p1] (by decide +kernel) rfl ?_
  obtain ⟨h5, q6, hh⟩ := db hh
  refine dq_sI 10 (by decide +kernel) rfl q6 ?_
  refine dq_aln 0 11 (by decide +kernel) rfl G0 ?_
  obtain ⟨p7, q8, hh⟩ := db hh
  refine dq_gR 200 96 [15] 14 (by decide +kernel) rfl q8 ?_
  refine dq_S (.sipush 10100) 3 [] 17 _ [.int 10100, va_rf p7] (by decide +kernel) rfl ?_
  refine dq_iln 1 18 (by decide +kernel) rfl G1 ?_
  refine dq_S (.imul) 1 [] 19 _ [.int (10100 * i1), va_rf p7] (by decide +kernel) rfl ?_
  refine dq_aln 0 20 (by decide +kernel) rfl G0 ?_
  obtain ⟨p9, q10, hh⟩ := db hh
  refine dq_gR 187 92 [15] 23 (by decide +kernel) rfl q10 ?_
  refine dq_iln 1 24 (by decide +kernel) rfl G1 ?_
  obtain ⟨x11, q12, hh⟩ := db hh
  refine dq_aI 25 (by decide +kernel) rfl q12 ?_
  refine dq_S (.iadd) 1 [] 26 _ [.int ((10100 * i1) + x11), va_rf p7] (by decide +kernel) rfl ?_
  obtain ⟨y13, q14, hh⟩ := db hh
  refine dq_aJ 27 (by decide +kernel) rfl q14 ?_
  cases hh
  exact dq_retJ (by decide +kernel) rfl
def f390 (L : Nat) (xs : Nat → Int32) (zf : Value) (D : dD) (w : Nat) (As : List Value) (h : rm_H) : Option dR := match As with
  | [v0, .int i1] => (rm_rf v0).bind fun o0 => b390_0 L xs zf D w o0 i1 h
  | _ => none
theorem d390 {L : Nat} {xs : Nat → Int32} {zf : Value} {D : dD} {w k : Nat} (hD : dO L xs zf D k) (hz : zf.category = 1) (As : List Value) (h : rm_H) (r : dR) (hh : f390 L xs zf D w As h = some r) : dq L xs zf ah_M390 0 (lv_args 0 As) [] h (k + 1) r := by
  unfold f390 at hh
  split at hh
  · obtain ⟨o0, e0, hb0⟩ := db hh
    have e0 := rm_rf_v _ _ e0
    subst e0
    refine c390_0 hD hz _ _ _ _ _ ?_ ?_ hb0
    all_goals (simp only [la_r, la_i, la_j]; rfl)
  · cases hh
def b391_44 (L : Nat) (xs : Nat → Int32) (zf : Value) (D : dD) (w : Nat) (s0 : Int64) (h : rm_H) : Option dR :=
  some (some (.long s0), h)
theorem c391_44 {L : Nat} {xs : Nat → Int32} {zf : Value} {D : dD} {w k : Nat} (hD : dO L xs zf D k) (hz : zf.category = 1) : ∀ (s0 : Int64) (lv : rm_L) (h : rm_H) (r : dR), b391_44 L xs zf D w  s0 h = some r → dq L xs zf ah_M391 44 lv [.long s0] h (k + 1) r := by
  intro s0 lv h r hh
  unfold b391_44 at hh
  cases hh
  exact dq_retJ (by decide +kernel) rfl
def b391_0 (L : Nat) (xs : Nat → Int32) (zf : Value) (D : dD) (w : Nat) (o0 : Option Nat) (i1 : Int32) (j2 : Int64) (i4 : Int32) (h : rm_H) : Option dR :=
  ((D 379 [.long j2] h).bind dxI).bind fun x1 =>
  if mx_f2 .ne x1.1 3 = true then
    (dgR L xs x1.2 95 [15] o0).bind fun p6 =>
    (dgR L xs x1.2 86 [15] o0).bind fun p8 =>
    (daI L xs x1.2 p8 (Int64.toInt32 j2)).bind fun x10 =>
    (daJ L xs x1.2 p6 (((400 * i1) + x10) + i4)).bind fun y12 =>
    b391_44 L xs zf D w y12 x1.2
  else
    (dgR L xs x1.2 94 [15] o0).bind fun p14 =>
    (daJ L xs x1.2 p14 ((8 * i1) + i4)).bind fun y16 =>
    b391_44 L xs zf D w y16 x1.2
theorem c391_0 {L : Nat} {xs : Nat → Int32} {zf : Value} {D : dD} {w k : Nat} (hD : dO L xs zf D k) (hz : zf.category = 1) : ∀ (o0 : Option Nat) (i1 : Int32) (j2 : Int64) (i4 : Int32) (lv : rm_L) (h : rm_H) (r : dR), rm_get lv 0 = some (va_rf o0) → rm_get lv 1 = some (.int i1) → rm_get lv 2 = some (.long j2) → rm_get lv 4 = some (.int i4) → b391_0 L xs zf D w  o0 i1 j2 i4 h = some r → dq L xs zf ah_M391 0 lv [] h (k + 1) r := by
  intro o0 i1 j2 i4 lv h r G0 G1 G2 G4 hh
  unfold b391_0 at hh
  refine dq_lln 2 1 (by decide +kernel) rfl G2 ?_
  obtain ⟨x1, q2, hh⟩ := db hh
  obtain ⟨a3, q4, q2⟩ := db q2
  rw [dq_xI q2] at q4
  refine dq_cst hD 625 379 0 1 [.long j2] [] 4 [.int x1.1] (by decide +kernel) ap_379 ⟨⟨Nat.le_of_ble_eq_true rfl, by decide⟩, rfl, rfl⟩ (dq_ok8 [2] [] (dc_j dc_n) dc_n (by decide +kernel)) (by decide +kernel) rfl q4 rfl ?_
  refine dq_S (.iconst 3) 1 [] 5 _ [.int 3, .int x1.1] (by decide +kernel) rfl ?_
  rcases di hh with ⟨q5, hh⟩ | ⟨q5, hh⟩
  · refine dq_2 .ne 18 true 23 q5 (by decide +kernel) ?_
    refine dq_aln 0 24 (by decide +kernel) rfl G0 ?_
    obtain ⟨p6, q7, hh⟩ := db hh
    refine dq_gR 196 95 [15] 27 (by decide +kernel) rfl q7 ?_
    refine dq_S (.sipush 400) 3 [] 30 _ [.int 400, va_rf p6] (by decide +kernel) rfl ?_
    refine dq_iln 1 31 (by decide +kernel) rfl G1 ?_
    refine dq_S (.imul) 1 [] 32 _ [.int (400 * i1), va_rf p6] (by decide +kernel) rfl ?_
    refine dq_aln 0 33 (by decide +kernel) rfl G0 ?_
    obtain ⟨p8, q9, hh⟩ := db hh
    refine dq_gR 172 86 [15] 36 (by decide +kernel) rfl q9 ?_
    refine dq_lln 2 37 (by decide +kernel) rfl G2 ?_
    refine dq_S (.l2i) 1 [] 38 _ [.int (Int64.toInt32 j2), va_rf p8, .int (400 * i1), va_rf p6] (by decide +kernel) rfl ?_
    obtain ⟨x10, q11, hh⟩ := db hh
    refine dq_aI 39 (by decide +kernel) rfl q11 ?_
    refine dq_S (.iadd) 1 [] 40 _ [.int ((400 * i1) + x10), va_rf p6] (by decide +kernel) rfl ?_
    refine dq_il 4 42 (by decide +kernel) rfl G4 ?_
    refine dq_S (.iadd) 1 [] 43 _ [.int (((400 * i1) + x10) + i4), va_rf p6] (by decide +kernel) rfl ?_
    obtain ⟨y12, q13, hh⟩ := db hh
    refine dq_aJ 44 (by decide +kernel) rfl q13 ?_
    exact c391_44 hD hz _ _ _ _  hh
  · refine dq_2 .ne 18 false 8 q5 (by decide +kernel) ?_
    refine dq_aln 0 9 (by decide +kernel) rfl G0 ?_
    obtain ⟨p14, q15, hh⟩ := db hh
    refine dq_gR 193 94 [15] 12 (by decide +kernel) rfl q15 ?_
    refine dq_S (.bipush 8) 2 [] 14 _ [.int 8, va_rf p14] (by decide +kernel) rfl ?_
    refine dq_iln 1 15 (by decide +kernel) rfl G1 ?_
    refine dq_S (.imul) 1 [] 16 _ [.int (8 * i1), va_rf p14] (by decide +kernel) rfl ?_
    refine dq_il 4 18 (by decide +kernel) rfl G4 ?_
    refine dq_S (.iadd) 1 [] 19 _ [.int ((8 * i1) + i4), va_rf p14] (by decide +kernel) rfl ?_
    obtain ⟨y16, q17, hh⟩ := db hh
    refine dq_aJ 20 (by decide +kernel) rfl q17 ?_
    refine dq_S (.goto 24) 3 [] 44 _ [.long y16] (by decide +kernel) rfl ?_
    exact c391_44 hD hz _ _ _ _  hh
def f391 (L : Nat) (xs : Nat → Int32) (zf : Value) (D : dD) (w : Nat) (As : List Value) (h : rm_H) : Option dR := match As with
  | [v0, .int i1, .long j2, .int i4] => (rm_rf v0).bind fun o0 => b391_0 L xs zf D w o0 i1 j2 i4 h
  | _ => none
theorem d391 {L : Nat} {xs : Nat → Int32} {zf : Value} {D : dD} {w k : Nat} (hD : dO L xs zf D k) (hz : zf.category = 1) (As : List Value) (h : rm_H) (r : dR) (hh : f391 L xs zf D w As h = some r) : dq L xs zf ah_M391 0 (lv_args 0 As) [] h (k + 1) r := by
  unfold f391 at hh
  split at hh
  · obtain ⟨o0, e0, hb0⟩ := db hh
    have e0 := rm_rf_v _ _ e0
    subst e0
    refine c391_0 hD hz _ _ _ _ _ _ _ ?_ ?_ ?_ ?_ hb0
    all_goals (simp only [la_r, la_i, la_j]; rfl)
  · cases hh
def b392_0 (L : Nat) (xs : Nat → Int32) (zf : Value) (D : dD) (w : Nat) (o0 : Option Nat) (i1 : Int32) (i2 : Int32) (i3 : Int32) (h : rm_H) : Option dR :=
  ((dcV L xs D 390 [15] o0 [.int i1] h).bind dxJ).bind fun y1 =>
  if mx_f1 .ne (lg_cmp y1.1 0) = true then
    (dgR L xs y1.2 91 [15] o0).bind fun p11 =>
    (daI L xs y1.2 p11 i1).bind fun x13 =>
    if mx_f2 .ne x13 10 = true then
      (dgR L xs y1.2 98 [15] o0).bind fun p16 =>
      ((dcV L xs D 393 [15] o0 [.int i3] y1.2).bind dxI).bind fun x18 =>
      (dsI x18.2 p16 i2 x18.1).bind fun h22 =>
      (dgR L xs h22 20 [15] o0).bind fun p24 =>
      (daI L xs h22 p24 i3).bind fun x26 =>
      ((dcV L xs D 396 [15] o0 [.int i1, .int x26, .long y1.1] h22).bind dxV).bind fun h28 =>
      drI (some .int) 0 h28
    else
      drI (some .int) 3 y1.2
  else
    drI (some .int) 1 y1.2
theorem c392_0 {L : Nat} {xs : Nat → Int32} {zf : Value} {D : dD} {w k : Nat} (hD : dO L xs zf D k) (hz : zf.category = 1) : ∀ (o0 : Option Nat) (i1 : Int32) (i2 : Int32) (i3 : Int32) (lv : rm_L) (h : rm_H) (r : dR), rm_get lv 0 = some (va_rf o0) → rm_get lv 1 = some (.int i1) → rm_get lv 2 = some (.int i2) → rm_get lv 3 = some (.int i3) → b392_0 L xs zf D w  o0 i1 i2 i3 h = some r → dq L xs zf ah_M392 0 lv [] h (k + 1) r := by
  intro o0 i1 i2 i3 lv h r G0 G1 G2 G3 hh
  unfold b392_0 at hh
  refine dq_aln 0 1 (by decide +kernel) rfl G0 ?_
  refine dq_iln 1 2 (by decide +kernel) rfl G1 ?_
  obtain ⟨y1, q2, hh⟩ := db hh
  obtain ⟨a3, q4, q2⟩ := db q2
  rw [dq_xJ q2] at q4
  refine dq_cvi hD 663 390 5 1 [15] o0 [.int i1] [] 5 [.long y1.1] (by decide +kernel) ap_390 ⟨⟨Nat.le_of_ble_eq_true rfl, by decide⟩, rfl, rfl⟩ (dq_ok8 [1, 1] [] (dc_r (dc_i dc_n)) dc_n (by decide +kernel)) (by decide +kernel) rfl q4 rfl ?_
  refine dq_ls 4 7 (by decide +kernel) (by decide +kernel) ?_
  have g5 := dg_ne2 (i := 4) (u := .long y1.1) (by decide) (by decide) (Or.inl (by decide)) G0
  have g6 := dg_ne2 (i := 4) (u := .long y1.1) (by decide) (by decide) (Or.inl (by decide)) G1
  have g7 := dg_ne2 (i := 4) (u := .long y1.1) (by decide) (by decide) (Or.inl (by decide)) G2
  have g8 := dg_ne2 (i := 4) (u := .long y1.1) (by decide) (by decide) (Or.inr rfl) G3
  have g9 := dg_eq2 (lv) 4 (.long y1.1)
  refine dq_ll 4 9 (by decide +kernel) rfl g9 ?_
  refine dq_S (.lconst 0) 1 [] 10 _ [.long 0, .long y1.1] (by decide +kernel) rfl ?_
  refine dq_S (.lcmp) 1 [] 11 _ [.int (lg_cmp y1.1 0)] (by decide +kernel) rfl ?_
  rcases di hh with ⟨q10, hh⟩ | ⟨q10, hh⟩
  · refine dq_1 .ne 5 true 16 q10 (by decide +kernel) ?_
    refine dq_aln 0 17 (by decide +kernel) rfl g5 ?_
    obtain ⟨p11, q12, hh⟩ := db hh
    refine dq_gR 184 91 [15] 20 (by decide +kernel) rfl q12 ?_
    refine dq_iln 1 21 (by decide +kernel) rfl g6 ?_
    obtain ⟨x13, q14, hh⟩ := db hh
    refine dq_aI 22 (by decide +kernel) rfl q14 ?_
    refine dq_S (.bipush 10) 2 [] 24 _ [.int 10, .int x13] (by decide +kernel) rfl ?_
    rcases di hh with ⟨q15, hh⟩ | ⟨q15, hh⟩
    · refine dq_2 .ne 5 true 29 q15 (by decide +kernel) ?_
      refine dq_aln 0 30 (by decide +kernel) rfl g5 ?_
      obtain ⟨p16, q17, hh⟩ := db hh
      refine dq_gR 206 98 [15] 33 (by decide +kernel) rfl q17 ?_
      refine dq_iln 2 34 (by decide +kernel) rfl g7 ?_
      refine dq_aln 0 35 (by decide +kernel) rfl g5 ?_
      refine dq_iln 3 36 (by decide +kernel) rfl g8 ?_
      obtain ⟨x18, q19, hh⟩ := db hh
      obtain ⟨a20, q21, q19⟩ := db q19
      rw [dq_xI q19] at q21
      refine dq_cvi hD 644 393 5 1 [15] o0 [.int i3] [.int i2, va_rf p16] 39 [.int x18.1, .int i2, va_rf p16] (by decide +kernel) ap_393 ⟨⟨Nat.le_of_ble_eq_true rfl, by decide⟩, rfl, rfl⟩ (dq_ok8 [1, 1] [1, 1] (dc_r (dc_i dc_n)) (dc_i (dc_r dc_n)) (by decide +kernel)) (by decide +kernel) rfl q21 rfl ?_
      obtain ⟨h22, q23, hh⟩ := db hh
      refine dq_sI 40 (by decide +kernel) rfl q23 ?_
      refine dq_aln 0 41 (by decide +kernel) rfl g5 ?_
      refine dq_iln 1 42 (by decide +kernel) rfl g6 ?_
      refine dq_aln 0 43 (by decide +kernel) rfl g5 ?_
      obtain ⟨p24, q25, hh⟩ := db hh
      refine dq_gR 63 20 [15] 46 (by decide +kernel) rfl q25 ?_
      refine dq_iln 3 47 (by decide +kernel) rfl g8 ?_
      obtain ⟨x26, q27, hh⟩ := db hh
      refine dq_aI 48 (by decide +kernel) rfl q27 ?_
      refine dq_ll 4 50 (by decide +kernel) rfl g9 ?_
      obtain ⟨h28, q29, hh⟩ := db hh
      obtain ⟨a30, q31, q29⟩ := db q29
      rw [dq_xV q29] at q31
      refine dq_cvi hD 687 396 5 3 [15] o0 [.int i1, .int x26, .long y1.1] [] 53 [] (by decide +kernel) ap_396 ⟨⟨Nat.le_of_ble_eq_true rfl, by decide⟩, rfl, rfl⟩ (dq_ok8 [1, 1, 1, 2] [] (dc_r (dc_i (dc_i (dc_j dc_n)))) dc_n (by decide +kernel)) (by decide +kernel) rfl q31 rfl ?_
      refine dq_S (.iconst 0) 1 [] 54 _ [.int 0] (by decide +kernel) rfl ?_
      exact dq_retI (some .int) (by decide +kernel) rfl hh
    · refine dq_2 .ne 5 false 27 q15 (by decide +kernel) ?_
      refine dq_S (.iconst 3) 1 [] 28 _ [.int 3] (by decide +kernel) rfl ?_
      exact dq_retI (some .int) (by decide +kernel) rfl hh
  · refine dq_1 .ne 5 false 14 q10 (by decide +kernel) ?_
    refine dq_S (.iconst 1) 1 [] 15 _ [.int 1] (by decide +kernel) rfl ?_
    exact dq_retI (some .int) (by decide +kernel) rfl hh
def f392 (L : Nat) (xs : Nat → Int32) (zf : Value) (D : dD) (w : Nat) (As : List Value) (h : rm_H) : Option dR := match As with
  | [v0, .int i1, .int i2, .int i3] => (rm_rf v0).bind fun o0 => b392_0 L xs zf D w o0 i1 i2 i3 h
  | _ => none
theorem d392 {L : Nat} {xs : Nat → Int32} {zf : Value} {D : dD} {w k : Nat} (hD : dO L xs zf D k) (hz : zf.category = 1) (As : List Value) (h : rm_H) (r : dR) (hh : f392 L xs zf D w As h = some r) : dq L xs zf ah_M392 0 (lv_args 0 As) [] h (k + 1) r := by
  unfold f392 at hh
  split at hh
  · obtain ⟨o0, e0, hb0⟩ := db hh
    have e0 := rm_rf_v _ _ e0
    subst e0
    refine c392_0 hD hz _ _ _ _ _ _ _ ?_ ?_ ?_ ?_ hb0
    all_goals (simp only [la_r, la_i, la_j]; rfl)
  · cases hh
def b393_159 (L : Nat) (xs : Nat → Int32) (zf : Value) (D : dD) (w : Nat) (s0 : Int32) (h : rm_H) : Option dR :=
  drI (some .int) s0 h
theorem c393_159 {L : Nat} {xs : Nat → Int32} {zf : Value} {D : dD} {w k : Nat} (hD : dO L xs zf D k) (hz : zf.category = 1) : ∀ (s0 : Int32) (lv : rm_L) (h : rm_H) (r : dR), b393_159 L xs zf D w  s0 h = some r → dq L xs zf ah_M393 159 lv [.int s0] h (k + 1) r := by
  intro s0 lv h r hh
  unfold b393_159 at hh
  exact dq_retI (some .int) (by decide +kernel) rfl hh
def b393_125 (L : Nat) (xs : Nat → Int32) (zf : Value) (D : dD) (w : Nat) (o0 : Option Nat) (i2 : Int32) (i3 : Int32) (s0 : Int32) (h : rm_H) : Option dR :=
  if mx_f2 .eq s0 i3 = true then
    ((dcV L xs D 395 [15] o0 [.int i3, .int i2] h).bind dxI).bind fun x6 =>
    if mx_f1 .ne x6.1 = true then
      ((dcV L xs D 386 [15] o0 [.int x6.1] x6.2).bind dxI).bind fun x16 =>
      b393_159 L xs zf D w x16.1 x16.2
    else
      b393_159 L xs zf D w i3 x6.2
  else
    drI (some .int) s0 h
theorem c393_125 {L : Nat} {xs : Nat → Int32} {zf : Value} {D : dD} {w k : Nat} (hD : dO L xs zf D k) (hz : zf.category = 1) : ∀ (o0 : Option Nat) (i2 : Int32) (i3 : Int32) (s0 : Int32) (lv : rm_L) (h : rm_H) (r : dR), rm_get lv 0 = some (va_rf o0) → rm_get lv 2 = some (.int i2) → rm_get lv 3 = some (.int i3) → b393_125 L xs zf D w  o0 i2 i3 s0 h = some r → dq L xs zf ah_M393 125 lv [.int s0] h (k + 1) r := by
  intro o0 i2 i3 s0 lv h r G0 G2 G3 hh
  unfold b393_125 at hh
  refine dq_is 4 127 (by decide +kernel) (by decide +kernel) ?_
  have g1 := dg_ne (i := 4) (u := .int s0) (by decide) (Or.inl (by decide)) G0
  have g2 := dg_ne (i := 4) (u := .int s0) (by decide) (Or.inl (by decide)) G2
  have g3 := dg_ne (i := 4) (u := .int s0) (by decide) (Or.inr rfl) G3
  have g4 := dg_eq (lv) 4 (.int s0)
  refine dq_il 4 129 (by decide +kernel) rfl g4 ?_
  refine dq_iln 3 130 (by decide +kernel) rfl g3 ?_
  rcases di hh with ⟨q5, hh⟩ | ⟨q5, hh⟩
  · refine dq_2 .eq 6 true 136 q5 (by decide +kernel) ?_
    refine dq_aln 0 137 (by decide +kernel) rfl g1 ?_
    refine dq_iln 3 138 (by decide +kernel) rfl g3 ?_
    refine dq_iln 2 139 (by decide +kernel) rfl g2 ?_
    obtain ⟨x6, q7, hh⟩ := db hh
    obtain ⟨a8, q9, q7⟩ := db q7
    rw [dq_xI q7] at q9
    refine dq_cvi hD 641 395 5 2 [15] o0 [.int i3, .int i2] [] 142 [.int x6.1] (by decide +kernel) ap_395 ⟨⟨Nat.le_of_ble_eq_true rfl, by decide⟩, rfl, rfl⟩ (dq_ok8 [1, 1, 1] [] (dc_r (dc_i (dc_i dc_n))) dc_n (by decide +kernel)) (by decide +kernel) rfl q9 rfl ?_
    refine dq_is 5 144 (by decide +kernel) (by decide +kernel) ?_
    have g10 := dg_ne (i := 5) (u := .int x6.1) (by decide) (Or.inl (by decide)) g1
    have g11 := dg_ne (i := 5) (u := .int x6.1) (by decide) (Or.inl (by decide)) g2
    have g12 := dg_ne (i := 5) (u := .int x6.1) (by decide) (Or.inl (by decide)) g3
    have g13 := dg_ne (i := 5) (u := .int x6.1) (by decide) (Or.inr rfl) g4
    have g14 := dg_eq (rm_set1 (lv) 4 (.int s0)) 5 (.int x6.1)
    refine dq_il 5 146 (by decide +kernel) rfl g14 ?_
    rcases di hh with ⟨q15, hh⟩ | ⟨q15, hh⟩
    · refine dq_1 .ne 7 true 153 q15 (by decide +kernel) ?_
      refine dq_aln 0 154 (by decide +kernel) rfl g10 ?_
      refine dq_il 5 156 (by decide +kernel) rfl g14 ?_
      obtain ⟨x16, q17, hh⟩ := db hh
      obtain ⟨a18, q19, q17⟩ := db q17
      rw [dq_xI q17] at q19
      refine dq_cvi hD 632 386 5 1 [15] o0 [.int x6.1] [] 159 [.int x16.1] (by decide +kernel) ap_386 ⟨⟨Nat.le_of_ble_eq_true rfl, by decide⟩, rfl, rfl⟩ (dq_ok8 [1, 1] [] (dc_r (dc_i dc_n)) dc_n (by decide +kernel)) (by decide +kernel) rfl q19 rfl ?_
      exact c393_159 hD hz _ _ _ _  hh
    · refine dq_1 .ne 7 false 149 q15 (by decide +kernel) ?_
      refine dq_iln 3 150 (by decide +kernel) rfl g12 ?_
      refine dq_S (.goto 9) 3 [] 159 _ [.int i3] (by decide +kernel) rfl ?_
      exact c393_159 hD hz _ _ _ _  hh
  · refine dq_2 .eq 6 false 133 q5 (by decide +kernel) ?_
    refine dq_il 4 135 (by decide +kernel) rfl g4 ?_
    exact dq_retI (some .int) (by decide +kernel) rfl hh
def b393_124 (L : Nat) (xs : Nat → Int32) (zf : Value) (D : dD) (w : Nat) (o0 : Option Nat) (i2 : Int32) (i3 : Int32) (h : rm_H) : Option dR :=
  b393_125 L xs zf D w o0 i2 i3 i3 h
theorem c393_124 {L : Nat} {xs : Nat → Int32} {zf : Value} {D : dD} {w k : Nat} (hD : dO L xs zf D k) (hz : zf.category = 1) : ∀ (o0 : Option Nat) (i2 : Int32) (i3 : Int32) (lv : rm_L) (h : rm_H) (r : dR), rm_get lv 0 = some (va_rf o0) → rm_get lv 2 = some (.int i2) → rm_get lv 3 = some (.int i3) → b393_124 L xs zf D w  o0 i2 i3 h = some r → dq L xs zf ah_M393 124 lv [] h (k + 1) r := by
  intro o0 i2 i3 lv h r G0 G2 G3 hh
  unfold b393_124 at hh
  refine dq_iln 3 125 (by decide +kernel) rfl G3 ?_
  exact c393_125 hD hz _ _ _ _ _ _ _ G0 G2 G3 hh
def b393_160 (L : Nat) (xs : Nat → Int32) (zf : Value) (D : dD) (w : Nat) (K2 : Option Nat → Int32 → rm_H → Option dR) (o0 : Option Nat) (i2 : Int32) (h : rm_H) : Option dR :=
  K2 o0 i2 h
theorem c393_160 {L : Nat} {xs : Nat → Int32} {zf : Value} {D : dD} {w k : Nat} {K2 : Option Nat → Int32 → rm_H → Option dR} (hD : dO L xs zf D k) (hz : zf.category = 1) (hK2 : ∀ (o0 : Option Nat) (i2 : Int32) (lv : rm_L) (h : rm_H) (r : dR), rm_get lv 0 = some (va_rf o0) → rm_get lv 2 = some (.int i2) → K2 o0 i2 h = some r → dq L xs zf ah_M393 2 lv [] h (k + 1) r) : ∀ (o0 : Option Nat) (i2 : Int32) (lv : rm_L) (h : rm_H) (r : dR), rm_get lv 0 = some (va_rf o0) → rm_get lv 2 = some (.int i2) → b393_160 L xs zf D w K2  o0 i2 h = some r → dq L xs zf ah_M393 160 lv [] h (k + 1) r := by
  intro o0 i2 lv h r G0 G2 hh
  unfold b393_160 at hh
  refine dq_S (.goto (-158)) 3 [] 2 _ [] (by decide +kernel) rfl ?_
  exact hK2 _ _ _ _ _ G0 G2 hh
def b393_2 (L : Nat) (xs : Nat → Int32) (zf : Value) (D : dD) (w : Nat) : Nat → Option Nat → Int32 → rm_H → Option dR
  | 0, _, _, _ => none
  | n + 1, o0, i2, h =>
    (dgR L xs h 16 [15] o0).bind fun p1 =>
    (daI L xs h p1 i2).bind fun x3 =>
    (dgR L xs h 11 [15] o0).bind fun p8 =>
    (daI L xs h p8 i2).bind fun x10 =>
    if mx_f2 .ne x10 30 = true then
      (dgR L xs h 11 [15] o0).bind fun p13 =>
      (daI L xs h p13 x3).bind fun x15 =>
      if mx_f2 .ne x15 30 = true then
        (dgR L xs h 11 [15] o0).bind fun p18 =>
        (daI L xs h p18 x3).bind fun x20 =>
        if mx_f2 .ne x20 10 = true then
          b393_124 L xs zf D w o0 i2 x3 h
        else
          ((dcV L xs D 394 [15] o0 [.int x3] h).bind dxI).bind fun x23 =>
          if mx_f1 .eq x23.1 = true then
            b393_124 L xs zf D w o0 i2 x3 x23.2
          else
            (dgR L xs x23.2 16 [15] o0).bind fun p28 =>
            (daI L xs x23.2 p28 x3).bind fun x30 =>
            b393_125 L xs zf D w o0 i2 x3 x30 x23.2
      else
        (dgR L xs h 15 [15] o0).bind fun p32 =>
        (daI L xs h p32 i2).bind fun x34 =>
        if mx_f1 .eq x34 = true then
          b393_160 L xs zf D w (b393_2 L xs zf D w n) o0 x3 h
        else
          (dgR L xs h 15 [15] o0).bind fun p40 =>
          (daI L xs h p40 i2).bind fun x42 =>
          ((dcV L xs D 386 [15] o0 [.int x42] h).bind dxI).bind fun x44 =>
          drI (some .int) x44.1 x44.2
    else
      (dgR L xs h 11 [15] o0).bind fun p48 =>
      (daI L xs h p48 x3).bind fun x50 =>
      if mx_f2 .ne x50 31 = true then
        (dgR L xs h 11 [15] o0).bind fun p53 =>
        (daI L xs h p53 x3).bind fun x55 =>
        if mx_f2 .ne x55 22 = true then
          b393_160 L xs zf D w (b393_2 L xs zf D w n) o0 x3 h
        else
          (dgR L xs h 12 [15] o0).bind fun p61 =>
          (daI L xs h p61 x3).bind fun x63 =>
          ((dcV L xs D 386 [15] o0 [.int x63] h).bind dxI).bind fun x65 =>
          drI (some .int) x65.1 x65.2
      else
        drI (some .int) x3 h
theorem c393_2 {L : Nat} {xs : Nat → Int32} {zf : Value} {D : dD} {w k : Nat} (hD : dO L xs zf D k) (hz : zf.category = 1) : ∀ (n : Nat) (o0 : Option Nat) (i2 : Int32) (lv : rm_L) (h : rm_H) (r : dR), rm_get lv 0 = some (va_rf o0) → rm_get lv 2 = some (.int i2) → b393_2 L xs zf D w n  o0 i2 h = some r → dq L xs zf ah_M393 2 lv [] h (k + 1) r := by
  intro n
  induction n with
  | zero =>
    intro o0 i2 lv h r G0 G2 hh
    cases hh
  | succ n ih =>
    intro o0 i2 lv h r G0 G2 hh
    rw [b393_2] at hh
    refine dq_aln 0 3 (by decide +kernel) rfl G0 ?_
    obtain ⟨p1, q2, hh⟩ := db hh
    refine dq_gR 51 16 [15] 6 (by decide +kernel) rfl q2 ?_
    refine dq_iln 2 7 (by decide +kernel) rfl G2 ?_
    obtain ⟨x3, q4, hh⟩ := db hh
    refine dq_aI 8 (by decide +kernel) rfl q4 ?_
    refine dq_isn 3 9 (by decide +kernel) (by decide +kernel) ?_
    have g5 := dg_ne (i := 3) (u := .int x3) (by decide) (Or.inl (by decide)) G0
    have g6 := dg_ne (i := 3) (u := .int x3) (by decide) (Or.inr rfl) G2
    have g7 := dg_eq (lv) 3 (.int x3)
    refine dq_aln 0 10 (by decide +kernel) rfl g5 ?_
    obtain ⟨p8, q9, hh⟩ := db hh
    refine dq_gR 36 11 [15] 13 (by decide +kernel) rfl q9 ?_
    refine dq_iln 2 14 (by decide +kernel) rfl g6 ?_
    obtain ⟨x10, q11, hh⟩ := db hh
    refine dq_aI 15 (by decide +kernel) rfl q11 ?_
    refine dq_S (.bipush 30) 2 [] 17 _ [.int 30, .int x10] (by decide +kernel) rfl ?_
    rcases di hh with ⟨q12, hh⟩ | ⟨q12, hh⟩
    · refine dq_2 .ne 43 true 60 q12 (by decide +kernel) ?_
      refine dq_aln 0 61 (by decide +kernel) rfl g5 ?_
      obtain ⟨p13, q14, hh⟩ := db hh
      refine dq_gR 36 11 [15] 64 (by decide +kernel) rfl q14 ?_
      refine dq_iln 3 65 (by decide +kernel) rfl g7 ?_
      obtain ⟨x15, q16, hh⟩ := db hh
      refine dq_aI 66 (by decide +kernel) rfl q16 ?_
      refine dq_S (.bipush 30) 2 [] 68 _ [.int 30, .int x15] (by decide +kernel) rfl ?_
      rcases di hh with ⟨q17, hh⟩ | ⟨q17, hh⟩
      · refine dq_2 .ne 28 true 96 q17 (by decide +kernel) ?_
        refine dq_aln 0 97 (by decide +kernel) rfl g5 ?_
        obtain ⟨p18, q19, hh⟩ := db hh
        refine dq_gR 36 11 [15] 100 (by decide +kernel) rfl q19 ?_
        refine dq_iln 3 101 (by decide +kernel) rfl g7 ?_
        obtain ⟨x20, q21, hh⟩ := db hh
        refine dq_aI 102 (by decide +kernel) rfl q21 ?_
        refine dq_S (.bipush 10) 2 [] 104 _ [.int 10, .int x20] (by decide +kernel) rfl ?_
        rcases di hh with ⟨q22, hh⟩ | ⟨q22, hh⟩
        · refine dq_2 .ne 20 true 124 q22 (by decide +kernel) ?_
          exact c393_124 hD hz _ _ _ _ _ _ g5 g6 g7 hh
        · refine dq_2 .ne 20 false 107 q22 (by decide +kernel) ?_
          refine dq_aln 0 108 (by decide +kernel) rfl g5 ?_
          refine dq_iln 3 109 (by decide +kernel) rfl g7 ?_
          obtain ⟨x23, q24, hh⟩ := db hh
          obtain ⟨a25, q26, q24⟩ := db q24
          rw [dq_xI q24] at q26
          refine dq_cvi hD 638 394 5 1 [15] o0 [.int x3] [] 112 [.int x23.1] (by decide +kernel) ap_394 ⟨⟨Nat.le_of_ble_eq_true rfl, by decide⟩, rfl, rfl⟩ (dq_ok8 [1, 1] [] (dc_r (dc_i dc_n)) dc_n (by decide +kernel)) (by decide +kernel) rfl q26 rfl ?_
          rcases di hh with ⟨q27, hh⟩ | ⟨q27, hh⟩
          · refine dq_1 .eq 12 true 124 q27 (by decide +kernel) ?_
            exact c393_124 hD hz _ _ _ _ _ _ g5 g6 g7 hh
          · refine dq_1 .eq 12 false 115 q27 (by decide +kernel) ?_
            refine dq_aln 0 116 (by decide +kernel) rfl g5 ?_
            obtain ⟨p28, q29, hh⟩ := db hh
            refine dq_gR 51 16 [15] 119 (by decide +kernel) rfl q29 ?_
            refine dq_iln 3 120 (by decide +kernel) rfl g7 ?_
            obtain ⟨x30, q31, hh⟩ := db hh
            refine dq_aI 121 (by decide +kernel) rfl q31 ?_
            refine dq_S (.goto 4) 3 [] 125 _ [.int x30] (by decide +kernel) rfl ?_
            exact c393_125 hD hz _ _ _ _ _ _ _ g5 g6 g7 hh
      · refine dq_2 .ne 28 false 71 q17 (by decide +kernel) ?_
        refine dq_aln 0 72 (by decide +kernel) rfl g5 ?_
        obtain ⟨p32, q33, hh⟩ := db hh
        refine dq_gR 48 15 [15] 75 (by decide +kernel) rfl q33 ?_
        refine dq_iln 2 76 (by decide +kernel) rfl g6 ?_
        obtain ⟨x34, q35, hh⟩ := db hh
        refine dq_aI 77 (by decide +kernel) rfl q35 ?_
        rcases di hh with ⟨q36, hh⟩ | ⟨q36, hh⟩
        · refine dq_1 .eq 14 true 91 q36 (by decide +kernel) ?_
          refine dq_iln 3 92 (by decide +kernel) rfl g7 ?_
          refine dq_isn 2 93 (by decide +kernel) (by decide +kernel) ?_
          have g37 := dg_ne (i := 2) (u := .int x3) (by decide) (Or.inl (by decide)) g5
          have g38 := dg_ne (i := 2) (u := .int x3) (by decide) (Or.inl (by decide)) g7
          have g39 := dg_eq (rm_set1 (lv) 3 (.int x3)) 2 (.int x3)
          refine dq_S (.goto 67) 3 [] 160 _ [] (by decide +kernel) rfl ?_
          exact c393_160 hD hz ih _ _ _ _ _ g37 g39 hh
        · refine dq_1 .eq 14 false 80 q36 (by decide +kernel) ?_
          refine dq_aln 0 81 (by decide +kernel) rfl g5 ?_
          refine dq_aln 0 82 (by decide +kernel) rfl g5 ?_
          obtain ⟨p40, q41, hh⟩ := db hh
          refine dq_gR 48 15 [15] 85 (by decide +kernel) rfl q41 ?_
          refine dq_iln 2 86 (by decide +kernel) rfl g6 ?_
          obtain ⟨x42, q43, hh⟩ := db hh
          refine dq_aI 87 (by decide +kernel) rfl q43 ?_
          obtain ⟨x44, q45, hh⟩ := db hh
          obtain ⟨a46, q47, q45⟩ := db q45
          rw [dq_xI q45] at q47
          refine dq_cvi hD 632 386 5 1 [15] o0 [.int x42] [] 90 [.int x44.1] (by decide +kernel) ap_386 ⟨⟨Nat.le_of_ble_eq_true rfl, by decide⟩, rfl, rfl⟩ (dq_ok8 [1, 1] [] (dc_r (dc_i dc_n)) dc_n (by decide +kernel)) (by decide +kernel) rfl q47 rfl ?_
          exact dq_retI (some .int) (by decide +kernel) rfl hh
    · refine dq_2 .ne 43 false 20 q12 (by decide +kernel) ?_
      refine dq_aln 0 21 (by decide +kernel) rfl g5 ?_
      obtain ⟨p48, q49, hh⟩ := db hh
      refine dq_gR 36 11 [15] 24 (by decide +kernel) rfl q49 ?_
      refine dq_iln 3 25 (by decide +kernel) rfl g7 ?_
      obtain ⟨x50, q51, hh⟩ := db hh
      refine dq_aI 26 (by decide +kernel) rfl q51 ?_
      refine dq_S (.bipush 31) 2 [] 28 _ [.int 31, .int x50] (by decide +kernel) rfl ?_
      rcases di hh with ⟨q52, hh⟩ | ⟨q52, hh⟩
      · refine dq_2 .ne 5 true 33 q52 (by decide +kernel) ?_
        refine dq_aln 0 34 (by decide +kernel) rfl g5 ?_
        obtain ⟨p53, q54, hh⟩ := db hh
        refine dq_gR 36 11 [15] 37 (by decide +kernel) rfl q54 ?_
        refine dq_iln 3 38 (by decide +kernel) rfl g7 ?_
        obtain ⟨x55, q56, hh⟩ := db hh
        refine dq_aI 39 (by decide +kernel) rfl q56 ?_
        refine dq_S (.bipush 22) 2 [] 41 _ [.int 22, .int x55] (by decide +kernel) rfl ?_
        rcases di hh with ⟨q57, hh⟩ | ⟨q57, hh⟩
        · refine dq_2 .ne 14 true 55 q57 (by decide +kernel) ?_
          refine dq_iln 3 56 (by decide +kernel) rfl g7 ?_
          refine dq_isn 2 57 (by decide +kernel) (by decide +kernel) ?_
          have g58 := dg_ne (i := 2) (u := .int x3) (by decide) (Or.inl (by decide)) g5
          have g59 := dg_ne (i := 2) (u := .int x3) (by decide) (Or.inl (by decide)) g7
          have g60 := dg_eq (rm_set1 (lv) 3 (.int x3)) 2 (.int x3)
          refine dq_S (.goto 103) 3 [] 160 _ [] (by decide +kernel) rfl ?_
          exact c393_160 hD hz ih _ _ _ _ _ g58 g60 hh
        · refine dq_2 .ne 14 false 44 q57 (by decide +kernel) ?_
          refine dq_aln 0 45 (by decide +kernel) rfl g5 ?_
          refine dq_aln 0 46 (by decide +kernel) rfl g5 ?_
          obtain ⟨p61, q62, hh⟩ := db hh
          refine dq_gR 39 12 [15] 49 (by decide +kernel) rfl q62 ?_
          refine dq_iln 3 50 (by decide +kernel) rfl g7 ?_
          obtain ⟨x63, q64, hh⟩ := db hh
          refine dq_aI 51 (by decide +kernel) rfl q64 ?_
          obtain ⟨x65, q66, hh⟩ := db hh
          obtain ⟨a67, q68, q66⟩ := db q66
          rw [dq_xI q66] at q68
          refine dq_cvi hD 632 386 5 1 [15] o0 [.int x63] [] 54 [.int x65.1] (by decide +kernel) ap_386 ⟨⟨Nat.le_of_ble_eq_true rfl, by decide⟩, rfl, rfl⟩ (dq_ok8 [1, 1] [] (dc_r (dc_i dc_n)) dc_n (by decide +kernel)) (by decide +kernel) rfl q68 rfl ?_
          exact dq_retI (some .int) (by decide +kernel) rfl hh
      · refine dq_2 .ne 5 false 31 q52 (by decide +kernel) ?_
        refine dq_iln 3 32 (by decide +kernel) rfl g7 ?_
        exact dq_retI (some .int) (by decide +kernel) rfl hh
def b393_0 (L : Nat) (xs : Nat → Int32) (zf : Value) (D : dD) (w : Nat) (o0 : Option Nat) (i1 : Int32) (h : rm_H) : Option dR :=
  b393_2 L xs zf D w w o0 i1 h
theorem c393_0 {L : Nat} {xs : Nat → Int32} {zf : Value} {D : dD} {w k : Nat} (hD : dO L xs zf D k) (hz : zf.category = 1) : ∀ (o0 : Option Nat) (i1 : Int32) (lv : rm_L) (h : rm_H) (r : dR), rm_get lv 0 = some (va_rf o0) → rm_get lv 1 = some (.int i1) → b393_0 L xs zf D w  o0 i1 h = some r → dq L xs zf ah_M393 0 lv [] h (k + 1) r := by
  intro o0 i1 lv h r G0 G1 hh
  unfold b393_0 at hh
  refine dq_iln 1 1 (by decide +kernel) rfl G1 ?_
  refine dq_isn 2 2 (by decide +kernel) (by decide +kernel) ?_
  have g1 := dg_ne (i := 2) (u := .int i1) (by decide) (Or.inl (by decide)) G0
  have g2 := dg_ne (i := 2) (u := .int i1) (by decide) (Or.inr rfl) G1
  have g3 := dg_eq (lv) 2 (.int i1)
  exact c393_2 hD hz _ _ _ _ _ _ g1 g3 hh
def f393 (L : Nat) (xs : Nat → Int32) (zf : Value) (D : dD) (w : Nat) (As : List Value) (h : rm_H) : Option dR := match As with
  | [v0, .int i1] => (rm_rf v0).bind fun o0 => b393_0 L xs zf D w o0 i1 h
  | _ => none
theorem d393 {L : Nat} {xs : Nat → Int32} {zf : Value} {D : dD} {w k : Nat} (hD : dO L xs zf D k) (hz : zf.category = 1) (As : List Value) (h : rm_H) (r : dR) (hh : f393 L xs zf D w As h = some r) : dq L xs zf ah_M393 0 (lv_args 0 As) [] h (k + 1) r := by
  unfold f393 at hh
  split at hh
  · obtain ⟨o0, e0, hb0⟩ := db hh
    have e0 := rm_rf_v _ _ e0
    subst e0
    refine c393_0 hD hz _ _ _ _ _ ?_ ?_ hb0
    all_goals (simp only [la_r, la_i, la_j]; rfl)
  · cases hh
def b394_44 (L : Nat) (xs : Nat → Int32) (zf : Value) (D : dD) (w : Nat) (s0 : Int32) (h : rm_H) : Option dR :=
  drI (some .boolean) s0 h
theorem c394_44 {L : Nat} {xs : Nat → Int32} {zf : Value} {D : dD} {w k : Nat} (hD : dO L xs zf D k) (hz : zf.category = 1) : ∀ (s0 : Int32) (lv : rm_L) (h : rm_H) (r : dR), b394_44 L xs zf D w  s0 h = some r → dq L xs zf ah_M394 44 lv [.int s0] h (k + 1) r := by
  intro s0 lv h r hh
  unfold b394_44 at hh
  exact dq_retI (some .boolean) (by decide +kernel) rfl hh
def b394_43 (L : Nat) (xs : Nat → Int32) (zf : Value) (D : dD) (w : Nat) (h : rm_H) : Option dR :=
  b394_44 L xs zf D w 0 h
theorem c394_43 {L : Nat} {xs : Nat → Int32} {zf : Value} {D : dD} {w k : Nat} (hD : dO L xs zf D k) (hz : zf.category = 1) : ∀ (lv : rm_L) (h : rm_H) (r : dR), b394_43 L xs zf D w  h = some r → dq L xs zf ah_M394 43 lv [] h (k + 1) r := by
  intro lv h r hh
  unfold b394_43 at hh
  refine dq_S (.iconst 0) 1 [] 44 _ [.int 0] (by decide +kernel) rfl ?_
  exact c394_44 hD hz _ _ _ _  hh
def b394_29 (L : Nat) (xs : Nat → Int32) (zf : Value) (D : dD) (w : Nat) (o0 : Option Nat) (i1 : Int32) (i2 : Int32) (h : rm_H) : Option dR :=
  (dgR L xs h 12 [15] o0).bind fun p1 =>
  (daI L xs h p1 i2).bind fun x3 =>
  if mx_f2 .ne x3 i1 = true then
    b394_43 L xs zf D w h
  else
    b394_44 L xs zf D w 1 h
theorem c394_29 {L : Nat} {xs : Nat → Int32} {zf : Value} {D : dD} {w k : Nat} (hD : dO L xs zf D k) (hz : zf.category = 1) : ∀ (o0 : Option Nat) (i1 : Int32) (i2 : Int32) (lv : rm_L) (h : rm_H) (r : dR), rm_get lv 0 = some (va_rf o0) → rm_get lv 1 = some (.int i1) → rm_get lv 2 = some (.int i2) → b394_29 L xs zf D w  o0 i1 i2 h = some r → dq L xs zf ah_M394 29 lv [] h (k + 1) r := by
  intro o0 i1 i2 lv h r G0 G1 G2 hh
  unfold b394_29 at hh
  refine dq_aln 0 30 (by decide +kernel) rfl G0 ?_
  obtain ⟨p1, q2, hh⟩ := db hh
  refine dq_gR 39 12 [15] 33 (by decide +kernel) rfl q2 ?_
  refine dq_iln 2 34 (by decide +kernel) rfl G2 ?_
  obtain ⟨x3, q4, hh⟩ := db hh
  refine dq_aI 35 (by decide +kernel) rfl q4 ?_
  refine dq_iln 1 36 (by decide +kernel) rfl G1 ?_
  rcases di hh with ⟨q5, hh⟩ | ⟨q5, hh⟩
  · refine dq_2 .ne 7 true 43 q5 (by decide +kernel) ?_
    exact c394_43 hD hz  _ _ _  hh
  · refine dq_2 .ne 7 false 39 q5 (by decide +kernel) ?_
    refine dq_S (.iconst 1) 1 [] 40 _ [.int 1] (by decide +kernel) rfl ?_
    refine dq_S (.goto 4) 3 [] 44 _ [.int 1] (by decide +kernel) rfl ?_
    exact c394_44 hD hz _ _ _ _  hh
def b394_0 (L : Nat) (xs : Nat → Int32) (zf : Value) (D : dD) (w : Nat) (o0 : Option Nat) (i1 : Int32) (h : rm_H) : Option dR :=
  (dgR L xs h 16 [15] o0).bind fun p1 =>
  (daI L xs h p1 i1).bind fun x3 =>
  (dgR L xs h 11 [15] o0).bind fun p8 =>
  (daI L xs h p8 x3).bind fun x10 =>
  if mx_f2 .eq x10 26 = true then
    b394_29 L xs zf D w o0 i1 x3 h
  else
    (dgR L xs h 11 [15] o0).bind fun p13 =>
    (daI L xs h p13 x3).bind fun x15 =>
    if mx_f2 .ne x15 7 = true then
      b394_43 L xs zf D w h
    else
      b394_29 L xs zf D w o0 i1 x3 h
theorem c394_0 {L : Nat} {xs : Nat → Int32} {zf : Value} {D : dD} {w k : Nat} (hD : dO L xs zf D k) (hz : zf.category = 1) : ∀ (o0 : Option Nat) (i1 : Int32) (lv : rm_L) (h : rm_H) (r : dR), rm_get lv 0 = some (va_rf o0) → rm_get lv 1 = some (.int i1) → b394_0 L xs zf D w  o0 i1 h = some r → dq L xs zf ah_M394 0 lv [] h (k + 1) r := by
  intro o0 i1 lv h r G0 G1 hh
  unfold b394_0 at hh
  refine dq_aln 0 1 (by decide +kernel) rfl G0 ?_
  obtain ⟨p1, q2, hh⟩ := db hh
  refine dq_gR 51 16 [15] 4 (by decide +kernel) rfl q2 ?_
  refine dq_iln 1 5 (by decide +kernel) rfl G1 ?_
  obtain ⟨x3, q4, hh⟩ := db hh
  refine dq_aI 6 (by decide +kernel) rfl q4 ?_
  refine dq_isn 2 7 (by decide +kernel) (by decide +kernel) ?_
  have g5 := dg_ne (i := 2) (u := .int x3) (by decide) (Or.inl (by decide)) G0
  have g6 := dg_ne (i := 2) (u := .int x3) (by decide) (Or.inr rfl) G1
  have g7 := dg_eq (lv) 2 (.int x3)
  refine dq_aln 0 8 (by decide +kernel) rfl g5 ?_
  obtain ⟨p8, q9, hh⟩ := db hh
  refine dq_gR 36 11 [15] 11 (by decide +kernel) rfl q9 ?_
  refine dq_iln 2 12 (by decide +kernel) rfl g7 ?_
  obtain ⟨x10, q11, hh⟩ := db hh
  refine dq_aI 13 (by decide +kernel) rfl q11 ?_
  refine dq_S (.bipush 26) 2 [] 15 _ [.int 26, .int x10] (by decide +kernel) rfl ?_
  rcases di hh with ⟨q12, hh⟩ | ⟨q12, hh⟩
  · refine dq_2 .eq 14 true 29 q12 (by decide +kernel) ?_
    exact c394_29 hD hz _ _ _ _ _ _ g5 g6 g7 hh
  · refine dq_2 .eq 14 false 18 q12 (by decide +kernel) ?_
    refine dq_aln 0 19 (by decide +kernel) rfl g5 ?_
    obtain ⟨p13, q14, hh⟩ := db hh
    refine dq_gR 36 11 [15] 22 (by decide +kernel) rfl q14 ?_
    refine dq_iln 2 23 (by decide +kernel) rfl g7 ?_
    obtain ⟨x15, q16, hh⟩ := db hh
    refine dq_aI 24 (by decide +kernel) rfl q16 ?_
    refine dq_S (.bipush 7) 2 [] 26 _ [.int 7, .int x15] (by decide +kernel) rfl ?_
    rcases di hh with ⟨q17, hh⟩ | ⟨q17, hh⟩
    · refine dq_2 .ne 17 true 43 q17 (by decide +kernel) ?_
      exact c394_43 hD hz  _ _ _  hh
    · refine dq_2 .ne 17 false 29 q17 (by decide +kernel) ?_
      exact c394_29 hD hz _ _ _ _ _ _ g5 g6 g7 hh
def f394 (L : Nat) (xs : Nat → Int32) (zf : Value) (D : dD) (w : Nat) (As : List Value) (h : rm_H) : Option dR := match As with
  | [v0, .int i1] => (rm_rf v0).bind fun o0 => b394_0 L xs zf D w o0 i1 h
  | _ => none
theorem d394 {L : Nat} {xs : Nat → Int32} {zf : Value} {D : dD} {w k : Nat} (hD : dO L xs zf D k) (hz : zf.category = 1) (As : List Value) (h : rm_H) (r : dR) (hh : f394 L xs zf D w As h = some r) : dq L xs zf ah_M394 0 (lv_args 0 As) [] h (k + 1) r := by
  unfold f394 at hh
  split at hh
  · obtain ⟨o0, e0, hb0⟩ := db hh
    have e0 := rm_rf_v _ _ e0
    subst e0
    refine c394_0 hD hz _ _ _ _ _ ?_ ?_ hb0
    all_goals (simp only [la_r, la_i, la_j]; rfl)
  · cases hh
def b395_33 (L : Nat) (xs : Nat → Int32) (zf : Value) (D : dD) (w : Nat) (s0 : Int32) (h : rm_H) : Option dR :=
  drI (some .int) s0 h
theorem c395_33 {L : Nat} {xs : Nat → Int32} {zf : Value} {D : dD} {w k : Nat} (hD : dO L xs zf D k) (hz : zf.category = 1) : ∀ (s0 : Int32) (lv : rm_L) (h : rm_H) (r : dR), b395_33 L xs zf D w  s0 h = some r → dq L xs zf ah_M395 33 lv [.int s0] h (k + 1) r := by
  intro s0 lv h r hh
  unfold b395_33 at hh
  exact dq_retI (some .int) (by decide +kernel) rfl hh
def b395_87 (L : Nat) (xs : Nat → Int32) (zf : Value) (D : dD) (w : Nat) (s0 : Int32) (h : rm_H) : Option dR :=
  drI (some .int) s0 h
theorem c395_87 {L : Nat} {xs : Nat → Int32} {zf : Value} {D : dD} {w k : Nat} (hD : dO L xs zf D k) (hz : zf.category = 1) : ∀ (s0 : Int32) (lv : rm_L) (h : rm_H) (r : dR), b395_87 L xs zf D w  s0 h = some r → dq L xs zf ah_M395 87 lv [.int s0] h (k + 1) r := by
  intro s0 lv h r hh
  unfold b395_87 at hh
  exact dq_retI (some .int) (by decide +kernel) rfl hh
def b395_86 (L : Nat) (xs : Nat → Int32) (zf : Value) (D : dD) (w : Nat) (h : rm_H) : Option dR :=
  b395_87 L xs zf D w 0 h
theorem c395_86 {L : Nat} {xs : Nat → Int32} {zf : Value} {D : dD} {w k : Nat} (hD : dO L xs zf D k) (hz : zf.category = 1) : ∀ (lv : rm_L) (h : rm_H) (r : dR), b395_86 L xs zf D w  h = some r → dq L xs zf ah_M395 86 lv [] h (k + 1) r := by
  intro lv h r hh
  unfold b395_86 at hh
  refine dq_S (.iconst 0) 1 [] 87 _ [.int 0] (by decide +kernel) rfl ?_
  exact c395_87 hD hz _ _ _ _  hh
def b395_46 (L : Nat) (xs : Nat → Int32) (zf : Value) (D : dD) (w : Nat) (o0 : Option Nat) (i1 : Int32) (i2 : Int32) (h : rm_H) : Option dR :=
  (dgR L xs h 13 [15] o0).bind fun p1 =>
  (daI L xs h p1 i1).bind fun x3 =>
  if mx_f2 .ne i2 x3 = true then
    b395_86 L xs zf D w h
  else
    (dgR L xs h 11 [15] o0).bind fun p6 =>
    (dgR L xs h 12 [15] o0).bind fun p8 =>
    (daI L xs h p8 i1).bind fun x10 =>
    (daI L xs h p6 x10).bind fun x12 =>
    if mx_f2 .ne x12 10 = true then
      b395_86 L xs zf D w h
    else
      (dgR L xs h 12 [15] o0).bind fun p15 =>
      (dgR L xs h 12 [15] o0).bind fun p17 =>
      (daI L xs h p17 i1).bind fun x19 =>
      (daI L xs h p15 x19).bind fun x21 =>
      b395_87 L xs zf D w x21 h
theorem c395_46 {L : Nat} {xs : Nat → Int32} {zf : Value} {D : dD} {w k : Nat} (hD : dO L xs zf D k) (hz : zf.category = 1) : ∀ (o0 : Option Nat) (i1 : Int32) (i2 : Int32) (lv : rm_L) (h : rm_H) (r : dR), rm_get lv 0 = some (va_rf o0) → rm_get lv 1 = some (.int i1) → rm_get lv 2 = some (.int i2) → b395_46 L xs zf D w  o0 i1 i2 h = some r → dq L xs zf ah_M395 46 lv [] h (k + 1) r := by
  intro o0 i1 i2 lv h r G0 G1 G2 hh
  unfold b395_46 at hh
  refine dq_iln 2 47 (by decide +kernel) rfl G2 ?_
  refine dq_aln 0 48 (by decide +kernel) rfl G0 ?_
  obtain ⟨p1, q2, hh⟩ := db hh
  refine dq_gR 42 13 [15] 51 (by decide +kernel) rfl q2 ?_
  refine dq_iln 1 52 (by decide +kernel) rfl G1 ?_
  obtain ⟨x3, q4, hh⟩ := db hh
  refine dq_aI 53 (by decide +kernel) rfl q4 ?_
  rcases di hh with ⟨q5, hh⟩ | ⟨q5, hh⟩
  · refine dq_2 .ne 33 true 86 q5 (by decide +kernel) ?_
    exact c395_86 hD hz  _ _ _  hh
  · refine dq_2 .ne 33 false 56 q5 (by decide +kernel) ?_
    refine dq_aln 0 57 (by decide +kernel) rfl G0 ?_
    obtain ⟨p6, q7, hh⟩ := db hh
    refine dq_gR 36 11 [15] 60 (by decide +kernel) rfl q7 ?_
    refine dq_aln 0 61 (by decide +kernel) rfl G0 ?_
    obtain ⟨p8, q9, hh⟩ := db hh
    refine dq_gR 39 12 [15] 64 (by decide +kernel) rfl q9 ?_
    refine dq_iln 1 65 (by decide +kernel) rfl G1 ?_
    obtain ⟨x10, q11, hh⟩ := db hh
    refine dq_aI 66 (by decide +kernel) rfl q11 ?_
    obtain ⟨x12, q13, hh⟩ := db hh
    refine dq_aI 67 (by decide +kernel) rfl q13 ?_
    refine dq_S (.bipush 10) 2 [] 69 _ [.int 10, .int x12] (by decide +kernel) rfl ?_
    rcases di hh with ⟨q14, hh⟩ | ⟨q14, hh⟩
    · refine dq_2 .ne 17 true 86 q14 (by decide +kernel) ?_
      exact c395_86 hD hz  _ _ _  hh
    · refine dq_2 .ne 17 false 72 q14 (by decide +kernel) ?_
      refine dq_aln 0 73 (by decide +kernel) rfl G0 ?_
      obtain ⟨p15, q16, hh⟩ := db hh
      refine dq_gR 39 12 [15] 76 (by decide +kernel) rfl q16 ?_
      refine dq_aln 0 77 (by decide +kernel) rfl G0 ?_
      obtain ⟨p17, q18, hh⟩ := db hh
      refine dq_gR 39 12 [15] 80 (by decide +kernel) rfl q18 ?_
      refine dq_iln 1 81 (by decide +kernel) rfl G1 ?_
      obtain ⟨x19, q20, hh⟩ := db hh
      refine dq_aI 82 (by decide +kernel) rfl q20 ?_
      obtain ⟨x21, q22, hh⟩ := db hh
      refine dq_aI 83 (by decide +kernel) rfl q22 ?_
      refine dq_S (.goto 4) 3 [] 87 _ [.int x21] (by decide +kernel) rfl ?_
      exact c395_87 hD hz _ _ _ _  hh
def b395_154 (L : Nat) (xs : Nat → Int32) (zf : Value) (D : dD) (w : Nat) (s0 : Int32) (h : rm_H) : Option dR :=
  drI (some .int) s0 h
theorem c395_154 {L : Nat} {xs : Nat → Int32} {zf : Value} {D : dD} {w k : Nat} (hD : dO L xs zf D k) (hz : zf.category = 1) : ∀ (s0 : Int32) (lv : rm_L) (h : rm_H) (r : dR), b395_154 L xs zf D w  s0 h = some r → dq L xs zf ah_M395 154 lv [.int s0] h (k + 1) r := by
  intro s0 lv h r hh
  unfold b395_154 at hh
  exact dq_retI (some .int) (by decide +kernel) rfl hh
def b395_108 (L : Nat) (xs : Nat → Int32) (zf : Value) (D : dD) (w : Nat) (o0 : Option Nat) (i1 : Int32) (i2 : Int32) (i3 : Int32) (h : rm_H) : Option dR :=
  (dgR L xs h 13 [15] o0).bind fun p1 =>
  (daI L xs h p1 i1).bind fun x3 =>
  if mx_f2 .ne i2 x3 = true then
    (dgR L xs h 15 [15] o0).bind fun p6 =>
    (daI L xs h p6 i2).bind fun x8 =>
    if mx_f1 .eq x8 = true then
      if mx_f2 .ne i3 8 = true then
        (dgR L xs h 13 [15] o0).bind fun p12 =>
        (daI L xs h p12 i1).bind fun x14 =>
        b395_154 L xs zf D w x14 h
      else
        b395_154 L xs zf D w 0 h
    else
      (dgR L xs h 15 [15] o0).bind fun p16 =>
      (daI L xs h p16 i2).bind fun x18 =>
      b395_154 L xs zf D w x18 h
  else
    drI (some .int) 0 h
theorem c395_108 {L : Nat} {xs : Nat → Int32} {zf : Value} {D : dD} {w k : Nat} (hD : dO L xs zf D k) (hz : zf.category = 1) : ∀ (o0 : Option Nat) (i1 : Int32) (i2 : Int32) (i3 : Int32) (lv : rm_L) (h : rm_H) (r : dR), rm_get lv 0 = some (va_rf o0) → rm_get lv 1 = some (.int i1) → rm_get lv 2 = some (.int i2) → rm_get lv 3 = some (.int i3) → b395_108 L xs zf D w  o0 i1 i2 i3 h = some r → dq L xs zf ah_M395 108 lv [] h (k + 1) r := by
  intro o0 i1 i2 i3 lv h r G0 G1 G2 G3 hh
  unfold b395_108 at hh
  refine dq_iln 2 109 (by decide +kernel) rfl G2 ?_
  refine dq_aln 0 110 (by decide +kernel) rfl G0 ?_
  obtain ⟨p1, q2, hh⟩ := db hh
  refine dq_gR 42 13 [15] 113 (by decide +kernel) rfl q2 ?_
  refine dq_iln 1 114 (by decide +kernel) rfl G1 ?_
  obtain ⟨x3, q4, hh⟩ := db hh
  refine dq_aI 115 (by decide +kernel) rfl q4 ?_
  rcases di hh with ⟨q5, hh⟩ | ⟨q5, hh⟩
  · refine dq_2 .ne 5 true 120 q5 (by decide +kernel) ?_
    refine dq_aln 0 121 (by decide +kernel) rfl G0 ?_
    obtain ⟨p6, q7, hh⟩ := db hh
    refine dq_gR 48 15 [15] 124 (by decide +kernel) rfl q7 ?_
    refine dq_iln 2 125 (by decide +kernel) rfl G2 ?_
    obtain ⟨x8, q9, hh⟩ := db hh
    refine dq_aI 126 (by decide +kernel) rfl q9 ?_
    rcases di hh with ⟨q10, hh⟩ | ⟨q10, hh⟩
    · refine dq_1 .eq 12 true 138 q10 (by decide +kernel) ?_
      refine dq_iln 3 139 (by decide +kernel) rfl G3 ?_
      refine dq_S (.bipush 8) 2 [] 141 _ [.int 8, .int i3] (by decide +kernel) rfl ?_
      rcases di hh with ⟨q11, hh⟩ | ⟨q11, hh⟩
      · refine dq_2 .ne 7 true 148 q11 (by decide +kernel) ?_
        refine dq_aln 0 149 (by decide +kernel) rfl G0 ?_
        obtain ⟨p12, q13, hh⟩ := db hh
        refine dq_gR 42 13 [15] 152 (by decide +kernel) rfl q13 ?_
        refine dq_iln 1 153 (by decide +kernel) rfl G1 ?_
        obtain ⟨x14, q15, hh⟩ := db hh
        refine dq_aI 154 (by decide +kernel) rfl q15 ?_
        exact c395_154 hD hz _ _ _ _  hh
      · refine dq_2 .ne 7 false 144 q11 (by decide +kernel) ?_
        refine dq_S (.iconst 0) 1 [] 145 _ [.int 0] (by decide +kernel) rfl ?_
        refine dq_S (.goto 9) 3 [] 154 _ [.int 0] (by decide +kernel) rfl ?_
        exact c395_154 hD hz _ _ _ _  hh
    · refine dq_1 .eq 12 false 129 q10 (by decide +kernel) ?_
      refine dq_aln 0 130 (by decide +kernel) rfl G0 ?_
      obtain ⟨p16, q17, hh⟩ := db hh
      refine dq_gR 48 15 [15] 133 (by decide +kernel) rfl q17 ?_
      refine dq_iln 2 134 (by decide +kernel) rfl G2 ?_
      obtain ⟨x18, q19, hh⟩ := db hh
      refine dq_aI 135 (by decide +kernel) rfl q19 ?_
      refine dq_S (.goto 19) 3 [] 154 _ [.int x18] (by decide +kernel) rfl ?_
      exact c395_154 hD hz _ _ _ _  hh
  · refine dq_2 .ne 5 false 118 q5 (by decide +kernel) ?_
    refine dq_S (.iconst 0) 1 [] 119 _ [.int 0] (by decide +kernel) rfl ?_
    exact dq_retI (some .int) (by decide +kernel) rfl hh
def b395_0 (L : Nat) (xs : Nat → Int32) (zf : Value) (D : dD) (w : Nat) (o0 : Option Nat) (i1 : Int32) (i2 : Int32) (h : rm_H) : Option dR :=
  (dgR L xs h 11 [15] o0).bind fun p1 =>
  (daI L xs h p1 i1).bind fun x3 =>
  if mx_f2 .ne x3 13 = true then
    if mx_f2 .eq x3 7 = true then
      b395_46 L xs zf D w o0 i1 i2 h
    else
      if mx_f2 .ne x3 26 = true then
        if mx_f2 .eq x3 11 = true then
          b395_108 L xs zf D w o0 i1 i2 x3 h
        else
          if mx_f2 .eq x3 12 = true then
            b395_108 L xs zf D w o0 i1 i2 x3 h
          else
            if mx_f2 .eq x3 8 = true then
              b395_108 L xs zf D w o0 i1 i2 x3 h
            else
              drI (some .int) 0 h
      else
        b395_46 L xs zf D w o0 i1 i2 h
  else
    (dgR L xs h 12 [15] o0).bind fun p15 =>
    (daI L xs h p15 i1).bind fun x17 =>
    if mx_f2 .ne i2 x17 = true then
      b395_33 L xs zf D w 0 h
    else
      (dgR L xs h 13 [15] o0).bind fun p20 =>
      (daI L xs h p20 i1).bind fun x22 =>
      b395_33 L xs zf D w x22 h
theorem c395_0 {L : Nat} {xs : Nat → Int32} {zf : Value} {D : dD} {w k : Nat} (hD : dO L xs zf D k) (hz : zf.category = 1) : ∀ (o0 : Option Nat) (i1 : Int32) (i2 : Int32) (lv : rm_L) (h : rm_H) (r : dR), rm_get lv 0 = some (va_rf o0) → rm_get lv 1 = some (.int i1) → rm_get lv 2 = some (.int i2) → b395_0 L xs zf D w  o0 i1 i2 h = some r → dq L xs zf ah_M395 0 lv [] h (k + 1) r := by
  intro o0 i1 i2 lv h r G0 G1 G2 hh
  unfold b395_0 at hh
  refine dq_aln 0 1 (by decide +kernel) rfl G0 ?_
  obtain ⟨p1, q2, hh⟩ := db hh
  refine dq_gR 36 11 [15] 4 (by decide +kernel) rfl q2 ?_
  refine dq_iln 1 5 (by decide +kernel) rfl G1 ?_
  obtain ⟨x3, q4, hh⟩ := db hh
  refine dq_aI 6 (by decide +kernel) rfl q4 ?_
  refine dq_isn 3 7 (by decide +kernel) (by decide +kernel) ?_
  have g5 := dg_ne (i := 3) (u := .int x3) (by decide) (Or.inl (by decide)) G0
  have g6 := dg_ne (i := 3) (u := .int x3) (by decide) (Or.inl (by decide)) G1
  have g7 := dg_ne (i := 3) (u := .int x3) (by decide) (Or.inr rfl) G2
  have g8 := dg_eq (lv) 3 (.int x3)
  refine dq_iln 3 8 (by decide +kernel) rfl g8 ?_
  refine dq_S (.bipush 13) 2 [] 10 _ [.int 13, .int x3] (by decide +kernel) rfl ?_
  rcases di hh with ⟨q9, hh⟩ | ⟨q9, hh⟩
  · refine dq_2 .ne 24 true 34 q9 (by decide +kernel) ?_
    refine dq_iln 3 35 (by decide +kernel) rfl g8 ?_
    refine dq_S (.bipush 7) 2 [] 37 _ [.int 7, .int x3] (by decide +kernel) rfl ?_
    rcases di hh with ⟨q10, hh⟩ | ⟨q10, hh⟩
    · refine dq_2 .eq 9 true 46 q10 (by decide +kernel) ?_
      exact c395_46 hD hz _ _ _ _ _ _ g5 g6 g7 hh
    · refine dq_2 .eq 9 false 40 q10 (by decide +kernel) ?_
      refine dq_iln 3 41 (by decide +kernel) rfl g8 ?_
      refine dq_S (.bipush 26) 2 [] 43 _ [.int 26, .int x3] (by decide +kernel) rfl ?_
      rcases di hh with ⟨q11, hh⟩ | ⟨q11, hh⟩
      · refine dq_2 .ne 45 true 88 q11 (by decide +kernel) ?_
        refine dq_iln 3 89 (by decide +kernel) rfl g8 ?_
        refine dq_S (.bipush 11) 2 [] 91 _ [.int 11, .int x3] (by decide +kernel) rfl ?_
        rcases di hh with ⟨q12, hh⟩ | ⟨q12, hh⟩
        · refine dq_2 .eq 17 true 108 q12 (by decide +kernel) ?_
          exact c395_108 hD hz _ _ _ _ _ _ _ g5 g6 g7 g8 hh
        · refine dq_2 .eq 17 false 94 q12 (by decide +kernel) ?_
          refine dq_iln 3 95 (by decide +kernel) rfl g8 ?_
          refine dq_S (.bipush 12) 2 [] 97 _ [.int 12, .int x3] (by decide +kernel) rfl ?_
          rcases di hh with ⟨q13, hh⟩ | ⟨q13, hh⟩
          · refine dq_2 .eq 11 true 108 q13 (by decide +kernel) ?_
            exact c395_108 hD hz _ _ _ _ _ _ _ g5 g6 g7 g8 hh
          · refine dq_2 .eq 11 false 100 q13 (by decide +kernel) ?_
            refine dq_iln 3 101 (by decide +kernel) rfl g8 ?_
            refine dq_S (.bipush 8) 2 [] 103 _ [.int 8, .int x3] (by decide +kernel) rfl ?_
            rcases di hh with ⟨q14, hh⟩ | ⟨q14, hh⟩
            · refine dq_2 .eq 5 true 108 q14 (by decide +kernel) ?_
              exact c395_108 hD hz _ _ _ _ _ _ _ g5 g6 g7 g8 hh
            · refine dq_2 .eq 5 false 106 q14 (by decide +kernel) ?_
              refine dq_S (.iconst 0) 1 [] 107 _ [.int 0] (by decide +kernel) rfl ?_
              exact dq_retI (some .int) (by decide +kernel) rfl hh
      · refine dq_2 .ne 45 false 46 q11 (by decide +kernel) ?_
        exact c395_46 hD hz _ _ _ _ _ _ g5 g6 g7 hh
  · refine dq_2 .ne 24 false 13 q9 (by decide +kernel) ?_
    refine dq_iln 2 14 (by decide +kernel) rfl g7 ?_
    refine dq_aln 0 15 (by decide +kernel) rfl g5 ?_
    obtain ⟨p15, q16, hh⟩ := db hh
    refine dq_gR 39 12 [15] 18 (by decide +kernel) rfl q16 ?_
    refine dq_iln 1 19 (by decide +kernel) rfl g6 ?_
    obtain ⟨x17, q18, hh⟩ := db hh
    refine dq_aI 20 (by decide +kernel) rfl q18 ?_
    rcases di hh with ⟨q19, hh⟩ | ⟨q19, hh⟩
    · refine dq_2 .ne 12 true 32 q19 (by decide +kernel) ?_
      refine dq_S (.iconst 0) 1 [] 33 _ [.int 0] (by decide +kernel) rfl ?_
      exact c395_33 hD hz _ _ _ _  hh
    · refine dq_2 .ne 12 false 23 q19 (by decide +kernel) ?_
      refine dq_aln 0 24 (by decide +kernel) rfl g5 ?_
      obtain ⟨p20, q21, hh⟩ := db hh
      refine dq_gR 42 13 [15] 27 (by decide +kernel) rfl q21 ?_
      refine dq_iln 1 28 (by decide +kernel) rfl g6 ?_
      obtain ⟨x22, q23, hh⟩ := db hh
      refine dq_aI 29 (by decide +kernel) rfl q23 ?_
      refine dq_S (.goto 4) 3 [] 33 _ [.int x22] (by decide +kernel) rfl ?_
      exact c395_33 hD hz _ _ _ _  hh
def f395 (L : Nat) (xs : Nat → Int32) (zf : Value) (D : dD) (w : Nat) (As : List Value) (h : rm_H) : Option dR := match As with
  | [v0, .int i1, .int i2] => (rm_rf v0).bind fun o0 => b395_0 L xs zf D w o0 i1 i2 h
  | _ => none
theorem d395 {L : Nat} {xs : Nat → Int32} {zf : Value} {D : dD} {w k : Nat} (hD : dO L xs zf D k) (hz : zf.category = 1) (As : List Value) (h : rm_H) (r : dR) (hh : f395 L xs zf D w As h = some r) : dq L xs zf ah_M395 0 (lv_args 0 As) [] h (k + 1) r := by
  unfold f395 at hh
  split at hh
  · obtain ⟨o0, e0, hb0⟩ := db hh
    have e0 := rm_rf_v _ _ e0
    subst e0
    refine c395_0 hD hz _ _ _ _ _ _ ?_ ?_ ?_ hb0
    all_goals (simp only [la_r, la_i, la_j]; rfl)
  · cases hh
