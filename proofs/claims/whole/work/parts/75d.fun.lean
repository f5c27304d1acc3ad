/-! METHODS AS FUNCTIONS, printed by wip/whole/gen_fun.py -/
def b122_40 (L : Nat) (xs : Nat → Int32) (zf : Value) (D : dD) (w : Nat) (o0 : Option Nat) (o1 : Option Nat) (i2 : Int32) (o3 : Option Nat) (h : rm_H) : Option dR :=
  ((dcV L xs D 111 [8] o0 [] h).bind dxR).bind fun p1 =>
  (dpF p1.2 5 [12] o3 (va_rf p1.1)).bind fun h5 =>
  (dgR L xs h5 5 [12] o3).bind fun p7 =>
  (dgI L xs h5 10 [11] o1).bind fun x9 =>
  (dpF h5 8 [10] p7 (.int x9)).bind fun h11 =>
  (dgI L xs h11 10 [11] o1).bind fun x13 =>
  (dpF h11 10 [11] o1 (.int (x13 + 1))).bind fun h15 =>
  (dgR L xs h15 1 [8] o0).bind fun p17 =>
  (dgI L xs h15 5 [4] p17).bind fun x19 =>
  (dpF h15 5 [4] p17 (.int (x19 + 1))).bind fun h21 =>
  ((dcV L xs D 109 [8] o0 [.int 14] h21).bind dxV).bind fun h23 =>
  ((dcV L xs D 123 [8] o0 [va_rf o1, .int (i2 + 1)] h23).bind dxR).bind fun p27 =>
  (dpF p27.2 8 [12] o3 (va_rf p27.1)).bind fun h31 =>
  ((dcV L xs D 109 [8] o0 [.int 9] h31).bind dxV).bind fun h33 =>
  some (some (va_rf o3), h33)
theorem c122_40 {L : Nat} {xs : Nat → Int32} {zf : Value} {D : dD} {w k : Nat} (hD : dO L xs zf D k) (hz : zf.category = 1) : ∀ (o0 : Option Nat) (o1 : Option Nat) (i2 : Int32) (o3 : Option Nat) (lv : rm_L) (h : rm_H) (r : dR), rm_get lv 0 = some (va_rf o0) → rm_get lv 1 = some (va_rf o1) → rm_get lv 2 = some (.int i2) → rm_get lv 3 = some (va_rf o3) → b122_40 L xs zf D w  o0 o1 i2 o3 h = some r → dq L xs zf ah_M122 40 lv [] h (k + 1) r := by
  intro o0 o1 i2 o3 lv h r G0 G1 G2 G3 hh
  unfold b122_40 at hh
  refine dq_aln 3 41 (by decide +kernel) rfl G3 ?_
  refine dq_aln 0 42 (by decide +kernel) rfl G0 ?_
  obtain ⟨p1, q2, hh⟩ := db hh
  obtain ⟨a3, q4, q2⟩ := db q2
  rw [dq_xR q2] at q4
  refine dq_cvi hD 84 111 5 0 [8] o0 [] [va_rf o3] 45 [va_rf p1.1, va_rf o3] (by decide +kernel) ap_111 ⟨⟨Nat.le_of_ble_eq_true rfl, by decide⟩, rfl, rfl⟩ (dq_ok8 [1] [1] (dc_r dc_n) (dc_r dc_n) (by decide +kernel)) (by decide +kernel) rfl q4 rfl ?_
  obtain ⟨h5, q6, hh⟩ := db hh
  refine dq_put 205 5 [12] 48 (by decide +kernel) rfl q6 ?_
  refine dq_aln 3 49 (by decide +kernel) rfl G3 ?_
  obtain ⟨p7, q8, hh⟩ := db hh
  refine dq_gR 205 5 [12] 52 (by decide +kernel) rfl q8 ?_
  refine dq_aln 1 53 (by decide +kernel) rfl G1 ?_
  obtain ⟨x9, q10, hh⟩ := db hh
  refine dq_gI 156 10 [11] 56 (by decide +kernel) rfl q10 ?_
  obtain ⟨h11, q12, hh⟩ := db hh
  refine dq_put 88 8 [10] 59 (by decide +kernel) rfl q12 ?_
  refine dq_aln 1 60 (by decide +kernel) rfl G1 ?_
  refine dq_dup 61 (by decide +kernel) rfl ?_
  obtain ⟨x13, q14, hh⟩ := db hh
  refine dq_gI 156 10 [11] 64 (by decide +kernel) rfl q14 ?_
  refine dq_S (.iconst 1) 1 [] 65 _ [.int 1, .int x13, va_rf o1] (by decide +kernel) rfl ?_
  refine dq_S (.iadd) 1 [] 66 _ [.int (x13 + 1), va_rf o1] (by decide +kernel) rfl ?_
  obtain ⟨h15, q16, hh⟩ := db hh
  refine dq_put 156 10 [11] 69 (by decide +kernel) rfl q16 ?_
  refine dq_aln 0 70 (by decide +kernel) rfl G0 ?_
  obtain ⟨p17, q18, hh⟩ := db hh
  refine dq_gR 15 1 [8] 73 (by decide +kernel) rfl q18 ?_
  refine dq_dup 74 (by decide +kernel) rfl ?_
  obtain ⟨x19, q20, hh⟩ := db hh
  refine dq_gI 208 5 [4] 77 (by decide +kernel) rfl q20 ?_
  refine dq_S (.iconst 1) 1 [] 78 _ [.int 1, .int x19, va_rf p17] (by decide +kernel) rfl ?_
  refine dq_S (.iadd) 1 [] 79 _ [.int (x19 + 1), va_rf p17] (by decide +kernel) rfl ?_
  obtain ⟨h21, q22, hh⟩ := db hh
  refine dq_put 208 5 [4] 82 (by decide +kernel) rfl q22 ?_
  refine dq_aln 0 83 (by decide +kernel) rfl G0 ?_
  refine dq_S (.bipush 14) 2 [] 85 _ [.int 14, va_rf o0] (by decide +kernel) rfl ?_
  obtain ⟨h23, q24, hh⟩ := db hh
  obtain ⟨a25, q26, q24⟩ := db q24
  rw [dq_xV q24] at q26
  refine dq_cvi hD 42 109 5 1 [8] o0 [.int 14] [] 88 [] (by decide +kernel) ap_109 ⟨⟨Nat.le_of_ble_eq_true rfl, by decide⟩, rfl, rfl⟩ (dq_ok8 [1, 1] [] (dc_r (dc_i dc_n)) dc_n (by decide +kernel)) (by decide +kernel) rfl q26 rfl ?_
  refine dq_aln 3 89 (by decide +kernel) rfl G3 ?_
  refine dq_aln 0 90 (by decide +kernel) rfl G0 ?_
  refine dq_aln 1 91 (by decide +kernel) rfl G1 ?_
  refine dq_iln 2 92 (by decide +kernel) rfl G2 ?_
  refine dq_S (.iconst 1) 1 [] 93 _ [.int 1, .int i2, va_rf o1, va_rf o0, va_rf o3] (by decide +kernel) rfl ?_
  refine dq_S (.iadd) 1 [] 94 _ [.int (i2 + 1), va_rf o1, va_rf o0, va_rf o3] (by decide +kernel) rfl ?_
  obtain ⟨p27, q28, hh⟩ := db hh
  obtain ⟨a29, q30, q28⟩ := db q28
  rw [dq_xR q28] at q30
  refine dq_cvi hD 211 123 5 2 [8] o0 [va_rf o1, .int (i2 + 1)] [va_rf o3] 97 [va_rf p27.1, va_rf o3] (by decide +kernel) ap_123 ⟨⟨Nat.le_of_ble_eq_true rfl, by decide⟩, rfl, rfl⟩ (dq_ok8 [1, 1, 1] [1] (dc_r (dc_r (dc_i dc_n))) (dc_r dc_n) (by decide +kernel)) (by decide +kernel) rfl q30 rfl ?_
  obtain ⟨h31, q32, hh⟩ := db hh
  refine dq_put 214 8 [12] 100 (by decide +kernel) rfl q32 ?_
  refine dq_aln 0 101 (by decide +kernel) rfl G0 ?_
  refine dq_S (.bipush 9) 2 [] 103 _ [.int 9, va_rf o0] (by decide +kernel) rfl ?_
  obtain ⟨h33, q34, hh⟩ := db hh
  obtain ⟨a35, q36, q34⟩ := db q34
  rw [dq_xV q34] at q36
  refine dq_cvi hD 42 109 5 1 [8] o0 [.int 9] [] 106 [] (by decide +kernel) ap_109 ⟨⟨Nat.le_of_ble_eq_true rfl, by decide⟩, rfl, rfl⟩ (dq_ok8 [1, 1] [] (dc_r (dc_i dc_n)) dc_n (by decide +kernel)) (by decide +kernel) rfl q36 rfl ?_
  refine dq_aln 3 107 (by decide +kernel) rfl G3 ?_
  cases hh
  exact dq_retR (by decide +kernel) rfl
def b122_0 (L : Nat) (xs : Nat → Int32) (zf : Value) (D : dD) (w : Nat) (o0 : Option Nat) (o1 : Option Nat) (i2 : Int32) (h : rm_H) : Option dR :=
  (some (h ++ [.inr (12, ah_DV 12)])).bind fun h1 =>
  (dgR L xs h1 0 [8] o0).bind fun p3 =>
  (dgI L xs h1 7 [6] p3).bind fun x5 =>
  ((dcN D 120 (some (21 + List.length h)) [.int 15, .int x5] h1).bind dxV).bind fun h7 =>
  (dgR L xs h7 0 [8] o0).bind fun p15 =>
  ((dcV L xs D 92 [6] p15 [] h7).bind dxV).bind fun h17 =>
  (dgI L xs h17 10 [11] o1).bind fun x21 =>
  if mx_f2 .lt x21 16 = true then
    b122_40 L xs zf D w o0 o1 i2 (some (21 + List.length h)) h17
  else
    (dgR L xs h17 0 [8] o0).bind fun p24 =>
    ((dcV L xs D 95 [6] p24 [] h17).bind dxV).bind fun h26 =>
    b122_40 L xs zf D w o0 o1 i2 (some (21 + List.length h)) h26
theorem c122_0 {L : Nat} {xs : Nat → Int32} {zf : Value} {D : dD} {w k : Nat} (hD : dO L xs zf D k) (hz : zf.category = 1) : ∀ (o0 : Option Nat) (o1 : Option Nat) (i2 : Int32) (lv : rm_L) (h : rm_H) (r : dR), rm_get lv 0 = some (va_rf o0) → rm_get lv 1 = some (va_rf o1) → rm_get lv 2 = some (.int i2) → b122_0 L xs zf D w  o0 o1 i2 h = some r → dq L xs zf ah_M122 0 lv [] h (k + 1) r := by
  intro o0 o1 i2 lv h r G0 G1 G2 hh
  unfold b122_0 at hh
  obtain ⟨h1, q2, hh⟩ := db hh
  refine dq_new 178 12 3 (by decide +kernel) rfl ?_
  rw [Option.some.inj q2]
  refine dq_dup 4 (by decide +kernel) rfl ?_
  refine dq_S (.bipush 15) 2 [] 6 _ [.int 15, va_rf (some (21 + List.length h)), va_rf (some (21 + List.length h))] (by decide +kernel) rfl ?_
  refine dq_aln 0 7 (by decide +kernel) rfl G0 ?_
  obtain ⟨p3, q4, hh⟩ := db hh
  refine dq_gR 9 0 [8] 10 (by decide +kernel) rfl q4 ?_
  obtain ⟨x5, q6, hh⟩ := db hh
  refine dq_gI 58 7 [6] 13 (by decide +kernel) rfl q6 ?_
  obtain ⟨h7, q8, hh⟩ := db hh
  obtain ⟨a9, q10, q8⟩ := db q8
  rw [dq_xV q8] at q10
  refine dq_csp hD 180 120 2 [] (some (21 + List.length h)) [.int 15, .int x5] [va_rf (some (21 + List.length h))] 16 [va_rf (some (21 + List.length h))] (by decide +kernel) ap_120 ⟨Nat.le_of_ble_eq_true rfl, rfl, rfl⟩ (dq_ok8 [1, 1, 1] [1] (dc_r (dc_i (dc_i dc_n))) (dc_r dc_n) (by decide +kernel)) (by decide +kernel) rfl q10 rfl ?_
  refine dq_asn 3 17 (by decide +kernel) (by decide +kernel) ?_
  have g11 := dg_ne (i := 3) (u := va_rf (some (21 + List.length h))) (by decide) (Or.inl (by decide)) G0
  have g12 := dg_ne (i := 3) (u := va_rf (some (21 + List.length h))) (by decide) (Or.inl (by decide)) G1
  have g13 := dg_ne (i := 3) (u := va_rf (some (21 + List.length h))) (by decide) (Or.inr rfl) G2
  have g14 := dg_eq (lv) 3 (va_rf (some (21 + List.length h)))
  refine dq_aln 0 18 (by decide +kernel) rfl g11 ?_
  obtain ⟨p15, q16, hh⟩ := db hh
  refine dq_gR 9 0 [8] 21 (by decide +kernel) rfl q16 ?_
  obtain ⟨h17, q18, hh⟩ := db hh
  obtain ⟨a19, q20, q18⟩ := db q18
  rw [dq_xV q18] at q20
  refine dq_cvi hD 19 92 5 0 [6] p15 [] [] 24 [] (by decide +kernel) ap_92 ⟨⟨Nat.le_of_ble_eq_true rfl, by decide⟩, rfl, rfl⟩ (dq_ok8 [1] [] (dc_r dc_n) dc_n (by decide +kernel)) (by decide +kernel) rfl q20 rfl ?_
  refine dq_aln 1 25 (by decide +kernel) rfl g12 ?_
  obtain ⟨x21, q22, hh⟩ := db hh
  refine dq_gI 156 10 [11] 28 (by decide +kernel) rfl q22 ?_
  refine dq_S (.bipush 16) 2 [] 30 _ [.int 16, .int x21] (by decide +kernel) rfl ?_
  rcases di hh with ⟨q23, hh⟩ | ⟨q23, hh⟩
  · refine dq_2 .lt 10 true 40 q23 (by decide +kernel) ?_
    exact c122_40 hD hz _ _ _ _ _ _ _ g11 g12 g13 g14 hh
  · refine dq_2 .lt 10 false 33 q23 (by decide +kernel) ?_
    refine dq_aln 0 34 (by decide +kernel) rfl g11 ?_
    obtain ⟨p24, q25, hh⟩ := db hh
    refine dq_gR 9 0 [8] 37 (by decide +kernel) rfl q25 ?_
    obtain ⟨h26, q27, hh⟩ := db hh
    obtain ⟨a28, q29, q27⟩ := db q27
    rw [dq_xV q27] at q29
    refine dq_cvi hD 46 95 5 0 [6] p24 [] [] 40 [] (by decide +kernel) ap_95 ⟨⟨Nat.le_of_ble_eq_true rfl, by decide⟩, rfl, rfl⟩ (dq_ok8 [1] [] (dc_r dc_n) dc_n (by decide +kernel)) (by decide +kernel) rfl q29 rfl ?_
    exact c122_40 hD hz _ _ _ _ _ _ _ g11 g12 g13 g14 hh
def f122 (L : Nat) (xs : Nat → Int32) (zf : Value) (D : dD) (w : Nat) (As : List Value) (h : rm_H) : Option dR := match As with
  | [v0, v1, .int i2] => (rm_rf v0).bind fun o0 => (rm_rf v1).bind fun o1 => b122_0 L xs zf D w o0 o1 i2 h
  | _ => none
theorem d122 {L : Nat} {xs : Nat → Int32} {zf : Value} {D : dD} {w k : Nat} (hD : dO L xs zf D k) (hz : zf.category = 1) (As : List Value) (h : rm_H) (r : dR) (hh : f122 L xs zf D w As h = some r) : dq L xs zf ah_M122 0 (lv_args 0 As) [] h (k + 1) r := by
  unfold f122 at hh
  split at hh
  · obtain ⟨o0, e0, hb0⟩ := db hh
    have e0 := rm_rf_v _ _ e0
    obtain ⟨o1, e1, hb1⟩ := db hb0
    have e1 := rm_rf_v _ _ e1
    subst e0 e1
    refine c122_0 hD hz _ _ _ _ _ _ ?_ ?_ ?_ hb1
    all_goals (simp only [la_r, la_i, la_j]; rfl)
  · cases hh
def b123_105 (L : Nat) (xs : Nat → Int32) (zf : Value) (D : dD) (w : Nat) (o3 : Option Nat) (h : rm_H) : Option dR :=
  some (some (va_rf o3), h)
theorem c123_105 {L : Nat} {xs : Nat → Int32} {zf : Value} {D : dD} {w k : Nat} (hD : dO L xs zf D k) (hz : zf.category = 1) : ∀ (o3 : Option Nat) (lv : rm_L) (h : rm_H) (r : dR), rm_get lv 3 = some (va_rf o3) → b123_105 L xs zf D w  o3 h = some r → dq L xs zf ah_M123 105 lv [] h (k + 1) r := by
  intro o3 lv h r G3 hh
  unfold b123_105 at hh
  refine dq_aln 3 106 (by decide +kernel) rfl G3 ?_
  cases hh
  exact dq_retR (by decide +kernel) rfl
def b123_39 (L : Nat) (xs : Nat → Int32) (zf : Value) (D : dD) (w : Nat) : Nat → Option Nat → Option Nat → Int32 → Option Nat → Int32 → rm_H → Option dR
  | 0, _, _, _, _, _, _ => none
  | n + 1, o0, o1, i2, o3, i4, h =>
    if mx_f2 .ge i4 2000 = true then
      b123_105 L xs zf D w o3 h
    else
      (dgR L xs h 0 [8] o0).bind fun p2 =>
      ((dcV L xs D 138 [6] p2 [] h).bind dxI).bind fun x4 =>
      if mx_f1 .eq x4.1 = true then
        b123_105 L xs zf D w o3 x4.2
      else
        ((dcV L xs D 137 [8] o0 [.int 13, va_rf o3] x4.2).bind dxR).bind fun p9 =>
        (dgR L xs p9.2 0 [8] o0).bind fun p19 =>
        (dgI L xs p9.2 6 [6] p19).bind fun x21 =>
        (dpF p9.2 4 [12] p9.1 (.int x21)).bind fun h23 =>
        (dgR L xs h23 0 [8] o0).bind fun p25 =>
        ((dcV L xs D 92 [6] p25 [] h23).bind dxV).bind fun h27 =>
        ((dcV L xs D 124 [8] o0 [va_rf o1, .int i2] h27).bind dxR).bind fun p31 =>
        (dpF p31.2 8 [12] p9.1 (va_rf p31.1)).bind fun h35 =>
        b123_39 L xs zf D w n o0 o1 i2 p9.1 (i4 + 1) h35
theorem c123_39 {L : Nat} {xs : Nat → Int32} {zf : Value} {D : dD} {w k : Nat} (hD : dO L xs zf D k) (hz : zf.category = 1) : ∀ (n : Nat) (o0 : Option Nat) (o1 : Option Nat) (i2 : Int32) (o3 : Option Nat) (i4 : Int32) (lv : rm_L) (h : rm_H) (r : dR), rm_get lv 0 = some (va_rf o0) → rm_get lv 1 = some (va_rf o1) → rm_get lv 2 = some (.int i2) → rm_get lv 3 = some (va_rf o3) → rm_get lv 4 = some (.int i4) → b123_39 L xs zf D w n  o0 o1 i2 o3 i4 h = some r → dq L xs zf ah_M123 39 lv [] h (k + 1) r := by
  intro n
  induction n with
  | zero =>
    intro o0 o1 i2 o3 i4 lv h r G0 G1 G2 G3 G4 hh
    cases hh
  | succ n ih =>
    intro o0 o1 i2 o3 i4 lv h r G0 G1 G2 G3 G4 hh
    rw [b123_39] at hh
    refine dq_il 4 41 (by decide +kernel) rfl G4 ?_
    refine dq_S (.sipush 2000) 3 [] 44 _ [.int 2000, .int i4] (by decide +kernel) rfl ?_
    rcases di hh with ⟨q1, hh⟩ | ⟨q1, hh⟩
    · refine dq_2 .ge 61 true 105 q1 (by decide +kernel) ?_
      exact c123_105 hD hz _ _ _ _ G3 hh
    · refine dq_2 .ge 61 false 47 q1 (by decide +kernel) ?_
      refine dq_aln 0 48 (by decide +kernel) rfl G0 ?_
      obtain ⟨p2, q3, hh⟩ := db hh
      refine dq_gR 9 0 [8] 51 (by decide +kernel) rfl q3 ?_
      obtain ⟨x4, q5, hh⟩ := db hh
      obtain ⟨a6, q7, q5⟩ := db q5
      rw [dq_xI q5] at q7
      refine dq_cvi hD 226 138 5 0 [6] p2 [] [] 54 [.int x4.1] (by decide +kernel) ap_138 ⟨⟨Nat.le_of_ble_eq_true rfl, by decide⟩, rfl, rfl⟩ (dq_ok8 [1] [] (dc_r dc_n) dc_n (by decide +kernel)) (by decide +kernel) rfl q7 rfl ?_
      rcases di hh with ⟨q8, hh⟩ | ⟨q8, hh⟩
      · refine dq_1 .eq 51 true 105 q8 (by decide +kernel) ?_
        exact c123_105 hD hz _ _ _ _ G3 hh
      · refine dq_1 .eq 51 false 57 q8 (by decide +kernel) ?_
        refine dq_aln 0 58 (by decide +kernel) rfl G0 ?_
        refine dq_S (.bipush 13) 2 [] 60 _ [.int 13, va_rf o0] (by decide +kernel) rfl ?_
        refine dq_aln 3 61 (by decide +kernel) rfl G3 ?_
        obtain ⟨p9, q10, hh⟩ := db hh
        obtain ⟨a11, q12, q10⟩ := db q10
        rw [dq_xR q10] at q12
        refine dq_cvi hD 229 137 5 2 [8] o0 [.int 13, va_rf o3] [] 64 [va_rf p9.1] (by decide +kernel) ap_137 ⟨⟨Nat.le_of_ble_eq_true rfl, by decide⟩, rfl, rfl⟩ (dq_ok8 [1, 1, 1] [] (dc_r (dc_i (dc_r dc_n))) dc_n (by decide +kernel)) (by decide +kernel) rfl q12 rfl ?_
        refine dq_as 5 66 (by decide +kernel) (by decide +kernel) ?_
        have g13 := dg_ne (i := 5) (u := va_rf p9.1) (by decide) (Or.inl (by decide)) G0
        have g14 := dg_ne (i := 5) (u := va_rf p9.1) (by decide) (Or.inl (by decide)) G1
        have g15 := dg_ne (i := 5) (u := va_rf p9.1) (by decide) (Or.inl (by decide)) G2
        have g16 := dg_ne (i := 5) (u := va_rf p9.1) (by decide) (Or.inl (by decide)) G3
        have g17 := dg_ne (i := 5) (u := va_rf p9.1) (by decide) (Or.inr rfl) G4
        have g18 := dg_eq (lv) 5 (va_rf p9.1)
        refine dq_al 5 68 (by decide +kernel) rfl g18 ?_
        refine dq_aln 0 69 (by decide +kernel) rfl g13 ?_
        obtain ⟨p19, q20, hh⟩ := db hh
        refine dq_gR 9 0 [8] 72 (by decide +kernel) rfl q20 ?_
        obtain ⟨x21, q22, hh⟩ := db hh
        refine dq_gI 24 6 [6] 75 (by decide +kernel) rfl q22 ?_
        obtain ⟨h23, q24, hh⟩ := db hh
        refine dq_put 233 4 [12] 78 (by decide +kernel) rfl q24 ?_
        refine dq_aln 0 79 (by decide +kernel) rfl g13 ?_
        obtain ⟨p25, q26, hh⟩ := db hh
        refine dq_gR 9 0 [8] 82 (by decide +kernel) rfl q26 ?_
        obtain ⟨h27, q28, hh⟩ := db hh
        obtain ⟨a29, q30, q28⟩ := db q28
        rw [dq_xV q28] at q30
        refine dq_cvi hD 19 92 5 0 [6] p25 [] [] 85 [] (by decide +kernel) ap_92 ⟨⟨Nat.le_of_ble_eq_true rfl, by decide⟩, rfl, rfl⟩ (dq_ok8 [1] [] (dc_r dc_n) dc_n (by decide +kernel)) (by decide +kernel) rfl q30 rfl ?_
        refine dq_al 5 87 (by decide +kernel) rfl g18 ?_
        refine dq_aln 0 88 (by decide +kernel) rfl g13 ?_
        refine dq_aln 1 89 (by decide +kernel) rfl g14 ?_
        refine dq_iln 2 90 (by decide +kernel) rfl g15 ?_
        obtain ⟨p31, q32, hh⟩ := db hh
        obtain ⟨a33, q34, q32⟩ := db q32
        rw [dq_xR q32] at q34
        refine dq_cvi hD 223 124 5 2 [8] o0 [va_rf o1, .int i2] [va_rf p9.1] 93 [va_rf p31.1, va_rf p9.1] (by decide +kernel) ap_124 ⟨⟨Nat.le_of_ble_eq_true rfl, by decide⟩, rfl, rfl⟩ (dq_ok8 [1, 1, 1] [1] (dc_r (dc_r (dc_i dc_n))) (dc_r dc_n) (by decide +kernel)) (by decide +kernel) rfl q34 rfl ?_
        obtain ⟨h35, q36, hh⟩ := db hh
        refine dq_put 214 8 [12] 96 (by decide +kernel) rfl q36 ?_
        refine dq_al 5 98 (by decide +kernel) rfl g18 ?_
        refine dq_asn 3 99 (by decide +kernel) (by decide +kernel) ?_
        have g37 := dg_ne (i := 3) (u := va_rf p9.1) (by decide) (Or.inl (by decide)) g13
        have g38 := dg_ne (i := 3) (u := va_rf p9.1) (by decide) (Or.inl (by decide)) g14
        have g39 := dg_ne (i := 3) (u := va_rf p9.1) (by decide) (Or.inr rfl) g15
        have g40 := dg_ne (i := 3) (u := va_rf p9.1) (by decide) (Or.inl (by decide)) g17
        have g41 := dg_ne (i := 3) (u := va_rf p9.1) (by decide) (Or.inl (by decide)) g18
        have g42 := dg_eq (rm_set1 (lv) 5 (va_rf p9.1)) 3 (va_rf p9.1)
        refine dq_incy 4 1 1 102 (by decide +kernel) ⟨rfl, by decide +kernel, by decide +kernel⟩ g40 ?_
        have g43 := dg_ne (i := 4) (u := .int (i4 + 1)) (by decide) (Or.inl (by decide)) g37
        have g44 := dg_ne (i := 4) (u := .int (i4 + 1)) (by decide) (Or.inl (by decide)) g38
        have g45 := dg_ne (i := 4) (u := .int (i4 + 1)) (by decide) (Or.inl (by decide)) g39
        have g46 := dg_ne (i := 4) (u := .int (i4 + 1)) (by decide) (Or.inl (by decide)) g41
        have g47 := dg_ne (i := 4) (u := .int (i4 + 1)) (by decide) (Or.inr (drc _)) g42
        have g48 := dg_eq (rm_set1 (rm_set1 (lv) 5 (va_rf p9.1)) 3 (va_rf p9.1)) 4 (.int (i4 + 1))
        refine dq_S (.goto (-63)) 3 [] 39 _ [] (by decide +kernel) rfl ?_
        exact ih _ _ _ _ _ _ _ _ g43 g44 g45 g47 g48 hh
def b123_0 (L : Nat) (xs : Nat → Int32) (zf : Value) (D : dD) (w : Nat) (o0 : Option Nat) (o1 : Option Nat) (i2 : Int32) (h : rm_H) : Option dR :=
  if mx_f2 .le i2 24 = true then
    ((dcV L xs D 124 [8] o0 [va_rf o1, .int i2] h).bind dxR).bind fun p2 =>
    b123_39 L xs zf D w w o0 o1 i2 p2.1 0 p2.2
  else
    (dgR L xs h 0 [8] o0).bind fun p15 =>
    ((dcV L xs D 95 [6] p15 [] h).bind dxV).bind fun h17 =>
    (some (h17 ++ [.inr (12, ah_DV 12)])).bind fun h21 =>
    (dgR L xs h21 0 [8] o0).bind fun p23 =>
    (dgI L xs h21 7 [6] p23).bind fun x25 =>
    ((dcN D 120 (some (21 + List.length h17)) [.int 1, .int x25] h21).bind dxV).bind fun h27 =>
    some (some (va_rf (some (21 + List.length h17))), h27)
theorem c123_0 {L : Nat} {xs : Nat → Int32} {zf : Value} {D : dD} {w k : Nat} (hD : dO L xs zf D k) (hz : zf.category = 1) : ∀ (o0 : Option Nat) (o1 : Option Nat) (i2 : Int32) (lv : rm_L) (h : rm_H) (r : dR), rm_get lv 0 = some (va_rf o0) → rm_get lv 1 = some (va_rf o1) → rm_get lv 2 = some (.int i2) → b123_0 L xs zf D w  o0 o1 i2 h = some r → dq L xs zf ah_M123 0 lv [] h (k + 1) r := by
  intro o0 o1 i2 lv h r G0 G1 G2 hh
  unfold b123_0 at hh
  refine dq_iln 2 1 (by decide +kernel) rfl G2 ?_
  refine dq_S (.bipush 24) 2 [] 3 _ [.int 24, .int i2] (by decide +kernel) rfl ?_
  rcases di hh with ⟨q1, hh⟩ | ⟨q1, hh⟩
  · refine dq_2 .le 26 true 29 q1 (by decide +kernel) ?_
    refine dq_aln 0 30 (by decide +kernel) rfl G0 ?_
    refine dq_aln 1 31 (by decide +kernel) rfl G1 ?_
    refine dq_iln 2 32 (by decide +kernel) rfl G2 ?_
    obtain ⟨p2, q3, hh⟩ := db hh
    obtain ⟨a4, q5, q3⟩ := db q3
    rw [dq_xR q3] at q5
    refine dq_cvi hD 223 124 5 2 [8] o0 [va_rf o1, .int i2] [] 35 [va_rf p2.1] (by decide +kernel) ap_124 ⟨⟨Nat.le_of_ble_eq_true rfl, by decide⟩, rfl, rfl⟩ (dq_ok8 [1, 1, 1] [] (dc_r (dc_r (dc_i dc_n))) dc_n (by decide +kernel)) (by decide +kernel) rfl q5 rfl ?_
    refine dq_asn 3 36 (by decide +kernel) (by decide +kernel) ?_
    have g6 := dg_ne (i := 3) (u := va_rf p2.1) (by decide) (Or.inl (by decide)) G0
    have g7 := dg_ne (i := 3) (u := va_rf p2.1) (by decide) (Or.inl (by decide)) G1
    have g8 := dg_ne (i := 3) (u := va_rf p2.1) (by decide) (Or.inr rfl) G2
    have g9 := dg_eq (lv) 3 (va_rf p2.1)
    refine dq_S (.iconst 0) 1 [] 37 _ [.int 0] (by decide +kernel) rfl ?_
    refine dq_is 4 39 (by decide +kernel) (by decide +kernel) ?_
    have g10 := dg_ne (i := 4) (u := .int 0) (by decide) (Or.inl (by decide)) g6
    have g11 := dg_ne (i := 4) (u := .int 0) (by decide) (Or.inl (by decide)) g7
    have g12 := dg_ne (i := 4) (u := .int 0) (by decide) (Or.inl (by decide)) g8
    have g13 := dg_ne (i := 4) (u := .int 0) (by decide) (Or.inr (drc _)) g9
    have g14 := dg_eq (rm_set1 (lv) 3 (va_rf p2.1)) 4 (.int 0)
    exact c123_39 hD hz _ _ _ _ _ _ _ _ _ g10 g11 g12 g13 g14 hh
  · refine dq_2 .le 26 false 6 q1 (by decide +kernel) ?_
    refine dq_aln 0 7 (by decide +kernel) rfl G0 ?_
    obtain ⟨p15, q16, hh⟩ := db hh
    refine dq_gR 9 0 [8] 10 (by decide +kernel) rfl q16 ?_
    obtain ⟨h17, q18, hh⟩ := db hh
    obtain ⟨a19, q20, q18⟩ := db q18
    rw [dq_xV q18] at q20
    refine dq_cvi hD 46 95 5 0 [6] p15 [] [] 13 [] (by decide +kernel) ap_95 ⟨⟨Nat.le_of_ble_eq_true rfl, by decide⟩, rfl, rfl⟩ (dq_ok8 [1] [] (dc_r dc_n) dc_n (by decide +kernel)) (by decide +kernel) rfl q20 rfl ?_
    obtain ⟨h21, q22, hh⟩ := db hh
    refine dq_new 178 12 16 (by decide +kernel) rfl ?_
    rw [Option.some.inj q22]
    refine dq_dup 17 (by decide +kernel) rfl ?_
    refine dq_S (.iconst 1) 1 [] 18 _ [.int 1, va_rf (some (21 + List.length h17)), va_rf (some (21 + List.length h17))] (by decide +kernel) rfl ?_
    refine dq_aln 0 19 (by decide +kernel) rfl G0 ?_
    obtain ⟨p23, q24, hh⟩ := db hh
    refine dq_gR 9 0 [8] 22 (by decide +kernel) rfl q24 ?_
    obtain ⟨x25, q26, hh⟩ := db hh
    refine dq_gI 58 7 [6] 25 (by decide +kernel) rfl q26 ?_
    obtain ⟨h27, q28, hh⟩ := db hh
    obtain ⟨a29, q30, q28⟩ := db q28
    rw [dq_xV q28] at q30
    refine dq_csp hD 180 120 2 [] (some (21 + List.length h17)) [.int 1, .int x25] [va_rf (some (21 + List.length h17))] 28 [va_rf (some (21 + List.length h17))] (by decide +kernel) ap_120 ⟨Nat.le_of_ble_eq_true rfl, rfl, rfl⟩ (dq_ok8 [1, 1, 1] [1] (dc_r (dc_i (dc_i dc_n))) (dc_r dc_n) (by decide +kernel)) (by decide +kernel) rfl q30 rfl ?_
    cases hh
    exact dq_retR (by decide +kernel) rfl
def f123 (L : Nat) (xs : Nat → Int32) (zf : Value) (D : dD) (w : Nat) (As : List Value) (h : rm_H) : Option dR := match As with
  | [v0, v1, .int i2] => (rm_rf v0).bind fun o0 => (rm_rf v1).bind fun o1 => b123_0 L xs zf D w o0 o1 i2 h
  | _ => none
theorem d123 {L : Nat} {xs : Nat → Int32} {zf : Value} {D : dD} {w k : Nat} (hD : dO L xs zf D k) (hz : zf.category = 1) (As : List Value) (h : rm_H) (r : dR) (hh : f123 L xs zf D w As h = some r) : dq L xs zf ah_M123 0 (lv_args 0 As) [] h (k + 1) r := by
  unfold f123 at hh
  split at hh
  · obtain ⟨o0, e0, hb0⟩ := db hh
    have e0 := rm_rf_v _ _ e0
    obtain ⟨o1, e1, hb1⟩ := db hb0
    have e1 := rm_rf_v _ _ e1
    subst e0 e1
    refine c123_0 hD hz _ _ _ _ _ _ ?_ ?_ ?_ hb1
    all_goals (simp only [la_r, la_i, la_j]; rfl)
  · cases hh
def b124_160 (L : Nat) (xs : Nat → Int32) (zf : Value) (D : dD) (w : Nat) (K10 : Option Nat → Option Nat → Int32 → Option Nat → Int32 → rm_H → Option dR) (o0 : Option Nat) (o1 : Option Nat) (i2 : Int32) (o3 : Option Nat) (i4 : Int32) (h : rm_H) : Option dR :=
  K10 o0 o1 i2 o3 (i4 + 1) h
theorem c124_160 {L : Nat} {xs : Nat → Int32} {zf : Value} {D : dD} {w k : Nat} {K10 : Option Nat → Option Nat → Int32 → Option Nat → Int32 → rm_H → Option dR} (hD : dO L xs zf D k) (hz : zf.category = 1) (hK10 : ∀ (o0 : Option Nat) (o1 : Option Nat) (i2 : Int32) (o3 : Option Nat) (i4 : Int32) (lv : rm_L) (h : rm_H) (r : dR), rm_get lv 0 = some (va_rf o0) → rm_get lv 1 = some (va_rf o1) → rm_get lv 2 = some (.int i2) → rm_get lv 3 = some (va_rf o3) → rm_get lv 4 = some (.int i4) → K10 o0 o1 i2 o3 i4 h = some r → dq L xs zf ah_M124 10 lv [] h (k + 1) r) : ∀ (o0 : Option Nat) (o1 : Option Nat) (i2 : Int32) (o3 : Option Nat) (i4 : Int32) (lv : rm_L) (h : rm_H) (r : dR), rm_get lv 0 = some (va_rf o0) → rm_get lv 1 = some (va_rf o1) → rm_get lv 2 = some (.int i2) → rm_get lv 3 = some (va_rf o3) → rm_get lv 4 = some (.int i4) → b124_160 L xs zf D w K10  o0 o1 i2 o3 i4 h = some r → dq L xs zf ah_M124 160 lv [] h (k + 1) r := by
  intro o0 o1 i2 o3 i4 lv h r G0 G1 G2 G3 G4 hh
  unfold b124_160 at hh
  refine dq_incy 4 1 1 163 (by decide +kernel) ⟨rfl, by decide +kernel, by decide +kernel⟩ G4 ?_
  have g1 := dg_ne (i := 4) (u := .int (i4 + 1)) (by decide) (Or.inl (by decide)) G0
  have g2 := dg_ne (i := 4) (u := .int (i4 + 1)) (by decide) (Or.inl (by decide)) G1
  have g3 := dg_ne (i := 4) (u := .int (i4 + 1)) (by decide) (Or.inl (by decide)) G2
  have g4 := dg_ne (i := 4) (u := .int (i4 + 1)) (by decide) (Or.inr (drc _)) G3
  have g5 := dg_eq (lv) 4 (.int (i4 + 1))
  refine dq_S (.goto (-153)) 3 [] 10 _ [] (by decide +kernel) rfl ?_
  exact hK10 _ _ _ _ _ _ _ _ g1 g2 g3 g4 g5 hh
def b124_131 (L : Nat) (xs : Nat → Int32) (zf : Value) (D : dD) (w : Nat) (K10 : Option Nat → Option Nat → Int32 → Option Nat → Int32 → rm_H → Option dR) (o0 : Option Nat) (o1 : Option Nat) (i2 : Int32) (o3 : Option Nat) (i4 : Int32) (i6 : Int32) (o7 : Option Nat) (i8 : Int32) (s0 : Int32) (s1 : Option Nat) (h : rm_H) : Option dR :=
  ((dcV L xs D 137 [8] s1 [.int s0, va_rf o3] h).bind dxR).bind fun p1 =>
  (dpF p1.2 2 [12] p1.1 (va_rf o7)).bind fun h13 =>
  (dpF h13 3 [12] p1.1 (.int i6)).bind fun h15 =>
  if mx_f1 .ne i8 = true then
    b124_160 L xs zf D w K10 o0 o1 i2 p1.1 i4 h15
  else
    ((dcV L xs D 134 [8] o0 [va_rf p1.1, va_rf o1, .int i2] h15).bind dxV).bind fun h18 =>
    b124_160 L xs zf D w K10 o0 o1 i2 p1.1 i4 h18
theorem c124_131 {L : Nat} {xs : Nat → Int32} {zf : Value} {D : dD} {w k : Nat} {K10 : Option Nat → Option Nat → Int32 → Option Nat → Int32 → rm_H → Option dR} (hD : dO L xs zf D k) (hz : zf.category = 1) (hK10 : ∀ (o0 : Option Nat) (o1 : Option Nat) (i2 : Int32) (o3 : Option Nat) (i4 : Int32) (lv : rm_L) (h : rm_H) (r : dR), rm_get lv 0 = some (va_rf o0) → rm_get lv 1 = some (va_rf o1) → rm_get lv 2 = some (.int i2) → rm_get lv 3 = some (va_rf o3) → rm_get lv 4 = some (.int i4) → K10 o0 o1 i2 o3 i4 h = some r → dq L xs zf ah_M124 10 lv [] h (k + 1) r) : ∀ (o0 : Option Nat) (o1 : Option Nat) (i2 : Int32) (o3 : Option Nat) (i4 : Int32) (i6 : Int32) (o7 : Option Nat) (i8 : Int32) (s0 : Int32) (s1 : Option Nat) (lv : rm_L) (h : rm_H) (r : dR), rm_get lv 0 = some (va_rf o0) → rm_get lv 1 = some (va_rf o1) → rm_get lv 2 = some (.int i2) → rm_get lv 3 = some (va_rf o3) → rm_get lv 4 = some (.int i4) → rm_get lv 6 = some (.int i6) → rm_get lv 7 = some (va_rf o7) → rm_get lv 8 = some (.int i8) → b124_131 L xs zf D w K10  o0 o1 i2 o3 i4 i6 o7 i8 s0 s1 h = some r → dq L xs zf ah_M124 131 lv [.int s0, va_rf s1] h (k + 1) r := by
  intro o0 o1 i2 o3 i4 i6 o7 i8 s0 s1 lv h r G0 G1 G2 G3 G4 G6 G7 G8 hh
  unfold b124_131 at hh
  refine dq_aln 3 132 (by decide +kernel) rfl G3 ?_
  obtain ⟨p1, q2, hh⟩ := db hh
  obtain ⟨a3, q4, q2⟩ := db q2
  rw [dq_xR q2] at q4
  refine dq_cvi hD 229 137 5 2 [8] s1 [.int s0, va_rf o3] [] 135 [va_rf p1.1] (by decide +kernel) ap_137 ⟨⟨Nat.le_of_ble_eq_true rfl, by decide⟩, rfl, rfl⟩ (dq_ok8 [1, 1, 1] [] (dc_r (dc_i (dc_r dc_n))) dc_n (by decide +kernel)) (by decide +kernel) rfl q4 rfl ?_
  refine dq_asn 3 136 (by decide +kernel) (by decide +kernel) ?_
  have g5 := dg_ne (i := 3) (u := va_rf p1.1) (by decide) (Or.inl (by decide)) G0
  have g6 := dg_ne (i := 3) (u := va_rf p1.1) (by decide) (Or.inl (by decide)) G1
  have g7 := dg_ne (i := 3) (u := va_rf p1.1) (by decide) (Or.inr rfl) G2
  have g8 := dg_ne (i := 3) (u := va_rf p1.1) (by decide) (Or.inl (by decide)) G4
  have g9 := dg_ne (i := 3) (u := va_rf p1.1) (by decide) (Or.inl (by decide)) G6
  have g10 := dg_ne (i := 3) (u := va_rf p1.1) (by decide) (Or.inl (by decide)) G7
  have g11 := dg_ne (i := 3) (u := va_rf p1.1) (by decide) (Or.inl (by decide)) G8
  have g12 := dg_eq (lv) 3 (va_rf p1.1)
  refine dq_aln 3 137 (by decide +kernel) rfl g12 ?_
  refine dq_al 7 139 (by decide +kernel) rfl g10 ?_
  obtain ⟨h13, q14, hh⟩ := db hh
  refine dq_put 239 2 [12] 142 (by decide +kernel) rfl q14 ?_
  refine dq_aln 3 143 (by decide +kernel) rfl g12 ?_
  refine dq_il 6 145 (by decide +kernel) rfl g9 ?_
  obtain ⟨h15, q16, hh⟩ := db hh
  refine dq_put 189 3 [12] 148 (by decide +kernel) rfl q16 ?_
  refine dq_il 8 150 (by decide +kernel) rfl g11 ?_
  rcases di hh with ⟨q17, hh⟩ | ⟨q17, hh⟩
  · refine dq_1 .ne 10 true 160 q17 (by decide +kernel) ?_
    exact c124_160 hD hz hK10 _ _ _ _ _ _ _ _ g5 g6 g7 g12 g8 hh
  · refine dq_1 .ne 10 false 153 q17 (by decide +kernel) ?_
    refine dq_aln 0 154 (by decide +kernel) rfl g5 ?_
    refine dq_aln 3 155 (by decide +kernel) rfl g12 ?_
    refine dq_aln 1 156 (by decide +kernel) rfl g6 ?_
    refine dq_iln 2 157 (by decide +kernel) rfl g7 ?_
    obtain ⟨h18, q19, hh⟩ := db hh
    obtain ⟨a20, q21, q19⟩ := db q19
    rw [dq_xV q19] at q21
    refine dq_cvi hD 242 134 5 3 [8] o0 [va_rf p1.1, va_rf o1, .int i2] [] 160 [] (by decide +kernel) ap_134 ⟨⟨Nat.le_of_ble_eq_true rfl, by decide⟩, rfl, rfl⟩ (dq_ok8 [1, 1, 1, 1] [] (dc_r (dc_r (dc_r (dc_i dc_n)))) dc_n (by decide +kernel)) (by decide +kernel) rfl q21 rfl ?_
    exact c124_160 hD hz hK10 _ _ _ _ _ _ _ _ g5 g6 g7 g12 g8 hh
def b124_106 (L : Nat) (xs : Nat → Int32) (zf : Value) (D : dD) (w : Nat) (K10 : Option Nat → Option Nat → Int32 → Option Nat → Int32 → rm_H → Option dR) (o0 : Option Nat) (o1 : Option Nat) (i2 : Int32) (o3 : Option Nat) (i4 : Int32) (i5 : Int32) (i6 : Int32) (o7 : Option Nat) (s0 : Int32) (h : rm_H) : Option dR :=
  if mx_f1 .eq i5 = true then
    if mx_f1 .eq s0 = true then
      b124_131 L xs zf D w K10 o0 o1 i2 o3 i4 i6 o7 s0 11 o0 h
    else
      b124_131 L xs zf D w K10 o0 o1 i2 o3 i4 i6 o7 s0 10 o0 h
  else
    b124_131 L xs zf D w K10 o0 o1 i2 o3 i4 i6 o7 s0 12 o0 h
theorem c124_106 {L : Nat} {xs : Nat → Int32} {zf : Value} {D : dD} {w k : Nat} {K10 : Option Nat → Option Nat → Int32 → Option Nat → Int32 → rm_H → Option dR} (hD : dO L xs zf D k) (hz : zf.category = 1) (hK10 : ∀ (o0 : Option Nat) (o1 : Option Nat) (i2 : Int32) (o3 : Option Nat) (i4 : Int32) (lv : rm_L) (h : rm_H) (r : dR), rm_get lv 0 = some (va_rf o0) → rm_get lv 1 = some (va_rf o1) → rm_get lv 2 = some (.int i2) → rm_get lv 3 = some (va_rf o3) → rm_get lv 4 = some (.int i4) → K10 o0 o1 i2 o3 i4 h = some r → dq L xs zf ah_M124 10 lv [] h (k + 1) r) : ∀ (o0 : Option Nat) (o1 : Option Nat) (i2 : Int32) (o3 : Option Nat) (i4 : Int32) (i5 : Int32) (i6 : Int32) (o7 : Option Nat) (s0 : Int32) (lv : rm_L) (h : rm_H) (r : dR), rm_get lv 0 = some (va_rf o0) → rm_get lv 1 = some (va_rf o1) → rm_get lv 2 = some (.int i2) → rm_get lv 3 = some (va_rf o3) → rm_get lv 4 = some (.int i4) → rm_get lv 5 = some (.int i5) → rm_get lv 6 = some (.int i6) → rm_get lv 7 = some (va_rf o7) → b124_106 L xs zf D w K10  o0 o1 i2 o3 i4 i5 i6 o7 s0 h = some r → dq L xs zf ah_M124 106 lv [.int s0] h (k + 1) r := by
  intro o0 o1 i2 o3 i4 i5 i6 o7 s0 lv h r G0 G1 G2 G3 G4 G5 G6 G7 hh
  unfold b124_106 at hh
  refine dq_is 8 108 (by decide +kernel) (by decide +kernel) ?_
  have g1 := dg_ne (i := 8) (u := .int s0) (by decide) (Or.inl (by decide)) G0
  have g2 := dg_ne (i := 8) (u := .int s0) (by decide) (Or.inl (by decide)) G1
  have g3 := dg_ne (i := 8) (u := .int s0) (by decide) (Or.inl (by decide)) G2
  have g4 := dg_ne (i := 8) (u := .int s0) (by decide) (Or.inl (by decide)) G3
  have g5 := dg_ne (i := 8) (u := .int s0) (by decide) (Or.inl (by decide)) G4
  have g6 := dg_ne (i := 8) (u := .int s0) (by decide) (Or.inl (by decide)) G5
  have g7 := dg_ne (i := 8) (u := .int s0) (by decide) (Or.inl (by decide)) G6
  have g8 := dg_ne (i := 8) (u := .int s0) (by decide) (Or.inr (drc _)) G7
  have g9 := dg_eq (lv) 8 (.int s0)
  refine dq_aln 0 109 (by decide +kernel) rfl g1 ?_
  refine dq_il 5 111 (by decide +kernel) rfl g6 ?_
  rcases di hh with ⟨q10, hh⟩ | ⟨q10, hh⟩
  · refine dq_1 .eq 8 true 119 q10 (by decide +kernel) ?_
    refine dq_il 8 121 (by decide +kernel) rfl g9 ?_
    rcases di hh with ⟨q11, hh⟩ | ⟨q11, hh⟩
    · refine dq_1 .eq 8 true 129 q11 (by decide +kernel) ?_
      refine dq_S (.bipush 11) 2 [] 131 _ [.int 11, va_rf o0] (by decide +kernel) rfl ?_
      exact c124_131 hD hz hK10 _ _ _ _ _ _ _ _ _ _ _ _ _ g1 g2 g3 g4 g5 g7 g8 g9 hh
    · refine dq_1 .eq 8 false 124 q11 (by decide +kernel) ?_
      refine dq_S (.bipush 10) 2 [] 126 _ [.int 10, va_rf o0] (by decide +kernel) rfl ?_
      refine dq_S (.goto 5) 3 [] 131 _ [.int 10, va_rf o0] (by decide +kernel) rfl ?_
      exact c124_131 hD hz hK10 _ _ _ _ _ _ _ _ _ _ _ _ _ g1 g2 g3 g4 g5 g7 g8 g9 hh
  · refine dq_1 .eq 8 false 114 q10 (by decide +kernel) ?_
    refine dq_S (.bipush 12) 2 [] 116 _ [.int 12, va_rf o0] (by decide +kernel) rfl ?_
    refine dq_S (.goto 15) 3 [] 131 _ [.int 12, va_rf o0] (by decide +kernel) rfl ?_
    exact c124_131 hD hz hK10 _ _ _ _ _ _ _ _ _ _ _ _ _ g1 g2 g3 g4 g5 g7 g8 g9 hh
def b124_105 (L : Nat) (xs : Nat → Int32) (zf : Value) (D : dD) (w : Nat) (K10 : Option Nat → Option Nat → Int32 → Option Nat → Int32 → rm_H → Option dR) (o0 : Option Nat) (o1 : Option Nat) (i2 : Int32) (o3 : Option Nat) (i4 : Int32) (i5 : Int32) (i6 : Int32) (o7 : Option Nat) (h : rm_H) : Option dR :=
  b124_106 L xs zf D w K10 o0 o1 i2 o3 i4 i5 i6 o7 0 h
theorem c124_105 {L : Nat} {xs : Nat → Int32} {zf : Value} {D : dD} {w k : Nat} {K10 : Option Nat → Option Nat → Int32 → Option Nat → Int32 → rm_H → Option dR} (hD : dO L xs zf D k) (hz : zf.category = 1) (hK10 : ∀ (o0 : Option Nat) (o1 : Option Nat) (i2 : Int32) (o3 : Option Nat) (i4 : Int32) (lv : rm_L) (h : rm_H) (r : dR), rm_get lv 0 = some (va_rf o0) → rm_get lv 1 = some (va_rf o1) → rm_get lv 2 = some (.int i2) → rm_get lv 3 = some (va_rf o3) → rm_get lv 4 = some (.int i4) → K10 o0 o1 i2 o3 i4 h = some r → dq L xs zf ah_M124 10 lv [] h (k + 1) r) : ∀ (o0 : Option Nat) (o1 : Option Nat) (i2 : Int32) (o3 : Option Nat) (i4 : Int32) (i5 : Int32) (i6 : Int32) (o7 : Option Nat) (lv : rm_L) (h : rm_H) (r : dR), rm_get lv 0 = some (va_rf o0) → rm_get lv 1 = some (va_rf o1) → rm_get lv 2 = some (.int i2) → rm_get lv 3 = some (va_rf o3) → rm_get lv 4 = some (.int i4) → rm_get lv 5 = some (.int i5) → rm_get lv 6 = some (.int i6) → rm_get lv 7 = some (va_rf o7) → b124_105 L xs zf D w K10  o0 o1 i2 o3 i4 i5 i6 o7 h = some r → dq L xs zf ah_M124 105 lv [] h (k + 1) r := by
  intro o0 o1 i2 o3 i4 i5 i6 o7 lv h r G0 G1 G2 G3 G4 G5 G6 G7 hh
  unfold b124_105 at hh
  refine dq_S (.iconst 0) 1 [] 106 _ [.int 0] (by decide +kernel) rfl ?_
  exact c124_106 hD hz hK10 _ _ _ _ _ _ _ _ _ _ _ _ G0 G1 G2 G3 G4 G5 G6 G7 hh
def b124_59 (L : Nat) (xs : Nat → Int32) (zf : Value) (D : dD) (w : Nat) (K10 : Option Nat → Option Nat → Int32 → Option Nat → Int32 → rm_H → Option dR) (o0 : Option Nat) (o1 : Option Nat) (i2 : Int32) (o3 : Option Nat) (i4 : Int32) (s0 : Int32) (h : rm_H) : Option dR :=
  (dgR L xs h 0 [8] o0).bind fun p7 =>
  ((dcV L xs D 92 [6] p7 [] h).bind dxV).bind fun h9 =>
  (dgR L xs h9 0 [8] o0).bind fun p13 =>
  (dgI L xs h9 7 [6] p13).bind fun x15 =>
  ((dcV L xs D 94 [8] o0 [.int 2] h9).bind dxR).bind fun p24 =>
  if mx_f1 .ne s0 = true then
    b124_105 L xs zf D w K10 o0 o1 i2 o3 i4 s0 x15 p24.1 p24.2
  else
    (dgR L xs p24.2 0 [8] o0).bind fun p37 =>
    (dgI L xs p24.2 6 [6] p37).bind fun x39 =>
    if mx_f2 .eq x39 7 = true then
      b124_105 L xs zf D w K10 o0 o1 i2 o3 i4 s0 x15 p24.1 p24.2
    else
      b124_106 L xs zf D w K10 o0 o1 i2 o3 i4 s0 x15 p24.1 1 p24.2
theorem c124_59 {L : Nat} {xs : Nat → Int32} {zf : Value} {D : dD} {w k : Nat} {K10 : Option Nat → Option Nat → Int32 → Option Nat → Int32 → rm_H → Option dR} (hD : dO L xs zf D k) (hz : zf.category = 1) (hK10 : ∀ (o0 : Option Nat) (o1 : Option Nat) (i2 : Int32) (o3 : Option Nat) (i4 : Int32) (lv : rm_L) (h : rm_H) (r : dR), rm_get lv 0 = some (va_rf o0) → rm_get lv 1 = some (va_rf o1) → rm_get lv 2 = some (.int i2) → rm_get lv 3 = some (va_rf o3) → rm_get lv 4 = some (.int i4) → K10 o0 o1 i2 o3 i4 h = some r → dq L xs zf ah_M124 10 lv [] h (k + 1) r) : ∀ (o0 : Option Nat) (o1 : Option Nat) (i2 : Int32) (o3 : Option Nat) (i4 : Int32) (s0 : Int32) (lv : rm_L) (h : rm_H) (r : dR), rm_get lv 0 = some (va_rf o0) → rm_get lv 1 = some (va_rf o1) → rm_get lv 2 = some (.int i2) → rm_get lv 3 = some (va_rf o3) → rm_get lv 4 = some (.int i4) → b124_59 L xs zf D w K10  o0 o1 i2 o3 i4 s0 h = some r → dq L xs zf ah_M124 59 lv [.int s0] h (k + 1) r := by
  intro o0 o1 i2 o3 i4 s0 lv h r G0 G1 G2 G3 G4 hh
  unfold b124_59 at hh
  refine dq_is 5 61 (by decide +kernel) (by decide +kernel) ?_
  have g1 := dg_ne (i := 5) (u := .int s0) (by decide) (Or.inl (by decide)) G0
  have g2 := dg_ne (i := 5) (u := .int s0) (by decide) (Or.inl (by decide)) G1
  have g3 := dg_ne (i := 5) (u := .int s0) (by decide) (Or.inl (by decide)) G2
  have g4 := dg_ne (i := 5) (u := .int s0) (by decide) (Or.inl (by decide)) G3
  have g5 := dg_ne (i := 5) (u := .int s0) (by decide) (Or.inr rfl) G4
  have g6 := dg_eq (lv) 5 (.int s0)
  refine dq_aln 0 62 (by decide +kernel) rfl g1 ?_
  obtain ⟨p7, q8, hh⟩ := db hh
  refine dq_gR 9 0 [8] 65 (by decide +kernel) rfl q8 ?_
  obtain ⟨h9, q10, hh⟩ := db hh
  obtain ⟨a11, q12, q10⟩ := db q10
  rw [dq_xV q10] at q12
  refine dq_cvi hD 19 92 5 0 [6] p7 [] [] 68 [] (by decide +kernel) ap_92 ⟨⟨Nat.le_of_ble_eq_true rfl, by decide⟩, rfl, rfl⟩ (dq_ok8 [1] [] (dc_r dc_n) dc_n (by decide +kernel)) (by decide +kernel) rfl q12 rfl ?_
  refine dq_aln 0 69 (by decide +kernel) rfl g1 ?_
  obtain ⟨p13, q14, hh⟩ := db hh
  refine dq_gR 9 0 [8] 72 (by decide +kernel) rfl q14 ?_
  obtain ⟨x15, q16, hh⟩ := db hh
  refine dq_gI 58 7 [6] 75 (by decide +kernel) rfl q16 ?_
  refine dq_is 6 77 (by decide +kernel) (by decide +kernel) ?_
  have g17 := dg_ne (i := 6) (u := .int x15) (by decide) (Or.inl (by decide)) g1
  have g18 := dg_ne (i := 6) (u := .int x15) (by decide) (Or.inl (by decide)) g2
  have g19 := dg_ne (i := 6) (u := .int x15) (by decide) (Or.inl (by decide)) g3
  have g20 := dg_ne (i := 6) (u := .int x15) (by decide) (Or.inl (by decide)) g4
  have g21 := dg_ne (i := 6) (u := .int x15) (by decide) (Or.inl (by decide)) g5
  have g22 := dg_ne (i := 6) (u := .int x15) (by decide) (Or.inr rfl) g6
  have g23 := dg_eq (rm_set1 (lv) 5 (.int s0)) 6 (.int x15)
  refine dq_aln 0 78 (by decide +kernel) rfl g17 ?_
  refine dq_S (.iconst 2) 1 [] 79 _ [.int 2, va_rf o0] (by decide +kernel) rfl ?_
  obtain ⟨p24, q25, hh⟩ := db hh
  obtain ⟨a26, q27, q25⟩ := db q25
  rw [dq_xR q25] at q27
  refine dq_cvi hD 63 94 5 1 [8] o0 [.int 2] [] 82 [va_rf p24.1] (by decide +kernel) ap_94 ⟨⟨Nat.le_of_ble_eq_true rfl, by decide⟩, rfl, rfl⟩ (dq_ok8 [1, 1] [] (dc_r (dc_i dc_n)) dc_n (by decide +kernel)) (by decide +kernel) rfl q27 rfl ?_
  refine dq_as 7 84 (by decide +kernel) (by decide +kernel) ?_
  have g28 := dg_ne (i := 7) (u := va_rf p24.1) (by decide) (Or.inl (by decide)) g17
  have g29 := dg_ne (i := 7) (u := va_rf p24.1) (by decide) (Or.inl (by decide)) g18
  have g30 := dg_ne (i := 7) (u := va_rf p24.1) (by decide) (Or.inl (by decide)) g19
  have g31 := dg_ne (i := 7) (u := va_rf p24.1) (by decide) (Or.inl (by decide)) g20
  have g32 := dg_ne (i := 7) (u := va_rf p24.1) (by decide) (Or.inl (by decide)) g21
  have g33 := dg_ne (i := 7) (u := va_rf p24.1) (by decide) (Or.inl (by decide)) g22
  have g34 := dg_ne (i := 7) (u := va_rf p24.1) (by decide) (Or.inr rfl) g23
  have g35 := dg_eq (rm_set1 (rm_set1 (lv) 5 (.int s0)) 6 (.int x15)) 7 (va_rf p24.1)
  refine dq_il 5 86 (by decide +kernel) rfl g33 ?_
  rcases di hh with ⟨q36, hh⟩ | ⟨q36, hh⟩
  · refine dq_1 .ne 19 true 105 q36 (by decide +kernel) ?_
    exact c124_105 hD hz hK10 _ _ _ _ _ _ _ _ _ _ _ g28 g29 g30 g31 g32 g33 g34 g35 hh
  · refine dq_1 .ne 19 false 89 q36 (by decide +kernel) ?_
    refine dq_aln 0 90 (by decide +kernel) rfl g28 ?_
    obtain ⟨p37, q38, hh⟩ := db hh
    refine dq_gR 9 0 [8] 93 (by decide +kernel) rfl q38 ?_
    obtain ⟨x39, q40, hh⟩ := db hh
    refine dq_gI 24 6 [6] 96 (by decide +kernel) rfl q40 ?_
    refine dq_S (.bipush 7) 2 [] 98 _ [.int 7, .int x39] (by decide +kernel) rfl ?_
    rcases di hh with ⟨q41, hh⟩ | ⟨q41, hh⟩
    · refine dq_2 .eq 7 true 105 q41 (by decide +kernel) ?_
      exact c124_105 hD hz hK10 _ _ _ _ _ _ _ _ _ _ _ g28 g29 g30 g31 g32 g33 g34 g35 hh
    · refine dq_2 .eq 7 false 101 q41 (by decide +kernel) ?_
      refine dq_S (.iconst 1) 1 [] 102 _ [.int 1] (by decide +kernel) rfl ?_
      refine dq_S (.goto 4) 3 [] 106 _ [.int 1] (by decide +kernel) rfl ?_
      exact c124_106 hD hz hK10 _ _ _ _ _ _ _ _ _ _ _ _ g28 g29 g30 g31 g32 g33 g34 g35 hh
def b124_42 (L : Nat) (xs : Nat → Int32) (zf : Value) (D : dD) (w : Nat) (K10 : Option Nat → Option Nat → Int32 → Option Nat → Int32 → rm_H → Option dR) (o0 : Option Nat) (o1 : Option Nat) (i2 : Int32) (o3 : Option Nat) (i4 : Int32) (h : rm_H) : Option dR :=
  (dgR L xs h 0 [8] o0).bind fun p1 =>
  (dgI L xs h 6 [6] p1).bind fun x3 =>
  if mx_f2 .ne x3 13 = true then
    b124_59 L xs zf D w K10 o0 o1 i2 o3 i4 0 h
  else
    b124_59 L xs zf D w K10 o0 o1 i2 o3 i4 1 h
theorem c124_42 {L : Nat} {xs : Nat → Int32} {zf : Value} {D : dD} {w k : Nat} {K10 : Option Nat → Option Nat → Int32 → Option Nat → Int32 → rm_H → Option dR} (hD : dO L xs zf D k) (hz : zf.category = 1) (hK10 : ∀ (o0 : Option Nat) (o1 : Option Nat) (i2 : Int32) (o3 : Option Nat) (i4 : Int32) (lv : rm_L) (h : rm_H) (r : dR), rm_get lv 0 = some (va_rf o0) → rm_get lv 1 = some (va_rf o1) → rm_get lv 2 = some (.int i2) → rm_get lv 3 = some (va_rf o3) → rm_get lv 4 = some (.int i4) → K10 o0 o1 i2 o3 i4 h = some r → dq L xs zf ah_M124 10 lv [] h (k + 1) r) : ∀ (o0 : Option Nat) (o1 : Option Nat) (i2 : Int32) (o3 : Option Nat) (i4 : Int32) (lv : rm_L) (h : rm_H) (r : dR), rm_get lv 0 = some (va_rf o0) → rm_get lv 1 = some (va_rf o1) → rm_get lv 2 = some (.int i2) → rm_get lv 3 = some (va_rf o3) → rm_get lv 4 = some (.int i4) → b124_42 L xs zf D w K10  o0 o1 i2 o3 i4 h = some r → dq L xs zf ah_M124 42 lv [] h (k + 1) r := by
  intro o0 o1 i2 o3 i4 lv h r G0 G1 G2 G3 G4 hh
  unfold b124_42 at hh
  refine dq_aln 0 43 (by decide +kernel) rfl G0 ?_
  obtain ⟨p1, q2, hh⟩ := db hh
  refine dq_gR 9 0 [8] 46 (by decide +kernel) rfl q2 ?_
  obtain ⟨x3, q4, hh⟩ := db hh
  refine dq_gI 24 6 [6] 49 (by decide +kernel) rfl q4 ?_
  refine dq_S (.bipush 13) 2 [] 51 _ [.int 13, .int x3] (by decide +kernel) rfl ?_
  rcases di hh with ⟨q5, hh⟩ | ⟨q5, hh⟩
  · refine dq_2 .ne 7 true 58 q5 (by decide +kernel) ?_
    refine dq_S (.iconst 0) 1 [] 59 _ [.int 0] (by decide +kernel) rfl ?_
    exact c124_59 hD hz hK10 _ _ _ _ _ _ _ _ _ G0 G1 G2 G3 G4 hh
  · refine dq_2 .ne 7 false 54 q5 (by decide +kernel) ?_
    refine dq_S (.iconst 1) 1 [] 55 _ [.int 1] (by decide +kernel) rfl ?_
    refine dq_S (.goto 4) 3 [] 59 _ [.int 1] (by decide +kernel) rfl ?_
    exact c124_59 hD hz hK10 _ _ _ _ _ _ _ _ _ G0 G1 G2 G3 G4 hh
def b124_166 (L : Nat) (xs : Nat → Int32) (zf : Value) (D : dD) (w : Nat) (o3 : Option Nat) (h : rm_H) : Option dR :=
  some (some (va_rf o3), h)
theorem c124_166 {L : Nat} {xs : Nat → Int32} {zf : Value} {D : dD} {w k : Nat} (hD : dO L xs zf D k) (hz : zf.category = 1) : ∀ (o3 : Option Nat) (lv : rm_L) (h : rm_H) (r : dR), rm_get lv 3 = some (va_rf o3) → b124_166 L xs zf D w  o3 h = some r → dq L xs zf ah_M124 166 lv [] h (k + 1) r := by
  intro o3 lv h r G3 hh
  unfold b124_166 at hh
  refine dq_aln 3 167 (by decide +kernel) rfl G3 ?_
  cases hh
  exact dq_retR (by decide +kernel) rfl
def b124_10 (L : Nat) (xs : Nat → Int32) (zf : Value) (D : dD) (w : Nat) : Nat → Option Nat → Option Nat → Int32 → Option Nat → Int32 → rm_H → Option dR
  | 0, _, _, _, _, _, _ => none
  | n + 1, o0, o1, i2, o3, i4, h =>
    if mx_f2 .ge i4 2000 = true then
      b124_166 L xs zf D w o3 h
    else
      (dgR L xs h 0 [8] o0).bind fun p2 =>
      (dgI L xs h 6 [6] p2).bind fun x4 =>
      if mx_f2 .eq x4 12 = true then
        b124_42 L xs zf D w (b124_10 L xs zf D w n) o0 o1 i2 o3 i4 h
      else
        (dgR L xs h 0 [8] o0).bind fun p7 =>
        (dgI L xs h 6 [6] p7).bind fun x9 =>
        if mx_f2 .ne x9 13 = true then
          b124_166 L xs zf D w o3 h
        else
          b124_42 L xs zf D w (b124_10 L xs zf D w n) o0 o1 i2 o3 i4 h
theorem c124_10 {L : Nat} {xs : Nat → Int32} {zf : Value} {D : dD} {w k : Nat} (hD : dO L xs zf D k) (hz : zf.category = 1) : ∀ (n : Nat) (o0 : Option Nat) (o1 : Option Nat) (i2 : Int32) (o3 : Option Nat) (i4 : Int32) (lv : rm_L) (h : rm_H) (r : dR), rm_get lv 0 = some (va_rf o0) → rm_get lv 1 = some (va_rf o1) → rm_get lv 2 = some (.int i2) → rm_get lv 3 = some (va_rf o3) → rm_get lv 4 = some (.int i4) → b124_10 L xs zf D w n  o0 o1 i2 o3 i4 h = some r → dq L xs zf ah_M124 10 lv [] h (k + 1) r := by
  intro n
  induction n with
  | zero =>
    intro o0 o1 i2 o3 i4 lv h r G0 G1 G2 G3 G4 hh
    cases hh
  | succ n ih =>
    intro o0 o1 i2 o3 i4 lv h r G0 G1 G2 G3 G4 hh
    rw [b124_10] at hh
    refine dq_il 4 12 (by decide +kernel) rfl G4 ?_
    refine dq_S (.sipush 2000) 3 [] 15 _ [.int 2000, .int i4] (by decide +kernel) rfl ?_
    rcases di hh with ⟨q1, hh⟩ | ⟨q1, hh⟩
    · refine dq_2 .ge 151 true 166 q1 (by decide +kernel) ?_
      exact c124_166 hD hz _ _ _ _ G3 hh
    · refine dq_2 .ge 151 false 18 q1 (by decide +kernel) ?_
      refine dq_aln 0 19 (by decide +kernel) rfl G0 ?_
      obtain ⟨p2, q3, hh⟩ := db hh
      refine dq_gR 9 0 [8] 22 (by decide +kernel) rfl q3 ?_
      obtain ⟨x4, q5, hh⟩ := db hh
      refine dq_gI 24 6 [6] 25 (by decide +kernel) rfl q5 ?_
      refine dq_S (.bipush 12) 2 [] 27 _ [.int 12, .int x4] (by decide +kernel) rfl ?_
      rcases di hh with ⟨q6, hh⟩ | ⟨q6, hh⟩
      · refine dq_2 .eq 15 true 42 q6 (by decide +kernel) ?_
        exact c124_42 hD hz ih _ _ _ _ _ _ _ _ G0 G1 G2 G3 G4 hh
      · refine dq_2 .eq 15 false 30 q6 (by decide +kernel) ?_
        refine dq_aln 0 31 (by decide +kernel) rfl G0 ?_
        obtain ⟨p7, q8, hh⟩ := db hh
        refine dq_gR 9 0 [8] 34 (by decide +kernel) rfl q8 ?_
        obtain ⟨x9, q10, hh⟩ := db hh
        refine dq_gI 24 6 [6] 37 (by decide +kernel) rfl q10 ?_
        refine dq_S (.bipush 13) 2 [] 39 _ [.int 13, .int x9] (by decide +kernel) rfl ?_
        rcases di hh with ⟨q11, hh⟩ | ⟨q11, hh⟩
        · refine dq_2 .ne 127 true 166 q11 (by decide +kernel) ?_
          exact c124_166 hD hz _ _ _ _ G3 hh
        · refine dq_2 .ne 127 false 42 q11 (by decide +kernel) ?_
          exact c124_42 hD hz ih _ _ _ _ _ _ _ _ G0 G1 G2 G3 G4 hh
def b124_0 (L : Nat) (xs : Nat → Int32) (zf : Value) (D : dD) (w : Nat) (o0 : Option Nat) (o1 : Option Nat) (i2 : Int32) (h : rm_H) : Option dR :=
  ((dcV L xs D 125 [8] o0 [va_rf o1, .int i2] h).bind dxR).bind fun p1 =>
  b124_10 L xs zf D w w o0 o1 i2 p1.1 0 p1.2
theorem c124_0 {L : Nat} {xs : Nat → Int32} {zf : Value} {D : dD} {w k : Nat} (hD : dO L xs zf D k) (hz : zf.category = 1) : ∀ (o0 : Option Nat) (o1 : Option Nat) (i2 : Int32) (lv : rm_L) (h : rm_H) (r : dR), rm_get lv 0 = some (va_rf o0) → rm_get lv 1 = some (va_rf o1) → rm_get lv 2 = some (.int i2) → b124_0 L xs zf D w  o0 o1 i2 h = some r → dq L xs zf ah_M124 0 lv [] h (k + 1) r := by
  intro o0 o1 i2 lv h r G0 G1 G2 hh
  unfold b124_0 at hh
  refine dq_aln 0 1 (by decide +kernel) rfl G0 ?_
  refine dq_aln 1 2 (by decide +kernel) rfl G1 ?_
  refine dq_iln 2 3 (by decide +kernel) rfl G2 ?_
  obtain ⟨p1, q2, hh⟩ := db hh
  obtain ⟨a3, q4, q2⟩ := db q2
  rw [dq_xR q2] at q4
  refine dq_cvi hD 236 125 5 2 [8] o0 [va_rf o1, .int i2] [] 6 [va_rf p1.1] (by decide +kernel) ap_125 ⟨⟨Nat.le_of_ble_eq_true rfl, by decide⟩, rfl, rfl⟩ (dq_ok8 [1, 1, 1] [] (dc_r (dc_r (dc_i dc_n))) dc_n (by decide +kernel)) (by decide +kernel) rfl q4 rfl ?_
  refine dq_asn 3 7 (by decide +kernel) (by decide +kernel) ?_
  have g5 := dg_ne (i := 3) (u := va_rf p1.1) (by decide) (Or.inl (by decide)) G0
  have g6 := dg_ne (i := 3) (u := va_rf p1.1) (by decide) (Or.inl (by decide)) G1
  have g7 := dg_ne (i := 3) (u := va_rf p1.1) (by decide) (Or.inr rfl) G2
  have g8 := dg_eq (lv) 3 (va_rf p1.1)
  refine dq_S (.iconst 0) 1 [] 8 _ [.int 0] (by decide +kernel) rfl ?_
  refine dq_is 4 10 (by decide +kernel) (by decide +kernel) ?_
  have g9 := dg_ne (i := 4) (u := .int 0) (by decide) (Or.inl (by decide)) g5
  have g10 := dg_ne (i := 4) (u := .int 0) (by decide) (Or.inl (by decide)) g6
  have g11 := dg_ne (i := 4) (u := .int 0) (by decide) (Or.inl (by decide)) g7
  have g12 := dg_ne (i := 4) (u := .int 0) (by decide) (Or.inr (drc _)) g8
  have g13 := dg_eq (rm_set1 (lv) 3 (va_rf p1.1)) 4 (.int 0)
  exact c124_10 hD hz _ _ _ _ _ _ _ _ _ g9 g10 g11 g12 g13 hh
def f124 (L : Nat) (xs : Nat → Int32) (zf : Value) (D : dD) (w : Nat) (As : List Value) (h : rm_H) : Option dR := match As with
  | [v0, v1, .int i2] => (rm_rf v0).bind fun o0 => (rm_rf v1).bind fun o1 => b124_0 L xs zf D w o0 o1 i2 h
  | _ => none
theorem d124 {L : Nat} {xs : Nat → Int32} {zf : Value} {D : dD} {w k : Nat} (hD : dO L xs zf D k) (hz : zf.category = 1) (As : List Value) (h : rm_H) (r : dR) (hh : f124 L xs zf D w As h = some r) : dq L xs zf ah_M124 0 (lv_args 0 As) [] h (k + 1) r := by
  unfold f124 at hh
  split at hh
  · obtain ⟨o0, e0, hb0⟩ := db hh
    have e0 := rm_rf_v _ _ e0
    obtain ⟨o1, e1, hb1⟩ := db hb0
    have e1 := rm_rf_v _ _ e1
    subst e0 e1
    refine c124_0 hD hz _ _ _ _ _ _ ?_ ?_ ?_ hb1
    all_goals (simp only [la_r, la_i, la_j]; rfl)
  · cases hh
def b125_0 (L : Nat) (xs : Nat → Int32) (zf : Value) (D : dD) (w : Nat) (o0 : Option Nat) (o1 : Option Nat) (i2 : Int32) (h : rm_H) : Option dR :=
  (dgR L xs h 0 [8] o0).bind fun p1 =>
  (dgI L xs h 6 [6] p1).bind fun x3 =>
  if mx_f2 .ne x3 7 = true then
    (dgR L xs h 1 [8] o0).bind fun p6 =>
    (dgI L xs h 4 [4] p6).bind fun x8 =>
    (dpF h 4 [4] p6 (.int (x8 + 1))).bind fun h10 =>
    (dgR L xs h10 0 [8] o0).bind fun p12 =>
    (dgI L xs h10 6 [6] p12).bind fun x14 =>
    if x14 = 2 then
      ((dcV L xs D 129 [8] o0 [] h10).bind dxR).bind fun p17 =>
      some (some (va_rf p17.1), p17.2)
    else if x14 = 4 then
      ((dcV L xs D 126 [8] o0 [] h10).bind dxR).bind fun p22 =>
      some (some (va_rf p22.1), p22.2)
    else if x14 = 22 then
      ((dcV L xs D 133 [8] o0 [va_rf o1, .int i2] h10).bind dxR).bind fun p27 =>
      some (some (va_rf p27.1), p27.2)
    else if x14 = 32 then
      ((dcV L xs D 131 [8] o0 [va_rf o1, .int i2] h10).bind dxR).bind fun p32 =>
      some (some (va_rf p32.1), p32.2)
    else if x14 = 33 then
      ((dcV L xs D 132 [8] o0 [va_rf o1, .int i2] h10).bind dxR).bind fun p37 =>
      some (some (va_rf p37.1), p37.2)
    else if x14 = 34 then
      ((dcV L xs D 128 [8] o0 [.int 2] h10).bind dxR).bind fun p42 =>
      some (some (va_rf p42.1), p42.2)
    else if x14 = 35 then
      ((dcV L xs D 128 [8] o0 [.int 3] h10).bind dxR).bind fun p47 =>
      some (some (va_rf p47.1), p47.2)
    else if x14 = 36 then
      ((dcV L xs D 130 [8] o0 [] h10).bind dxR).bind fun p52 =>
      some (some (va_rf p52.1), p52.2)
    else if x14 = 37 then
      ((dcV L xs D 136 [8] o0 [va_rf o1, .int i2] h10).bind dxR).bind fun p57 =>
      some (some (va_rf p57.1), p57.2)
    else if Op.lookupswitch.offset (#[(2, 101), (4, 84), (22, 125), (32, 111), (33, 118), (34, 89), (35, 95), (36, 106), (37, 132)] : Array (Int × Int)).toList 139 (Int32.toInt x14) = 139 then
      (dgR L xs h10 0 [8] o0).bind fun p62 =>
      ((dcV L xs D 95 [6] p62 [] h10).bind dxV).bind fun h64 =>
      (some (h64 ++ [.inr (12, ah_DV 12)])).bind fun h68 =>
      (dgR L xs h68 0 [8] o0).bind fun p70 =>
      (dgI L xs h68 7 [6] p70).bind fun x72 =>
      ((dcN D 120 (some (21 + List.length h64)) [.int 1, .int x72] h68).bind dxV).bind fun h74 =>
      some (some (va_rf (some (21 + List.length h64))), h74)
    else none
  else
    (dgR L xs h 0 [8] o0).bind fun p78 =>
    ((dcV L xs D 92 [6] p78 [] h).bind dxV).bind fun h80 =>
    ((dcV L xs D 123 [8] o0 [va_rf o1, .int (i2 + 1)] h80).bind dxR).bind fun p84 =>
    ((dcV L xs D 109 [8] o0 [.int 8] p84.2).bind dxV).bind fun h92 =>
    some (some (va_rf p84.1), h92)
theorem c125_0 {L : Nat} {xs : Nat → Int32} {zf : Value} {D : dD} {w k : Nat} (hD : dO L xs zf D k) (hz : zf.category = 1) : ∀ (o0 : Option Nat) (o1 : Option Nat) (i2 : Int32) (lv : rm_L) (h : rm_H) (r : dR), rm_get lv 0 = some (va_rf o0) → rm_get lv 1 = some (va_rf o1) → rm_get lv 2 = some (.int i2) → b125_0 L xs zf D w  o0 o1 i2 h = some r → dq L xs zf ah_M125 0 lv [] h (k + 1) r := by
  intro o0 o1 i2 lv h r G0 G1 G2 hh
  unfold b125_0 at hh
  refine dq_aln 0 1 (by decide +kernel) rfl G0 ?_
  obtain ⟨p1, q2, hh⟩ := db hh
  refine dq_gR 9 0 [8] 4 (by decide +kernel) rfl q2 ?_
  obtain ⟨x3, q4, hh⟩ := db hh
  refine dq_gI 24 6 [6] 7 (by decide +kernel) rfl q4 ?_
  refine dq_S (.bipush 7) 2 [] 9 _ [.int 7, .int x3] (by decide +kernel) rfl ?_
  rcases di hh with ⟨q5, hh⟩ | ⟨q5, hh⟩
  · refine dq_2 .ne 27 true 36 q5 (by decide +kernel) ?_
    refine dq_aln 0 37 (by decide +kernel) rfl G0 ?_
    obtain ⟨p6, q7, hh⟩ := db hh
    refine dq_gR 15 1 [8] 40 (by decide +kernel) rfl q7 ?_
    refine dq_dup 41 (by decide +kernel) rfl ?_
    obtain ⟨x8, q9, hh⟩ := db hh
    refine dq_gI 253 4 [4] 44 (by decide +kernel) rfl q9 ?_
    refine dq_S (.iconst 1) 1 [] 45 _ [.int 1, .int x8, va_rf p6] (by decide +kernel) rfl ?_
    refine dq_S (.iadd) 1 [] 46 _ [.int (x8 + 1), va_rf p6] (by decide +kernel) rfl ?_
    obtain ⟨h10, q11, hh⟩ := db hh
    refine dq_put 253 4 [4] 49 (by decide +kernel) rfl q11 ?_
    refine dq_aln 0 50 (by decide +kernel) rfl G0 ?_
    obtain ⟨p12, q13, hh⟩ := db hh
    refine dq_gR 9 0 [8] 53 (by decide +kernel) rfl q13 ?_
    obtain ⟨x14, q15, hh⟩ := db hh
    refine dq_gI 24 6 [6] 56 (by decide +kernel) rfl q15 ?_
    rcases dp hh with ⟨q16, hh⟩ | ⟨_, hh⟩
    · refine dq_eq 2 q16 ?_
      refine dq_S (.lookupswitch 139 #[(2, 101), (4, 84), (22, 125), (32, 111), (33, 118), (34, 89), (35, 95), (36, 106), (37, 132)]) 84 [] 157 _ [] (by decide +kernel) rfl ?_
      refine dq_aln 0 158 (by decide +kernel) rfl G0 ?_
      obtain ⟨p17, q18, hh⟩ := db hh
      obtain ⟨a19, q20, q18⟩ := db q18
      rw [dq_xR q18] at q20
      refine dq_cvi hD 264 129 5 0 [8] o0 [] [] 161 [va_rf p17.1] (by decide +kernel) ap_129 ⟨⟨Nat.le_of_ble_eq_true rfl, by decide⟩, rfl, rfl⟩ (dq_ok8 [1] [] (dc_r dc_n) dc_n (by decide +kernel)) (by decide +kernel) rfl q20 rfl ?_
      cases hh
      exact dq_retR (by decide +kernel) rfl
    rcases dp hh with ⟨q21, hh⟩ | ⟨_, hh⟩
    · refine dq_eq 4 q21 ?_
      refine dq_S (.lookupswitch 139 #[(2, 101), (4, 84), (22, 125), (32, 111), (33, 118), (34, 89), (35, 95), (36, 106), (37, 132)]) 84 [] 140 _ [] (by decide +kernel) rfl ?_
      refine dq_aln 0 141 (by decide +kernel) rfl G0 ?_
      obtain ⟨p22, q23, hh⟩ := db hh
      obtain ⟨a24, q25, q23⟩ := db q23
      rw [dq_xR q23] at q25
      refine dq_cvi hD 256 126 5 0 [8] o0 [] [] 144 [va_rf p22.1] (by decide +kernel) ap_126 ⟨⟨Nat.le_of_ble_eq_true rfl, by decide⟩, rfl, rfl⟩ (dq_ok8 [1] [] (dc_r dc_n) dc_n (by decide +kernel)) (by decide +kernel) rfl q25 rfl ?_
      cases hh
      exact dq_retR (by decide +kernel) rfl
    rcases dp hh with ⟨q26, hh⟩ | ⟨_, hh⟩
    · refine dq_eq 22 q26 ?_
      refine dq_S (.lookupswitch 139 #[(2, 101), (4, 84), (22, 125), (32, 111), (33, 118), (34, 89), (35, 95), (36, 106), (37, 132)]) 84 [] 181 _ [] (by decide +kernel) rfl ?_
      refine dq_aln 0 182 (by decide +kernel) rfl G0 ?_
      refine dq_aln 1 183 (by decide +kernel) rfl G1 ?_
      refine dq_iln 2 184 (by decide +kernel) rfl G2 ?_
      obtain ⟨p27, q28, hh⟩ := db hh
      obtain ⟨a29, q30, q28⟩ := db q28
      rw [dq_xR q28] at q30
      refine dq_cvi hD 276 133 5 2 [8] o0 [va_rf o1, .int i2] [] 187 [va_rf p27.1] (by decide +kernel) ap_133 ⟨⟨Nat.le_of_ble_eq_true rfl, by decide⟩, rfl, rfl⟩ (dq_ok8 [1, 1, 1] [] (dc_r (dc_r (dc_i dc_n))) dc_n (by decide +kernel)) (by decide +kernel) rfl q30 rfl ?_
      cases hh
      exact dq_retR (by decide +kernel) rfl
    rcases dp hh with ⟨q31, hh⟩ | ⟨_, hh⟩
    · refine dq_eq 32 q31 ?_
      refine dq_S (.lookupswitch 139 #[(2, 101), (4, 84), (22, 125), (32, 111), (33, 118), (34, 89), (35, 95), (36, 106), (37, 132)]) 84 [] 167 _ [] (by decide +kernel) rfl ?_
      refine dq_aln 0 168 (by decide +kernel) rfl G0 ?_
      refine dq_aln 1 169 (by decide +kernel) rfl G1 ?_
      refine dq_iln 2 170 (by decide +kernel) rfl G2 ?_
      obtain ⟨p32, q33, hh⟩ := db hh
      obtain ⟨a34, q35, q33⟩ := db q33
      rw [dq_xR q33] at q35
      refine dq_cvi hD 270 131 5 2 [8] o0 [va_rf o1, .int i2] [] 173 [va_rf p32.1] (by decide +kernel) ap_131 ⟨⟨Nat.le_of_ble_eq_true rfl, by decide⟩, rfl, rfl⟩ (dq_ok8 [1, 1, 1] [] (dc_r (dc_r (dc_i dc_n))) dc_n (by decide +kernel)) (by decide +kernel) rfl q35 rfl ?_
      cases hh
      exact dq_retR (by decide +kernel) rfl
    rcases dp hh with ⟨q36, hh⟩ | ⟨_, hh⟩
    · refine dq_eq 33 q36 ?_
      refine dq_S (.lookupswitch 139 #[(2, 101), (4, 84), (22, 125), (32, 111), (33, 118), (34, 89), (35, 95), (36, 106), (37, 132)]) 84 [] 174 _ [] (by decide +kernel) rfl ?_
      refine dq_aln 0 175 (by decide +kernel) rfl G0 ?_
      refine dq_aln 1 176 (by decide +kernel) rfl G1 ?_
      refine dq_iln 2 177 (by decide +kernel) rfl G2 ?_
      obtain ⟨p37, q38, hh⟩ := db hh
      obtain ⟨a39, q40, q38⟩ := db q38
      rw [dq_xR q38] at q40
      refine dq_cvi hD 273 132 5 2 [8] o0 [va_rf o1, .int i2] [] 180 [va_rf p37.1] (by decide +kernel) ap_132 ⟨⟨Nat.le_of_ble_eq_true rfl, by decide⟩, rfl, rfl⟩ (dq_ok8 [1, 1, 1] [] (dc_r (dc_r (dc_i dc_n))) dc_n (by decide +kernel)) (by decide +kernel) rfl q40 rfl ?_
      cases hh
      exact dq_retR (by decide +kernel) rfl
    rcases dp hh with ⟨q41, hh⟩ | ⟨_, hh⟩
    · refine dq_eq 34 q41 ?_
      refine dq_S (.lookupswitch 139 #[(2, 101), (4, 84), (22, 125), (32, 111), (33, 118), (34, 89), (35, 95), (36, 106), (37, 132)]) 84 [] 145 _ [] (by decide +kernel) rfl ?_
      refine dq_aln 0 146 (by decide +kernel) rfl G0 ?_
      refine dq_S (.iconst 2) 1 [] 147 _ [.int 2, va_rf o0] (by decide +kernel) rfl ?_
      obtain ⟨p42, q43, hh⟩ := db hh
      obtain ⟨a44, q45, q43⟩ := db q43
      rw [dq_xR q43] at q45
      refine dq_cvi hD 260 128 5 1 [8] o0 [.int 2] [] 150 [va_rf p42.1] (by decide +kernel) ap_128 ⟨⟨Nat.le_of_ble_eq_true rfl, by decide⟩, rfl, rfl⟩ (dq_ok8 [1, 1] [] (dc_r (dc_i dc_n)) dc_n (by decide +kernel)) (by decide +kernel) rfl q45 rfl ?_
      cases hh
      exact dq_retR (by decide +kernel) rfl
    rcases dp hh with ⟨q46, hh⟩ | ⟨_, hh⟩
    · refine dq_eq 35 q46 ?_
      refine dq_S (.lookupswitch 139 #[(2, 101), (4, 84), (22, 125), (32, 111), (33, 118), (34, 89), (35, 95), (36, 106), (37, 132)]) 84 [] 151 _ [] (by decide +kernel) rfl ?_
      refine dq_aln 0 152 (by decide +kernel) rfl G0 ?_
      refine dq_S (.iconst 3) 1 [] 153 _ [.int 3, va_rf o0] (by decide +kernel) rfl ?_
      obtain ⟨p47, q48, hh⟩ := db hh
      obtain ⟨a49, q50, q48⟩ := db q48
      rw [dq_xR q48] at q50
      refine dq_cvi hD 260 128 5 1 [8] o0 [.int 3] [] 156 [va_rf p47.1] (by decide +kernel) ap_128 ⟨⟨Nat.le_of_ble_eq_true rfl, by decide⟩, rfl, rfl⟩ (dq_ok8 [1, 1] [] (dc_r (dc_i dc_n)) dc_n (by decide +kernel)) (by decide +kernel) rfl q50 rfl ?_
      cases hh
      exact dq_retR (by decide +kernel) rfl
    rcases dp hh with ⟨q51, hh⟩ | ⟨_, hh⟩
    · refine dq_eq 36 q51 ?_
      refine dq_S (.lookupswitch 139 #[(2, 101), (4, 84), (22, 125), (32, 111), (33, 118), (34, 89), (35, 95), (36, 106), (37, 132)]) 84 [] 162 _ [] (by decide +kernel) rfl ?_
      refine dq_aln 0 163 (by decide +kernel) rfl G0 ?_
      obtain ⟨p52, q53, hh⟩ := db hh
      obtain ⟨a54, q55, q53⟩ := db q53
      rw [dq_xR q53] at q55
      refine dq_cvi hD 267 130 5 0 [8] o0 [] [] 166 [va_rf p52.1] (by decide +kernel) ap_130 ⟨⟨Nat.le_of_ble_eq_true rfl, by decide⟩, rfl, rfl⟩ (dq_ok8 [1] [] (dc_r dc_n) dc_n (by decide +kernel)) (by decide +kernel) rfl q55 rfl ?_
      cases hh
      exact dq_retR (by decide +kernel) rfl
    rcases dp hh with ⟨q56, hh⟩ | ⟨_, hh⟩
    · refine dq_eq 37 q56 ?_
      refine dq_S (.lookupswitch 139 #[(2, 101), (4, 84), (22, 125), (32, 111), (33, 118), (34, 89), (35, 95), (36, 106), (37, 132)]) 84 [] 188 _ [] (by decide +kernel) rfl ?_
      refine dq_aln 0 189 (by decide +kernel) rfl G0 ?_
      refine dq_aln 1 190 (by decide +kernel) rfl G1 ?_
      refine dq_iln 2 191 (by decide +kernel) rfl G2 ?_
      obtain ⟨p57, q58, hh⟩ := db hh
      obtain ⟨a59, q60, q58⟩ := db q58
      rw [dq_xR q58] at q60
      refine dq_cvi hD 279 136 5 2 [8] o0 [va_rf o1, .int i2] [] 194 [va_rf p57.1] (by decide +kernel) ap_136 ⟨⟨Nat.le_of_ble_eq_true rfl, by decide⟩, rfl, rfl⟩ (dq_ok8 [1, 1, 1] [] (dc_r (dc_r (dc_i dc_n))) dc_n (by decide +kernel)) (by decide +kernel) rfl q60 rfl ?_
      cases hh
      exact dq_retR (by decide +kernel) rfl
    rcases dp hh with ⟨q61, hh⟩ | ⟨_, hh⟩
    · refine dq_lkd 139 #[(2, 101), (4, 84), (22, 125), (32, 111), (33, 118), (34, 89), (35, 95), (36, 106), (37, 132)] 84 195 (by decide +kernel) (by decide +kernel) q61 ?_
      refine dq_aln 0 196 (by decide +kernel) rfl G0 ?_
      obtain ⟨p62, q63, hh⟩ := db hh
      refine dq_gR 9 0 [8] 199 (by decide +kernel) rfl q63 ?_
      obtain ⟨h64, q65, hh⟩ := db hh
      obtain ⟨a66, q67, q65⟩ := db q65
      rw [dq_xV q65] at q67
      refine dq_cvi hD 46 95 5 0 [6] p62 [] [] 202 [] (by decide +kernel) ap_95 ⟨⟨Nat.le_of_ble_eq_true rfl, by decide⟩, rfl, rfl⟩ (dq_ok8 [1] [] (dc_r dc_n) dc_n (by decide +kernel)) (by decide +kernel) rfl q67 rfl ?_
      obtain ⟨h68, q69, hh⟩ := db hh
      refine dq_new 178 12 205 (by decide +kernel) rfl ?_
      rw [Option.some.inj q69]
      refine dq_dup 206 (by decide +kernel) rfl ?_
      refine dq_S (.iconst 1) 1 [] 207 _ [.int 1, va_rf (some (21 + List.length h64)), va_rf (some (21 + List.length h64))] (by decide +kernel) rfl ?_
      refine dq_aln 0 208 (by decide +kernel) rfl G0 ?_
      obtain ⟨p70, q71, hh⟩ := db hh
      refine dq_gR 9 0 [8] 211 (by decide +kernel) rfl q71 ?_
      obtain ⟨x72, q73, hh⟩ := db hh
      refine dq_gI 58 7 [6] 214 (by decide +kernel) rfl q73 ?_
      obtain ⟨h74, q75, hh⟩ := db hh
      obtain ⟨a76, q77, q75⟩ := db q75
      rw [dq_xV q75] at q77
      refine dq_csp hD 180 120 2 [] (some (21 + List.length h64)) [.int 1, .int x72] [va_rf (some (21 + List.length h64))] 217 [va_rf (some (21 + List.length h64))] (by decide +kernel) ap_120 ⟨Nat.le_of_ble_eq_true rfl, rfl, rfl⟩ (dq_ok8 [1, 1, 1] [1] (dc_r (dc_i (dc_i dc_n))) (dc_r dc_n) (by decide +kernel)) (by decide +kernel) rfl q77 rfl ?_
      cases hh
      exact dq_retR (by decide +kernel) rfl
    cases hh
  · refine dq_2 .ne 27 false 12 q5 (by decide +kernel) ?_
    refine dq_aln 0 13 (by decide +kernel) rfl G0 ?_
    obtain ⟨p78, q79, hh⟩ := db hh
    refine dq_gR 9 0 [8] 16 (by decide +kernel) rfl q79 ?_
    obtain ⟨h80, q81, hh⟩ := db hh
    obtain ⟨a82, q83, q81⟩ := db q81
    rw [dq_xV q81] at q83
    refine dq_cvi hD 19 92 5 0 [6] p78 [] [] 19 [] (by decide +kernel) ap_92 ⟨⟨Nat.le_of_ble_eq_true rfl, by decide⟩, rfl, rfl⟩ (dq_ok8 [1] [] (dc_r dc_n) dc_n (by decide +kernel)) (by decide +kernel) rfl q83 rfl ?_
    refine dq_aln 0 20 (by decide +kernel) rfl G0 ?_
    refine dq_aln 1 21 (by decide +kernel) rfl G1 ?_
    refine dq_iln 2 22 (by decide +kernel) rfl G2 ?_
    refine dq_S (.iconst 1) 1 [] 23 _ [.int 1, .int i2, va_rf o1, va_rf o0] (by decide +kernel) rfl ?_
    refine dq_S (.iadd) 1 [] 24 _ [.int (i2 + 1), va_rf o1, va_rf o0] (by decide +kernel) rfl ?_
    obtain ⟨p84, q85, hh⟩ := db hh
    obtain ⟨a86, q87, q85⟩ := db q85
    rw [dq_xR q85] at q87
    refine dq_cvi hD 211 123 5 2 [8] o0 [va_rf o1, .int (i2 + 1)] [] 27 [va_rf p84.1] (by decide +kernel) ap_123 ⟨⟨Nat.le_of_ble_eq_true rfl, by decide⟩, rfl, rfl⟩ (dq_ok8 [1, 1, 1] [] (dc_r (dc_r (dc_i dc_n))) dc_n (by decide +kernel)) (by decide +kernel) rfl q87 rfl ?_
    refine dq_asn 3 28 (by decide +kernel) (by decide +kernel) ?_
    have g88 := dg_ne (i := 3) (u := va_rf p84.1) (by decide) (Or.inl (by decide)) G0
    have g89 := dg_ne (i := 3) (u := va_rf p84.1) (by decide) (Or.inl (by decide)) G1
    have g90 := dg_ne (i := 3) (u := va_rf p84.1) (by decide) (Or.inr rfl) G2
    have g91 := dg_eq (lv) 3 (va_rf p84.1)
    refine dq_aln 0 29 (by decide +kernel) rfl g88 ?_
    refine dq_S (.bipush 8) 2 [] 31 _ [.int 8, va_rf o0] (by decide +kernel) rfl ?_
    obtain ⟨h92, q93, hh⟩ := db hh
    obtain ⟨a94, q95, q93⟩ := db q93
    rw [dq_xV q93] at q95
    refine dq_cvi hD 42 109 5 1 [8] o0 [.int 8] [] 34 [] (by decide +kernel) ap_109 ⟨⟨Nat.le_of_ble_eq_true rfl, by decide⟩, rfl, rfl⟩ (dq_ok8 [1, 1] [] (dc_r (dc_i dc_n)) dc_n (by decide +kernel)) (by decide +kernel) rfl q95 rfl ?_
    refine dq_aln 3 35 (by decide +kernel) rfl g91 ?_
    cases hh
    exact dq_retR (by decide +kernel) rfl
def f125 (L : Nat) (xs : Nat → Int32) (zf : Value) (D : dD) (w : Nat) (As : List Value) (h : rm_H) : Option dR := match As with
  | [v0, v1, .int i2] => (rm_rf v0).bind fun o0 => (rm_rf v1).bind fun o1 => b125_0 L xs zf D w o0 o1 i2 h
  | _ => none
theorem d125 {L : Nat} {xs : Nat → Int32} {zf : Value} {D : dD} {w k : Nat} (hD : dO L xs zf D k) (hz : zf.category = 1) (As : List Value) (h : rm_H) (r : dR) (hh : f125 L xs zf D w As h = some r) : dq L xs zf ah_M125 0 (lv_args 0 As) [] h (k + 1) r := by
  unfold f125 at hh
  split at hh
  · obtain ⟨o0, e0, hb0⟩ := db hh
    have e0 := rm_rf_v _ _ e0
    obtain ⟨o1, e1, hb1⟩ := db hb0
    have e1 := rm_rf_v _ _ e1
    subst e0 e1
    refine c125_0 hD hz _ _ _ _ _ _ ?_ ?_ ?_ hb1
    all_goals (simp only [la_r, la_i, la_j]; rfl)
  · cases hh
def b126_0 (L : Nat) (xs : Nat → Int32) (zf : Value) (D : dD) (w : Nat) (o0 : Option Nat) (h : rm_H) : Option dR :=
  (some (h ++ [.inr (12, ah_DV 12)])).bind fun h1 =>
  (dgR L xs h1 0 [8] o0).bind fun p3 =>
  (dgI L xs h1 7 [6] p3).bind fun x5 =>
  ((dcN D 120 (some (21 + List.length h)) [.int 1, .int x5] h1).bind dxV).bind fun h7 =>
  (dgR L xs h7 0 [8] o0).bind fun p13 =>
  ((dcV L xs D 127 [6] p13 [] h7).bind dxI).bind fun x15 =>
  (dpF x15.2 4 [12] (some (21 + List.length h)) (.int x15.1)).bind fun h19 =>
  (dgR L xs h19 0 [8] o0).bind fun p21 =>
  ((dcV L xs D 92 [6] p21 [] h19).bind dxV).bind fun h23 =>
  some (some (va_rf (some (21 + List.length h))), h23)
theorem c126_0 {L : Nat} {xs : Nat → Int32} {zf : Value} {D : dD} {w k : Nat} (hD : dO L xs zf D k) (hz : zf.category = 1) : ∀ (o0 : Option Nat) (lv : rm_L) (h : rm_H) (r : dR), rm_get lv 0 = some (va_rf o0) → b126_0 L xs zf D w  o0 h = some r → dq L xs zf ah_M126 0 lv [] h (k + 1) r := by
  intro o0 lv h r G0 hh
  unfold b126_0 at hh
  obtain ⟨h1, q2, hh⟩ := db hh
  refine dq_new 178 12 3 (by decide +kernel) rfl ?_
  rw [Option.some.inj q2]
  refine dq_dup 4 (by decide +kernel) rfl ?_
  refine dq_S (.iconst 1) 1 [] 5 _ [.int 1, va_rf (some (21 + List.length h)), va_rf (some (21 + List.length h))] (by decide +kernel) rfl ?_
  refine dq_aln 0 6 (by decide +kernel) rfl G0 ?_
  obtain ⟨p3, q4, hh⟩ := db hh
  refine dq_gR 9 0 [8] 9 (by decide +kernel) rfl q4 ?_
  obtain ⟨x5, q6, hh⟩ := db hh
  refine dq_gI 58 7 [6] 12 (by decide +kernel) rfl q6 ?_
  obtain ⟨h7, q8, hh⟩ := db hh
  obtain ⟨a9, q10, q8⟩ := db q8
  rw [dq_xV q8] at q10
  refine dq_csp hD 180 120 2 [] (some (21 + List.length h)) [.int 1, .int x5] [va_rf (some (21 + List.length h))] 15 [va_rf (some (21 + List.length h))] (by decide +kernel) ap_120 ⟨Nat.le_of_ble_eq_true rfl, rfl, rfl⟩ (dq_ok8 [1, 1, 1] [1] (dc_r (dc_i (dc_i dc_n))) (dc_r dc_n) (by decide +kernel)) (by decide +kernel) rfl q10 rfl ?_
  refine dq_asn 1 16 (by decide +kernel) (by decide +kernel) ?_
  have g11 := dg_ne (i := 1) (u := va_rf (some (21 + List.length h))) (by decide) (Or.inr (drc _)) G0
  have g12 := dg_eq (lv) 1 (va_rf (some (21 + List.length h)))
  refine dq_aln 1 17 (by decide +kernel) rfl g12 ?_
  refine dq_aln 0 18 (by decide +kernel) rfl g11 ?_
  obtain ⟨p13, q14, hh⟩ := db hh
  refine dq_gR 9 0 [8] 21 (by decide +kernel) rfl q14 ?_
  obtain ⟨x15, q16, hh⟩ := db hh
  obtain ⟨a17, q18, q16⟩ := db q16
  rw [dq_xI q16] at q18
  refine dq_cvi hD 282 127 5 0 [6] p13 [] [va_rf (some (21 + List.length h))] 24 [.int x15.1, va_rf (some (21 + List.length h))] (by decide +kernel) ap_127 ⟨⟨Nat.le_of_ble_eq_true rfl, by decide⟩, rfl, rfl⟩ (dq_ok8 [1] [1] (dc_r dc_n) (dc_r dc_n) (by decide +kernel)) (by decide +kernel) rfl q18 rfl ?_
  obtain ⟨h19, q20, hh⟩ := db hh
  refine dq_put 233 4 [12] 27 (by decide +kernel) rfl q20 ?_
  refine dq_aln 0 28 (by decide +kernel) rfl g11 ?_
  obtain ⟨p21, q22, hh⟩ := db hh
  refine dq_gR 9 0 [8] 31 (by decide +kernel) rfl q22 ?_
  obtain ⟨h23, q24, hh⟩ := db hh
  obtain ⟨a25, q26, q24⟩ := db q24
  rw [dq_xV q24] at q26
  refine dq_cvi hD 19 92 5 0 [6] p21 [] [] 34 [] (by decide +kernel) ap_92 ⟨⟨Nat.le_of_ble_eq_true rfl, by decide⟩, rfl, rfl⟩ (dq_ok8 [1] [] (dc_r dc_n) dc_n (by decide +kernel)) (by decide +kernel) rfl q26 rfl ?_
  refine dq_aln 1 35 (by decide +kernel) rfl g12 ?_
  cases hh
  exact dq_retR (by decide +kernel) rfl
def f126 (L : Nat) (xs : Nat → Int32) (zf : Value) (D : dD) (w : Nat) (As : List Value) (h : rm_H) : Option dR := match As with
  | [v0] => (rm_rf v0).bind fun o0 => b126_0 L xs zf D w o0 h
  | _ => none
theorem d126 {L : Nat} {xs : Nat → Int32} {zf : Value} {D : dD} {w k : Nat} (hD : dO L xs zf D k) (hz : zf.category = 1) (As : List Value) (h : rm_H) (r : dR) (hh : f126 L xs zf D w As h = some r) : dq L xs zf ah_M126 0 (lv_args 0 As) [] h (k + 1) r := by
  unfold f126 at hh
  split at hh
  · obtain ⟨o0, e0, hb0⟩ := db hh
    have e0 := rm_rf_v _ _ e0
    subst e0
    refine c126_0 hD hz _ _ _ _ ?_ hb0
    all_goals (simp only [la_r, la_i, la_j]; rfl)
  · cases hh
def b127_66 (L : Nat) (xs : Nat → Int32) (zf : Value) (D : dD) (w : Nat) (i1 : Int32) (h : rm_H) : Option dR :=
  drI (some .int) i1 h
theorem c127_66 {L : Nat} {xs : Nat → Int32} {zf : Value} {D : dD} {w k : Nat} (hD : dO L xs zf D k) (hz : zf.category = 1) : ∀ (i1 : Int32) (lv : rm_L) (h : rm_H) (r : dR), rm_get lv 1 = some (.int i1) → b127_66 L xs zf D w  i1 h = some r → dq L xs zf ah_M127 66 lv [] h (k + 1) r := by
  intro i1 lv h r G1 hh
  unfold b127_66 at hh
  refine dq_iln 1 67 (by decide +kernel) rfl G1 ?_
  exact dq_retI (some .int) (by decide +kernel) rfl hh
def b127_30 (L : Nat) (xs : Nat → Int32) (zf : Value) (D : dD) (w : Nat) : Nat → Option Nat → Int32 → Int32 → rm_H → Option dR
  | 0, _, _, _, _ => none
  | n + 1, o0, i1, i2, h =>
    (dgR L xs h 3 [6] o0).bind fun p1 =>
    (dgI L xs h 5 [6] o0).bind fun x3 =>
    (daI L xs h p1 x3).bind fun x5 =>
    if mx_f2 .ge i2 x5 = true then
      b127_66 L xs zf D w i1 h
    else
      (dgR L xs h 0 [6] o0).bind fun p8 =>
      ((dcV L xs D 63 [7, 16] p8 [.int i2] h).bind dxI).bind fun x10 =>
      b127_30 L xs zf D w n o0 ((i1 * 10) + (x10.1 - 48)) (i2 + 1) x10.2
theorem c127_30 {L : Nat} {xs : Nat → Int32} {zf : Value} {D : dD} {w k : Nat} (hD : dO L xs zf D k) (hz : zf.category = 1) : ∀ (n : Nat) (o0 : Option Nat) (i1 : Int32) (i2 : Int32) (lv : rm_L) (h : rm_H) (r : dR), rm_get lv 0 = some (va_rf o0) → rm_get lv 1 = some (.int i1) → rm_get lv 2 = some (.int i2) → b127_30 L xs zf D w n  o0 i1 i2 h = some r → dq L xs zf ah_M127 30 lv [] h (k + 1) r := by
  intro n
  induction n with
  | zero =>
    intro o0 i1 i2 lv h r G0 G1 G2 hh
    cases hh
  | succ n ih =>
    intro o0 i1 i2 lv h r G0 G1 G2 hh
    rw [b127_30] at hh
    refine dq_iln 2 31 (by decide +kernel) rfl G2 ?_
    refine dq_aln 0 32 (by decide +kernel) rfl G0 ?_
    obtain ⟨p1, q2, hh⟩ := db hh
    refine dq_gR 28 3 [6] 35 (by decide +kernel) rfl q2 ?_
    refine dq_aln 0 36 (by decide +kernel) rfl G0 ?_
    obtain ⟨x3, q4, hh⟩ := db hh
    refine dq_gI 35 5 [6] 39 (by decide +kernel) rfl q4 ?_
    obtain ⟨x5, q6, hh⟩ := db hh
    refine dq_aI 40 (by decide +kernel) rfl q6 ?_
    rcases di hh with ⟨q7, hh⟩ | ⟨q7, hh⟩
    · refine dq_2 .ge 26 true 66 q7 (by decide +kernel) ?_
      exact c127_66 hD hz _ _ _ _ G1 hh
    · refine dq_2 .ge 26 false 43 q7 (by decide +kernel) ?_
      refine dq_iln 1 44 (by decide +kernel) rfl G1 ?_
      refine dq_S (.bipush 10) 2 [] 46 _ [.int 10, .int i1] (by decide +kernel) rfl ?_
      refine dq_S (.imul) 1 [] 47 _ [.int (i1 * 10)] (by decide +kernel) rfl ?_
      refine dq_aln 0 48 (by decide +kernel) rfl G0 ?_
      obtain ⟨p8, q9, hh⟩ := db hh
      refine dq_gR 9 0 [6] 51 (by decide +kernel) rfl q9 ?_
      refine dq_iln 2 52 (by decide +kernel) rfl G2 ?_
      obtain ⟨x10, q11, hh⟩ := db hh
      obtain ⟨a12, q13, q11⟩ := db q11
      rw [dq_xI q11] at q13
      refine dq_cvi hD 47 63 5 1 [7, 16] p8 [.int i2] [.int (i1 * 10)] 55 [.int x10.1, .int (i1 * 10)] (by decide +kernel) ap_63 ⟨⟨Nat.le_of_ble_eq_true rfl, by decide⟩, rfl, rfl⟩ (dq_ok8 [1, 1] [1] (dc_r (dc_i dc_n)) (dc_i dc_n) (by decide +kernel)) (by decide +kernel) rfl q13 rfl ?_
      refine dq_S (.bipush 48) 2 [] 57 _ [.int 48, .int x10.1, .int (i1 * 10)] (by decide +kernel) rfl ?_
      refine dq_S (.isub) 1 [] 58 _ [.int (x10.1 - 48), .int (i1 * 10)] (by decide +kernel) rfl ?_
      refine dq_S (.iadd) 1 [] 59 _ [.int ((i1 * 10) + (x10.1 - 48))] (by decide +kernel) rfl ?_
      refine dq_isn 1 60 (by decide +kernel) (by decide +kernel) ?_
      have g14 := dg_ne (i := 1) (u := .int ((i1 * 10) + (x10.1 - 48))) (by decide) (Or.inr (drc _)) G0
      have g15 := dg_ne (i := 1) (u := .int ((i1 * 10) + (x10.1 - 48))) (by decide) (Or.inl (by decide)) G2
      have g16 := dg_eq (lv) 1 (.int ((i1 * 10) + (x10.1 - 48)))
      refine dq_incy 2 1 1 63 (by decide +kernel) ⟨rfl, by decide +kernel, by decide +kernel⟩ g15 ?_
      have g17 := dg_ne (i := 2) (u := .int (i2 + 1)) (by decide) (Or.inl (by decide)) g14
      have g18 := dg_ne (i := 2) (u := .int (i2 + 1)) (by decide) (Or.inr rfl) g16
      have g19 := dg_eq (rm_set1 (lv) 1 (.int ((i1 * 10) + (x10.1 - 48)))) 2 (.int (i2 + 1))
      refine dq_S (.goto (-33)) 3 [] 30 _ [] (by decide +kernel) rfl ?_
      exact ih _ _ _ _ _ _ g17 g18 g19 hh
def b127_0 (L : Nat) (xs : Nat → Int32) (zf : Value) (D : dD) (w : Nat) (o0 : Option Nat) (h : rm_H) : Option dR :=
  (dgI L xs h 5 [6] o0).bind fun x3 =>
  if mx_f1 .lt x3 = true then
    b127_66 L xs zf D w 0 h
  else
    (dgI L xs h 5 [6] o0).bind fun x6 =>
    (dgI L xs h 4 [6] o0).bind fun x8 =>
    if mx_f2 .ge x6 x8 = true then
      b127_66 L xs zf D w 0 h
    else
      (dgR L xs h 2 [6] o0).bind fun p11 =>
      (dgI L xs h 5 [6] o0).bind fun x13 =>
      (daI L xs h p11 x13).bind fun x15 =>
      b127_30 L xs zf D w w o0 0 x15 h
theorem c127_0 {L : Nat} {xs : Nat → Int32} {zf : Value} {D : dD} {w k : Nat} (hD : dO L xs zf D k) (hz : zf.category = 1) : ∀ (o0 : Option Nat) (lv : rm_L) (h : rm_H) (r : dR), rm_get lv 0 = some (va_rf o0) → b127_0 L xs zf D w  o0 h = some r → dq L xs zf ah_M127 0 lv [] h (k + 1) r := by
  intro o0 lv h r G0 hh
  unfold b127_0 at hh
  refine dq_S (.iconst 0) 1 [] 1 _ [.int 0] (by decide +kernel) rfl ?_
  refine dq_isn 1 2 (by decide +kernel) (by decide +kernel) ?_
  have g1 := dg_ne (i := 1) (u := .int 0) (by decide) (Or.inr (drc _)) G0
  have g2 := dg_eq (lv) 1 (.int 0)
  refine dq_aln 0 3 (by decide +kernel) rfl g1 ?_
  obtain ⟨x3, q4, hh⟩ := db hh
  refine dq_gI 35 5 [6] 6 (by decide +kernel) rfl q4 ?_
  rcases di hh with ⟨q5, hh⟩ | ⟨q5, hh⟩
  · refine dq_1 .lt 60 true 66 q5 (by decide +kernel) ?_
    exact c127_66 hD hz _ _ _ _ g2 hh
  · refine dq_1 .lt 60 false 9 q5 (by decide +kernel) ?_
    refine dq_aln 0 10 (by decide +kernel) rfl g1 ?_
    obtain ⟨x6, q7, hh⟩ := db hh
    refine dq_gI 35 5 [6] 13 (by decide +kernel) rfl q7 ?_
    refine dq_aln 0 14 (by decide +kernel) rfl g1 ?_
    obtain ⟨x8, q9, hh⟩ := db hh
    refine dq_gI 31 4 [6] 17 (by decide +kernel) rfl q9 ?_
    rcases di hh with ⟨q10, hh⟩ | ⟨q10, hh⟩
    · refine dq_2 .ge 49 true 66 q10 (by decide +kernel) ?_
      exact c127_66 hD hz _ _ _ _ g2 hh
    · refine dq_2 .ge 49 false 20 q10 (by decide +kernel) ?_
      refine dq_aln 0 21 (by decide +kernel) rfl g1 ?_
      obtain ⟨p11, q12, hh⟩ := db hh
      refine dq_gR 25 2 [6] 24 (by decide +kernel) rfl q12 ?_
      refine dq_aln 0 25 (by decide +kernel) rfl g1 ?_
      obtain ⟨x13, q14, hh⟩ := db hh
      refine dq_gI 35 5 [6] 28 (by decide +kernel) rfl q14 ?_
      obtain ⟨x15, q16, hh⟩ := db hh
      refine dq_aI 29 (by decide +kernel) rfl q16 ?_
      refine dq_isn 2 30 (by decide +kernel) (by decide +kernel) ?_
      have g17 := dg_ne (i := 2) (u := .int x15) (by decide) (Or.inl (by decide)) g1
      have g18 := dg_ne (i := 2) (u := .int x15) (by decide) (Or.inr rfl) g2
      have g19 := dg_eq (rm_set1 (lv) 1 (.int 0)) 2 (.int x15)
      exact c127_30 hD hz _ _ _ _ _ _ _ g17 g18 g19 hh
def f127 (L : Nat) (xs : Nat → Int32) (zf : Value) (D : dD) (w : Nat) (As : List Value) (h : rm_H) : Option dR := match As with
  | [v0] => (rm_rf v0).bind fun o0 => b127_0 L xs zf D w o0 h
  | _ => none
theorem d127 {L : Nat} {xs : Nat → Int32} {zf : Value} {D : dD} {w k : Nat} (hD : dO L xs zf D k) (hz : zf.category = 1) (As : List Value) (h : rm_H) (r : dR) (hh : f127 L xs zf D w As h = some r) : dq L xs zf ah_M127 0 (lv_args 0 As) [] h (k + 1) r := by
  unfold f127 at hh
  split at hh
  · obtain ⟨o0, e0, hb0⟩ := db hh
    have e0 := rm_rf_v _ _ e0
    subst e0
    refine c127_0 hD hz _ _ _ _ ?_ hb0
    all_goals (simp only [la_r, la_i, la_j]; rfl)
  · cases hh
def b128_0 (L : Nat) (xs : Nat → Int32) (zf : Value) (D : dD) (w : Nat) (o0 : Option Nat) (i1 : Int32) (h : rm_H) : Option dR :=
  (some (h ++ [.inr (12, ah_DV 12)])).bind fun h1 =>
  (dgR L xs h1 0 [8] o0).bind fun p3 =>
  (dgI L xs h1 7 [6] p3).bind fun x5 =>
  ((dcN D 120 (some (21 + List.length h)) [.int i1, .int x5] h1).bind dxV).bind fun h7 =>
  (dgR L xs h7 0 [8] o0).bind fun p14 =>
  ((dcV L xs D 92 [6] p14 [] h7).bind dxV).bind fun h16 =>
  some (some (va_rf (some (21 + List.length h))), h16)
theorem c128_0 {L : Nat} {xs : Nat → Int32} {zf : Value} {D : dD} {w k : Nat} (hD : dO L xs zf D k) (hz : zf.category = 1) : ∀ (o0 : Option Nat) (i1 : Int32) (lv : rm_L) (h : rm_H) (r : dR), rm_get lv 0 = some (va_rf o0) → rm_get lv 1 = some (.int i1) → b128_0 L xs zf D w  o0 i1 h = some r → dq L xs zf ah_M128 0 lv [] h (k + 1) r := by
  intro o0 i1 lv h r G0 G1 hh
  unfold b128_0 at hh
  obtain ⟨h1, q2, hh⟩ := db hh
  refine dq_new 178 12 3 (by decide +kernel) rfl ?_
  rw [Option.some.inj q2]
  refine dq_dup 4 (by decide +kernel) rfl ?_
  refine dq_iln 1 5 (by decide +kernel) rfl G1 ?_
  refine dq_aln 0 6 (by decide +kernel) rfl G0 ?_
  obtain ⟨p3, q4, hh⟩ := db hh
  refine dq_gR 9 0 [8] 9 (by decide +kernel) rfl q4 ?_
  obtain ⟨x5, q6, hh⟩ := db hh
  refine dq_gI 58 7 [6] 12 (by decide +kernel) rfl q6 ?_
  obtain ⟨h7, q8, hh⟩ := db hh
  obtain ⟨a9, q10, q8⟩ := db q8
  rw [dq_xV q8] at q10
  refine dq_csp hD 180 120 2 [] (some (21 + List.length h)) [.int i1, .int x5] [va_rf (some (21 + List.length h))] 15 [va_rf (some (21 + List.length h))] (by decide +kernel) ap_120 ⟨Nat.le_of_ble_eq_true rfl, rfl, rfl⟩ (dq_ok8 [1, 1, 1] [1] (dc_r (dc_i (dc_i dc_n))) (dc_r dc_n) (by decide +kernel)) (by decide +kernel) rfl q10 rfl ?_
  refine dq_asn 2 16 (by decide +kernel) (by decide +kernel) ?_
  have g11 := dg_ne (i := 2) (u := va_rf (some (21 + List.length h))) (by decide) (Or.inl (by decide)) G0
  have g12 := dg_ne (i := 2) (u := va_rf (some (21 + List.length h))) (by decide) (Or.inr rfl) G1
  have g13 := dg_eq (lv) 2 (va_rf (some (21 + List.length h)))
  refine dq_aln 0 17 (by decide +kernel) rfl g11 ?_
  obtain ⟨p14, q15, hh⟩ := db hh
  refine dq_gR 9 0 [8] 20 (by decide +kernel) rfl q15 ?_
  obtain ⟨h16, q17, hh⟩ := db hh
  obtain ⟨a18, q19, q17⟩ := db q17
  rw [dq_xV q17] at q19
  refine dq_cvi hD 19 92 5 0 [6] p14 [] [] 23 [] (by decide +kernel) ap_92 ⟨⟨Nat.le_of_ble_eq_true rfl, by decide⟩, rfl, rfl⟩ (dq_ok8 [1] [] (dc_r dc_n) dc_n (by decide +kernel)) (by decide +kernel) rfl q19 rfl ?_
  refine dq_aln 2 24 (by decide +kernel) rfl g13 ?_
  cases hh
  exact dq_retR (by decide +kernel) rfl
def f128 (L : Nat) (xs : Nat → Int32) (zf : Value) (D : dD) (w : Nat) (As : List Value) (h : rm_H) : Option dR := match As with
  | [v0, .int i1] => (rm_rf v0).bind fun o0 => b128_0 L xs zf D w o0 i1 h
  | _ => none
theorem d128 {L : Nat} {xs : Nat → Int32} {zf : Value} {D : dD} {w k : Nat} (hD : dO L xs zf D k) (hz : zf.category = 1) (As : List Value) (h : rm_H) (r : dR) (hh : f128 L xs zf D w As h = some r) : dq L xs zf ah_M128 0 (lv_args 0 As) [] h (k + 1) r := by
  unfold f128 at hh
  split at hh
  · obtain ⟨o0, e0, hb0⟩ := db hh
    have e0 := rm_rf_v _ _ e0
    subst e0
    refine c128_0 hD hz _ _ _ _ _ ?_ ?_ hb0
    all_goals (simp only [la_r, la_i, la_j]; rfl)
  · cases hh
def b129_0 (L : Nat) (xs : Nat → Int32) (zf : Value) (D : dD) (w : Nat) (o0 : Option Nat) (h : rm_H) : Option dR :=
  (some (h ++ [.inr (12, ah_DV 12)])).bind fun h1 =>
  (dgR L xs h1 0 [8] o0).bind fun p3 =>
  (dgI L xs h1 7 [6] p3).bind fun x5 =>
  ((dcN D 120 (some (21 + List.length h)) [.int 4, .int x5] h1).bind dxV).bind fun h7 =>
  ((dcV L xs D 94 [8] o0 [.int 2] h7).bind dxR).bind fun p13 =>
  (dpF p13.2 2 [12] (some (21 + List.length h)) (va_rf p13.1)).bind fun h17 =>
  some (some (va_rf (some (21 + List.length h))), h17)
theorem c129_0 {L : Nat} {xs : Nat → Int32} {zf : Value} {D : dD} {w k : Nat} (hD : dO L xs zf D k) (hz : zf.category = 1) : ∀ (o0 : Option Nat) (lv : rm_L) (h : rm_H) (r : dR), rm_get lv 0 = some (va_rf o0) → b129_0 L xs zf D w  o0 h = some r → dq L xs zf ah_M129 0 lv [] h (k + 1) r := by
  intro o0 lv h r G0 hh
  unfold b129_0 at hh
  obtain ⟨h1, q2, hh⟩ := db hh
  refine dq_new 178 12 3 (by decide +kernel) rfl ?_
  rw [Option.some.inj q2]
  refine dq_dup 4 (by decide +kernel) rfl ?_
  refine dq_S (.iconst 4) 1 [] 5 _ [.int 4, va_rf (some (21 + List.length h)), va_rf (some (21 + List.length h))] (by decide +kernel) rfl ?_
  refine dq_aln 0 6 (by decide +kernel) rfl G0 ?_
  obtain ⟨p3, q4, hh⟩ := db hh
  refine dq_gR 9 0 [8] 9 (by decide +kernel) rfl q4 ?_
  obtain ⟨x5, q6, hh⟩ := db hh
  refine dq_gI 58 7 [6] 12 (by decide +kernel) rfl q6 ?_
  obtain ⟨h7, q8, hh⟩ := db hh
  obtain ⟨a9, q10, q8⟩ := db q8
  rw [dq_xV q8] at q10
  refine dq_csp hD 180 120 2 [] (some (21 + List.length h)) [.int 4, .int x5] [va_rf (some (21 + List.length h))] 15 [va_rf (some (21 + List.length h))] (by decide +kernel) ap_120 ⟨Nat.le_of_ble_eq_true rfl, rfl, rfl⟩ (dq_ok8 [1, 1, 1] [1] (dc_r (dc_i (dc_i dc_n))) (dc_r dc_n) (by decide +kernel)) (by decide +kernel) rfl q10 rfl ?_
  refine dq_asn 1 16 (by decide +kernel) (by decide +kernel) ?_
  have g11 := dg_ne (i := 1) (u := va_rf (some (21 + List.length h))) (by decide) (Or.inr (drc _)) G0
  have g12 := dg_eq (lv) 1 (va_rf (some (21 + List.length h)))
  refine dq_aln 1 17 (by decide +kernel) rfl g12 ?_
  refine dq_aln 0 18 (by decide +kernel) rfl g11 ?_
  refine dq_S (.iconst 2) 1 [] 19 _ [.int 2, va_rf o0, va_rf (some (21 + List.length h))] (by decide +kernel) rfl ?_
  obtain ⟨p13, q14, hh⟩ := db hh
  obtain ⟨a15, q16, q14⟩ := db q14
  rw [dq_xR q14] at q16
  refine dq_cvi hD 63 94 5 1 [8] o0 [.int 2] [va_rf (some (21 + List.length h))] 22 [va_rf p13.1, va_rf (some (21 + List.length h))] (by decide +kernel) ap_94 ⟨⟨Nat.le_of_ble_eq_true rfl, by decide⟩, rfl, rfl⟩ (dq_ok8 [1, 1] [1] (dc_r (dc_i dc_n)) (dc_r dc_n) (by decide +kernel)) (by decide +kernel) rfl q16 rfl ?_
  obtain ⟨h17, q18, hh⟩ := db hh
  refine dq_put 239 2 [12] 25 (by decide +kernel) rfl q18 ?_
  refine dq_aln 1 26 (by decide +kernel) rfl g12 ?_
  cases hh
  exact dq_retR (by decide +kernel) rfl
def f129 (L : Nat) (xs : Nat → Int32) (zf : Value) (D : dD) (w : Nat) (As : List Value) (h : rm_H) : Option dR := match As with
  | [v0] => (rm_rf v0).bind fun o0 => b129_0 L xs zf D w o0 h
  | _ => none
theorem d129 {L : Nat} {xs : Nat → Int32} {zf : Value} {D : dD} {w k : Nat} (hD : dO L xs zf D k) (hz : zf.category = 1) (As : List Value) (h : rm_H) (r : dR) (hh : f129 L xs zf D w As h = some r) : dq L xs zf ah_M129 0 (lv_args 0 As) [] h (k + 1) r := by
  unfold f129 at hh
  split at hh
  · obtain ⟨o0, e0, hb0⟩ := db hh
    have e0 := rm_rf_v _ _ e0
    subst e0
    refine c129_0 hD hz _ _ _ _ ?_ hb0
    all_goals (simp only [la_r, la_i, la_j]; rfl)
  · cases hh
def b130_0 (L : Nat) (xs : Nat → Int32) (zf : Value) (D : dD) (w : Nat) (o0 : Option Nat) (h : rm_H) : Option dR :=
  ((dcV L xs D 128 [8] o0 [.int 5] h).bind dxR).bind fun p1 =>
  (dgR L xs p1.2 0 [8] o0).bind fun p7 =>
  (dgI L xs p1.2 7 [6] p7).bind fun x9 =>
  (dpF p1.2 3 [12] p1.1 (.int x9)).bind fun h11 =>
  ((dcV L xs D 94 [8] o0 [.int 2] h11).bind dxR).bind fun p13 =>
  (dpF p13.2 2 [12] p1.1 (va_rf p13.1)).bind fun h17 =>
  some (some (va_rf p1.1), h17)
theorem c130_0 {L : Nat} {xs : Nat → Int32} {zf : Value} {D : dD} {w k : Nat} (hD : dO L xs zf D k) (hz : zf.category = 1) : ∀ (o0 : Option Nat) (lv : rm_L) (h : rm_H) (r : dR), rm_get lv 0 = some (va_rf o0) → b130_0 L xs zf D w  o0 h = some r → dq L xs zf ah_M130 0 lv [] h (k + 1) r := by
  intro o0 lv h r G0 hh
  unfold b130_0 at hh
  refine dq_aln 0 1 (by decide +kernel) rfl G0 ?_
  refine dq_S (.iconst 5) 1 [] 2 _ [.int 5, va_rf o0] (by decide +kernel) rfl ?_
  obtain ⟨p1, q2, hh⟩ := db hh
  obtain ⟨a3, q4, q2⟩ := db q2
  rw [dq_xR q2] at q4
  refine dq_cvi hD 260 128 5 1 [8] o0 [.int 5] [] 5 [va_rf p1.1] (by decide +kernel) ap_128 ⟨⟨Nat.le_of_ble_eq_true rfl, by decide⟩, rfl, rfl⟩ (dq_ok8 [1, 1] [] (dc_r (dc_i dc_n)) dc_n (by decide +kernel)) (by decide +kernel) rfl q4 rfl ?_
  refine dq_asn 1 6 (by decide +kernel) (by decide +kernel) ?_
  have g5 := dg_ne (i := 1) (u := va_rf p1.1) (by decide) (Or.inr (drc _)) G0
  have g6 := dg_eq (lv) 1 (va_rf p1.1)
  refine dq_aln 1 7 (by decide +kernel) rfl g6 ?_
  refine dq_aln 0 8 (by decide +kernel) rfl g5 ?_
  obtain ⟨p7, q8, hh⟩ := db hh
  refine dq_gR 9 0 [8] 11 (by decide +kernel) rfl q8 ?_
  obtain ⟨x9, q10, hh⟩ := db hh
  refine dq_gI 58 7 [6] 14 (by decide +kernel) rfl q10 ?_
  obtain ⟨h11, q12, hh⟩ := db hh
  refine dq_put 189 3 [12] 17 (by decide +kernel) rfl q12 ?_
  refine dq_aln 1 18 (by decide +kernel) rfl g6 ?_
  refine dq_aln 0 19 (by decide +kernel) rfl g5 ?_
  refine dq_S (.iconst 2) 1 [] 20 _ [.int 2, va_rf o0, va_rf p1.1] (by decide +kernel) rfl ?_
  obtain ⟨p13, q14, hh⟩ := db hh
  obtain ⟨a15, q16, q14⟩ := db q14
  rw [dq_xR q14] at q16
  refine dq_cvi hD 63 94 5 1 [8] o0 [.int 2] [va_rf p1.1] 23 [va_rf p13.1, va_rf p1.1] (by decide +kernel) ap_94 ⟨⟨Nat.le_of_ble_eq_true rfl, by decide⟩, rfl, rfl⟩ (dq_ok8 [1, 1] [1] (dc_r (dc_i dc_n)) (dc_r dc_n) (by decide +kernel)) (by decide +kernel) rfl q16 rfl ?_
  obtain ⟨h17, q18, hh⟩ := db hh
  refine dq_put 239 2 [12] 26 (by decide +kernel) rfl q18 ?_
  refine dq_aln 1 27 (by decide +kernel) rfl g6 ?_
  cases hh
  exact dq_retR (by decide +kernel) rfl
def f130 (L : Nat) (xs : Nat → Int32) (zf : Value) (D : dD) (w : Nat) (As : List Value) (h : rm_H) : Option dR := match As with
  | [v0] => (rm_rf v0).bind fun o0 => b130_0 L xs zf D w o0 h
  | _ => none
theorem d130 {L : Nat} {xs : Nat → Int32} {zf : Value} {D : dD} {w k : Nat} (hD : dO L xs zf D k) (hz : zf.category = 1) (As : List Value) (h : rm_H) (r : dR) (hh : f130 L xs zf D w As h = some r) : dq L xs zf ah_M130 0 (lv_args 0 As) [] h (k + 1) r := by
  unfold f130 at hh
  split at hh
  · obtain ⟨o0, e0, hb0⟩ := db hh
    have e0 := rm_rf_v _ _ e0
    subst e0
    refine c130_0 hD hz _ _ _ _ ?_ hb0
    all_goals (simp only [la_r, la_i, la_j]; rfl)
  · cases hh
def b131_0 (L : Nat) (xs : Nat → Int32) (zf : Value) (D : dD) (w : Nat) (o0 : Option Nat) (o1 : Option Nat) (i2 : Int32) (h : rm_H) : Option dR :=
  ((dcV L xs D 128 [8] o0 [.int 6] h).bind dxR).bind fun p1 =>
  ((dcV L xs D 109 [8] o0 [.int 7] p1.2).bind dxV).bind fun h9 =>
  ((dcV L xs D 123 [8] o0 [va_rf o1, .int (i2 + 1)] h9).bind dxR).bind fun p13 =>
  (dpF p13.2 8 [12] p1.1 (va_rf p13.1)).bind fun h17 =>
  ((dcV L xs D 109 [8] o0 [.int 8] h17).bind dxV).bind fun h19 =>
  some (some (va_rf p1.1), h19)
theorem c131_0 {L : Nat} {xs : Nat → Int32} {zf : Value} {D : dD} {w k : Nat} (hD : dO L xs zf D k) (hz : zf.category = 1) : ∀ (o0 : Option Nat) (o1 : Option Nat) (i2 : Int32) (lv : rm_L) (h : rm_H) (r : dR), rm_get lv 0 = some (va_rf o0) → rm_get lv 1 = some (va_rf o1) → rm_get lv 2 = some (.int i2) → b131_0 L xs zf D w  o0 o1 i2 h = some r → dq L xs zf ah_M131 0 lv [] h (k + 1) r := by
  intro o0 o1 i2 lv h r G0 G1 G2 hh
  unfold b131_0 at hh
  refine dq_aln 0 1 (by decide +kernel) rfl G0 ?_
  refine dq_S (.bipush 6) 2 [] 3 _ [.int 6, va_rf o0] (by decide +kernel) rfl ?_
  obtain ⟨p1, q2, hh⟩ := db hh
  obtain ⟨a3, q4, q2⟩ := db q2
  rw [dq_xR q2] at q4
  refine dq_cvi hD 260 128 5 1 [8] o0 [.int 6] [] 6 [va_rf p1.1] (by decide +kernel) ap_128 ⟨⟨Nat.le_of_ble_eq_true rfl, by decide⟩, rfl, rfl⟩ (dq_ok8 [1, 1] [] (dc_r (dc_i dc_n)) dc_n (by decide +kernel)) (by decide +kernel) rfl q4 rfl ?_
  refine dq_asn 3 7 (by decide +kernel) (by decide +kernel) ?_
  have g5 := dg_ne (i := 3) (u := va_rf p1.1) (by decide) (Or.inl (by decide)) G0
  have g6 := dg_ne (i := 3) (u := va_rf p1.1) (by decide) (Or.inl (by decide)) G1
  have g7 := dg_ne (i := 3) (u := va_rf p1.1) (by decide) (Or.inr rfl) G2
  have g8 := dg_eq (lv) 3 (va_rf p1.1)
  refine dq_aln 0 8 (by decide +kernel) rfl g5 ?_
  refine dq_S (.bipush 7) 2 [] 10 _ [.int 7, va_rf o0] (by decide +kernel) rfl ?_
  obtain ⟨h9, q10, hh⟩ := db hh
  obtain ⟨a11, q12, q10⟩ := db q10
  rw [dq_xV q10] at q12
  refine dq_cvi hD 42 109 5 1 [8] o0 [.int 7] [] 13 [] (by decide +kernel) ap_109 ⟨⟨Nat.le_of_ble_eq_true rfl, by decide⟩, rfl, rfl⟩ (dq_ok8 [1, 1] [] (dc_r (dc_i dc_n)) dc_n (by decide +kernel)) (by decide +kernel) rfl q12 rfl ?_
  refine dq_aln 3 14 (by decide +kernel) rfl g8 ?_
  refine dq_aln 0 15 (by decide +kernel) rfl g5 ?_
  refine dq_aln 1 16 (by decide +kernel) rfl g6 ?_
  refine dq_iln 2 17 (by decide +kernel) rfl g7 ?_
  refine dq_S (.iconst 1) 1 [] 18 _ [.int 1, .int i2, va_rf o1, va_rf o0, va_rf p1.1] (by decide +kernel) rfl ?_
  refine dq_S (.iadd) 1 [] 19 _ [.int (i2 + 1), va_rf o1, va_rf o0, va_rf p1.1] (by decide +kernel) rfl ?_
  obtain ⟨p13, q14, hh⟩ := db hh
  obtain ⟨a15, q16, q14⟩ := db q14
  rw [dq_xR q14] at q16
  refine dq_cvi hD 211 123 5 2 [8] o0 [va_rf o1, .int (i2 + 1)] [va_rf p1.1] 22 [va_rf p13.1, va_rf p1.1] (by decide +kernel) ap_123 ⟨⟨Nat.le_of_ble_eq_true rfl, by decide⟩, rfl, rfl⟩ (dq_ok8 [1, 1, 1] [1] (dc_r (dc_r (dc_i dc_n))) (dc_r dc_n) (by decide +kernel)) (by decide +kernel) rfl q16 rfl ?_
  obtain ⟨h17, q18, hh⟩ := db hh
  refine dq_put 214 8 [12] 25 (by decide +kernel) rfl q18 ?_
  refine dq_aln 0 26 (by decide +kernel) rfl g5 ?_
  refine dq_S (.bipush 8) 2 [] 28 _ [.int 8, va_rf o0] (by decide +kernel) rfl ?_
  obtain ⟨h19, q20, hh⟩ := db hh
  obtain ⟨a21, q22, q20⟩ := db q20
  rw [dq_xV q20] at q22
  refine dq_cvi hD 42 109 5 1 [8] o0 [.int 8] [] 31 [] (by decide +kernel) ap_109 ⟨⟨Nat.le_of_ble_eq_true rfl, by decide⟩, rfl, rfl⟩ (dq_ok8 [1, 1] [] (dc_r (dc_i dc_n)) dc_n (by decide +kernel)) (by decide +kernel) rfl q22 rfl ?_
  refine dq_aln 3 32 (by decide +kernel) rfl g8 ?_
  cases hh
  exact dq_retR (by decide +kernel) rfl
def f131 (L : Nat) (xs : Nat → Int32) (zf : Value) (D : dD) (w : Nat) (As : List Value) (h : rm_H) : Option dR := match As with
  | [v0, v1, .int i2] => (rm_rf v0).bind fun o0 => (rm_rf v1).bind fun o1 => b131_0 L xs zf D w o0 o1 i2 h
  | _ => none
theorem d131 {L : Nat} {xs : Nat → Int32} {zf : Value} {D : dD} {w k : Nat} (hD : dO L xs zf D k) (hz : zf.category = 1) (As : List Value) (h : rm_H) (r : dR) (hh : f131 L xs zf D w As h = some r) : dq L xs zf ah_M131 0 (lv_args 0 As) [] h (k + 1) r := by
  unfold f131 at hh
  split at hh
  · obtain ⟨o0, e0, hb0⟩ := db hh
    have e0 := rm_rf_v _ _ e0
    obtain ⟨o1, e1, hb1⟩ := db hb0
    have e1 := rm_rf_v _ _ e1
    subst e0 e1
    refine c131_0 hD hz _ _ _ _ _ _ ?_ ?_ ?_ hb1
    all_goals (simp only [la_r, la_i, la_j]; rfl)
  · cases hh
def b132_0 (L : Nat) (xs : Nat → Int32) (zf : Value) (D : dD) (w : Nat) (o0 : Option Nat) (o1 : Option Nat) (i2 : Int32) (h : rm_H) : Option dR :=
  ((dcV L xs D 128 [8] o0 [.int 7] h).bind dxR).bind fun p1 =>
  ((dcV L xs D 109 [8] o0 [.int 7] p1.2).bind dxV).bind fun h9 =>
  ((dcV L xs D 123 [8] o0 [va_rf o1, .int (i2 + 1)] h9).bind dxR).bind fun p13 =>
  (dpF p13.2 8 [12] p1.1 (va_rf p13.1)).bind fun h17 =>
  ((dcV L xs D 109 [8] o0 [.int 10] h17).bind dxV).bind fun h19 =>
  ((dcV L xs D 123 [8] o0 [va_rf o1, .int (i2 + 1)] h19).bind dxR).bind fun p23 =>
  (dpF p23.2 9 [12] p1.1 (va_rf p23.1)).bind fun h27 =>
  ((dcV L xs D 109 [8] o0 [.int 8] h27).bind dxV).bind fun h29 =>
  some (some (va_rf p1.1), h29)
theorem c132_0 {L : Nat} {xs : Nat → Int32} {zf : Value} {D : dD} {w k : Nat} (hD : dO L xs zf D k) (hz : zf.category = 1) : ∀ (o0 : Option Nat) (o1 : Option Nat) (i2 : Int32) (lv : rm_L) (h : rm_H) (r : dR), rm_get lv 0 = some (va_rf o0) → rm_get lv 1 = some (va_rf o1) → rm_get lv 2 = some (.int i2) → b132_0 L xs zf D w  o0 o1 i2 h = some r → dq L xs zf ah_M132 0 lv [] h (k + 1) r := by
  intro o0 o1 i2 lv h r G0 G1 G2 hh
  unfold b132_0 at hh
  refine dq_aln 0 1 (by decide +kernel) rfl G0 ?_
  refine dq_S (.bipush 7) 2 [] 3 _ [.int 7, va_rf o0] (by decide +kernel) rfl ?_
  obtain ⟨p1, q2, hh⟩ := db hh
  obtain ⟨a3, q4, q2⟩ := db q2
  rw [dq_xR q2] at q4
  refine dq_cvi hD 260 128 5 1 [8] o0 [.int 7] [] 6 [va_rf p1.1] (by decide +kernel) ap_128 ⟨⟨Nat.le_of_ble_eq_true rfl, by decide⟩, rfl, rfl⟩ (dq_ok8 [1, 1] [] (dc_r (dc_i dc_n)) dc_n (by decide +kernel)) (by decide +kernel) rfl q4 rfl ?_
  refine dq_asn 3 7 (by decide +kernel) (by decide +kernel) ?_
  have g5 := dg_ne (i := 3) (u := va_rf p1.1) (by decide) (Or.inl (by decide)) G0
  have g6 := dg_ne (i := 3) (u := va_rf p1.1) (by decide) (Or.inl (by decide)) G1
  have g7 := dg_ne (i := 3) (u := va_rf p1.1) (by decide) (Or.inr rfl) G2
  have g8 := dg_eq (lv) 3 (va_rf p1.1)
  refine dq_aln 0 8 (by decide +kernel) rfl g5 ?_
  refine dq_S (.bipush 7) 2 [] 10 _ [.int 7, va_rf o0] (by decide +kernel) rfl ?_
  obtain ⟨h9, q10, hh⟩ := db hh
  obtain ⟨a11, q12, q10⟩ := db q10
  rw [dq_xV q10] at q12
  refine dq_cvi hD 42 109 5 1 [8] o0 [.int 7] [] 13 [] (by decide +kernel) ap_109 ⟨⟨Nat.le_of_ble_eq_true rfl, by decide⟩, rfl, rfl⟩ (dq_ok8 [1, 1] [] (dc_r (dc_i dc_n)) dc_n (by decide +kernel)) (by decide +kernel) rfl q12 rfl ?_
  refine dq_aln 3 14 (by decide +kernel) rfl g8 ?_
  refine dq_aln 0 15 (by decide +kernel) rfl g5 ?_
  refine dq_aln 1 16 (by decide +kernel) rfl g6 ?_
  refine dq_iln 2 17 (by decide +kernel) rfl g7 ?_
  refine dq_S (.iconst 1) 1 [] 18 _ [.int 1, .int i2, va_rf o1, va_rf o0, va_rf p1.1] (by decide +kernel) rfl ?_
  refine dq_S (.iadd) 1 [] 19 _ [.int (i2 + 1), va_rf o1, va_rf o0, va_rf p1.1] (by decide +kernel) rfl ?_
  obtain ⟨p13, q14, hh⟩ := db hh
  obtain ⟨a15, q16, q14⟩ := db q14
  rw [dq_xR q14] at q16
  refine dq_cvi hD 211 123 5 2 [8] o0 [va_rf o1, .int (i2 + 1)] [va_rf p1.1] 22 [va_rf p13.1, va_rf p1.1] (by decide +kernel) ap_123 ⟨⟨Nat.le_of_ble_eq_true rfl, by decide⟩, rfl, rfl⟩ (dq_ok8 [1, 1, 1] [1] (dc_r (dc_r (dc_i dc_n))) (dc_r dc_n) (by decide +kernel)) (by decide +kernel) rfl q16 rfl ?_
  obtain ⟨h17, q18, hh⟩ := db hh
  refine dq_put 214 8 [12] 25 (by decide +kernel) rfl q18 ?_
  refine dq_aln 0 26 (by decide +kernel) rfl g5 ?_
  refine dq_S (.bipush 10) 2 [] 28 _ [.int 10, va_rf o0] (by decide +kernel) rfl ?_
  obtain ⟨h19, q20, hh⟩ := db hh
  obtain ⟨a21, q22, q20⟩ := db q20
  rw [dq_xV q20] at q22
  refine dq_cvi hD 42 109 5 1 [8] o0 [.int 10] [] 31 [] (by decide +kernel) ap_109 ⟨⟨Nat.le_of_ble_eq_true rfl, by decide⟩, rfl, rfl⟩ (dq_ok8 [1, 1] [] (dc_r (dc_i dc_n)) dc_n (by decide +kernel)) (by decide +kernel) rfl q22 rfl ?_
  refine dq_aln 3 32 (by decide +kernel) rfl g8 ?_
  refine dq_aln 0 33 (by decide +kernel) rfl g5 ?_
  refine dq_aln 1 34 (by decide +kernel) rfl g6 ?_
  refine dq_iln 2 35 (by decide +kernel) rfl g7 ?_
  refine dq_S (.iconst 1) 1 [] 36 _ [.int 1, .int i2, va_rf o1, va_rf o0, va_rf p1.1] (by decide +kernel) rfl ?_
  refine dq_S (.iadd) 1 [] 37 _ [.int (i2 + 1), va_rf o1, va_rf o0, va_rf p1.1] (by decide +kernel) rfl ?_
  obtain ⟨p23, q24, hh⟩ := db hh
  obtain ⟨a25, q26, q24⟩ := db q24
  rw [dq_xR q24] at q26
  refine dq_cvi hD 211 123 5 2 [8] o0 [va_rf o1, .int (i2 + 1)] [va_rf p1.1] 40 [va_rf p23.1, va_rf p1.1] (by decide +kernel) ap_123 ⟨⟨Nat.le_of_ble_eq_true rfl, by decide⟩, rfl, rfl⟩ (dq_ok8 [1, 1, 1] [1] (dc_r (dc_r (dc_i dc_n))) (dc_r dc_n) (by decide +kernel)) (by decide +kernel) rfl q26 rfl ?_
  obtain ⟨h27, q28, hh⟩ := db hh
  refine dq_put 217 9 [12] 43 (by decide +kernel) rfl q28 ?_
  refine dq_aln 0 44 (by decide +kernel) rfl g5 ?_
  refine dq_S (.bipush 8) 2 [] 46 _ [.int 8, va_rf o0] (by decide +kernel) rfl ?_
  obtain ⟨h29, q30, hh⟩ := db hh
  obtain ⟨a31, q32, q30⟩ := db q30
  rw [dq_xV q30] at q32
  refine dq_cvi hD 42 109 5 1 [8] o0 [.int 8] [] 49 [] (by decide +kernel) ap_109 ⟨⟨Nat.le_of_ble_eq_true rfl, by decide⟩, rfl, rfl⟩ (dq_ok8 [1, 1] [] (dc_r (dc_i dc_n)) dc_n (by decide +kernel)) (by decide +kernel) rfl q32 rfl ?_
  refine dq_aln 3 50 (by decide +kernel) rfl g8 ?_
  cases hh
  exact dq_retR (by decide +kernel) rfl
def f132 (L : Nat) (xs : Nat → Int32) (zf : Value) (D : dD) (w : Nat) (As : List Value) (h : rm_H) : Option dR := match As with
  | [v0, v1, .int i2] => (rm_rf v0).bind fun o0 => (rm_rf v1).bind fun o1 => b132_0 L xs zf D w o0 o1 i2 h
  | _ => none
theorem d132 {L : Nat} {xs : Nat → Int32} {zf : Value} {D : dD} {w k : Nat} (hD : dO L xs zf D k) (hz : zf.category = 1) (As : List Value) (h : rm_H) (r : dR) (hh : f132 L xs zf D w As h = some r) : dq L xs zf ah_M132 0 (lv_args 0 As) [] h (k + 1) r := by
  unfold f132 at hh
  split at hh
  · obtain ⟨o0, e0, hb0⟩ := db hh
    have e0 := rm_rf_v _ _ e0
    obtain ⟨o1, e1, hb1⟩ := db hb0
    have e1 := rm_rf_v _ _ e1
    subst e0 e1
    refine c132_0 hD hz _ _ _ _ _ _ ?_ ?_ ?_ hb1
    all_goals (simp only [la_r, la_i, la_j]; rfl)
  · cases hh
def b133_0 (L : Nat) (xs : Nat → Int32) (zf : Value) (D : dD) (w : Nat) (o0 : Option Nat) (o1 : Option Nat) (i2 : Int32) (h : rm_H) : Option dR :=
  ((dcV L xs D 128 [8] o0 [.int 8] h).bind dxR).bind fun p1 =>
  (some (p1.2 ++ [.inr (10, ah_DV 10)])).bind fun h9 =>
  (dgR L xs h9 0 [8] o0).bind fun p11 =>
  (dgI L xs h9 7 [6] p11).bind fun x13 =>
  ((dcN D 112 (some (21 + List.length p1.2)) [va_rf (some 9), .int x13] h9).bind dxV).bind fun h15 =>
  (dpF h15 5 [12] p1.1 (va_rf (some (21 + List.length p1.2)))).bind fun h19 =>
  (dgR L xs h19 5 [12] p1.1).bind fun p21 =>
  (dpF h19 6 [10] p21 (.int 1)).bind fun h23 =>
  (dgR L xs h23 5 [12] p1.1).bind fun p25 =>
  ((dcV L xs D 113 [8] o0 [va_rf p25] h23).bind dxV).bind fun h27 =>
  (dgR L xs h27 5 [12] p1.1).bind fun p31 =>
  (dgI L xs h27 5 [10] p31).bind fun x33 =>
  (dpF h27 3 [12] p1.1 (.int x33)).bind fun h35 =>
  ((dcV L xs D 134 [8] o0 [va_rf p1.1, va_rf o1, .int i2] h35).bind dxV).bind fun h37 =>
  some (some (va_rf p1.1), h37)
theorem c133_0 {L : Nat} {xs : Nat → Int32} {zf : Value} {D : dD} {w k : Nat} (hD : dO L xs zf D k) (hz : zf.category = 1) : ∀ (o0 : Option Nat) (o1 : Option Nat) (i2 : Int32) (lv : rm_L) (h : rm_H) (r : dR), rm_get lv 0 = some (va_rf o0) → rm_get lv 1 = some (va_rf o1) → rm_get lv 2 = some (.int i2) → b133_0 L xs zf D w  o0 o1 i2 h = some r → dq L xs zf ah_M133 0 lv [] h (k + 1) r := by
  intro o0 o1 i2 lv h r G0 G1 G2 hh
  unfold b133_0 at hh
  refine dq_aln 0 1 (by decide +kernel) rfl G0 ?_
  refine dq_S (.bipush 8) 2 [] 3 _ [.int 8, va_rf o0] (by decide +kernel) rfl ?_
  obtain ⟨p1, q2, hh⟩ := db hh
  obtain ⟨a3, q4, q2⟩ := db q2
  rw [dq_xR q2] at q4
  refine dq_cvi hD 260 128 5 1 [8] o0 [.int 8] [] 6 [va_rf p1.1] (by decide +kernel) ap_128 ⟨⟨Nat.le_of_ble_eq_true rfl, by decide⟩, rfl, rfl⟩ (dq_ok8 [1, 1] [] (dc_r (dc_i dc_n)) dc_n (by decide +kernel)) (by decide +kernel) rfl q4 rfl ?_
  refine dq_asn 3 7 (by decide +kernel) (by decide +kernel) ?_
  have g5 := dg_ne (i := 3) (u := va_rf p1.1) (by decide) (Or.inl (by decide)) G0
  have g6 := dg_ne (i := 3) (u := va_rf p1.1) (by decide) (Or.inl (by decide)) G1
  have g7 := dg_ne (i := 3) (u := va_rf p1.1) (by decide) (Or.inr rfl) G2
  have g8 := dg_eq (lv) 3 (va_rf p1.1)
  refine dq_aln 3 8 (by decide +kernel) rfl g8 ?_
  obtain ⟨h9, q10, hh⟩ := db hh
  refine dq_new 89 10 11 (by decide +kernel) rfl ?_
  rw [Option.some.inj q10]
  refine dq_dup 12 (by decide +kernel) rfl ?_
  refine dq_S (.ldc 136) 2 [1, 9] 14 _ [va_rf (some 9), va_rf (some (21 + List.length p1.2)), va_rf (some (21 + List.length p1.2)), va_rf p1.1] (by decide +kernel) rfl ?_
  refine dq_aln 0 15 (by decide +kernel) rfl g5 ?_
  obtain ⟨p11, q12, hh⟩ := db hh
  refine dq_gR 9 0 [8] 18 (by decide +kernel) rfl q12 ?_
  obtain ⟨x13, q14, hh⟩ := db hh
  refine dq_gI 58 7 [6] 21 (by decide +kernel) rfl q14 ?_
  obtain ⟨h15, q16, hh⟩ := db hh
  obtain ⟨a17, q18, q16⟩ := db q16
  rw [dq_xV q16] at q18
  refine dq_csp hD 138 112 2 [] (some (21 + List.length p1.2)) [va_rf (some 9), .int x13] [va_rf (some (21 + List.length p1.2)), va_rf p1.1] 24 [va_rf (some (21 + List.length p1.2)), va_rf p1.1] (by decide +kernel) ap_112 ⟨Nat.le_of_ble_eq_true rfl, rfl, rfl⟩ (dq_ok8 [1, 1, 1] [1, 1] (dc_r (dc_r (dc_i dc_n))) (dc_r (dc_r dc_n)) (by decide +kernel)) (by decide +kernel) rfl q18 rfl ?_
  obtain ⟨h19, q20, hh⟩ := db hh
  refine dq_put 205 5 [12] 27 (by decide +kernel) rfl q20 ?_
  refine dq_aln 3 28 (by decide +kernel) rfl g8 ?_
  obtain ⟨p21, q22, hh⟩ := db hh
  refine dq_gR 205 5 [12] 31 (by decide +kernel) rfl q22 ?_
  refine dq_S (.iconst 1) 1 [] 32 _ [.int 1, va_rf p21] (by decide +kernel) rfl ?_
  obtain ⟨h23, q24, hh⟩ := db hh
  refine dq_put 162 6 [10] 35 (by decide +kernel) rfl q24 ?_
  refine dq_aln 0 36 (by decide +kernel) rfl g5 ?_
  refine dq_aln 3 37 (by decide +kernel) rfl g8 ?_
  obtain ⟨p25, q26, hh⟩ := db hh
  refine dq_gR 205 5 [12] 40 (by decide +kernel) rfl q26 ?_
  obtain ⟨h27, q28, hh⟩ := db hh
  obtain ⟨a29, q30, q28⟩ := db q28
  rw [dq_xV q28] at q30
  refine dq_cvi hD 145 113 5 1 [8] o0 [va_rf p25] [] 43 [] (by decide +kernel) ap_113 ⟨⟨Nat.le_of_ble_eq_true rfl, by decide⟩, rfl, rfl⟩ (dq_ok8 [1, 1] [] (dc_r (dc_r dc_n)) dc_n (by decide +kernel)) (by decide +kernel) rfl q30 rfl ?_
  refine dq_aln 3 44 (by decide +kernel) rfl g8 ?_
  refine dq_aln 3 45 (by decide +kernel) rfl g8 ?_
  obtain ⟨p31, q32, hh⟩ := db hh
  refine dq_gR 205 5 [12] 48 (by decide +kernel) rfl q32 ?_
  obtain ⟨x33, q34, hh⟩ := db hh
  refine dq_gI 171 5 [10] 51 (by decide +kernel) rfl q34 ?_
  obtain ⟨h35, q36, hh⟩ := db hh
  refine dq_put 189 3 [12] 54 (by decide +kernel) rfl q36 ?_
  refine dq_aln 0 55 (by decide +kernel) rfl g5 ?_
  refine dq_aln 3 56 (by decide +kernel) rfl g8 ?_
  refine dq_aln 1 57 (by decide +kernel) rfl g6 ?_
  refine dq_iln 2 58 (by decide +kernel) rfl g7 ?_
  obtain ⟨h37, q38, hh⟩ := db hh
  obtain ⟨a39, q40, q38⟩ := db q38
  rw [dq_xV q38] at q40
  refine dq_cvi hD 242 134 5 3 [8] o0 [va_rf p1.1, va_rf o1, .int i2] [] 61 [] (by decide +kernel) ap_134 ⟨⟨Nat.le_of_ble_eq_true rfl, by decide⟩, rfl, rfl⟩ (dq_ok8 [1, 1, 1, 1] [] (dc_r (dc_r (dc_r (dc_i dc_n)))) dc_n (by decide +kernel)) (by decide +kernel) rfl q40 rfl ?_
  refine dq_aln 3 62 (by decide +kernel) rfl g8 ?_
  cases hh
  exact dq_retR (by decide +kernel) rfl
def f133 (L : Nat) (xs : Nat → Int32) (zf : Value) (D : dD) (w : Nat) (As : List Value) (h : rm_H) : Option dR := match As with
  | [v0, v1, .int i2] => (rm_rf v0).bind fun o0 => (rm_rf v1).bind fun o1 => b133_0 L xs zf D w o0 o1 i2 h
  | _ => none
theorem d133 {L : Nat} {xs : Nat → Int32} {zf : Value} {D : dD} {w k : Nat} (hD : dO L xs zf D k) (hz : zf.category = 1) (As : List Value) (h : rm_H) (r : dR) (hh : f133 L xs zf D w As h = some r) : dq L xs zf ah_M133 0 (lv_args 0 As) [] h (k + 1) r := by
  unfold f133 at hh
  split at hh
  · obtain ⟨o0, e0, hb0⟩ := db hh
    have e0 := rm_rf_v _ _ e0
    obtain ⟨o1, e1, hb1⟩ := db hb0
    have e1 := rm_rf_v _ _ e1
    subst e0 e1
    refine c133_0 hD hz _ _ _ _ _ _ ?_ ?_ ?_ hb1
    all_goals (simp only [la_r, la_i, la_j]; rfl)
  · cases hh
def b134_54 (L : Nat) (xs : Nat → Int32) (zf : Value) (D : dD) (w : Nat) (K28 : Option Nat → Option Nat → Option Nat → Int32 → Int32 → Int32 → rm_H → Option dR) (o0 : Option Nat) (o1 : Option Nat) (o2 : Option Nat) (i3 : Int32) (i5 : Int32) (h : rm_H) : Option dR :=
  ((dcV L xs D 123 [8] o0 [va_rf o2, .int (i3 + 1)] h).bind dxR).bind fun p1 =>
  ((dcV L xs D 135 [12] o1 [va_rf p1.1] p1.2).bind dxV).bind fun h5 =>
  ((dcV L xs D 118 [8] o0 [.int 10] h5).bind dxI).bind fun x9 =>
  K28 o0 o1 o2 i3 x9.1 (i5 + 1) x9.2
theorem c134_54 {L : Nat} {xs : Nat → Int32} {zf : Value} {D : dD} {w k : Nat} {K28 : Option Nat → Option Nat → Option Nat → Int32 → Int32 → Int32 → rm_H → Option dR} (hD : dO L xs zf D k) (hz : zf.category = 1) (hK28 : ∀ (o0 : Option Nat) (o1 : Option Nat) (o2 : Option Nat) (i3 : Int32) (i4 : Int32) (i5 : Int32) (lv : rm_L) (h : rm_H) (r : dR), rm_get lv 0 = some (va_rf o0) → rm_get lv 1 = some (va_rf o1) → rm_get lv 2 = some (va_rf o2) → rm_get lv 3 = some (.int i3) → rm_get lv 4 = some (.int i4) → rm_get lv 5 = some (.int i5) → K28 o0 o1 o2 i3 i4 i5 h = some r → dq L xs zf ah_M134 28 lv [] h (k + 1) r) : ∀ (o0 : Option Nat) (o1 : Option Nat) (o2 : Option Nat) (i3 : Int32) (i5 : Int32) (lv : rm_L) (h : rm_H) (r : dR), rm_get lv 0 = some (va_rf o0) → rm_get lv 1 = some (va_rf o1) → rm_get lv 2 = some (va_rf o2) → rm_get lv 3 = some (.int i3) → rm_get lv 5 = some (.int i5) → b134_54 L xs zf D w K28  o0 o1 o2 i3 i5 h = some r → dq L xs zf ah_M134 54 lv [] h (k + 1) r := by
  intro o0 o1 o2 i3 i5 lv h r G0 G1 G2 G3 G5 hh
  unfold b134_54 at hh
  refine dq_aln 1 55 (by decide +kernel) rfl G1 ?_
  refine dq_aln 0 56 (by decide +kernel) rfl G0 ?_
  refine dq_aln 2 57 (by decide +kernel) rfl G2 ?_
  refine dq_iln 3 58 (by decide +kernel) rfl G3 ?_
  refine dq_S (.iconst 1) 1 [] 59 _ [.int 1, .int i3, va_rf o2, va_rf o0, va_rf o1] (by decide +kernel) rfl ?_
  refine dq_S (.iadd) 1 [] 60 _ [.int (i3 + 1), va_rf o2, va_rf o0, va_rf o1] (by decide +kernel) rfl ?_
  obtain ⟨p1, q2, hh⟩ := db hh
  obtain ⟨a3, q4, q2⟩ := db q2
  rw [dq_xR q2] at q4
  refine dq_cvi hD 211 123 5 2 [8] o0 [va_rf o2, .int (i3 + 1)] [va_rf o1] 63 [va_rf p1.1, va_rf o1] (by decide +kernel) ap_123 ⟨⟨Nat.le_of_ble_eq_true rfl, by decide⟩, rfl, rfl⟩ (dq_ok8 [1, 1, 1] [1] (dc_r (dc_r (dc_i dc_n))) (dc_r dc_n) (by decide +kernel)) (by decide +kernel) rfl q4 rfl ?_
  obtain ⟨h5, q6, hh⟩ := db hh
  obtain ⟨a7, q8, q6⟩ := db q6
  rw [dq_xV q6] at q8
  refine dq_cvi hD 185 135 5 1 [12] o1 [va_rf p1.1] [] 66 [] (by decide +kernel) ap_135 ⟨⟨Nat.le_of_ble_eq_true rfl, by decide⟩, rfl, rfl⟩ (dq_ok8 [1, 1] [] (dc_r (dc_r dc_n)) dc_n (by decide +kernel)) (by decide +kernel) rfl q8 rfl ?_
  refine dq_aln 0 67 (by decide +kernel) rfl G0 ?_
  refine dq_S (.bipush 10) 2 [] 69 _ [.int 10, va_rf o0] (by decide +kernel) rfl ?_
  obtain ⟨x9, q10, hh⟩ := db hh
  obtain ⟨a11, q12, q10⟩ := db q10
  rw [dq_xI q10] at q12
  refine dq_cvi hD 152 118 5 1 [8] o0 [.int 10] [] 72 [.int x9.1] (by decide +kernel) ap_118 ⟨⟨Nat.le_of_ble_eq_true rfl, by decide⟩, rfl, rfl⟩ (dq_ok8 [1, 1] [] (dc_r (dc_i dc_n)) dc_n (by decide +kernel)) (by decide +kernel) rfl q12 rfl ?_
  refine dq_is 4 74 (by decide +kernel) (by decide +kernel) ?_
  have g13 := dg_ne (i := 4) (u := .int x9.1) (by decide) (Or.inl (by decide)) G0
  have g14 := dg_ne (i := 4) (u := .int x9.1) (by decide) (Or.inl (by decide)) G1
  have g15 := dg_ne (i := 4) (u := .int x9.1) (by decide) (Or.inl (by decide)) G2
  have g16 := dg_ne (i := 4) (u := .int x9.1) (by decide) (Or.inr rfl) G3
  have g17 := dg_ne (i := 4) (u := .int x9.1) (by decide) (Or.inl (by decide)) G5
  have g18 := dg_eq (lv) 4 (.int x9.1)
  refine dq_incy 5 1 1 77 (by decide +kernel) ⟨rfl, by decide +kernel, by decide +kernel⟩ g17 ?_
  have g19 := dg_ne (i := 5) (u := .int (i5 + 1)) (by decide) (Or.inl (by decide)) g13
  have g20 := dg_ne (i := 5) (u := .int (i5 + 1)) (by decide) (Or.inl (by decide)) g14
  have g21 := dg_ne (i := 5) (u := .int (i5 + 1)) (by decide) (Or.inl (by decide)) g15
  have g22 := dg_ne (i := 5) (u := .int (i5 + 1)) (by decide) (Or.inl (by decide)) g16
  have g23 := dg_ne (i := 5) (u := .int (i5 + 1)) (by decide) (Or.inr rfl) g18
  have g24 := dg_eq (rm_set1 (lv) 4 (.int x9.1)) 5 (.int (i5 + 1))
  refine dq_S (.goto (-49)) 3 [] 28 _ [] (by decide +kernel) rfl ?_
  exact hK28 _ _ _ _ _ _ _ _ _ g19 g20 g21 g22 g23 g24 hh
def b134_80 (L : Nat) (xs : Nat → Int32) (zf : Value) (D : dD) (w : Nat) (o0 : Option Nat) (h : rm_H) : Option dR :=
  ((dcV L xs D 109 [8] o0 [.int 8] h).bind dxV).bind fun h1 =>
  some (none, h1)
theorem c134_80 {L : Nat} {xs : Nat → Int32} {zf : Value} {D : dD} {w k : Nat} (hD : dO L xs zf D k) (hz : zf.category = 1) : ∀ (o0 : Option Nat) (lv : rm_L) (h : rm_H) (r : dR), rm_get lv 0 = some (va_rf o0) → b134_80 L xs zf D w  o0 h = some r → dq L xs zf ah_M134 80 lv [] h (k + 1) r := by
  intro o0 lv h r G0 hh
  unfold b134_80 at hh
  refine dq_aln 0 81 (by decide +kernel) rfl G0 ?_
  refine dq_S (.bipush 8) 2 [] 83 _ [.int 8, va_rf o0] (by decide +kernel) rfl ?_
  obtain ⟨h1, q2, hh⟩ := db hh
  obtain ⟨a3, q4, q2⟩ := db q2
  rw [dq_xV q2] at q4
  refine dq_cvi hD 42 109 5 1 [8] o0 [.int 8] [] 86 [] (by decide +kernel) ap_109 ⟨⟨Nat.le_of_ble_eq_true rfl, by decide⟩, rfl, rfl⟩ (dq_ok8 [1, 1] [] (dc_r (dc_i dc_n)) dc_n (by decide +kernel)) (by decide +kernel) rfl q4 rfl ?_
  cases hh
  exact dq_ret0 (by decide +kernel) rfl
def b134_28 (L : Nat) (xs : Nat → Int32) (zf : Value) (D : dD) (w : Nat) : Nat → Option Nat → Option Nat → Option Nat → Int32 → Int32 → Int32 → rm_H → Option dR
  | 0, _, _, _, _, _, _, _ => none
  | n + 1, o0, o1, o2, i3, i4, i5, h =>
    if mx_f1 .eq i4 = true then
      b134_80 L xs zf D w o0 h
    else
      if mx_f2 .gt i5 6 = true then
        b134_80 L xs zf D w o0 h
      else
        if mx_f2 .ne i5 6 = true then
          b134_54 L xs zf D w (b134_28 L xs zf D w n) o0 o1 o2 i3 i5 h
        else
          (dgR L xs h 0 [8] o0).bind fun p4 =>
          ((dcV L xs D 95 [6] p4 [] h).bind dxV).bind fun h6 =>
          b134_54 L xs zf D w (b134_28 L xs zf D w n) o0 o1 o2 i3 i5 h6
theorem c134_28 {L : Nat} {xs : Nat → Int32} {zf : Value} {D : dD} {w k : Nat} (hD : dO L xs zf D k) (hz : zf.category = 1) : ∀ (n : Nat) (o0 : Option Nat) (o1 : Option Nat) (o2 : Option Nat) (i3 : Int32) (i4 : Int32) (i5 : Int32) (lv : rm_L) (h : rm_H) (r : dR), rm_get lv 0 = some (va_rf o0) → rm_get lv 1 = some (va_rf o1) → rm_get lv 2 = some (va_rf o2) → rm_get lv 3 = some (.int i3) → rm_get lv 4 = some (.int i4) → rm_get lv 5 = some (.int i5) → b134_28 L xs zf D w n  o0 o1 o2 i3 i4 i5 h = some r → dq L xs zf ah_M134 28 lv [] h (k + 1) r := by
  intro n
  induction n with
  | zero =>
    intro o0 o1 o2 i3 i4 i5 lv h r G0 G1 G2 G3 G4 G5 hh
    cases hh
  | succ n ih =>
    intro o0 o1 o2 i3 i4 i5 lv h r G0 G1 G2 G3 G4 G5 hh
    rw [b134_28] at hh
    refine dq_il 4 30 (by decide +kernel) rfl G4 ?_
    rcases di hh with ⟨q1, hh⟩ | ⟨q1, hh⟩
    · refine dq_1 .eq 50 true 80 q1 (by decide +kernel) ?_
      exact c134_80 hD hz _ _ _ _ G0 hh
    · refine dq_1 .eq 50 false 33 q1 (by decide +kernel) ?_
      refine dq_il 5 35 (by decide +kernel) rfl G5 ?_
      refine dq_S (.bipush 6) 2 [] 37 _ [.int 6, .int i5] (by decide +kernel) rfl ?_
      rcases di hh with ⟨q2, hh⟩ | ⟨q2, hh⟩
      · refine dq_2 .gt 43 true 80 q2 (by decide +kernel) ?_
        exact c134_80 hD hz _ _ _ _ G0 hh
      · refine dq_2 .gt 43 false 40 q2 (by decide +kernel) ?_
        refine dq_il 5 42 (by decide +kernel) rfl G5 ?_
        refine dq_S (.bipush 6) 2 [] 44 _ [.int 6, .int i5] (by decide +kernel) rfl ?_
        rcases di hh with ⟨q3, hh⟩ | ⟨q3, hh⟩
        · refine dq_2 .ne 10 true 54 q3 (by decide +kernel) ?_
          exact c134_54 hD hz ih _ _ _ _ _ _ _ _ G0 G1 G2 G3 G5 hh
        · refine dq_2 .ne 10 false 47 q3 (by decide +kernel) ?_
          refine dq_aln 0 48 (by decide +kernel) rfl G0 ?_
          obtain ⟨p4, q5, hh⟩ := db hh
          refine dq_gR 9 0 [8] 51 (by decide +kernel) rfl q5 ?_
          obtain ⟨h6, q7, hh⟩ := db hh
          obtain ⟨a8, q9, q7⟩ := db q7
          rw [dq_xV q7] at q9
          refine dq_cvi hD 46 95 5 0 [6] p4 [] [] 54 [] (by decide +kernel) ap_95 ⟨⟨Nat.le_of_ble_eq_true rfl, by decide⟩, rfl, rfl⟩ (dq_ok8 [1] [] (dc_r dc_n) dc_n (by decide +kernel)) (by decide +kernel) rfl q9 rfl ?_
          exact c134_54 hD hz ih _ _ _ _ _ _ _ _ G0 G1 G2 G3 G5 hh
def b134_23 (L : Nat) (xs : Nat → Int32) (zf : Value) (D : dD) (w : Nat) (o0 : Option Nat) (o1 : Option Nat) (o2 : Option Nat) (i3 : Int32) (s0 : Int32) (h : rm_H) : Option dR :=
  b134_28 L xs zf D w w o0 o1 o2 i3 s0 0 h
theorem c134_23 {L : Nat} {xs : Nat → Int32} {zf : Value} {D : dD} {w k : Nat} (hD : dO L xs zf D k) (hz : zf.category = 1) : ∀ (o0 : Option Nat) (o1 : Option Nat) (o2 : Option Nat) (i3 : Int32) (s0 : Int32) (lv : rm_L) (h : rm_H) (r : dR), rm_get lv 0 = some (va_rf o0) → rm_get lv 1 = some (va_rf o1) → rm_get lv 2 = some (va_rf o2) → rm_get lv 3 = some (.int i3) → b134_23 L xs zf D w  o0 o1 o2 i3 s0 h = some r → dq L xs zf ah_M134 23 lv [.int s0] h (k + 1) r := by
  intro o0 o1 o2 i3 s0 lv h r G0 G1 G2 G3 hh
  unfold b134_23 at hh
  refine dq_is 4 25 (by decide +kernel) (by decide +kernel) ?_
  have g1 := dg_ne (i := 4) (u := .int s0) (by decide) (Or.inl (by decide)) G0
  have g2 := dg_ne (i := 4) (u := .int s0) (by decide) (Or.inl (by decide)) G1
  have g3 := dg_ne (i := 4) (u := .int s0) (by decide) (Or.inl (by decide)) G2
  have g4 := dg_ne (i := 4) (u := .int s0) (by decide) (Or.inr rfl) G3
  have g5 := dg_eq (lv) 4 (.int s0)
  refine dq_S (.iconst 0) 1 [] 26 _ [.int 0] (by decide +kernel) rfl ?_
  refine dq_is 5 28 (by decide +kernel) (by decide +kernel) ?_
  have g6 := dg_ne (i := 5) (u := .int 0) (by decide) (Or.inl (by decide)) g1
  have g7 := dg_ne (i := 5) (u := .int 0) (by decide) (Or.inl (by decide)) g2
  have g8 := dg_ne (i := 5) (u := .int 0) (by decide) (Or.inl (by decide)) g3
  have g9 := dg_ne (i := 5) (u := .int 0) (by decide) (Or.inl (by decide)) g4
  have g10 := dg_ne (i := 5) (u := .int 0) (by decide) (Or.inr rfl) g5
  have g11 := dg_eq (rm_set1 (lv) 4 (.int s0)) 5 (.int 0)
  exact c134_28 hD hz _ _ _ _ _ _ _ _ _ _ g6 g7 g8 g9 g10 g11 hh
def b134_0 (L : Nat) (xs : Nat → Int32) (zf : Value) (D : dD) (w : Nat) (o0 : Option Nat) (o1 : Option Nat) (o2 : Option Nat) (i3 : Int32) (h : rm_H) : Option dR :=
  ((dcV L xs D 109 [8] o0 [.int 7] h).bind dxV).bind fun h1 =>
  (dgR L xs h1 0 [8] o0).bind fun p5 =>
  (dgI L xs h1 6 [6] p5).bind fun x7 =>
  if mx_f2 .eq x7 8 = true then
    b134_23 L xs zf D w o0 o1 o2 i3 0 h1
  else
    b134_23 L xs zf D w o0 o1 o2 i3 1 h1
theorem c134_0 {L : Nat} {xs : Nat → Int32} {zf : Value} {D : dD} {w k : Nat} (hD : dO L xs zf D k) (hz : zf.category = 1) : ∀ (o0 : Option Nat) (o1 : Option Nat) (o2 : Option Nat) (i3 : Int32) (lv : rm_L) (h : rm_H) (r : dR), rm_get lv 0 = some (va_rf o0) → rm_get lv 1 = some (va_rf o1) → rm_get lv 2 = some (va_rf o2) → rm_get lv 3 = some (.int i3) → b134_0 L xs zf D w  o0 o1 o2 i3 h = some r → dq L xs zf ah_M134 0 lv [] h (k + 1) r := by
  intro o0 o1 o2 i3 lv h r G0 G1 G2 G3 hh
  unfold b134_0 at hh
  refine dq_aln 0 1 (by decide +kernel) rfl G0 ?_
  refine dq_S (.bipush 7) 2 [] 3 _ [.int 7, va_rf o0] (by decide +kernel) rfl ?_
  obtain ⟨h1, q2, hh⟩ := db hh
  obtain ⟨a3, q4, q2⟩ := db q2
  rw [dq_xV q2] at q4
  refine dq_cvi hD 42 109 5 1 [8] o0 [.int 7] [] 6 [] (by decide +kernel) ap_109 ⟨⟨Nat.le_of_ble_eq_true rfl, by decide⟩, rfl, rfl⟩ (dq_ok8 [1, 1] [] (dc_r (dc_i dc_n)) dc_n (by decide +kernel)) (by decide +kernel) rfl q4 rfl ?_
  refine dq_aln 0 7 (by decide +kernel) rfl G0 ?_
  obtain ⟨p5, q6, hh⟩ := db hh
  refine dq_gR 9 0 [8] 10 (by decide +kernel) rfl q6 ?_
  obtain ⟨x7, q8, hh⟩ := db hh
  refine dq_gI 24 6 [6] 13 (by decide +kernel) rfl q8 ?_
  refine dq_S (.bipush 8) 2 [] 15 _ [.int 8, .int x7] (by decide +kernel) rfl ?_
  rcases di hh with ⟨q9, hh⟩ | ⟨q9, hh⟩
  · refine dq_2 .eq 7 true 22 q9 (by decide +kernel) ?_
    refine dq_S (.iconst 0) 1 [] 23 _ [.int 0] (by decide +kernel) rfl ?_
    exact c134_23 hD hz _ _ _ _ _ _ _ _ G0 G1 G2 G3 hh
  · refine dq_2 .eq 7 false 18 q9 (by decide +kernel) ?_
    refine dq_S (.iconst 1) 1 [] 19 _ [.int 1] (by decide +kernel) rfl ?_
    refine dq_S (.goto 4) 3 [] 23 _ [.int 1] (by decide +kernel) rfl ?_
    exact c134_23 hD hz _ _ _ _ _ _ _ _ G0 G1 G2 G3 hh
def f134 (L : Nat) (xs : Nat → Int32) (zf : Value) (D : dD) (w : Nat) (As : List Value) (h : rm_H) : Option dR := match As with
  | [v0, v1, v2, .int i3] => (rm_rf v0).bind fun o0 => (rm_rf v1).bind fun o1 => (rm_rf v2).bind fun o2 => b134_0 L xs zf D w o0 o1 o2 i3 h
  | _ => none
theorem d134 {L : Nat} {xs : Nat → Int32} {zf : Value} {D : dD} {w k : Nat} (hD : dO L xs zf D k) (hz : zf.category = 1) (As : List Value) (h : rm_H) (r : dR) (hh : f134 L xs zf D w As h = some r) : dq L xs zf ah_M134 0 (lv_args 0 As) [] h (k + 1) r := by
  unfold f134 at hh
  split at hh
  · obtain ⟨o0, e0, hb0⟩ := db hh
    have e0 := rm_rf_v _ _ e0
    obtain ⟨o1, e1, hb1⟩ := db hb0
    have e1 := rm_rf_v _ _ e1
    obtain ⟨o2, e2, hb2⟩ := db hb1
    have e2 := rm_rf_v _ _ e2
    subst e0 e1 e2
    refine c134_0 hD hz _ _ _ _ _ _ _ ?_ ?_ ?_ ?_ hb2
    all_goals (simp only [la_r, la_i, la_j]; rfl)
  · cases hh
def b135_18 (L : Nat) (xs : Nat → Int32) (zf : Value) (D : dD) (w : Nat) (o0 : Option Nat) (o1 : Option Nat) (h : rm_H) : Option dR :=
  (dgR L xs h 11 [12] o0).bind fun p1 =>
  ((dcV L xs D 103 [5] p1 [va_rf o1] h).bind dxI).bind fun x3 =>
  some (none, x3.2)
theorem c135_18 {L : Nat} {xs : Nat → Int32} {zf : Value} {D : dD} {w k : Nat} (hD : dO L xs zf D k) (hz : zf.category = 1) : ∀ (o0 : Option Nat) (o1 : Option Nat) (lv : rm_L) (h : rm_H) (r : dR), rm_get lv 0 = some (va_rf o0) → rm_get lv 1 = some (va_rf o1) → b135_18 L xs zf D w  o0 o1 h = some r → dq L xs zf ah_M135 18 lv [] h (k + 1) r := by
  intro o0 o1 lv h r G0 G1 hh
  unfold b135_18 at hh
  refine dq_aln 0 19 (by decide +kernel) rfl G0 ?_
  obtain ⟨p1, q2, hh⟩ := db hh
  refine dq_gR 50 11 [12] 22 (by decide +kernel) rfl q2 ?_
  refine dq_aln 1 23 (by decide +kernel) rfl G1 ?_
  obtain ⟨x3, q4, hh⟩ := db hh
  obtain ⟨a5, q6, q4⟩ := db q4
  rw [dq_xI q4] at q6
  refine dq_cif hD 60 2 103 7 1 [5] p1 [va_rf o1] [] 28 [.int x3.1] (by decide +kernel) ap_103 ⟨⟨Nat.le_of_ble_eq_true rfl, by decide⟩, rfl, rfl⟩ (dq_ok8 [1, 1] [] (dc_r (dc_r dc_n)) dc_n (by decide +kernel)) (by decide +kernel) rfl q6 rfl ?_
  refine dq_S (.pop) 1 [] 29 _ [] (by decide +kernel) rfl ?_
  cases hh
  exact dq_ret0 (by decide +kernel) rfl
def b135_0 (L : Nat) (xs : Nat → Int32) (zf : Value) (D : dD) (w : Nat) (o0 : Option Nat) (o1 : Option Nat) (h : rm_H) : Option dR :=
  (dgR L xs h 11 [12] o0).bind fun p1 =>
  if dnl p1 = true then
    (some (h ++ [.inr (5, ah_DV 5)])).bind fun h4 =>
    ((dcN D 45 (some (21 + List.length h)) [] h4).bind dxV).bind fun h6 =>
    (dpF h6 11 [12] o0 (va_rf (some (21 + List.length h)))).bind fun h10 =>
    b135_18 L xs zf D w o0 o1 h10
  else
    b135_18 L xs zf D w o0 o1 h
theorem c135_0 {L : Nat} {xs : Nat → Int32} {zf : Value} {D : dD} {w k : Nat} (hD : dO L xs zf D k) (hz : zf.category = 1) : ∀ (o0 : Option Nat) (o1 : Option Nat) (lv : rm_L) (h : rm_H) (r : dR), rm_get lv 0 = some (va_rf o0) → rm_get lv 1 = some (va_rf o1) → b135_0 L xs zf D w  o0 o1 h = some r → dq L xs zf ah_M135 0 lv [] h (k + 1) r := by
  intro o0 o1 lv h r G0 G1 hh
  unfold b135_0 at hh
  refine dq_aln 0 1 (by decide +kernel) rfl G0 ?_
  obtain ⟨p1, q2, hh⟩ := db hh
  refine dq_gR 50 11 [12] 4 (by decide +kernel) rfl q2 ?_
  rcases di hh with ⟨q3, hh⟩ | ⟨q3, hh⟩
  · refine dq_nnull 14 false 7 q3 (by decide +kernel) (by decide +kernel) ?_
    refine dq_aln 0 8 (by decide +kernel) rfl G0 ?_
    obtain ⟨h4, q5, hh⟩ := db hh
    refine dq_new 57 5 11 (by decide +kernel) rfl ?_
    rw [Option.some.inj q5]
    refine dq_dup 12 (by decide +kernel) rfl ?_
    obtain ⟨h6, q7, hh⟩ := db hh
    obtain ⟨a8, q9, q7⟩ := db q7
    rw [dq_xV q7] at q9
    refine dq_csp hD 59 45 0 [] (some (21 + List.length h)) [] [va_rf (some (21 + List.length h)), va_rf o0] 15 [va_rf (some (21 + List.length h)), va_rf o0] (by decide +kernel) ap_45 ⟨Nat.le_of_ble_eq_true rfl, rfl, rfl⟩ (dq_ok8 [1] [1, 1] (dc_r dc_n) (dc_r (dc_r dc_n)) (by decide +kernel)) (by decide +kernel) rfl q9 rfl ?_
    obtain ⟨h10, q11, hh⟩ := db hh
    refine dq_put 50 11 [12] 18 (by decide +kernel) rfl q11 ?_
    exact c135_18 hD hz _ _ _ _ _ G0 G1 hh
  · refine dq_nnull 14 true 18 q3 (by decide +kernel) (by decide +kernel) ?_
    exact c135_18 hD hz _ _ _ _ _ G0 G1 hh
def f135 (L : Nat) (xs : Nat → Int32) (zf : Value) (D : dD) (w : Nat) (As : List Value) (h : rm_H) : Option dR := match As with
  | [v0, v1] => (rm_rf v0).bind fun o0 => (rm_rf v1).bind fun o1 => b135_0 L xs zf D w o0 o1 h
  | _ => none
theorem d135 {L : Nat} {xs : Nat → Int32} {zf : Value} {D : dD} {w k : Nat} (hD : dO L xs zf D k) (hz : zf.category = 1) (As : List Value) (h : rm_H) (r : dR) (hh : f135 L xs zf D w As h = some r) : dq L xs zf ah_M135 0 (lv_args 0 As) [] h (k + 1) r := by
  unfold f135 at hh
  split at hh
  · obtain ⟨o0, e0, hb0⟩ := db hh
    have e0 := rm_rf_v _ _ e0
    obtain ⟨o1, e1, hb1⟩ := db hb0
    have e1 := rm_rf_v _ _ e1
    subst e0 e1
    refine c135_0 hD hz _ _ _ _ _ ?_ ?_ hb1
    all_goals (simp only [la_r, la_i, la_j]; rfl)
  · cases hh
def b136_0 (L : Nat) (xs : Nat → Int32) (zf : Value) (D : dD) (w : Nat) (o0 : Option Nat) (o1 : Option Nat) (i2 : Int32) (h : rm_H) : Option dR :=
  ((dcV L xs D 128 [8] o0 [.int 9] h).bind dxR).bind fun p1 =>
  ((dcV L xs D 119 [8] o0 [va_rf o1, .int (i2 + 1)] p1.2).bind dxR).bind fun p9 =>
  (dpF p9.2 8 [12] p1.1 (va_rf p9.1)).bind fun h13 =>
  some (some (va_rf p1.1), h13)
theorem c136_0 {L : Nat} {xs : Nat → Int32} {zf : Value} {D : dD} {w k : Nat} (hD : dO L xs zf D k) (hz : zf.category = 1) : ∀ (o0 : Option Nat) (o1 : Option Nat) (i2 : Int32) (lv : rm_L) (h : rm_H) (r : dR), rm_get lv 0 = some (va_rf o0) → rm_get lv 1 = some (va_rf o1) → rm_get lv 2 = some (.int i2) → b136_0 L xs zf D w  o0 o1 i2 h = some r → dq L xs zf ah_M136 0 lv [] h (k + 1) r := by
  intro o0 o1 i2 lv h r G0 G1 G2 hh
  unfold b136_0 at hh
  refine dq_aln 0 1 (by decide +kernel) rfl G0 ?_
  refine dq_S (.bipush 9) 2 [] 3 _ [.int 9, va_rf o0] (by decide +kernel) rfl ?_
  obtain ⟨p1, q2, hh⟩ := db hh
  obtain ⟨a3, q4, q2⟩ := db q2
  rw [dq_xR q2] at q4
  refine dq_cvi hD 260 128 5 1 [8] o0 [.int 9] [] 6 [va_rf p1.1] (by decide +kernel) ap_128 ⟨⟨Nat.le_of_ble_eq_true rfl, by decide⟩, rfl, rfl⟩ (dq_ok8 [1, 1] [] (dc_r (dc_i dc_n)) dc_n (by decide +kernel)) (by decide +kernel) rfl q4 rfl ?_
  refine dq_asn 3 7 (by decide +kernel) (by decide +kernel) ?_
  have g5 := dg_ne (i := 3) (u := va_rf p1.1) (by decide) (Or.inl (by decide)) G0
  have g6 := dg_ne (i := 3) (u := va_rf p1.1) (by decide) (Or.inl (by decide)) G1
  have g7 := dg_ne (i := 3) (u := va_rf p1.1) (by decide) (Or.inr rfl) G2
  have g8 := dg_eq (lv) 3 (va_rf p1.1)
  refine dq_aln 3 8 (by decide +kernel) rfl g8 ?_
  refine dq_aln 0 9 (by decide +kernel) rfl g5 ?_
  refine dq_aln 1 10 (by decide +kernel) rfl g6 ?_
  refine dq_iln 2 11 (by decide +kernel) rfl g7 ?_
  refine dq_S (.iconst 1) 1 [] 12 _ [.int 1, .int i2, va_rf o1, va_rf o0, va_rf p1.1] (by decide +kernel) rfl ?_
  refine dq_S (.iadd) 1 [] 13 _ [.int (i2 + 1), va_rf o1, va_rf o0, va_rf p1.1] (by decide +kernel) rfl ?_
  obtain ⟨p9, q10, hh⟩ := db hh
  obtain ⟨a11, q12, q10⟩ := db q10
  rw [dq_xR q10] at q12
  refine dq_cvi hD 114 119 5 2 [8] o0 [va_rf o1, .int (i2 + 1)] [va_rf p1.1] 16 [va_rf p9.1, va_rf p1.1] (by decide +kernel) ap_119 ⟨⟨Nat.le_of_ble_eq_true rfl, by decide⟩, rfl, rfl⟩ (dq_ok8 [1, 1, 1] [1] (dc_r (dc_r (dc_i dc_n))) (dc_r dc_n) (by decide +kernel)) (by decide +kernel) rfl q12 rfl ?_
  obtain ⟨h13, q14, hh⟩ := db hh
  refine dq_put 214 8 [12] 19 (by decide +kernel) rfl q14 ?_
  refine dq_aln 3 20 (by decide +kernel) rfl g8 ?_
  cases hh
  exact dq_retR (by decide +kernel) rfl
def f136 (L : Nat) (xs : Nat → Int32) (zf : Value) (D : dD) (w : Nat) (As : List Value) (h : rm_H) : Option dR := match As with
  | [v0, v1, .int i2] => (rm_rf v0).bind fun o0 => (rm_rf v1).bind fun o1 => b136_0 L xs zf D w o0 o1 i2 h
  | _ => none
theorem d136 {L : Nat} {xs : Nat → Int32} {zf : Value} {D : dD} {w k : Nat} (hD : dO L xs zf D k) (hz : zf.category = 1) (As : List Value) (h : rm_H) (r : dR) (hh : f136 L xs zf D w As h = some r) : dq L xs zf ah_M136 0 (lv_args 0 As) [] h (k + 1) r := by
  unfold f136 at hh
  split at hh
  · obtain ⟨o0, e0, hb0⟩ := db hh
    have e0 := rm_rf_v _ _ e0
    obtain ⟨o1, e1, hb1⟩ := db hb0
    have e1 := rm_rf_v _ _ e1
    subst e0 e1
    refine c136_0 hD hz _ _ _ _ _ _ ?_ ?_ ?_ hb1
    all_goals (simp only [la_r, la_i, la_j]; rfl)
  · cases hh
def b137_0 (L : Nat) (xs : Nat → Int32) (zf : Value) (D : dD) (w : Nat) (o0 : Option Nat) (i1 : Int32) (o2 : Option Nat) (h : rm_H) : Option dR :=
  (some (h ++ [.inr (12, ah_DV 12)])).bind fun h1 =>
  (dgI L xs h1 1 [12] o2).bind fun x3 =>
  ((dcN D 120 (some (21 + List.length h)) [.int i1, .int x3] h1).bind dxV).bind fun h5 =>
  (dpF h5 6 [12] (some (21 + List.length h)) (va_rf o2)).bind fun h13 =>
  (dpF h13 7 [12] o2 (va_rf (some (21 + List.length h)))).bind fun h15 =>
  (dgR L xs h15 1 [8] o0).bind fun p17 =>
  (dgI L xs h15 4 [4] p17).bind fun x19 =>
  (dpF h15 4 [4] p17 (.int (x19 + 1))).bind fun h21 =>
  some (some (va_rf (some (21 + List.length h))), h21)
theorem c137_0 {L : Nat} {xs : Nat → Int32} {zf : Value} {D : dD} {w k : Nat} (hD : dO L xs zf D k) (hz : zf.category = 1) : ∀ (o0 : Option Nat) (i1 : Int32) (o2 : Option Nat) (lv : rm_L) (h : rm_H) (r : dR), rm_get lv 0 = some (va_rf o0) → rm_get lv 1 = some (.int i1) → rm_get lv 2 = some (va_rf o2) → b137_0 L xs zf D w  o0 i1 o2 h = some r → dq L xs zf ah_M137 0 lv [] h (k + 1) r := by
  intro o0 i1 o2 lv h r G0 G1 G2 hh
  unfold b137_0 at hh
  obtain ⟨h1, q2, hh⟩ := db hh
  refine dq_new 178 12 3 (by decide +kernel) rfl ?_
  rw [Option.some.inj q2]
  refine dq_dup 4 (by decide +kernel) rfl ?_
  refine dq_iln 1 5 (by decide +kernel) rfl G1 ?_
  refine dq_aln 2 6 (by decide +kernel) rfl G2 ?_
  obtain ⟨x3, q4, hh⟩ := db hh
  refine dq_gI 246 1 [12] 9 (by decide +kernel) rfl q4 ?_
  obtain ⟨h5, q6, hh⟩ := db hh
  obtain ⟨a7, q8, q6⟩ := db q6
  rw [dq_xV q6] at q8
  refine dq_csp hD 180 120 2 [] (some (21 + List.length h)) [.int i1, .int x3] [va_rf (some (21 + List.length h))] 12 [va_rf (some (21 + List.length h))] (by decide +kernel) ap_120 ⟨Nat.le_of_ble_eq_true rfl, rfl, rfl⟩ (dq_ok8 [1, 1, 1] [1] (dc_r (dc_i (dc_i dc_n))) (dc_r dc_n) (by decide +kernel)) (by decide +kernel) rfl q8 rfl ?_
  refine dq_asn 3 13 (by decide +kernel) (by decide +kernel) ?_
  have g9 := dg_ne (i := 3) (u := va_rf (some (21 + List.length h))) (by decide) (Or.inl (by decide)) G0
  have g10 := dg_ne (i := 3) (u := va_rf (some (21 + List.length h))) (by decide) (Or.inl (by decide)) G1
  have g11 := dg_ne (i := 3) (u := va_rf (some (21 + List.length h))) (by decide) (Or.inr (drc _)) G2
  have g12 := dg_eq (lv) 3 (va_rf (some (21 + List.length h)))
  refine dq_aln 3 14 (by decide +kernel) rfl g12 ?_
  refine dq_aln 2 15 (by decide +kernel) rfl g11 ?_
  obtain ⟨h13, q14, hh⟩ := db hh
  refine dq_put 247 6 [12] 18 (by decide +kernel) rfl q14 ?_
  refine dq_aln 2 19 (by decide +kernel) rfl g11 ?_
  refine dq_aln 3 20 (by decide +kernel) rfl g12 ?_
  obtain ⟨h15, q16, hh⟩ := db hh
  refine dq_put 250 7 [12] 23 (by decide +kernel) rfl q16 ?_
  refine dq_aln 0 24 (by decide +kernel) rfl g9 ?_
  obtain ⟨p17, q18, hh⟩ := db hh
  refine dq_gR 15 1 [8] 27 (by decide +kernel) rfl q18 ?_
  refine dq_dup 28 (by decide +kernel) rfl ?_
  obtain ⟨x19, q20, hh⟩ := db hh
  refine dq_gI 253 4 [4] 31 (by decide +kernel) rfl q20 ?_
  refine dq_S (.iconst 1) 1 [] 32 _ [.int 1, .int x19, va_rf p17] (by decide +kernel) rfl ?_
  refine dq_S (.iadd) 1 [] 33 _ [.int (x19 + 1), va_rf p17] (by decide +kernel) rfl ?_
  obtain ⟨h21, q22, hh⟩ := db hh
  refine dq_put 253 4 [4] 36 (by decide +kernel) rfl q22 ?_
  refine dq_aln 3 37 (by decide +kernel) rfl g12 ?_
  cases hh
  exact dq_retR (by decide +kernel) rfl
def f137 (L : Nat) (xs : Nat → Int32) (zf : Value) (D : dD) (w : Nat) (As : List Value) (h : rm_H) : Option dR := match As with
  | [v0, .int i1, v2] => (rm_rf v0).bind fun o0 => (rm_rf v2).bind fun o2 => b137_0 L xs zf D w o0 i1 o2 h
  | _ => none
theorem d137 {L : Nat} {xs : Nat → Int32} {zf : Value} {D : dD} {w k : Nat} (hD : dO L xs zf D k) (hz : zf.category = 1) (As : List Value) (h : rm_H) (r : dR) (hh : f137 L xs zf D w As h = some r) : dq L xs zf ah_M137 0 (lv_args 0 As) [] h (k + 1) r := by
  unfold f137 at hh
  split at hh
  · obtain ⟨o0, e0, hb0⟩ := db hh
    have e0 := rm_rf_v _ _ e0
    obtain ⟨o2, e2, hb2⟩ := db hb0
    have e2 := rm_rf_v _ _ e2
    subst e0 e2
    refine c137_0 hD hz _ _ _ _ _ _ ?_ ?_ ?_ hb2
    all_goals (simp only [la_r, la_i, la_j]; rfl)
  · cases hh
def b138_23 (L : Nat) (xs : Nat → Int32) (zf : Value) (D : dD) (w : Nat) (s0 : Int32) (h : rm_H) : Option dR :=
  drI (some .boolean) s0 h
theorem c138_23 {L : Nat} {xs : Nat → Int32} {zf : Value} {D : dD} {w k : Nat} (hD : dO L xs zf D k) (hz : zf.category = 1) : ∀ (s0 : Int32) (lv : rm_L) (h : rm_H) (r : dR), b138_23 L xs zf D w  s0 h = some r → dq L xs zf ah_M138 23 lv [.int s0] h (k + 1) r := by
  intro s0 lv h r hh
  unfold b138_23 at hh
  exact dq_retI (some .boolean) (by decide +kernel) rfl hh
def b138_22 (L : Nat) (xs : Nat → Int32) (zf : Value) (D : dD) (w : Nat) (h : rm_H) : Option dR :=
  b138_23 L xs zf D w 0 h
theorem c138_22 {L : Nat} {xs : Nat → Int32} {zf : Value} {D : dD} {w k : Nat} (hD : dO L xs zf D k) (hz : zf.category = 1) : ∀ (lv : rm_L) (h : rm_H) (r : dR), b138_22 L xs zf D w  h = some r → dq L xs zf ah_M138 22 lv [] h (k + 1) r := by
  intro lv h r hh
  unfold b138_22 at hh
  refine dq_S (.iconst 0) 1 [] 23 _ [.int 0] (by decide +kernel) rfl ?_
  exact c138_23 hD hz _ _ _ _  hh
def b138_0 (L : Nat) (xs : Nat → Int32) (zf : Value) (D : dD) (w : Nat) (o0 : Option Nat) (h : rm_H) : Option dR :=
  (dgI L xs h 6 [6] o0).bind fun x1 =>
  if mx_f2 .lt x1 15 = true then
    b138_22 L xs zf D w h
  else
    (dgI L xs h 6 [6] o0).bind fun x4 =>
    if mx_f2 .gt x4 19 = true then
      b138_22 L xs zf D w h
    else
      b138_23 L xs zf D w 1 h
theorem c138_0 {L : Nat} {xs : Nat → Int32} {zf : Value} {D : dD} {w k : Nat} (hD : dO L xs zf D k) (hz : zf.category = 1) : ∀ (o0 : Option Nat) (lv : rm_L) (h : rm_H) (r : dR), rm_get lv 0 = some (va_rf o0) → b138_0 L xs zf D w  o0 h = some r → dq L xs zf ah_M138 0 lv [] h (k + 1) r := by
  intro o0 lv h r G0 hh
  unfold b138_0 at hh
  refine dq_aln 0 1 (by decide +kernel) rfl G0 ?_
  obtain ⟨x1, q2, hh⟩ := db hh
  refine dq_gI 38 6 [6] 4 (by decide +kernel) rfl q2 ?_
  refine dq_S (.bipush 15) 2 [] 6 _ [.int 15, .int x1] (by decide +kernel) rfl ?_
  rcases di hh with ⟨q3, hh⟩ | ⟨q3, hh⟩
  · refine dq_2 .lt 16 true 22 q3 (by decide +kernel) ?_
    exact c138_22 hD hz  _ _ _  hh
  · refine dq_2 .lt 16 false 9 q3 (by decide +kernel) ?_
    refine dq_aln 0 10 (by decide +kernel) rfl G0 ?_
    obtain ⟨x4, q5, hh⟩ := db hh
    refine dq_gI 38 6 [6] 13 (by decide +kernel) rfl q5 ?_
    refine dq_S (.bipush 19) 2 [] 15 _ [.int 19, .int x4] (by decide +kernel) rfl ?_
    rcases di hh with ⟨q6, hh⟩ | ⟨q6, hh⟩
    · refine dq_2 .gt 7 true 22 q6 (by decide +kernel) ?_
      exact c138_22 hD hz  _ _ _  hh
    · refine dq_2 .gt 7 false 18 q6 (by decide +kernel) ?_
      refine dq_S (.iconst 1) 1 [] 19 _ [.int 1] (by decide +kernel) rfl ?_
      refine dq_S (.goto 4) 3 [] 23 _ [.int 1] (by decide +kernel) rfl ?_
      exact c138_23 hD hz _ _ _ _  hh
def f138 (L : Nat) (xs : Nat → Int32) (zf : Value) (D : dD) (w : Nat) (As : List Value) (h : rm_H) : Option dR := match As with
  | [v0] => (rm_rf v0).bind fun o0 => b138_0 L xs zf D w o0 h
  | _ => none
theorem d138 {L : Nat} {xs : Nat → Int32} {zf : Value} {D : dD} {w k : Nat} (hD : dO L xs zf D k) (hz : zf.category = 1) (As : List Value) (h : rm_H) (r : dR) (hh : f138 L xs zf D w As h = some r) : dq L xs zf ah_M138 0 (lv_args 0 As) [] h (k + 1) r := by
  unfold f138 at hh
  split at hh
  · obtain ⟨o0, e0, hb0⟩ := db hh
    have e0 := rm_rf_v _ _ e0
    subst e0
    refine c138_0 hD hz _ _ _ _ ?_ hb0
    all_goals (simp only [la_r, la_i, la_j]; rfl)
  · cases hh
def b139_78 (L : Nat) (xs : Nat → Int32) (zf : Value) (D : dD) (w : Nat) (o4 : Option Nat) (h : rm_H) : Option dR :=
  some (some (va_rf o4), h)
theorem c139_78 {L : Nat} {xs : Nat → Int32} {zf : Value} {D : dD} {w k : Nat} (hD : dO L xs zf D k) (hz : zf.category = 1) : ∀ (o4 : Option Nat) (lv : rm_L) (h : rm_H) (r : dR), rm_get lv 4 = some (va_rf o4) → b139_78 L xs zf D w  o4 h = some r → dq L xs zf ah_M139 78 lv [] h (k + 1) r := by
  intro o4 lv h r G4 hh
  unfold b139_78 at hh
  refine dq_al 4 80 (by decide +kernel) rfl G4 ?_
  cases hh
  exact dq_retR (by decide +kernel) rfl
def b139_0 (L : Nat) (xs : Nat → Int32) (zf : Value) (D : dD) (w : Nat) (o0 : Option Nat) (i1 : Int32) (o2 : Option Nat) (i3 : Int32) (h : rm_H) : Option dR :=
  (some (h ++ [.inr (12, ah_DV 12)])).bind fun h1 =>
  (dgR L xs h1 0 [8] o0).bind fun p3 =>
  (dgI L xs h1 7 [6] p3).bind fun x5 =>
  ((dcN D 120 (some (21 + List.length h)) [.int i1, .int x5] h1).bind dxV).bind fun h7 =>
  (dgR L xs h7 0 [8] o0).bind fun p16 =>
  ((dcV L xs D 92 [6] p16 [] h7).bind dxV).bind fun h18 =>
  ((dcV L xs D 123 [8] o0 [va_rf o2, .int (i3 + 1)] h18).bind dxR).bind fun p22 =>
  (dpF p22.2 8 [12] (some (21 + List.length h)) (va_rf p22.1)).bind fun h26 =>
  ((dcV L xs D 119 [8] o0 [va_rf o2, .int (i3 + 1)] h26).bind dxR).bind fun p28 =>
  (dpF p28.2 9 [12] (some (21 + List.length h)) (va_rf p28.1)).bind fun h32 =>
  if mx_f2 .ne i1 16 = true then
    b139_78 L xs zf D w (some (21 + List.length h)) h32
  else
    ((dcV L xs D 118 [8] o0 [.int 27] h32).bind dxI).bind fun x35 =>
    if mx_f1 .eq x35.1 = true then
      b139_78 L xs zf D w (some (21 + List.length h)) x35.2
    else
      ((dcV L xs D 119 [8] o0 [va_rf o2, .int (i3 + 1)] x35.2).bind dxR).bind fun p40 =>
      (dpF p40.2 10 [12] (some (21 + List.length h)) (va_rf p40.1)).bind fun h44 =>
      b139_78 L xs zf D w (some (21 + List.length h)) h44
theorem c139_0 {L : Nat} {xs : Nat → Int32} {zf : Value} {D : dD} {w k : Nat} (hD : dO L xs zf D k) (hz : zf.category = 1) : ∀ (o0 : Option Nat) (i1 : Int32) (o2 : Option Nat) (i3 : Int32) (lv : rm_L) (h : rm_H) (r : dR), rm_get lv 0 = some (va_rf o0) → rm_get lv 1 = some (.int i1) → rm_get lv 2 = some (va_rf o2) → rm_get lv 3 = some (.int i3) → b139_0 L xs zf D w  o0 i1 o2 i3 h = some r → dq L xs zf ah_M139 0 lv [] h (k + 1) r := by
  intro o0 i1 o2 i3 lv h r G0 G1 G2 G3 hh
  unfold b139_0 at hh
  obtain ⟨h1, q2, hh⟩ := db hh
  refine dq_new 178 12 3 (by decide +kernel) rfl ?_
  rw [Option.some.inj q2]
  refine dq_dup 4 (by decide +kernel) rfl ?_
  refine dq_iln 1 5 (by decide +kernel) rfl G1 ?_
  refine dq_aln 0 6 (by decide +kernel) rfl G0 ?_
  obtain ⟨p3, q4, hh⟩ := db hh
  refine dq_gR 9 0 [8] 9 (by decide +kernel) rfl q4 ?_
  obtain ⟨x5, q6, hh⟩ := db hh
  refine dq_gI 58 7 [6] 12 (by decide +kernel) rfl q6 ?_
  obtain ⟨h7, q8, hh⟩ := db hh
  obtain ⟨a9, q10, q8⟩ := db q8
  rw [dq_xV q8] at q10
  refine dq_csp hD 180 120 2 [] (some (21 + List.length h)) [.int i1, .int x5] [va_rf (some (21 + List.length h))] 15 [va_rf (some (21 + List.length h))] (by decide +kernel) ap_120 ⟨Nat.le_of_ble_eq_true rfl, rfl, rfl⟩ (dq_ok8 [1, 1, 1] [1] (dc_r (dc_i (dc_i dc_n))) (dc_r dc_n) (by decide +kernel)) (by decide +kernel) rfl q10 rfl ?_
  refine dq_as 4 17 (by decide +kernel) (by decide +kernel) ?_
  have g11 := dg_ne (i := 4) (u := va_rf (some (21 + List.length h))) (by decide) (Or.inl (by decide)) G0
  have g12 := dg_ne (i := 4) (u := va_rf (some (21 + List.length h))) (by decide) (Or.inl (by decide)) G1
  have g13 := dg_ne (i := 4) (u := va_rf (some (21 + List.length h))) (by decide) (Or.inl (by decide)) G2
  have g14 := dg_ne (i := 4) (u := va_rf (some (21 + List.length h))) (by decide) (Or.inr rfl) G3
  have g15 := dg_eq (lv) 4 (va_rf (some (21 + List.length h)))
  refine dq_aln 0 18 (by decide +kernel) rfl g11 ?_
  obtain ⟨p16, q17, hh⟩ := db hh
  refine dq_gR 9 0 [8] 21 (by decide +kernel) rfl q17 ?_
  obtain ⟨h18, q19, hh⟩ := db hh
  obtain ⟨a20, q21, q19⟩ := db q19
  rw [dq_xV q19] at q21
  refine dq_cvi hD 19 92 5 0 [6] p16 [] [] 24 [] (by decide +kernel) ap_92 ⟨⟨Nat.le_of_ble_eq_true rfl, by decide⟩, rfl, rfl⟩ (dq_ok8 [1] [] (dc_r dc_n) dc_n (by decide +kernel)) (by decide +kernel) rfl q21 rfl ?_
  refine dq_al 4 26 (by decide +kernel) rfl g15 ?_
  refine dq_aln 0 27 (by decide +kernel) rfl g11 ?_
  refine dq_aln 2 28 (by decide +kernel) rfl g13 ?_
  refine dq_iln 3 29 (by decide +kernel) rfl g14 ?_
  refine dq_S (.iconst 1) 1 [] 30 _ [.int 1, .int i3, va_rf o2, va_rf o0, va_rf (some (21 + List.length h))] (by decide +kernel) rfl ?_
  refine dq_S (.iadd) 1 [] 31 _ [.int (i3 + 1), va_rf o2, va_rf o0, va_rf (some (21 + List.length h))] (by decide +kernel) rfl ?_
  obtain ⟨p22, q23, hh⟩ := db hh
  obtain ⟨a24, q25, q23⟩ := db q23
  rw [dq_xR q23] at q25
  refine dq_cvi hD 211 123 5 2 [8] o0 [va_rf o2, .int (i3 + 1)] [va_rf (some (21 + List.length h))] 34 [va_rf p22.1, va_rf (some (21 + List.length h))] (by decide +kernel) ap_123 ⟨⟨Nat.le_of_ble_eq_true rfl, by decide⟩, rfl, rfl⟩ (dq_ok8 [1, 1, 1] [1] (dc_r (dc_r (dc_i dc_n))) (dc_r dc_n) (by decide +kernel)) (by decide +kernel) rfl q25 rfl ?_
  obtain ⟨h26, q27, hh⟩ := db hh
  refine dq_put 214 8 [12] 37 (by decide +kernel) rfl q27 ?_
  refine dq_al 4 39 (by decide +kernel) rfl g15 ?_
  refine dq_aln 0 40 (by decide +kernel) rfl g11 ?_
  refine dq_aln 2 41 (by decide +kernel) rfl g13 ?_
  refine dq_iln 3 42 (by decide +kernel) rfl g14 ?_
  refine dq_S (.iconst 1) 1 [] 43 _ [.int 1, .int i3, va_rf o2, va_rf o0, va_rf (some (21 + List.length h))] (by decide +kernel) rfl ?_
  refine dq_S (.iadd) 1 [] 44 _ [.int (i3 + 1), va_rf o2, va_rf o0, va_rf (some (21 + List.length h))] (by decide +kernel) rfl ?_
  obtain ⟨p28, q29, hh⟩ := db hh
  obtain ⟨a30, q31, q29⟩ := db q29
  rw [dq_xR q29] at q31
  refine dq_cvi hD 114 119 5 2 [8] o0 [va_rf o2, .int (i3 + 1)] [va_rf (some (21 + List.length h))] 47 [va_rf p28.1, va_rf (some (21 + List.length h))] (by decide +kernel) ap_119 ⟨⟨Nat.le_of_ble_eq_true rfl, by decide⟩, rfl, rfl⟩ (dq_ok8 [1, 1, 1] [1] (dc_r (dc_r (dc_i dc_n))) (dc_r dc_n) (by decide +kernel)) (by decide +kernel) rfl q31 rfl ?_
  obtain ⟨h32, q33, hh⟩ := db hh
  refine dq_put 217 9 [12] 50 (by decide +kernel) rfl q33 ?_
  refine dq_iln 1 51 (by decide +kernel) rfl g12 ?_
  refine dq_S (.bipush 16) 2 [] 53 _ [.int 16, .int i1] (by decide +kernel) rfl ?_
  rcases di hh with ⟨q34, hh⟩ | ⟨q34, hh⟩
  · refine dq_2 .ne 25 true 78 q34 (by decide +kernel) ?_
    exact c139_78 hD hz _ _ _ _ g15 hh
  · refine dq_2 .ne 25 false 56 q34 (by decide +kernel) ?_
    refine dq_aln 0 57 (by decide +kernel) rfl g11 ?_
    refine dq_S (.bipush 27) 2 [] 59 _ [.int 27, va_rf o0] (by decide +kernel) rfl ?_
    obtain ⟨x35, q36, hh⟩ := db hh
    obtain ⟨a37, q38, q36⟩ := db q36
    rw [dq_xI q36] at q38
    refine dq_cvi hD 152 118 5 1 [8] o0 [.int 27] [] 62 [.int x35.1] (by decide +kernel) ap_118 ⟨⟨Nat.le_of_ble_eq_true rfl, by decide⟩, rfl, rfl⟩ (dq_ok8 [1, 1] [] (dc_r (dc_i dc_n)) dc_n (by decide +kernel)) (by decide +kernel) rfl q38 rfl ?_
    rcases di hh with ⟨q39, hh⟩ | ⟨q39, hh⟩
    · refine dq_1 .eq 16 true 78 q39 (by decide +kernel) ?_
      exact c139_78 hD hz _ _ _ _ g15 hh
    · refine dq_1 .eq 16 false 65 q39 (by decide +kernel) ?_
      refine dq_al 4 67 (by decide +kernel) rfl g15 ?_
      refine dq_aln 0 68 (by decide +kernel) rfl g11 ?_
      refine dq_aln 2 69 (by decide +kernel) rfl g13 ?_
      refine dq_iln 3 70 (by decide +kernel) rfl g14 ?_
      refine dq_S (.iconst 1) 1 [] 71 _ [.int 1, .int i3, va_rf o2, va_rf o0, va_rf (some (21 + List.length h))] (by decide +kernel) rfl ?_
      refine dq_S (.iadd) 1 [] 72 _ [.int (i3 + 1), va_rf o2, va_rf o0, va_rf (some (21 + List.length h))] (by decide +kernel) rfl ?_
      obtain ⟨p40, q41, hh⟩ := db hh
      obtain ⟨a42, q43, q41⟩ := db q41
      rw [dq_xR q41] at q43
      refine dq_cvi hD 114 119 5 2 [8] o0 [va_rf o2, .int (i3 + 1)] [va_rf (some (21 + List.length h))] 75 [va_rf p40.1, va_rf (some (21 + List.length h))] (by decide +kernel) ap_119 ⟨⟨Nat.le_of_ble_eq_true rfl, by decide⟩, rfl, rfl⟩ (dq_ok8 [1, 1, 1] [1] (dc_r (dc_r (dc_i dc_n))) (dc_r dc_n) (by decide +kernel)) (by decide +kernel) rfl q43 rfl ?_
      obtain ⟨h44, q45, hh⟩ := db hh
      refine dq_put 220 10 [12] 78 (by decide +kernel) rfl q45 ?_
      exact c139_78 hD hz _ _ _ _ g15 hh
def f139 (L : Nat) (xs : Nat → Int32) (zf : Value) (D : dD) (w : Nat) (As : List Value) (h : rm_H) : Option dR := match As with
  | [v0, .int i1, v2, .int i3] => (rm_rf v0).bind fun o0 => (rm_rf v2).bind fun o2 => b139_0 L xs zf D w o0 i1 o2 i3 h
  | _ => none
theorem d139 {L : Nat} {xs : Nat → Int32} {zf : Value} {D : dD} {w k : Nat} (hD : dO L xs zf D k) (hz : zf.category = 1) (As : List Value) (h : rm_H) (r : dR) (hh : f139 L xs zf D w As h = some r) : dq L xs zf ah_M139 0 (lv_args 0 As) [] h (k + 1) r := by
  unfold f139 at hh
  split at hh
  · obtain ⟨o0, e0, hb0⟩ := db hh
    have e0 := rm_rf_v _ _ e0
    obtain ⟨o2, e2, hb2⟩ := db hb0
    have e2 := rm_rf_v _ _ e2
    subst e0 e2
    refine c139_0 hD hz _ _ _ _ _ _ _ ?_ ?_ ?_ ?_ hb2
    all_goals (simp only [la_r, la_i, la_j]; rfl)
  · cases hh
def b140_0 (L : Nat) (xs : Nat → Int32) (zf : Value) (D : dD) (w : Nat) (o0 : Option Nat) (i1 : Int32) (o2 : Option Nat) (i3 : Int32) (h : rm_H) : Option dR :=
  (some (h ++ [.inr (12, ah_DV 12)])).bind fun h1 =>
  (dgR L xs h1 0 [8] o0).bind fun p3 =>
  (dgI L xs h1 7 [6] p3).bind fun x5 =>
  ((dcN D 120 (some (21 + List.length h)) [.int i1, .int x5] h1).bind dxV).bind fun h7 =>
  (dgR L xs h7 0 [8] o0).bind fun p16 =>
  ((dcV L xs D 92 [6] p16 [] h7).bind dxV).bind fun h18 =>
  ((dcV L xs D 123 [8] o0 [va_rf o2, .int (i3 + 1)] h18).bind dxR).bind fun p22 =>
  (dpF p22.2 8 [12] (some (21 + List.length h)) (va_rf p22.1)).bind fun h26 =>
  ((dcV L xs D 109 [8] o0 [.int 9] h26).bind dxV).bind fun h28 =>
  some (some (va_rf (some (21 + List.length h))), h28)
theorem c140_0 {L : Nat} {xs : Nat → Int32} {zf : Value} {D : dD} {w k : Nat} (hD : dO L xs zf D k) (hz : zf.category = 1) : ∀ (o0 : Option Nat) (i1 : Int32) (o2 : Option Nat) (i3 : Int32) (lv : rm_L) (h : rm_H) (r : dR), rm_get lv 0 = some (va_rf o0) → rm_get lv 1 = some (.int i1) → rm_get lv 2 = some (va_rf o2) → rm_get lv 3 = some (.int i3) → b140_0 L xs zf D w  o0 i1 o2 i3 h = some r → dq L xs zf ah_M140 0 lv [] h (k + 1) r := by
  intro o0 i1 o2 i3 lv h r G0 G1 G2 G3 hh
  unfold b140_0 at hh
  obtain ⟨h1, q2, hh⟩ := db hh
  refine dq_new 178 12 3 (by decide +kernel) rfl ?_
  rw [Option.some.inj q2]
  refine dq_dup 4 (by decide +kernel) rfl ?_
  refine dq_iln 1 5 (by decide +kernel) rfl G1 ?_
  refine dq_aln 0 6 (by decide +kernel) rfl G0 ?_
  obtain ⟨p3, q4, hh⟩ := db hh
  refine dq_gR 9 0 [8] 9 (by decide +kernel) rfl q4 ?_
  obtain ⟨x5, q6, hh⟩ := db hh
  refine dq_gI 58 7 [6] 12 (by decide +kernel) rfl q6 ?_
  obtain ⟨h7, q8, hh⟩ := db hh
  obtain ⟨a9, q10, q8⟩ := db q8
  rw [dq_xV q8] at q10
  refine dq_csp hD 180 120 2 [] (some (21 + List.length h)) [.int i1, .int x5] [va_rf (some (21 + List.length h))] 15 [va_rf (some (21 + List.length h))] (by decide +kernel) ap_120 ⟨Nat.le_of_ble_eq_true rfl, rfl, rfl⟩ (dq_ok8 [1, 1, 1] [1] (dc_r (dc_i (dc_i dc_n))) (dc_r dc_n) (by decide +kernel)) (by decide +kernel) rfl q10 rfl ?_
  refine dq_as 4 17 (by decide +kernel) (by decide +kernel) ?_
  have g11 := dg_ne (i := 4) (u := va_rf (some (21 + List.length h))) (by decide) (Or.inl (by decide)) G0
  have g12 := dg_ne (i := 4) (u := va_rf (some (21 + List.length h))) (by decide) (Or.inl (by decide)) G1
  have g13 := dg_ne (i := 4) (u := va_rf (some (21 + List.length h))) (by decide) (Or.inl (by decide)) G2
  have g14 := dg_ne (i := 4) (u := va_rf (some (21 + List.length h))) (by decide) (Or.inr rfl) G3
  have g15 := dg_eq (lv) 4 (va_rf (some (21 + List.length h)))
  refine dq_aln 0 18 (by decide +kernel) rfl g11 ?_
  obtain ⟨p16, q17, hh⟩ := db hh
  refine dq_gR 9 0 [8] 21 (by decide +kernel) rfl q17 ?_
  obtain ⟨h18, q19, hh⟩ := db hh
  obtain ⟨a20, q21, q19⟩ := db q19
  rw [dq_xV q19] at q21
  refine dq_cvi hD 19 92 5 0 [6] p16 [] [] 24 [] (by decide +kernel) ap_92 ⟨⟨Nat.le_of_ble_eq_true rfl, by decide⟩, rfl, rfl⟩ (dq_ok8 [1] [] (dc_r dc_n) dc_n (by decide +kernel)) (by decide +kernel) rfl q21 rfl ?_
  refine dq_al 4 26 (by decide +kernel) rfl g15 ?_
  refine dq_aln 0 27 (by decide +kernel) rfl g11 ?_
  refine dq_aln 2 28 (by decide +kernel) rfl g13 ?_
  refine dq_iln 3 29 (by decide +kernel) rfl g14 ?_
  refine dq_S (.iconst 1) 1 [] 30 _ [.int 1, .int i3, va_rf o2, va_rf o0, va_rf (some (21 + List.length h))] (by decide +kernel) rfl ?_
  refine dq_S (.iadd) 1 [] 31 _ [.int (i3 + 1), va_rf o2, va_rf o0, va_rf (some (21 + List.length h))] (by decide +kernel) rfl ?_
  obtain ⟨p22, q23, hh⟩ := db hh
  obtain ⟨a24, q25, q23⟩ := db q23
  rw [dq_xR q23] at q25
  refine dq_cvi hD 211 123 5 2 [8] o0 [va_rf o2, .int (i3 + 1)] [va_rf (some (21 + List.length h))] 34 [va_rf p22.1, va_rf (some (21 + List.length h))] (by decide +kernel) ap_123 ⟨⟨Nat.le_of_ble_eq_true rfl, by decide⟩, rfl, rfl⟩ (dq_ok8 [1, 1, 1] [1] (dc_r (dc_r (dc_i dc_n))) (dc_r dc_n) (by decide +kernel)) (by decide +kernel) rfl q25 rfl ?_
  obtain ⟨h26, q27, hh⟩ := db hh
  refine dq_put 214 8 [12] 37 (by decide +kernel) rfl q27 ?_
  refine dq_aln 0 38 (by decide +kernel) rfl g11 ?_
  refine dq_S (.bipush 9) 2 [] 40 _ [.int 9, va_rf o0] (by decide +kernel) rfl ?_
  obtain ⟨h28, q29, hh⟩ := db hh
  obtain ⟨a30, q31, q29⟩ := db q29
  rw [dq_xV q29] at q31
  refine dq_cvi hD 42 109 5 1 [8] o0 [.int 9] [] 43 [] (by decide +kernel) ap_109 ⟨⟨Nat.le_of_ble_eq_true rfl, by decide⟩, rfl, rfl⟩ (dq_ok8 [1, 1] [] (dc_r (dc_i dc_n)) dc_n (by decide +kernel)) (by decide +kernel) rfl q31 rfl ?_
  refine dq_al 4 45 (by decide +kernel) rfl g15 ?_
  cases hh
  exact dq_retR (by decide +kernel) rfl
def f140 (L : Nat) (xs : Nat → Int32) (zf : Value) (D : dD) (w : Nat) (As : List Value) (h : rm_H) : Option dR := match As with
  | [v0, .int i1, v2, .int i3] => (rm_rf v0).bind fun o0 => (rm_rf v2).bind fun o2 => b140_0 L xs zf D w o0 i1 o2 i3 h
  | _ => none
theorem d140 {L : Nat} {xs : Nat → Int32} {zf : Value} {D : dD} {w k : Nat} (hD : dO L xs zf D k) (hz : zf.category = 1) (As : List Value) (h : rm_H) (r : dR) (hh : f140 L xs zf D w As h = some r) : dq L xs zf ah_M140 0 (lv_args 0 As) [] h (k + 1) r := by
  unfold f140 at hh
  split at hh
  · obtain ⟨o0, e0, hb0⟩ := db hh
    have e0 := rm_rf_v _ _ e0
    obtain ⟨o2, e2, hb2⟩ := db hb0
    have e2 := rm_rf_v _ _ e2
    subst e0 e2
    refine c140_0 hD hz _ _ _ _ _ _ _ ?_ ?_ ?_ ?_ hb2
    all_goals (simp only [la_r, la_i, la_j]; rfl)
  · cases hh
def b141_73 (L : Nat) (xs : Nat → Int32) (zf : Value) (D : dD) (w : Nat) (o0 : Option Nat) (o6 : Option Nat) (h : rm_H) : Option dR :=
  ((dcV L xs D 109 [8] o0 [.int 9] h).bind dxV).bind fun h1 =>
  some (some (va_rf o6), h1)
theorem c141_73 {L : Nat} {xs : Nat → Int32} {zf : Value} {D : dD} {w k : Nat} (hD : dO L xs zf D k) (hz : zf.category = 1) : ∀ (o0 : Option Nat) (o6 : Option Nat) (lv : rm_L) (h : rm_H) (r : dR), rm_get lv 0 = some (va_rf o0) → rm_get lv 6 = some (va_rf o6) → b141_73 L xs zf D w  o0 o6 h = some r → dq L xs zf ah_M141 73 lv [] h (k + 1) r := by
  intro o0 o6 lv h r G0 G6 hh
  unfold b141_73 at hh
  refine dq_aln 0 74 (by decide +kernel) rfl G0 ?_
  refine dq_S (.bipush 9) 2 [] 76 _ [.int 9, va_rf o0] (by decide +kernel) rfl ?_
  obtain ⟨h1, q2, hh⟩ := db hh
  obtain ⟨a3, q4, q2⟩ := db q2
  rw [dq_xV q2] at q4
  refine dq_cvi hD 42 109 5 1 [8] o0 [.int 9] [] 79 [] (by decide +kernel) ap_109 ⟨⟨Nat.le_of_ble_eq_true rfl, by decide⟩, rfl, rfl⟩ (dq_ok8 [1, 1] [] (dc_r (dc_i dc_n)) dc_n (by decide +kernel)) (by decide +kernel) rfl q4 rfl ?_
  refine dq_al 6 81 (by decide +kernel) rfl G6 ?_
  cases hh
  exact dq_retR (by decide +kernel) rfl
def b141_42 (L : Nat) (xs : Nat → Int32) (zf : Value) (D : dD) (w : Nat) (o0 : Option Nat) (o1 : Option Nat) (i2 : Int32) (i3 : Int32) (o4 : Option Nat) (i5 : Int32) (s0 : Int32) (s1 : Option Nat) (s2 : Option Nat) (h : rm_H) : Option dR :=
  ((dcN D 120 s1 [.int s0, .int i3] h).bind dxV).bind fun h1 =>
  (dpF h1 8 [12] s2 (va_rf o4)).bind fun h12 =>
  if mx_f1 .eq i5 = true then
    b141_73 L xs zf D w o0 s2 h12
  else
    ((dcV L xs D 123 [8] o0 [va_rf o1, .int (i2 + 1)] h12).bind dxR).bind fun p15 =>
    (dpF p15.2 9 [12] s2 (va_rf p15.1)).bind fun h19 =>
    b141_73 L xs zf D w o0 s2 h19
theorem c141_42 {L : Nat} {xs : Nat → Int32} {zf : Value} {D : dD} {w k : Nat} (hD : dO L xs zf D k) (hz : zf.category = 1) : ∀ (o0 : Option Nat) (o1 : Option Nat) (i2 : Int32) (i3 : Int32) (o4 : Option Nat) (i5 : Int32) (s0 : Int32) (s1 : Option Nat) (s2 : Option Nat) (lv : rm_L) (h : rm_H) (r : dR), rm_get lv 0 = some (va_rf o0) → rm_get lv 1 = some (va_rf o1) → rm_get lv 2 = some (.int i2) → rm_get lv 3 = some (.int i3) → rm_get lv 4 = some (va_rf o4) → rm_get lv 5 = some (.int i5) → b141_42 L xs zf D w  o0 o1 i2 i3 o4 i5 s0 s1 s2 h = some r → dq L xs zf ah_M141 42 lv [.int s0, va_rf s1, va_rf s2] h (k + 1) r := by
  intro o0 o1 i2 i3 o4 i5 s0 s1 s2 lv h r G0 G1 G2 G3 G4 G5 hh
  unfold b141_42 at hh
  refine dq_iln 3 43 (by decide +kernel) rfl G3 ?_
  obtain ⟨h1, q2, hh⟩ := db hh
  obtain ⟨a3, q4, q2⟩ := db q2
  rw [dq_xV q2] at q4
  refine dq_csp hD 180 120 2 [] s1 [.int s0, .int i3] [va_rf s2] 46 [va_rf s2] (by decide +kernel) ap_120 ⟨Nat.le_of_ble_eq_true rfl, rfl, rfl⟩ (dq_ok8 [1, 1, 1] [1] (dc_r (dc_i (dc_i dc_n))) (dc_r dc_n) (by decide +kernel)) (by decide +kernel) rfl q4 rfl ?_
  refine dq_as 6 48 (by decide +kernel) (by decide +kernel) ?_
  have g5 := dg_ne (i := 6) (u := va_rf s2) (by decide) (Or.inl (by decide)) G0
  have g6 := dg_ne (i := 6) (u := va_rf s2) (by decide) (Or.inl (by decide)) G1
  have g7 := dg_ne (i := 6) (u := va_rf s2) (by decide) (Or.inl (by decide)) G2
  have g8 := dg_ne (i := 6) (u := va_rf s2) (by decide) (Or.inl (by decide)) G3
  have g9 := dg_ne (i := 6) (u := va_rf s2) (by decide) (Or.inl (by decide)) G4
  have g10 := dg_ne (i := 6) (u := va_rf s2) (by decide) (Or.inr rfl) G5
  have g11 := dg_eq (lv) 6 (va_rf s2)
  refine dq_al 6 50 (by decide +kernel) rfl g11 ?_
  refine dq_al 4 52 (by decide +kernel) rfl g9 ?_
  obtain ⟨h12, q13, hh⟩ := db hh
  refine dq_put 214 8 [12] 55 (by decide +kernel) rfl q13 ?_
  refine dq_il 5 57 (by decide +kernel) rfl g10 ?_
  rcases di hh with ⟨q14, hh⟩ | ⟨q14, hh⟩
  · refine dq_1 .eq 16 true 73 q14 (by decide +kernel) ?_
    exact c141_73 hD hz _ _ _ _ _ g5 g11 hh
  · refine dq_1 .eq 16 false 60 q14 (by decide +kernel) ?_
    refine dq_al 6 62 (by decide +kernel) rfl g11 ?_
    refine dq_aln 0 63 (by decide +kernel) rfl g5 ?_
    refine dq_aln 1 64 (by decide +kernel) rfl g6 ?_
    refine dq_iln 2 65 (by decide +kernel) rfl g7 ?_
    refine dq_S (.iconst 1) 1 [] 66 _ [.int 1, .int i2, va_rf o1, va_rf o0, va_rf s2] (by decide +kernel) rfl ?_
    refine dq_S (.iadd) 1 [] 67 _ [.int (i2 + 1), va_rf o1, va_rf o0, va_rf s2] (by decide +kernel) rfl ?_
    obtain ⟨p15, q16, hh⟩ := db hh
    obtain ⟨a17, q18, q16⟩ := db q16
    rw [dq_xR q16] at q18
    refine dq_cvi hD 211 123 5 2 [8] o0 [va_rf o1, .int (i2 + 1)] [va_rf s2] 70 [va_rf p15.1, va_rf s2] (by decide +kernel) ap_123 ⟨⟨Nat.le_of_ble_eq_true rfl, by decide⟩, rfl, rfl⟩ (dq_ok8 [1, 1, 1] [1] (dc_r (dc_r (dc_i dc_n))) (dc_r dc_n) (by decide +kernel)) (by decide +kernel) rfl q18 rfl ?_
    obtain ⟨h19, q20, hh⟩ := db hh
    refine dq_put 217 9 [12] 73 (by decide +kernel) rfl q20 ?_
    exact c141_73 hD hz _ _ _ _ _ g5 g11 hh
def b141_0 (L : Nat) (xs : Nat → Int32) (zf : Value) (D : dD) (w : Nat) (o0 : Option Nat) (o1 : Option Nat) (i2 : Int32) (h : rm_H) : Option dR :=
  (dgR L xs h 0 [8] o0).bind fun p1 =>
  (dgI L xs h 7 [6] p1).bind fun x3 =>
  ((dcV L xs D 123 [8] o0 [va_rf o1, .int (i2 + 1)] h).bind dxR).bind fun p9 =>
  ((dcV L xs D 118 [8] o0 [.int 14] p9.2).bind dxI).bind fun x18 =>
  (some (x18.2 ++ [.inr (12, ah_DV 12)])).bind fun h28 =>
  if mx_f1 .eq x18.1 = true then
    b141_42 L xs zf D w o0 o1 i2 x3 p9.1 x18.1 22 (some (21 + List.length x18.2)) (some (21 + List.length x18.2)) h28
  else
    b141_42 L xs zf D w o0 o1 i2 x3 p9.1 x18.1 21 (some (21 + List.length x18.2)) (some (21 + List.length x18.2)) h28
theorem c141_0 {L : Nat} {xs : Nat → Int32} {zf : Value} {D : dD} {w k : Nat} (hD : dO L xs zf D k) (hz : zf.category = 1) : ∀ (o0 : Option Nat) (o1 : Option Nat) (i2 : Int32) (lv : rm_L) (h : rm_H) (r : dR), rm_get lv 0 = some (va_rf o0) → rm_get lv 1 = some (va_rf o1) → rm_get lv 2 = some (.int i2) → b141_0 L xs zf D w  o0 o1 i2 h = some r → dq L xs zf ah_M141 0 lv [] h (k + 1) r := by
  intro o0 o1 i2 lv h r G0 G1 G2 hh
  unfold b141_0 at hh
  refine dq_aln 0 1 (by decide +kernel) rfl G0 ?_
  obtain ⟨p1, q2, hh⟩ := db hh
  refine dq_gR 9 0 [8] 4 (by decide +kernel) rfl q2 ?_
  obtain ⟨x3, q4, hh⟩ := db hh
  refine dq_gI 58 7 [6] 7 (by decide +kernel) rfl q4 ?_
  refine dq_isn 3 8 (by decide +kernel) (by decide +kernel) ?_
  have g5 := dg_ne (i := 3) (u := .int x3) (by decide) (Or.inl (by decide)) G0
  have g6 := dg_ne (i := 3) (u := .int x3) (by decide) (Or.inl (by decide)) G1
  have g7 := dg_ne (i := 3) (u := .int x3) (by decide) (Or.inr rfl) G2
  have g8 := dg_eq (lv) 3 (.int x3)
  refine dq_aln 0 9 (by decide +kernel) rfl g5 ?_
  refine dq_aln 1 10 (by decide +kernel) rfl g6 ?_
  refine dq_iln 2 11 (by decide +kernel) rfl g7 ?_
  refine dq_S (.iconst 1) 1 [] 12 _ [.int 1, .int i2, va_rf o1, va_rf o0] (by decide +kernel) rfl ?_
  refine dq_S (.iadd) 1 [] 13 _ [.int (i2 + 1), va_rf o1, va_rf o0] (by decide +kernel) rfl ?_
  obtain ⟨p9, q10, hh⟩ := db hh
  obtain ⟨a11, q12, q10⟩ := db q10
  rw [dq_xR q10] at q12
  refine dq_cvi hD 211 123 5 2 [8] o0 [va_rf o1, .int (i2 + 1)] [] 16 [va_rf p9.1] (by decide +kernel) ap_123 ⟨⟨Nat.le_of_ble_eq_true rfl, by decide⟩, rfl, rfl⟩ (dq_ok8 [1, 1, 1] [] (dc_r (dc_r (dc_i dc_n))) dc_n (by decide +kernel)) (by decide +kernel) rfl q12 rfl ?_
  refine dq_as 4 18 (by decide +kernel) (by decide +kernel) ?_
  have g13 := dg_ne (i := 4) (u := va_rf p9.1) (by decide) (Or.inl (by decide)) g5
  have g14 := dg_ne (i := 4) (u := va_rf p9.1) (by decide) (Or.inl (by decide)) g6
  have g15 := dg_ne (i := 4) (u := va_rf p9.1) (by decide) (Or.inl (by decide)) g7
  have g16 := dg_ne (i := 4) (u := va_rf p9.1) (by decide) (Or.inr rfl) g8
  have g17 := dg_eq (rm_set1 (lv) 3 (.int x3)) 4 (va_rf p9.1)
  refine dq_aln 0 19 (by decide +kernel) rfl g13 ?_
  refine dq_S (.bipush 14) 2 [] 21 _ [.int 14, va_rf o0] (by decide +kernel) rfl ?_
  obtain ⟨x18, q19, hh⟩ := db hh
  obtain ⟨a20, q21, q19⟩ := db q19
  rw [dq_xI q19] at q21
  refine dq_cvi hD 152 118 5 1 [8] o0 [.int 14] [] 24 [.int x18.1] (by decide +kernel) ap_118 ⟨⟨Nat.le_of_ble_eq_true rfl, by decide⟩, rfl, rfl⟩ (dq_ok8 [1, 1] [] (dc_r (dc_i dc_n)) dc_n (by decide +kernel)) (by decide +kernel) rfl q21 rfl ?_
  refine dq_is 5 26 (by decide +kernel) (by decide +kernel) ?_
  have g22 := dg_ne (i := 5) (u := .int x18.1) (by decide) (Or.inl (by decide)) g13
  have g23 := dg_ne (i := 5) (u := .int x18.1) (by decide) (Or.inl (by decide)) g14
  have g24 := dg_ne (i := 5) (u := .int x18.1) (by decide) (Or.inl (by decide)) g15
  have g25 := dg_ne (i := 5) (u := .int x18.1) (by decide) (Or.inl (by decide)) g16
  have g26 := dg_ne (i := 5) (u := .int x18.1) (by decide) (Or.inr (drc _)) g17
  have g27 := dg_eq (rm_set1 (rm_set1 (lv) 3 (.int x3)) 4 (va_rf p9.1)) 5 (.int x18.1)
  obtain ⟨h28, q29, hh⟩ := db hh
  refine dq_new 178 12 29 (by decide +kernel) rfl ?_
  rw [Option.some.inj q29]
  refine dq_dup 30 (by decide +kernel) rfl ?_
  refine dq_il 5 32 (by decide +kernel) rfl g27 ?_
  rcases di hh with ⟨q30, hh⟩ | ⟨q30, hh⟩
  · refine dq_1 .eq 8 true 40 q30 (by decide +kernel) ?_
    refine dq_S (.bipush 22) 2 [] 42 _ [.int 22, va_rf (some (21 + List.length x18.2)), va_rf (some (21 + List.length x18.2))] (by decide +kernel) rfl ?_
    exact c141_42 hD hz _ _ _ _ _ _ _ _ _ _ _ _ g22 g23 g24 g25 g26 g27 hh
  · refine dq_1 .eq 8 false 35 q30 (by decide +kernel) ?_
    refine dq_S (.bipush 21) 2 [] 37 _ [.int 21, va_rf (some (21 + List.length x18.2)), va_rf (some (21 + List.length x18.2))] (by decide +kernel) rfl ?_
    refine dq_S (.goto 5) 3 [] 42 _ [.int 21, va_rf (some (21 + List.length x18.2)), va_rf (some (21 + List.length x18.2))] (by decide +kernel) rfl ?_
    exact c141_42 hD hz _ _ _ _ _ _ _ _ _ _ _ _ g22 g23 g24 g25 g26 g27 hh
def f141 (L : Nat) (xs : Nat → Int32) (zf : Value) (D : dD) (w : Nat) (As : List Value) (h : rm_H) : Option dR := match As with
  | [v0, v1, .int i2] => (rm_rf v0).bind fun o0 => (rm_rf v1).bind fun o1 => b141_0 L xs zf D w o0 o1 i2 h
  | _ => none
theorem d141 {L : Nat} {xs : Nat → Int32} {zf : Value} {D : dD} {w k : Nat} (hD : dO L xs zf D k) (hz : zf.category = 1) (As : List Value) (h : rm_H) (r : dR) (hh : f141 L xs zf D w As h = some r) : dq L xs zf ah_M141 0 (lv_args 0 As) [] h (k + 1) r := by
  unfold f141 at hh
  split at hh
  · obtain ⟨o0, e0, hb0⟩ := db hh
    have e0 := rm_rf_v _ _ e0
    obtain ⟨o1, e1, hb1⟩ := db hb0
    have e1 := rm_rf_v _ _ e1
    subst e0 e1
    refine c141_0 hD hz _ _ _ _ _ _ ?_ ?_ ?_ hb1
    all_goals (simp only [la_r, la_i, la_j]; rfl)
  · cases hh
def b142_220 (L : Nat) (xs : Nat → Int32) (zf : Value) (D : dD) (w : Nat) (o0 : Option Nat) (o6 : Option Nat) (h : rm_H) : Option dR :=
  ((dcV L xs D 119 [8] o0 [va_rf o6, .int 1] h).bind dxR).bind fun p1 =>
  (dpF p1.2 9 [11] o6 (va_rf p1.1)).bind fun h5 =>
  some (none, h5)
theorem c142_220 {L : Nat} {xs : Nat → Int32} {zf : Value} {D : dD} {w k : Nat} (hD : dO L xs zf D k) (hz : zf.category = 1) : ∀ (o0 : Option Nat) (o6 : Option Nat) (lv : rm_L) (h : rm_H) (r : dR), rm_get lv 0 = some (va_rf o0) → rm_get lv 6 = some (va_rf o6) → b142_220 L xs zf D w  o0 o6 h = some r → dq L xs zf ah_M142 220 lv [] h (k + 1) r := by
  intro o0 o6 lv h r G0 G6 hh
  unfold b142_220 at hh
  refine dq_al 6 222 (by decide +kernel) rfl G6 ?_
  refine dq_aln 0 223 (by decide +kernel) rfl G0 ?_
  refine dq_al 6 225 (by decide +kernel) rfl G6 ?_
  refine dq_S (.iconst 1) 1 [] 226 _ [.int 1, va_rf o6, va_rf o0, va_rf o6] (by decide +kernel) rfl ?_
  obtain ⟨p1, q2, hh⟩ := db hh
  obtain ⟨a3, q4, q2⟩ := db q2
  rw [dq_xR q2] at q4
  refine dq_cvi hD 114 119 5 2 [8] o0 [va_rf o6, .int 1] [va_rf o6] 229 [va_rf p1.1, va_rf o6] (by decide +kernel) ap_119 ⟨⟨Nat.le_of_ble_eq_true rfl, by decide⟩, rfl, rfl⟩ (dq_ok8 [1, 1, 1] [1] (dc_r (dc_r (dc_i dc_n))) (dc_r dc_n) (by decide +kernel)) (by decide +kernel) rfl q4 rfl ?_
  obtain ⟨h5, q6, hh⟩ := db hh
  refine dq_put 118 9 [11] 232 (by decide +kernel) rfl q6 ?_
  cases hh
  exact dq_ret0 (by decide +kernel) rfl
def b142_79 (L : Nat) (xs : Nat → Int32) (zf : Value) (D : dD) (w : Nat) (o0 : Option Nat) (o1 : Option Nat) (i2 : Int32) (i3 : Int32) (s0 : Int32) (h : rm_H) : Option dR :=
  (dgR L xs h 0 [8] o0).bind fun p6 =>
  (dgI L xs h 7 [6] p6).bind fun x8 =>
  (some (h ++ [.inr (11, ah_DV 11)])).bind fun h16 =>
  (dgR L xs h16 1 [8] o0).bind fun p18 =>
  (dgR L xs h16 2 [4] p18).bind fun p20 =>
  ((dcV L xs D 101 [5] p20 [] h16).bind dxI).bind fun x22 =>
  ((dcV L xs D 94 [8] o0 [.int 2] x22.2).bind dxR).bind fun p26 =>
  ((dcN D 116 (some (21 + List.length h)) [.int i2, va_rf o1, .int x22.1, va_rf p26.1, .int x8] p26.2).bind dxV).bind fun h30 =>
  (dpF h30 6 [11] (some (21 + List.length h)) (.int s0)).bind fun h41 =>
  (dpF h41 7 [11] (some (21 + List.length h)) (.int i3)).bind fun h43 =>
  (dgR L xs h43 5 [9] o1).bind fun p45 =>
  ((dcV L xs D 103 [5] p45 [va_rf (some (21 + List.length h))] h43).bind dxI).bind fun x47 =>
  (dgR L xs x47.2 1 [8] o0).bind fun p51 =>
  (dgR L xs x47.2 2 [4] p51).bind fun p53 =>
  ((dcV L xs D 103 [5] p53 [va_rf (some (21 + List.length h))] x47.2).bind dxI).bind fun x55 =>
  ((dcV L xs D 117 [8] o0 [va_rf (some (21 + List.length h))] x55.2).bind dxV).bind fun h59 =>
  if mx_f2 .ne i2 1 = true then
    b142_220 L xs zf D w o0 (some (21 + List.length h)) h59
  else
    (dgR L xs h59 0 [8] o0).bind fun p64 =>
    (dgI L xs h59 6 [6] p64).bind fun x66 =>
    if mx_f2 .ne x66 11 = true then
      b142_220 L xs zf D w o0 (some (21 + List.length h)) h59
    else
      (dgR L xs h59 0 [8] o0).bind fun p69 =>
      ((dcV L xs D 92 [6] p69 [] h59).bind dxV).bind fun h71 =>
      (some (h71 ++ [.inr (10, ah_DV 10)])).bind fun h75 =>
      (dgR L xs h75 0 [8] o0).bind fun p77 =>
      (dgI L xs h75 7 [6] p77).bind fun x79 =>
      ((dcN D 112 (some (21 + List.length h71)) [va_rf (some 9), .int x79] h75).bind dxV).bind fun h81 =>
      (dpF h81 8 [11] (some (21 + List.length h)) (va_rf (some (21 + List.length h71)))).bind fun h85 =>
      (dgR L xs h85 8 [11] (some (21 + List.length h))).bind fun p87 =>
      ((dcV L xs D 113 [8] o0 [va_rf p87] h85).bind dxV).bind fun h89 =>
      b142_220 L xs zf D w o0 (some (21 + List.length h)) h89
theorem c142_79 {L : Nat} {xs : Nat → Int32} {zf : Value} {D : dD} {w k : Nat} (hD : dO L xs zf D k) (hz : zf.category = 1) : ∀ (o0 : Option Nat) (o1 : Option Nat) (i2 : Int32) (i3 : Int32) (s0 : Int32) (lv : rm_L) (h : rm_H) (r : dR), rm_get lv 0 = some (va_rf o0) → rm_get lv 1 = some (va_rf o1) → rm_get lv 2 = some (.int i2) → rm_get lv 3 = some (.int i3) → b142_79 L xs zf D w  o0 o1 i2 i3 s0 h = some r → dq L xs zf ah_M142 79 lv [.int s0] h (k + 1) r := by
  intro o0 o1 i2 i3 s0 lv h r G0 G1 G2 G3 hh
  unfold b142_79 at hh
  refine dq_is 4 81 (by decide +kernel) (by decide +kernel) ?_
  have g1 := dg_ne (i := 4) (u := .int s0) (by decide) (Or.inl (by decide)) G0
  have g2 := dg_ne (i := 4) (u := .int s0) (by decide) (Or.inl (by decide)) G1
  have g3 := dg_ne (i := 4) (u := .int s0) (by decide) (Or.inl (by decide)) G2
  have g4 := dg_ne (i := 4) (u := .int s0) (by decide) (Or.inr rfl) G3
  have g5 := dg_eq (lv) 4 (.int s0)
  refine dq_aln 0 82 (by decide +kernel) rfl g1 ?_
  obtain ⟨p6, q7, hh⟩ := db hh
  refine dq_gR 9 0 [8] 85 (by decide +kernel) rfl q7 ?_
  obtain ⟨x8, q9, hh⟩ := db hh
  refine dq_gI 58 7 [6] 88 (by decide +kernel) rfl q9 ?_
  refine dq_is 5 90 (by decide +kernel) (by decide +kernel) ?_
  have g10 := dg_ne (i := 5) (u := .int x8) (by decide) (Or.inl (by decide)) g1
  have g11 := dg_ne (i := 5) (u := .int x8) (by decide) (Or.inl (by decide)) g2
  have g12 := dg_ne (i := 5) (u := .int x8) (by decide) (Or.inl (by decide)) g3
  have g13 := dg_ne (i := 5) (u := .int x8) (by decide) (Or.inl (by decide)) g4
  have g14 := dg_ne (i := 5) (u := .int x8) (by decide) (Or.inr rfl) g5
  have g15 := dg_eq (rm_set1 (lv) 4 (.int s0)) 5 (.int x8)
  obtain ⟨h16, q17, hh⟩ := db hh
  refine dq_new 96 11 93 (by decide +kernel) rfl ?_
  rw [Option.some.inj q17]
  refine dq_dup 94 (by decide +kernel) rfl ?_
  refine dq_iln 2 95 (by decide +kernel) rfl g12 ?_
  refine dq_aln 1 96 (by decide +kernel) rfl g11 ?_
  refine dq_aln 0 97 (by decide +kernel) rfl g10 ?_
  obtain ⟨p18, q19, hh⟩ := db hh
  refine dq_gR 15 1 [8] 100 (by decide +kernel) rfl q19 ?_
  obtain ⟨p20, q21, hh⟩ := db hh
  refine dq_gR 98 2 [4] 103 (by decide +kernel) rfl q21 ?_
  obtain ⟨x22, q23, hh⟩ := db hh
  obtain ⟨a24, q25, q23⟩ := db q23
  rw [dq_xI q23] at q25
  refine dq_cif hD 71 1 101 7 0 [5] p20 [] [va_rf o1, .int i2, va_rf (some (21 + List.length h)), va_rf (some (21 + List.length h))] 108 [.int x22.1, va_rf o1, .int i2, va_rf (some (21 + List.length h)), va_rf (some (21 + List.length h))] (by decide +kernel) ap_101 ⟨⟨Nat.le_of_ble_eq_true rfl, by decide⟩, rfl, rfl⟩ (dq_ok8 [1] [1, 1, 1, 1] (dc_r dc_n) (dc_r (dc_i (dc_r (dc_r dc_n)))) (by decide +kernel)) (by decide +kernel) rfl q25 rfl ?_
  refine dq_aln 0 109 (by decide +kernel) rfl g10 ?_
  refine dq_S (.iconst 2) 1 [] 110 _ [.int 2, va_rf o0, .int x22.1, va_rf o1, .int i2, va_rf (some (21 + List.length h)), va_rf (some (21 + List.length h))] (by decide +kernel) rfl ?_
  obtain ⟨p26, q27, hh⟩ := db hh
  obtain ⟨a28, q29, q27⟩ := db q27
  rw [dq_xR q27] at q29
  refine dq_cvi hD 63 94 5 1 [8] o0 [.int 2] [.int x22.1, va_rf o1, .int i2, va_rf (some (21 + List.length h)), va_rf (some (21 + List.length h))] 113 [va_rf p26.1, .int x22.1, va_rf o1, .int i2, va_rf (some (21 + List.length h)), va_rf (some (21 + List.length h))] (by decide +kernel) ap_94 ⟨⟨Nat.le_of_ble_eq_true rfl, by decide⟩, rfl, rfl⟩ (dq_ok8 [1, 1] [1, 1, 1, 1, 1] (dc_r (dc_i dc_n)) (dc_i (dc_r (dc_i (dc_r (dc_r dc_n))))) (by decide +kernel)) (by decide +kernel) rfl q29 rfl ?_
  refine dq_il 5 115 (by decide +kernel) rfl g15 ?_
  obtain ⟨h30, q31, hh⟩ := db hh
  obtain ⟨a32, q33, q31⟩ := db q31
  rw [dq_xV q31] at q33
  refine dq_csp hD 103 116 5 [] (some (21 + List.length h)) [.int i2, va_rf o1, .int x22.1, va_rf p26.1, .int x8] [va_rf (some (21 + List.length h))] 118 [va_rf (some (21 + List.length h))] (by decide +kernel) ap_116 ⟨Nat.le_of_ble_eq_true rfl, rfl, rfl⟩ (dq_ok8 [1, 1, 1, 1, 1, 1] [1] (dc_r (dc_i (dc_r (dc_i (dc_r (dc_i dc_n)))))) (dc_r dc_n) (by decide +kernel)) (by decide +kernel) rfl q33 rfl ?_
  refine dq_as 6 120 (by decide +kernel) (by decide +kernel) ?_
  have g34 := dg_ne (i := 6) (u := va_rf (some (21 + List.length h))) (by decide) (Or.inl (by decide)) g10
  have g35 := dg_ne (i := 6) (u := va_rf (some (21 + List.length h))) (by decide) (Or.inl (by decide)) g11
  have g36 := dg_ne (i := 6) (u := va_rf (some (21 + List.length h))) (by decide) (Or.inl (by decide)) g12
  have g37 := dg_ne (i := 6) (u := va_rf (some (21 + List.length h))) (by decide) (Or.inl (by decide)) g13
  have g38 := dg_ne (i := 6) (u := va_rf (some (21 + List.length h))) (by decide) (Or.inl (by decide)) g14
  have g39 := dg_ne (i := 6) (u := va_rf (some (21 + List.length h))) (by decide) (Or.inr rfl) g15
  have g40 := dg_eq (rm_set1 (rm_set1 (lv) 4 (.int s0)) 5 (.int x8)) 6 (va_rf (some (21 + List.length h)))
  refine dq_al 6 122 (by decide +kernel) rfl g40 ?_
  refine dq_il 4 124 (by decide +kernel) rfl g38 ?_
  obtain ⟨h41, q42, hh⟩ := db hh
  refine dq_put 130 6 [11] 127 (by decide +kernel) rfl q42 ?_
  refine dq_al 6 129 (by decide +kernel) rfl g40 ?_
  refine dq_iln 3 130 (by decide +kernel) rfl g37 ?_
  obtain ⟨h43, q44, hh⟩ := db hh
  refine dq_put 133 7 [11] 133 (by decide +kernel) rfl q44 ?_
  refine dq_aln 1 134 (by decide +kernel) rfl g35 ?_
  obtain ⟨p45, q46, hh⟩ := db hh
  refine dq_gR 122 5 [9] 137 (by decide +kernel) rfl q46 ?_
  refine dq_al 6 139 (by decide +kernel) rfl g40 ?_
  obtain ⟨x47, q48, hh⟩ := db hh
  obtain ⟨a49, q50, q48⟩ := db q48
  rw [dq_xI q48] at q50
  refine dq_cif hD 80 2 103 7 1 [5] p45 [va_rf (some (21 + List.length h))] [] 144 [.int x47.1] (by decide +kernel) ap_103 ⟨⟨Nat.le_of_ble_eq_true rfl, by decide⟩, rfl, rfl⟩ (dq_ok8 [1, 1] [] (dc_r (dc_r dc_n)) dc_n (by decide +kernel)) (by decide +kernel) rfl q50 rfl ?_
  refine dq_S (.pop) 1 [] 145 _ [] (by decide +kernel) rfl ?_
  refine dq_aln 0 146 (by decide +kernel) rfl g34 ?_
  obtain ⟨p51, q52, hh⟩ := db hh
  refine dq_gR 15 1 [8] 149 (by decide +kernel) rfl q52 ?_
  obtain ⟨p53, q54, hh⟩ := db hh
  refine dq_gR 98 2 [4] 152 (by decide +kernel) rfl q54 ?_
  refine dq_al 6 154 (by decide +kernel) rfl g40 ?_
  obtain ⟨x55, q56, hh⟩ := db hh
  obtain ⟨a57, q58, q56⟩ := db q56
  rw [dq_xI q56] at q58
  refine dq_cif hD 80 2 103 7 1 [5] p53 [va_rf (some (21 + List.length h))] [] 159 [.int x55.1] (by decide +kernel) ap_103 ⟨⟨Nat.le_of_ble_eq_true rfl, by decide⟩, rfl, rfl⟩ (dq_ok8 [1, 1] [] (dc_r (dc_r dc_n)) dc_n (by decide +kernel)) (by decide +kernel) rfl q58 rfl ?_
  refine dq_S (.pop) 1 [] 160 _ [] (by decide +kernel) rfl ?_
  refine dq_aln 0 161 (by decide +kernel) rfl g34 ?_
  refine dq_al 6 163 (by decide +kernel) rfl g40 ?_
  obtain ⟨h59, q60, hh⟩ := db hh
  obtain ⟨a61, q62, q60⟩ := db q60
  rw [dq_xV q60] at q62
  refine dq_cvi hD 110 117 5 1 [8] o0 [va_rf (some (21 + List.length h))] [] 166 [] (by decide +kernel) ap_117 ⟨⟨Nat.le_of_ble_eq_true rfl, by decide⟩, rfl, rfl⟩ (dq_ok8 [1, 1] [] (dc_r (dc_r dc_n)) dc_n (by decide +kernel)) (by decide +kernel) rfl q62 rfl ?_
  refine dq_iln 2 167 (by decide +kernel) rfl g36 ?_
  refine dq_S (.iconst 1) 1 [] 168 _ [.int 1, .int i2] (by decide +kernel) rfl ?_
  rcases di hh with ⟨q63, hh⟩ | ⟨q63, hh⟩
  · refine dq_2 .ne 52 true 220 q63 (by decide +kernel) ?_
    exact c142_220 hD hz _ _ _ _ _ g34 g40 hh
  · refine dq_2 .ne 52 false 171 q63 (by decide +kernel) ?_
    refine dq_aln 0 172 (by decide +kernel) rfl g34 ?_
    obtain ⟨p64, q65, hh⟩ := db hh
    refine dq_gR 9 0 [8] 175 (by decide +kernel) rfl q65 ?_
    obtain ⟨x66, q67, hh⟩ := db hh
    refine dq_gI 24 6 [6] 178 (by decide +kernel) rfl q67 ?_
    refine dq_S (.bipush 11) 2 [] 180 _ [.int 11, .int x66] (by decide +kernel) rfl ?_
    rcases di hh with ⟨q68, hh⟩ | ⟨q68, hh⟩
    · refine dq_2 .ne 40 true 220 q68 (by decide +kernel) ?_
      exact c142_220 hD hz _ _ _ _ _ g34 g40 hh
    · refine dq_2 .ne 40 false 183 q68 (by decide +kernel) ?_
      refine dq_aln 0 184 (by decide +kernel) rfl g34 ?_
      obtain ⟨p69, q70, hh⟩ := db hh
      refine dq_gR 9 0 [8] 187 (by decide +kernel) rfl q70 ?_
      obtain ⟨h71, q72, hh⟩ := db hh
      obtain ⟨a73, q74, q72⟩ := db q72
      rw [dq_xV q72] at q74
      refine dq_cvi hD 19 92 5 0 [6] p69 [] [] 190 [] (by decide +kernel) ap_92 ⟨⟨Nat.le_of_ble_eq_true rfl, by decide⟩, rfl, rfl⟩ (dq_ok8 [1] [] (dc_r dc_n) dc_n (by decide +kernel)) (by decide +kernel) rfl q74 rfl ?_
      refine dq_al 6 192 (by decide +kernel) rfl g40 ?_
      obtain ⟨h75, q76, hh⟩ := db hh
      refine dq_new 89 10 195 (by decide +kernel) rfl ?_
      rw [Option.some.inj q76]
      refine dq_dup 196 (by decide +kernel) rfl ?_
      refine dq_S (.ldc 136) 2 [1, 9] 198 _ [va_rf (some 9), va_rf (some (21 + List.length h71)), va_rf (some (21 + List.length h71)), va_rf (some (21 + List.length h))] (by decide +kernel) rfl ?_
      refine dq_aln 0 199 (by decide +kernel) rfl g34 ?_
      obtain ⟨p77, q78, hh⟩ := db hh
      refine dq_gR 9 0 [8] 202 (by decide +kernel) rfl q78 ?_
      obtain ⟨x79, q80, hh⟩ := db hh
      refine dq_gI 58 7 [6] 205 (by decide +kernel) rfl q80 ?_
      obtain ⟨h81, q82, hh⟩ := db hh
      obtain ⟨a83, q84, q82⟩ := db q82
      rw [dq_xV q82] at q84
      refine dq_csp hD 138 112 2 [] (some (21 + List.length h71)) [va_rf (some 9), .int x79] [va_rf (some (21 + List.length h71)), va_rf (some (21 + List.length h))] 208 [va_rf (some (21 + List.length h71)), va_rf (some (21 + List.length h))] (by decide +kernel) ap_112 ⟨Nat.le_of_ble_eq_true rfl, rfl, rfl⟩ (dq_ok8 [1, 1, 1] [1, 1] (dc_r (dc_r (dc_i dc_n))) (dc_r (dc_r dc_n)) (by decide +kernel)) (by decide +kernel) rfl q84 rfl ?_
      obtain ⟨h85, q86, hh⟩ := db hh
      refine dq_put 141 8 [11] 211 (by decide +kernel) rfl q86 ?_
      refine dq_aln 0 212 (by decide +kernel) rfl g34 ?_
      refine dq_al 6 214 (by decide +kernel) rfl g40 ?_
      obtain ⟨p87, q88, hh⟩ := db hh
      refine dq_gR 141 8 [11] 217 (by decide +kernel) rfl q88 ?_
      obtain ⟨h89, q90, hh⟩ := db hh
      obtain ⟨a91, q92, q90⟩ := db q90
      rw [dq_xV q90] at q92
      refine dq_cvi hD 145 113 5 1 [8] o0 [va_rf p87] [] 220 [] (by decide +kernel) ap_113 ⟨⟨Nat.le_of_ble_eq_true rfl, by decide⟩, rfl, rfl⟩ (dq_ok8 [1, 1] [] (dc_r (dc_r dc_n)) dc_n (by decide +kernel)) (by decide +kernel) rfl q92 rfl ?_
      exact c142_220 hD hz _ _ _ _ _ g34 g40 hh
def b142_51 (L : Nat) (xs : Nat → Int32) (zf : Value) (D : dD) (w : Nat) (o0 : Option Nat) (o1 : Option Nat) (i2 : Int32) (h : rm_H) : Option dR :=
  (dgR L xs h 0 [8] o0).bind fun p1 =>
  ((dcV L xs D 92 [6] p1 [] h).bind dxV).bind fun h3 =>
  (dgR L xs h3 0 [8] o0).bind fun p7 =>
  (dgI L xs h3 7 [6] p7).bind fun x9 =>
  if mx_f2 .ne i2 1 = true then
    b142_79 L xs zf D w o0 o1 i2 x9 2 h3
  else
    ((dcV L xs D 143 [8] o0 [] h3).bind dxI).bind fun x16 =>
    b142_79 L xs zf D w o0 o1 i2 x9 x16.1 x16.2
theorem c142_51 {L : Nat} {xs : Nat → Int32} {zf : Value} {D : dD} {w k : Nat} (hD : dO L xs zf D k) (hz : zf.category = 1) : ∀ (o0 : Option Nat) (o1 : Option Nat) (i2 : Int32) (lv : rm_L) (h : rm_H) (r : dR), rm_get lv 0 = some (va_rf o0) → rm_get lv 1 = some (va_rf o1) → rm_get lv 2 = some (.int i2) → b142_51 L xs zf D w  o0 o1 i2 h = some r → dq L xs zf ah_M142 51 lv [] h (k + 1) r := by
  intro o0 o1 i2 lv h r G0 G1 G2 hh
  unfold b142_51 at hh
  refine dq_aln 0 52 (by decide +kernel) rfl G0 ?_
  obtain ⟨p1, q2, hh⟩ := db hh
  refine dq_gR 9 0 [8] 55 (by decide +kernel) rfl q2 ?_
  obtain ⟨h3, q4, hh⟩ := db hh
  obtain ⟨a5, q6, q4⟩ := db q4
  rw [dq_xV q4] at q6
  refine dq_cvi hD 19 92 5 0 [6] p1 [] [] 58 [] (by decide +kernel) ap_92 ⟨⟨Nat.le_of_ble_eq_true rfl, by decide⟩, rfl, rfl⟩ (dq_ok8 [1] [] (dc_r dc_n) dc_n (by decide +kernel)) (by decide +kernel) rfl q6 rfl ?_
  refine dq_aln 0 59 (by decide +kernel) rfl G0 ?_
  obtain ⟨p7, q8, hh⟩ := db hh
  refine dq_gR 9 0 [8] 62 (by decide +kernel) rfl q8 ?_
  obtain ⟨x9, q10, hh⟩ := db hh
  refine dq_gI 58 7 [6] 65 (by decide +kernel) rfl q10 ?_
  refine dq_isn 3 66 (by decide +kernel) (by decide +kernel) ?_
  have g11 := dg_ne (i := 3) (u := .int x9) (by decide) (Or.inl (by decide)) G0
  have g12 := dg_ne (i := 3) (u := .int x9) (by decide) (Or.inl (by decide)) G1
  have g13 := dg_ne (i := 3) (u := .int x9) (by decide) (Or.inr rfl) G2
  have g14 := dg_eq (lv) 3 (.int x9)
  refine dq_iln 2 67 (by decide +kernel) rfl g13 ?_
  refine dq_S (.iconst 1) 1 [] 68 _ [.int 1, .int i2] (by decide +kernel) rfl ?_
  rcases di hh with ⟨q15, hh⟩ | ⟨q15, hh⟩
  · refine dq_2 .ne 10 true 78 q15 (by decide +kernel) ?_
    refine dq_S (.iconst 2) 1 [] 79 _ [.int 2] (by decide +kernel) rfl ?_
    exact c142_79 hD hz _ _ _ _ _ _ _ _ g11 g12 g13 g14 hh
  · refine dq_2 .ne 10 false 71 q15 (by decide +kernel) ?_
    refine dq_aln 0 72 (by decide +kernel) rfl g11 ?_
    obtain ⟨x16, q17, hh⟩ := db hh
    obtain ⟨a18, q19, q17⟩ := db q17
    rw [dq_xI q17] at q19
    refine dq_cvi hD 127 143 5 0 [8] o0 [] [] 75 [.int x16.1] (by decide +kernel) ap_143 ⟨⟨Nat.le_of_ble_eq_true rfl, by decide⟩, rfl, rfl⟩ (dq_ok8 [1] [] (dc_r dc_n) dc_n (by decide +kernel)) (by decide +kernel) rfl q19 rfl ?_
    refine dq_S (.goto 4) 3 [] 79 _ [.int x16.1] (by decide +kernel) rfl ?_
    exact c142_79 hD hz _ _ _ _ _ _ _ _ g11 g12 g13 g14 hh
def b142_44 (L : Nat) (xs : Nat → Int32) (zf : Value) (D : dD) (w : Nat) (o0 : Option Nat) (o1 : Option Nat) (i2 : Int32) (h : rm_H) : Option dR :=
  (dgR L xs h 0 [8] o0).bind fun p1 =>
  ((dcV L xs D 95 [6] p1 [] h).bind dxV).bind fun h3 =>
  b142_51 L xs zf D w o0 o1 i2 h3
theorem c142_44 {L : Nat} {xs : Nat → Int32} {zf : Value} {D : dD} {w k : Nat} (hD : dO L xs zf D k) (hz : zf.category = 1) : ∀ (o0 : Option Nat) (o1 : Option Nat) (i2 : Int32) (lv : rm_L) (h : rm_H) (r : dR), rm_get lv 0 = some (va_rf o0) → rm_get lv 1 = some (va_rf o1) → rm_get lv 2 = some (.int i2) → b142_44 L xs zf D w  o0 o1 i2 h = some r → dq L xs zf ah_M142 44 lv [] h (k + 1) r := by
  intro o0 o1 i2 lv h r G0 G1 G2 hh
  unfold b142_44 at hh
  refine dq_aln 0 45 (by decide +kernel) rfl G0 ?_
  obtain ⟨p1, q2, hh⟩ := db hh
  refine dq_gR 9 0 [8] 48 (by decide +kernel) rfl q2 ?_
  obtain ⟨h3, q4, hh⟩ := db hh
  obtain ⟨a5, q6, q4⟩ := db q4
  rw [dq_xV q4] at q6
  refine dq_cvi hD 46 95 5 0 [6] p1 [] [] 51 [] (by decide +kernel) ap_95 ⟨⟨Nat.le_of_ble_eq_true rfl, by decide⟩, rfl, rfl⟩ (dq_ok8 [1] [] (dc_r dc_n) dc_n (by decide +kernel)) (by decide +kernel) rfl q6 rfl ?_
  exact c142_51 hD hz _ _ _ _ _ _ G0 G1 G2 hh
def b142_17 (L : Nat) (xs : Nat → Int32) (zf : Value) (D : dD) (w : Nat) (o0 : Option Nat) (o1 : Option Nat) (s0 : Int32) (h : rm_H) : Option dR :=
  (dgR L xs h 5 [9] o1).bind fun p4 =>
  ((dcV L xs D 101 [5] p4 [] h).bind dxI).bind fun x6 =>
  if mx_f2 .ge x6.1 8 = true then
    b142_44 L xs zf D w o0 o1 s0 x6.2
  else
    if mx_f2 .ne s0 2 = true then
      b142_51 L xs zf D w o0 o1 s0 x6.2
    else
      (dgI L xs x6.2 2 [9] o1).bind fun x12 =>
      if mx_f1 .ne x12 = true then
        b142_51 L xs zf D w o0 o1 s0 x6.2
      else
        b142_44 L xs zf D w o0 o1 s0 x6.2
theorem c142_17 {L : Nat} {xs : Nat → Int32} {zf : Value} {D : dD} {w k : Nat} (hD : dO L xs zf D k) (hz : zf.category = 1) : ∀ (o0 : Option Nat) (o1 : Option Nat) (s0 : Int32) (lv : rm_L) (h : rm_H) (r : dR), rm_get lv 0 = some (va_rf o0) → rm_get lv 1 = some (va_rf o1) → b142_17 L xs zf D w  o0 o1 s0 h = some r → dq L xs zf ah_M142 17 lv [.int s0] h (k + 1) r := by
  intro o0 o1 s0 lv h r G0 G1 hh
  unfold b142_17 at hh
  refine dq_isn 2 18 (by decide +kernel) (by decide +kernel) ?_
  have g1 := dg_ne (i := 2) (u := .int s0) (by decide) (Or.inl (by decide)) G0
  have g2 := dg_ne (i := 2) (u := .int s0) (by decide) (Or.inr (drc _)) G1
  have g3 := dg_eq (lv) 2 (.int s0)
  refine dq_aln 1 19 (by decide +kernel) rfl g2 ?_
  obtain ⟨p4, q5, hh⟩ := db hh
  refine dq_gR 122 5 [9] 22 (by decide +kernel) rfl q5 ?_
  obtain ⟨x6, q7, hh⟩ := db hh
  obtain ⟨a8, q9, q7⟩ := db q7
  rw [dq_xI q7] at q9
  refine dq_cif hD 71 1 101 7 0 [5] p4 [] [] 27 [.int x6.1] (by decide +kernel) ap_101 ⟨⟨Nat.le_of_ble_eq_true rfl, by decide⟩, rfl, rfl⟩ (dq_ok8 [1] [] (dc_r dc_n) dc_n (by decide +kernel)) (by decide +kernel) rfl q9 rfl ?_
  refine dq_S (.bipush 8) 2 [] 29 _ [.int 8, .int x6.1] (by decide +kernel) rfl ?_
  rcases di hh with ⟨q10, hh⟩ | ⟨q10, hh⟩
  · refine dq_2 .ge 15 true 44 q10 (by decide +kernel) ?_
    exact c142_44 hD hz _ _ _ _ _ _ g1 g2 g3 hh
  · refine dq_2 .ge 15 false 32 q10 (by decide +kernel) ?_
    refine dq_iln 2 33 (by decide +kernel) rfl g3 ?_
    refine dq_S (.iconst 2) 1 [] 34 _ [.int 2, .int s0] (by decide +kernel) rfl ?_
    rcases di hh with ⟨q11, hh⟩ | ⟨q11, hh⟩
    · refine dq_2 .ne 17 true 51 q11 (by decide +kernel) ?_
      exact c142_51 hD hz _ _ _ _ _ _ g1 g2 g3 hh
    · refine dq_2 .ne 17 false 37 q11 (by decide +kernel) ?_
      refine dq_aln 1 38 (by decide +kernel) rfl g2 ?_
      obtain ⟨x12, q13, hh⟩ := db hh
      refine dq_gI 123 2 [9] 41 (by decide +kernel) rfl q13 ?_
      rcases di hh with ⟨q14, hh⟩ | ⟨q14, hh⟩
      · refine dq_1 .ne 10 true 51 q14 (by decide +kernel) ?_
        exact c142_51 hD hz _ _ _ _ _ _ g1 g2 g3 hh
      · refine dq_1 .ne 10 false 44 q14 (by decide +kernel) ?_
        exact c142_44 hD hz _ _ _ _ _ _ g1 g2 g3 hh
def b142_0 (L : Nat) (xs : Nat → Int32) (zf : Value) (D : dD) (w : Nat) (o0 : Option Nat) (o1 : Option Nat) (h : rm_H) : Option dR :=
  (dgR L xs h 0 [8] o0).bind fun p1 =>
  (dgI L xs h 6 [6] p1).bind fun x3 =>
  if mx_f2 .ne x3 23 = true then
    b142_17 L xs zf D w o0 o1 2 h
  else
    b142_17 L xs zf D w o0 o1 1 h
theorem c142_0 {L : Nat} {xs : Nat → Int32} {zf : Value} {D : dD} {w k : Nat} (hD : dO L xs zf D k) (hz : zf.category = 1) : ∀ (o0 : Option Nat) (o1 : Option Nat) (lv : rm_L) (h : rm_H) (r : dR), rm_get lv 0 = some (va_rf o0) → rm_get lv 1 = some (va_rf o1) → b142_0 L xs zf D w  o0 o1 h = some r → dq L xs zf ah_M142 0 lv [] h (k + 1) r := by
  intro o0 o1 lv h r G0 G1 hh
  unfold b142_0 at hh
  refine dq_aln 0 1 (by decide +kernel) rfl G0 ?_
  obtain ⟨p1, q2, hh⟩ := db hh
  refine dq_gR 9 0 [8] 4 (by decide +kernel) rfl q2 ?_
  obtain ⟨x3, q4, hh⟩ := db hh
  refine dq_gI 24 6 [6] 7 (by decide +kernel) rfl q4 ?_
  refine dq_S (.bipush 23) 2 [] 9 _ [.int 23, .int x3] (by decide +kernel) rfl ?_
  rcases di hh with ⟨q5, hh⟩ | ⟨q5, hh⟩
  · refine dq_2 .ne 7 true 16 q5 (by decide +kernel) ?_
    refine dq_S (.iconst 2) 1 [] 17 _ [.int 2] (by decide +kernel) rfl ?_
    exact c142_17 hD hz _ _ _ _ _ _ G0 G1 hh
  · refine dq_2 .ne 7 false 12 q5 (by decide +kernel) ?_
    refine dq_S (.iconst 1) 1 [] 13 _ [.int 1] (by decide +kernel) rfl ?_
    refine dq_S (.goto 4) 3 [] 17 _ [.int 1] (by decide +kernel) rfl ?_
    exact c142_17 hD hz _ _ _ _ _ _ G0 G1 hh
def f142 (L : Nat) (xs : Nat → Int32) (zf : Value) (D : dD) (w : Nat) (As : List Value) (h : rm_H) : Option dR := match As with
  | [v0, v1] => (rm_rf v0).bind fun o0 => (rm_rf v1).bind fun o1 => b142_0 L xs zf D w o0 o1 h
  | _ => none
theorem d142 {L : Nat} {xs : Nat → Int32} {zf : Value} {D : dD} {w k : Nat} (hD : dO L xs zf D k) (hz : zf.category = 1) (As : List Value) (h : rm_H) (r : dR) (hh : f142 L xs zf D w As h = some r) : dq L xs zf ah_M142 0 (lv_args 0 As) [] h (k + 1) r := by
  unfold f142 at hh
  split at hh
  · obtain ⟨o0, e0, hb0⟩ := db hh
    have e0 := rm_rf_v _ _ e0
    obtain ⟨o1, e1, hb1⟩ := db hb0
    have e1 := rm_rf_v _ _ e1
    subst e0 e1
    refine c142_0 hD hz _ _ _ _ _ ?_ ?_ hb1
    all_goals (simp only [la_r, la_i, la_j]; rfl)
  · cases hh
def b143_0 (L : Nat) (xs : Nat → Int32) (zf : Value) (D : dD) (w : Nat) (o0 : Option Nat) (h : rm_H) : Option dR :=
  (dgR L xs h 0 [8] o0).bind fun p1 =>
  ((dcV L xs D 114 [6] p1 [] h).bind dxI).bind fun x3 =>
  if mx_f1 .ne x3.1 = true then
    (dgR L xs x3.2 0 [8] o0).bind fun p8 =>
    (dgI L xs x3.2 6 [6] p8).bind fun x10 =>
    (dgR L xs x3.2 0 [8] o0).bind fun p14 =>
    ((dcV L xs D 92 [6] p14 [] x3.2).bind dxV).bind fun h16 =>
    drI (some .int) (x10 - 38) h16
  else
    (dgR L xs x3.2 0 [8] o0).bind fun p20 =>
    ((dcV L xs D 95 [6] p20 [] x3.2).bind dxV).bind fun h22 =>
    drI (some .int) 2 h22
theorem c143_0 {L : Nat} {xs : Nat → Int32} {zf : Value} {D : dD} {w k : Nat} (hD : dO L xs zf D k) (hz : zf.category = 1) : ∀ (o0 : Option Nat) (lv : rm_L) (h : rm_H) (r : dR), rm_get lv 0 = some (va_rf o0) → b143_0 L xs zf D w  o0 h = some r → dq L xs zf ah_M143 0 lv [] h (k + 1) r := by
  intro o0 lv h r G0 hh
  unfold b143_0 at hh
  refine dq_aln 0 1 (by decide +kernel) rfl G0 ?_
  obtain ⟨p1, q2, hh⟩ := db hh
  refine dq_gR 9 0 [8] 4 (by decide +kernel) rfl q2 ?_
  obtain ⟨x3, q4, hh⟩ := db hh
  obtain ⟨a5, q6, q4⟩ := db q4
  rw [dq_xI q4] at q6
  refine dq_cvi hD 165 114 5 0 [6] p1 [] [] 7 [.int x3.1] (by decide +kernel) ap_114 ⟨⟨Nat.le_of_ble_eq_true rfl, by decide⟩, rfl, rfl⟩ (dq_ok8 [1] [] (dc_r dc_n) dc_n (by decide +kernel)) (by decide +kernel) rfl q6 rfl ?_
  rcases di hh with ⟨q7, hh⟩ | ⟨q7, hh⟩
  · refine dq_1 .ne 12 true 19 q7 (by decide +kernel) ?_
    refine dq_aln 0 20 (by decide +kernel) rfl G0 ?_
    obtain ⟨p8, q9, hh⟩ := db hh
    refine dq_gR 9 0 [8] 23 (by decide +kernel) rfl q9 ?_
    obtain ⟨x10, q11, hh⟩ := db hh
    refine dq_gI 24 6 [6] 26 (by decide +kernel) rfl q11 ?_
    refine dq_S (.bipush 38) 2 [] 28 _ [.int 38, .int x10] (by decide +kernel) rfl ?_
    refine dq_S (.isub) 1 [] 29 _ [.int (x10 - 38)] (by decide +kernel) rfl ?_
    refine dq_isn 1 30 (by decide +kernel) (by decide +kernel) ?_
    have g12 := dg_ne (i := 1) (u := .int (x10 - 38)) (by decide) (Or.inr (drc _)) G0
    have g13 := dg_eq (lv) 1 (.int (x10 - 38))
    refine dq_aln 0 31 (by decide +kernel) rfl g12 ?_
    obtain ⟨p14, q15, hh⟩ := db hh
    refine dq_gR 9 0 [8] 34 (by decide +kernel) rfl q15 ?_
    obtain ⟨h16, q17, hh⟩ := db hh
    obtain ⟨a18, q19, q17⟩ := db q17
    rw [dq_xV q17] at q19
    refine dq_cvi hD 19 92 5 0 [6] p14 [] [] 37 [] (by decide +kernel) ap_92 ⟨⟨Nat.le_of_ble_eq_true rfl, by decide⟩, rfl, rfl⟩ (dq_ok8 [1] [] (dc_r dc_n) dc_n (by decide +kernel)) (by decide +kernel) rfl q19 rfl ?_
    refine dq_iln 1 38 (by decide +kernel) rfl g13 ?_
    exact dq_retI (some .int) (by decide +kernel) rfl hh
  · refine dq_1 .ne 12 false 10 q7 (by decide +kernel) ?_
    refine dq_aln 0 11 (by decide +kernel) rfl G0 ?_
    obtain ⟨p20, q21, hh⟩ := db hh
    refine dq_gR 9 0 [8] 14 (by decide +kernel) rfl q21 ?_
    obtain ⟨h22, q23, hh⟩ := db hh
    obtain ⟨a24, q25, q23⟩ := db q23
    rw [dq_xV q23] at q25
    refine dq_cvi hD 46 95 5 0 [6] p20 [] [] 17 [] (by decide +kernel) ap_95 ⟨⟨Nat.le_of_ble_eq_true rfl, by decide⟩, rfl, rfl⟩ (dq_ok8 [1] [] (dc_r dc_n) dc_n (by decide +kernel)) (by decide +kernel) rfl q25 rfl ?_
    refine dq_S (.iconst 2) 1 [] 18 _ [.int 2] (by decide +kernel) rfl ?_
    exact dq_retI (some .int) (by decide +kernel) rfl hh
def f143 (L : Nat) (xs : Nat → Int32) (zf : Value) (D : dD) (w : Nat) (As : List Value) (h : rm_H) : Option dR := match As with
  | [v0] => (rm_rf v0).bind fun o0 => b143_0 L xs zf D w o0 h
  | _ => none
theorem d143 {L : Nat} {xs : Nat → Int32} {zf : Value} {D : dD} {w k : Nat} (hD : dO L xs zf D k) (hz : zf.category = 1) (As : List Value) (h : rm_H) (r : dR) (hh : f143 L xs zf D w As h = some r) : dq L xs zf ah_M143 0 (lv_args 0 As) [] h (k + 1) r := by
  unfold f143 at hh
  split at hh
  · obtain ⟨o0, e0, hb0⟩ := db hh
    have e0 := rm_rf_v _ _ e0
    subst e0
    refine c143_0 hD hz _ _ _ _ ?_ hb0
    all_goals (simp only [la_r, la_i, la_j]; rfl)
  · cases hh
def b144_51 (L : Nat) (xs : Nat → Int32) (zf : Value) (D : dD) (w : Nat) (h : rm_H) : Option dR :=
  some (none, h)
theorem c144_51 {L : Nat} {xs : Nat → Int32} {zf : Value} {D : dD} {w k : Nat} (hD : dO L xs zf D k) (hz : zf.category = 1) : ∀ (lv : rm_L) (h : rm_H) (r : dR), b144_51 L xs zf D w  h = some r → dq L xs zf ah_M144 51 lv [] h (k + 1) r := by
  intro lv h r hh
  unfold b144_51 at hh
  cases hh
  exact dq_ret0 (by decide +kernel) rfl
def b144_41 (L : Nat) (xs : Nat → Int32) (zf : Value) (D : dD) (w : Nat) (o0 : Option Nat) (i1 : Int32) (i2 : Int32) (h : rm_H) : Option dR :=
  (dpF h 7 [4] o0 (.int i1)).bind fun h1 =>
  (dpF h1 8 [4] o0 (.int i2)).bind fun h3 =>
  b144_51 L xs zf D w h3
theorem c144_41 {L : Nat} {xs : Nat → Int32} {zf : Value} {D : dD} {w k : Nat} (hD : dO L xs zf D k) (hz : zf.category = 1) : ∀ (o0 : Option Nat) (i1 : Int32) (i2 : Int32) (lv : rm_L) (h : rm_H) (r : dR), rm_get lv 0 = some (va_rf o0) → rm_get lv 1 = some (.int i1) → rm_get lv 2 = some (.int i2) → b144_41 L xs zf D w  o0 i1 i2 h = some r → dq L xs zf ah_M144 41 lv [] h (k + 1) r := by
  intro o0 i1 i2 lv h r G0 G1 G2 hh
  unfold b144_41 at hh
  refine dq_aln 0 42 (by decide +kernel) rfl G0 ?_
  refine dq_iln 1 43 (by decide +kernel) rfl G1 ?_
  obtain ⟨h1, q2, hh⟩ := db hh
  refine dq_put 38 7 [4] 46 (by decide +kernel) rfl q2 ?_
  refine dq_aln 0 47 (by decide +kernel) rfl G0 ?_
  refine dq_iln 2 48 (by decide +kernel) rfl G2 ?_
  obtain ⟨h3, q4, hh⟩ := db hh
  refine dq_put 41 8 [4] 51 (by decide +kernel) rfl q4 ?_
  exact c144_51 hD hz  _ _ _  hh
def b144_29 (L : Nat) (xs : Nat → Int32) (zf : Value) (D : dD) (w : Nat) (o0 : Option Nat) (i1 : Int32) (i2 : Int32) (s0 : Int32) (h : rm_H) : Option dR :=
  (dgI L xs h 7 [4] o0).bind fun x5 =>
  if mx_f1 .eq x5 = true then
    b144_41 L xs zf D w o0 i1 i2 h
  else
    if mx_f1 .eq s0 = true then
      b144_51 L xs zf D w h
    else
      b144_41 L xs zf D w o0 i1 i2 h
theorem c144_29 {L : Nat} {xs : Nat → Int32} {zf : Value} {D : dD} {w k : Nat} (hD : dO L xs zf D k) (hz : zf.category = 1) : ∀ (o0 : Option Nat) (i1 : Int32) (i2 : Int32) (s0 : Int32) (lv : rm_L) (h : rm_H) (r : dR), rm_get lv 0 = some (va_rf o0) → rm_get lv 1 = some (.int i1) → rm_get lv 2 = some (.int i2) → b144_29 L xs zf D w  o0 i1 i2 s0 h = some r → dq L xs zf ah_M144 29 lv [.int s0] h (k + 1) r := by
  intro o0 i1 i2 s0 lv h r G0 G1 G2 hh
  unfold b144_29 at hh
  refine dq_isn 3 30 (by decide +kernel) (by decide +kernel) ?_
  have g1 := dg_ne (i := 3) (u := .int s0) (by decide) (Or.inl (by decide)) G0
  have g2 := dg_ne (i := 3) (u := .int s0) (by decide) (Or.inl (by decide)) G1
  have g3 := dg_ne (i := 3) (u := .int s0) (by decide) (Or.inr rfl) G2
  have g4 := dg_eq (lv) 3 (.int s0)
  refine dq_aln 0 31 (by decide +kernel) rfl g1 ?_
  obtain ⟨x5, q6, hh⟩ := db hh
  refine dq_gI 38 7 [4] 34 (by decide +kernel) rfl q6 ?_
  rcases di hh with ⟨q7, hh⟩ | ⟨q7, hh⟩
  · refine dq_1 .eq 7 true 41 q7 (by decide +kernel) ?_
    exact c144_41 hD hz _ _ _ _ _ _ g1 g2 g3 hh
  · refine dq_1 .eq 7 false 37 q7 (by decide +kernel) ?_
    refine dq_iln 3 38 (by decide +kernel) rfl g4 ?_
    rcases di hh with ⟨q8, hh⟩ | ⟨q8, hh⟩
    · refine dq_1 .eq 13 true 51 q8 (by decide +kernel) ?_
      exact c144_51 hD hz  _ _ _  hh
    · refine dq_1 .eq 13 false 41 q8 (by decide +kernel) ?_
      exact c144_41 hD hz _ _ _ _ _ _ g1 g2 g3 hh
def b144_24 (L : Nat) (xs : Nat → Int32) (zf : Value) (D : dD) (w : Nat) (o0 : Option Nat) (i1 : Int32) (i2 : Int32) (h : rm_H) : Option dR :=
  b144_29 L xs zf D w o0 i1 i2 1 h
theorem c144_24 {L : Nat} {xs : Nat → Int32} {zf : Value} {D : dD} {w k : Nat} (hD : dO L xs zf D k) (hz : zf.category = 1) : ∀ (o0 : Option Nat) (i1 : Int32) (i2 : Int32) (lv : rm_L) (h : rm_H) (r : dR), rm_get lv 0 = some (va_rf o0) → rm_get lv 1 = some (.int i1) → rm_get lv 2 = some (.int i2) → b144_24 L xs zf D w  o0 i1 i2 h = some r → dq L xs zf ah_M144 24 lv [] h (k + 1) r := by
  intro o0 i1 i2 lv h r G0 G1 G2 hh
  unfold b144_24 at hh
  refine dq_S (.iconst 1) 1 [] 25 _ [.int 1] (by decide +kernel) rfl ?_
  refine dq_S (.goto 4) 3 [] 29 _ [.int 1] (by decide +kernel) rfl ?_
  exact c144_29 hD hz _ _ _ _ _ _ _ G0 G1 G2 hh
def b144_28 (L : Nat) (xs : Nat → Int32) (zf : Value) (D : dD) (w : Nat) (o0 : Option Nat) (i1 : Int32) (i2 : Int32) (h : rm_H) : Option dR :=
  b144_29 L xs zf D w o0 i1 i2 0 h
theorem c144_28 {L : Nat} {xs : Nat → Int32} {zf : Value} {D : dD} {w k : Nat} (hD : dO L xs zf D k) (hz : zf.category = 1) : ∀ (o0 : Option Nat) (i1 : Int32) (i2 : Int32) (lv : rm_L) (h : rm_H) (r : dR), rm_get lv 0 = some (va_rf o0) → rm_get lv 1 = some (.int i1) → rm_get lv 2 = some (.int i2) → b144_28 L xs zf D w  o0 i1 i2 h = some r → dq L xs zf ah_M144 28 lv [] h (k + 1) r := by
  intro o0 i1 i2 lv h r G0 G1 G2 hh
  unfold b144_28 at hh
  refine dq_S (.iconst 0) 1 [] 29 _ [.int 0] (by decide +kernel) rfl ?_
  exact c144_29 hD hz _ _ _ _ _ _ _ G0 G1 G2 hh
def b144_0 (L : Nat) (xs : Nat → Int32) (zf : Value) (D : dD) (w : Nat) (o0 : Option Nat) (i1 : Int32) (i2 : Int32) (h : rm_H) : Option dR :=
  (dgI L xs h 8 [4] o0).bind fun x1 =>
  if mx_f2 .lt i2 x1 = true then
    b144_24 L xs zf D w o0 i1 i2 h
  else
    (dgI L xs h 8 [4] o0).bind fun x4 =>
    if mx_f2 .ne i2 x4 = true then
      b144_28 L xs zf D w o0 i1 i2 h
    else
      (dgI L xs h 7 [4] o0).bind fun x7 =>
      if mx_f2 .ge i1 x7 = true then
        b144_28 L xs zf D w o0 i1 i2 h
      else
        b144_24 L xs zf D w o0 i1 i2 h
theorem c144_0 {L : Nat} {xs : Nat → Int32} {zf : Value} {D : dD} {w k : Nat} (hD : dO L xs zf D k) (hz : zf.category = 1) : ∀ (o0 : Option Nat) (i1 : Int32) (i2 : Int32) (lv : rm_L) (h : rm_H) (r : dR), rm_get lv 0 = some (va_rf o0) → rm_get lv 1 = some (.int i1) → rm_get lv 2 = some (.int i2) → b144_0 L xs zf D w  o0 i1 i2 h = some r → dq L xs zf ah_M144 0 lv [] h (k + 1) r := by
  intro o0 i1 i2 lv h r G0 G1 G2 hh
  unfold b144_0 at hh
  refine dq_iln 2 1 (by decide +kernel) rfl G2 ?_
  refine dq_aln 0 2 (by decide +kernel) rfl G0 ?_
  obtain ⟨x1, q2, hh⟩ := db hh
  refine dq_gI 41 8 [4] 5 (by decide +kernel) rfl q2 ?_
  rcases di hh with ⟨q3, hh⟩ | ⟨q3, hh⟩
  · refine dq_2 .lt 19 true 24 q3 (by decide +kernel) ?_
    exact c144_24 hD hz _ _ _ _ _ _ G0 G1 G2 hh
  · refine dq_2 .lt 19 false 8 q3 (by decide +kernel) ?_
    refine dq_iln 2 9 (by decide +kernel) rfl G2 ?_
    refine dq_aln 0 10 (by decide +kernel) rfl G0 ?_
    obtain ⟨x4, q5, hh⟩ := db hh
    refine dq_gI 41 8 [4] 13 (by decide +kernel) rfl q5 ?_
    rcases di hh with ⟨q6, hh⟩ | ⟨q6, hh⟩
    · refine dq_2 .ne 15 true 28 q6 (by decide +kernel) ?_
      exact c144_28 hD hz _ _ _ _ _ _ G0 G1 G2 hh
    · refine dq_2 .ne 15 false 16 q6 (by decide +kernel) ?_
      refine dq_iln 1 17 (by decide +kernel) rfl G1 ?_
      refine dq_aln 0 18 (by decide +kernel) rfl G0 ?_
      obtain ⟨x7, q8, hh⟩ := db hh
      refine dq_gI 38 7 [4] 21 (by decide +kernel) rfl q8 ?_
      rcases di hh with ⟨q9, hh⟩ | ⟨q9, hh⟩
      · refine dq_2 .ge 7 true 28 q9 (by decide +kernel) ?_
        exact c144_28 hD hz _ _ _ _ _ _ G0 G1 G2 hh
      · refine dq_2 .ge 7 false 24 q9 (by decide +kernel) ?_
        exact c144_24 hD hz _ _ _ _ _ _ G0 G1 G2 hh
def f144 (L : Nat) (xs : Nat → Int32) (zf : Value) (D : dD) (w : Nat) (As : List Value) (h : rm_H) : Option dR := match As with
  | [v0, .int i1, .int i2] => (rm_rf v0).bind fun o0 => b144_0 L xs zf D w o0 i1 i2 h
  | _ => none
theorem d144 {L : Nat} {xs : Nat → Int32} {zf : Value} {D : dD} {w k : Nat} (hD : dO L xs zf D k) (hz : zf.category = 1) (As : List Value) (h : rm_H) (r : dR) (hh : f144 L xs zf D w As h = some r) : dq L xs zf ah_M144 0 (lv_args 0 As) [] h (k + 1) r := by
  unfold f144 at hh
  split at hh
  · obtain ⟨o0, e0, hb0⟩ := db hh
    have e0 := rm_rf_v _ _ e0
    subst e0
    refine c144_0 hD hz _ _ _ _ _ _ ?_ ?_ ?_ hb0
    all_goals (simp only [la_r, la_i, la_j]; rfl)
  · cases hh
def b145_88 (L : Nat) (xs : Nat → Int32) (zf : Value) (D : dD) (w : Nat) (K40 : Option Nat → Int32 → rm_H → Option dR) (o0 : Option Nat) (i1 : Int32) (o2 : Option Nat) (h : rm_H) : Option dR :=
  (dgR L xs h 4 [9] o2).bind fun p1 =>
  ((dcV L xs D 154 [4] o0 [va_rf p1] h).bind dxV).bind fun h3 =>
  ((dcV L xs D 155 [4] o0 [va_rf o2] h3).bind dxV).bind fun h7 =>
  K40 o0 (i1 + 1) h7
theorem c145_88 {L : Nat} {xs : Nat → Int32} {zf : Value} {D : dD} {w k : Nat} {K40 : Option Nat → Int32 → rm_H → Option dR} (hD : dO L xs zf D k) (hz : zf.category = 1) (hK40 : ∀ (o0 : Option Nat) (i1 : Int32) (lv : rm_L) (h : rm_H) (r : dR), rm_get lv 0 = some (va_rf o0) → rm_get lv 1 = some (.int i1) → K40 o0 i1 h = some r → dq L xs zf ah_M145 40 lv [] h (k + 1) r) : ∀ (o0 : Option Nat) (i1 : Int32) (o2 : Option Nat) (lv : rm_L) (h : rm_H) (r : dR), rm_get lv 0 = some (va_rf o0) → rm_get lv 1 = some (.int i1) → rm_get lv 2 = some (va_rf o2) → b145_88 L xs zf D w K40  o0 i1 o2 h = some r → dq L xs zf ah_M145 88 lv [] h (k + 1) r := by
  intro o0 i1 o2 lv h r G0 G1 G2 hh
  unfold b145_88 at hh
  refine dq_aln 0 89 (by decide +kernel) rfl G0 ?_
  refine dq_aln 2 90 (by decide +kernel) rfl G2 ?_
  obtain ⟨p1, q2, hh⟩ := db hh
  refine dq_gR 65 4 [9] 93 (by decide +kernel) rfl q2 ?_
  obtain ⟨h3, q4, hh⟩ := db hh
  obtain ⟨a5, q6, q4⟩ := db q4
  rw [dq_xV q4] at q6
  refine dq_cvi hD 91 154 5 1 [4] o0 [va_rf p1] [] 96 [] (by decide +kernel) ap_154 ⟨⟨Nat.le_of_ble_eq_true rfl, by decide⟩, rfl, rfl⟩ (dq_ok8 [1, 1] [] (dc_r (dc_r dc_n)) dc_n (by decide +kernel)) (by decide +kernel) rfl q6 rfl ?_
  refine dq_aln 0 97 (by decide +kernel) rfl G0 ?_
  refine dq_aln 2 98 (by decide +kernel) rfl G2 ?_
  obtain ⟨h7, q8, hh⟩ := db hh
  obtain ⟨a9, q10, q8⟩ := db q8
  rw [dq_xV q8] at q10
  refine dq_cvi hD 95 155 5 1 [4] o0 [va_rf o2] [] 101 [] (by decide +kernel) ap_155 ⟨⟨Nat.le_of_ble_eq_true rfl, by decide⟩, rfl, rfl⟩ (dq_ok8 [1, 1] [] (dc_r (dc_r dc_n)) dc_n (by decide +kernel)) (by decide +kernel) rfl q10 rfl ?_
  refine dq_incy 1 1 1 104 (by decide +kernel) ⟨rfl, by decide +kernel, by decide +kernel⟩ G1 ?_
  have g11 := dg_ne (i := 1) (u := .int (i1 + 1)) (by decide) (Or.inr (drc _)) G0
  have g12 := dg_ne (i := 1) (u := .int (i1 + 1)) (by decide) (Or.inl (by decide)) G2
  have g13 := dg_eq (lv) 1 (.int (i1 + 1))
  refine dq_S (.goto (-64)) 3 [] 40 _ [] (by decide +kernel) rfl ?_
  exact hK40 _ _ _ _ _ g11 g13 hh
def b145_209 (L : Nat) (xs : Nat → Int32) (zf : Value) (D : dD) (w : Nat) (h : rm_H) : Option dR :=
  some (none, h)
theorem c145_209 {L : Nat} {xs : Nat → Int32} {zf : Value} {D : dD} {w k : Nat} (hD : dO L xs zf D k) (hz : zf.category = 1) : ∀ (lv : rm_L) (h : rm_H) (r : dR), b145_209 L xs zf D w  h = some r → dq L xs zf ah_M145 209 lv [] h (k + 1) r := by
  intro lv h r hh
  unfold b145_209 at hh
  cases hh
  exact dq_ret0 (by decide +kernel) rfl
def b145_200 (L : Nat) (xs : Nat → Int32) (zf : Value) (D : dD) (w : Nat) (o0 : Option Nat) (h : rm_H) : Option dR :=
  (dgI L xs h 0 [4] o0).bind fun x1 =>
  ((dcV L xs D 144 [4] o0 [.int 3, .int x1] h).bind dxV).bind fun h3 =>
  b145_209 L xs zf D w h3
theorem c145_200 {L : Nat} {xs : Nat → Int32} {zf : Value} {D : dD} {w k : Nat} (hD : dO L xs zf D k) (hz : zf.category = 1) : ∀ (o0 : Option Nat) (lv : rm_L) (h : rm_H) (r : dR), rm_get lv 0 = some (va_rf o0) → b145_200 L xs zf D w  o0 h = some r → dq L xs zf ah_M145 200 lv [] h (k + 1) r := by
  intro o0 lv h r G0 hh
  unfold b145_200 at hh
  refine dq_aln 0 201 (by decide +kernel) rfl G0 ?_
  refine dq_S (.iconst 3) 1 [] 202 _ [.int 3, va_rf o0] (by decide +kernel) rfl ?_
  refine dq_aln 0 203 (by decide +kernel) rfl G0 ?_
  obtain ⟨x1, q2, hh⟩ := db hh
  refine dq_gI 9 0 [4] 206 (by decide +kernel) rfl q2 ?_
  obtain ⟨h3, q4, hh⟩ := db hh
  obtain ⟨a5, q6, q4⟩ := db q4
  rw [dq_xV q4] at q6
  refine dq_cvi hD 87 144 5 2 [4] o0 [.int 3, .int x1] [] 209 [] (by decide +kernel) ap_144 ⟨⟨Nat.le_of_ble_eq_true rfl, by decide⟩, rfl, rfl⟩ (dq_ok8 [1, 1, 1] [] (dc_r (dc_i (dc_i dc_n))) dc_n (by decide +kernel)) (by decide +kernel) rfl q6 rfl ?_
  exact c145_209 hD hz  _ _ _  hh
def b145_109 (L : Nat) (xs : Nat → Int32) (zf : Value) (D : dD) (w : Nat) : Nat → Option Nat → Int32 → rm_H → Option dR
  | 0, _, _, _ => none
  | n + 1, o0, i1, h =>
    (dgR L xs h 2 [4] o0).bind fun p1 =>
    ((dcV L xs D 101 [5] p1 [] h).bind dxI).bind fun x3 =>
    if mx_f2 .ge i1 x3.1 = true then
      ((dcV L xs D 150 [4] o0 [va_rf (some 11)] x3.2).bind dxR).bind fun p8 =>
      (dpF p8.2 6 [4] o0 (va_rf p8.1)).bind fun h12 =>
      (dgR L xs h12 6 [4] o0).bind fun p14 =>
      if dnl p14 = true then
        b145_200 L xs zf D w o0 h12
      else
        (dgR L xs h12 6 [4] o0).bind fun p17 =>
        (dgI L xs h12 2 [9] p17).bind fun x19 =>
        if mx_f1 .eq x19 = true then
          b145_200 L xs zf D w o0 h12
        else
          (dgR L xs h12 6 [4] o0).bind fun p22 =>
          (dgR L xs h12 6 [9] p22).bind fun p24 =>
          if dnl p24 = true then
            b145_200 L xs zf D w o0 h12
          else
            (dgR L xs h12 6 [4] o0).bind fun p27 =>
            (dgR L xs h12 6 [9] p27).bind fun p29 =>
            (dgR L xs h12 5 [11] p29).bind fun p31 =>
            ((dcV L xs D 161 [5] p31 [] h12).bind dxI).bind fun x33 =>
            if mx_f1 .ne x33.1 = true then
              b145_209 L xs zf D w x33.2
            else
              b145_200 L xs zf D w o0 x33.2
    else
      (dgR L xs x3.2 2 [4] o0).bind fun p38 =>
      ((dcV L xs D 146 [5] p38 [.int i1] x3.2).bind dxR).bind fun p40 =>
      if dcK L xs p40.2 [11] p40.1 = false then none else
      ((dcV L xs D 157 [4] o0 [va_rf p40.1] p40.2).bind dxV).bind fun h45 =>
      b145_109 L xs zf D w n o0 (i1 + 1) h45
theorem c145_109 {L : Nat} {xs : Nat → Int32} {zf : Value} {D : dD} {w k : Nat} (hD : dO L xs zf D k) (hz : zf.category = 1) : ∀ (n : Nat) (o0 : Option Nat) (i1 : Int32) (lv : rm_L) (h : rm_H) (r : dR), rm_get lv 0 = some (va_rf o0) → rm_get lv 1 = some (.int i1) → b145_109 L xs zf D w n  o0 i1 h = some r → dq L xs zf ah_M145 109 lv [] h (k + 1) r := by
  intro n
  induction n with
  | zero =>
    intro o0 i1 lv h r G0 G1 hh
    cases hh
  | succ n ih =>
    intro o0 i1 lv h r G0 G1 hh
    rw [b145_109] at hh
    refine dq_iln 1 110 (by decide +kernel) rfl G1 ?_
    refine dq_aln 0 111 (by decide +kernel) rfl G0 ?_
    obtain ⟨p1, q2, hh⟩ := db hh
    refine dq_gR 22 2 [4] 114 (by decide +kernel) rfl q2 ?_
    obtain ⟨x3, q4, hh⟩ := db hh
    obtain ⟨a5, q6, q4⟩ := db q4
    rw [dq_xI q4] at q6
    refine dq_cif hD 54 1 101 7 0 [5] p1 [] [.int i1] 119 [.int x3.1, .int i1] (by decide +kernel) ap_101 ⟨⟨Nat.le_of_ble_eq_true rfl, by decide⟩, rfl, rfl⟩ (dq_ok8 [1] [1] (dc_r dc_n) (dc_i dc_n) (by decide +kernel)) (by decide +kernel) rfl q6 rfl ?_
    rcases di hh with ⟨q7, hh⟩ | ⟨q7, hh⟩
    · refine dq_2 .ge 26 true 145 q7 (by decide +kernel) ?_
      refine dq_aln 0 146 (by decide +kernel) rfl G0 ?_
      refine dq_aln 0 147 (by decide +kernel) rfl G0 ?_
      refine dq_S (.ldc 103) 2 [1, 11] 149 _ [va_rf (some 11), va_rf o0, va_rf o0] (by decide +kernel) rfl ?_
      obtain ⟨p8, q9, hh⟩ := db hh
      obtain ⟨a10, q11, q9⟩ := db q9
      rw [dq_xR q9] at q11
      refine dq_cvi hD 80 150 5 1 [4] o0 [va_rf (some 11)] [va_rf o0] 152 [va_rf p8.1, va_rf o0] (by decide +kernel) ap_150 ⟨⟨Nat.le_of_ble_eq_true rfl, by decide⟩, rfl, rfl⟩ (dq_ok8 [1, 1] [1] (dc_r (dc_r dc_n)) (dc_r dc_n) (by decide +kernel)) (by decide +kernel) rfl q11 rfl ?_
      obtain ⟨h12, q13, hh⟩ := db hh
      refine dq_put 34 6 [4] 155 (by decide +kernel) rfl q13 ?_
      refine dq_aln 0 156 (by decide +kernel) rfl G0 ?_
      obtain ⟨p14, q15, hh⟩ := db hh
      refine dq_gR 34 6 [4] 159 (by decide +kernel) rfl q15 ?_
      rcases di hh with ⟨q16, hh⟩ | ⟨q16, hh⟩
      · refine dq_null 41 true 200 q16 (by decide +kernel) (by decide +kernel) ?_
        exact c145_200 hD hz _ _ _ _ G0 hh
      · refine dq_null 41 false 162 q16 (by decide +kernel) (by decide +kernel) ?_
        refine dq_aln 0 163 (by decide +kernel) rfl G0 ?_
        obtain ⟨p17, q18, hh⟩ := db hh
        refine dq_gR 34 6 [4] 166 (by decide +kernel) rfl q18 ?_
        obtain ⟨x19, q20, hh⟩ := db hh
        refine dq_gI 105 2 [9] 169 (by decide +kernel) rfl q20 ?_
        rcases di hh with ⟨q21, hh⟩ | ⟨q21, hh⟩
        · refine dq_1 .eq 31 true 200 q21 (by decide +kernel) ?_
          exact c145_200 hD hz _ _ _ _ G0 hh
        · refine dq_1 .eq 31 false 172 q21 (by decide +kernel) ?_
          refine dq_aln 0 173 (by decide +kernel) rfl G0 ?_
          obtain ⟨p22, q23, hh⟩ := db hh
          refine dq_gR 34 6 [4] 176 (by decide +kernel) rfl q23 ?_
          obtain ⟨p24, q25, hh⟩ := db hh
          refine dq_gR 109 6 [9] 179 (by decide +kernel) rfl q25 ?_
          rcases di hh with ⟨q26, hh⟩ | ⟨q26, hh⟩
          · refine dq_null 21 true 200 q26 (by decide +kernel) (by decide +kernel) ?_
            exact c145_200 hD hz _ _ _ _ G0 hh
          · refine dq_null 21 false 182 q26 (by decide +kernel) (by decide +kernel) ?_
            refine dq_aln 0 183 (by decide +kernel) rfl G0 ?_
            obtain ⟨p27, q28, hh⟩ := db hh
            refine dq_gR 34 6 [4] 186 (by decide +kernel) rfl q28 ?_
            obtain ⟨p29, q30, hh⟩ := db hh
            refine dq_gR 109 6 [9] 189 (by decide +kernel) rfl q30 ?_
            obtain ⟨p31, q32, hh⟩ := db hh
            refine dq_gR 113 5 [11] 192 (by decide +kernel) rfl q32 ?_
            obtain ⟨x33, q34, hh⟩ := db hh
            obtain ⟨a35, q36, q34⟩ := db q34
            rw [dq_xI q34] at q36
            refine dq_cif hD 116 1 161 7 0 [5] p31 [] [] 197 [.int x33.1] (by decide +kernel) ap_161 ⟨⟨Nat.le_of_ble_eq_true rfl, by decide⟩, rfl, rfl⟩ (dq_ok8 [1] [] (dc_r dc_n) dc_n (by decide +kernel)) (by decide +kernel) rfl q36 rfl ?_
            rcases di hh with ⟨q37, hh⟩ | ⟨q37, hh⟩
            · refine dq_1 .ne 12 true 209 q37 (by decide +kernel) ?_
              exact c145_209 hD hz  _ _ _  hh
            · refine dq_1 .ne 12 false 200 q37 (by decide +kernel) ?_
              exact c145_200 hD hz _ _ _ _ G0 hh
    · refine dq_2 .ge 26 false 122 q7 (by decide +kernel) ?_
      refine dq_aln 0 123 (by decide +kernel) rfl G0 ?_
      refine dq_aln 0 124 (by decide +kernel) rfl G0 ?_
      obtain ⟨p38, q39, hh⟩ := db hh
      refine dq_gR 22 2 [4] 127 (by decide +kernel) rfl q39 ?_
      refine dq_iln 1 128 (by decide +kernel) rfl G1 ?_
      obtain ⟨p40, q41, hh⟩ := db hh
      obtain ⟨a42, q43, q41⟩ := db q41
      rw [dq_xR q41] at q43
      refine dq_cif hD 59 2 146 7 1 [5] p38 [.int i1] [va_rf o0] 133 [va_rf p40.1, va_rf o0] (by decide +kernel) ap_146 ⟨⟨Nat.le_of_ble_eq_true rfl, by decide⟩, rfl, rfl⟩ (dq_ok8 [1, 1] [1] (dc_r (dc_i dc_n)) (dc_r dc_n) (by decide +kernel)) (by decide +kernel) rfl q43 rfl ?_
      rcases dp hh with ⟨_, hh⟩ | ⟨q44, hh⟩
      · cases hh
      refine dq_cast 68 [11] 136 (by decide +kernel) ⟨rfl, by decide⟩ (by rw [Bool.not_eq_false] at q44; exact q44) ?_
      obtain ⟨h45, q46, hh⟩ := db hh
      obtain ⟨a47, q48, q46⟩ := db q46
      rw [dq_xV q46] at q48
      refine dq_cvi hD 99 157 5 1 [4] o0 [va_rf p40.1] [] 139 [] (by decide +kernel) ap_157 ⟨⟨Nat.le_of_ble_eq_true rfl, by decide⟩, rfl, rfl⟩ (dq_ok8 [1, 1] [] (dc_r (dc_r dc_n)) dc_n (by decide +kernel)) (by decide +kernel) rfl q48 rfl ?_
      refine dq_incy 1 1 1 142 (by decide +kernel) ⟨rfl, by decide +kernel, by decide +kernel⟩ G1 ?_
      have g49 := dg_ne (i := 1) (u := .int (i1 + 1)) (by decide) (Or.inr (drc _)) G0
      have g50 := dg_eq (lv) 1 (.int (i1 + 1))
      refine dq_S (.goto (-33)) 3 [] 109 _ [] (by decide +kernel) rfl ?_
      exact ih _ _ _ _ _ g49 g50 hh
def b145_40 (L : Nat) (xs : Nat → Int32) (zf : Value) (D : dD) (w : Nat) : Nat → Option Nat → Int32 → rm_H → Option dR
  | 0, _, _, _ => none
  | n + 1, o0, i1, h =>
    (dgR L xs h 1 [4] o0).bind fun p1 =>
    ((dcV L xs D 101 [5] p1 [] h).bind dxI).bind fun x3 =>
    if mx_f2 .ge i1 x3.1 = true then
      b145_109 L xs zf D w w o0 0 x3.2
    else
      (dgR L xs x3.2 1 [4] o0).bind fun p10 =>
      ((dcV L xs D 146 [5] p10 [.int i1] x3.2).bind dxR).bind fun p12 =>
      if dcK L xs p12.2 [9] p12.1 = false then none else
      (dgR L xs p12.2 0 [9] p12.1).bind fun p20 =>
      ((dcV L xs D 150 [4] o0 [va_rf p20] p12.2).bind dxR).bind fun p22 =>
      if dcm p22.1 p12.1 = true then
        if dsm p22.1 p12.1 = true then
          b145_88 L xs zf D w (b145_40 L xs zf D w n) o0 i1 p12.1 p22.2
        else
          (dgI L xs p22.2 1 [9] p12.1).bind fun x28 =>
          ((dcV L xs D 144 [4] o0 [.int 2, .int x28] p22.2).bind dxV).bind fun h30 =>
          b145_88 L xs zf D w (b145_40 L xs zf D w n) o0 i1 p12.1 h30
      else
        none
theorem c145_40 {L : Nat} {xs : Nat → Int32} {zf : Value} {D : dD} {w k : Nat} (hD : dO L xs zf D k) (hz : zf.category = 1) : ∀ (n : Nat) (o0 : Option Nat) (i1 : Int32) (lv : rm_L) (h : rm_H) (r : dR), rm_get lv 0 = some (va_rf o0) → rm_get lv 1 = some (.int i1) → b145_40 L xs zf D w n  o0 i1 h = some r → dq L xs zf ah_M145 40 lv [] h (k + 1) r := by
  intro n
  induction n with
  | zero =>
    intro o0 i1 lv h r G0 G1 hh
    cases hh
  | succ n ih =>
    intro o0 i1 lv h r G0 G1 hh
    rw [b145_40] at hh
    refine dq_iln 1 41 (by decide +kernel) rfl G1 ?_
    refine dq_aln 0 42 (by decide +kernel) rfl G0 ?_
    obtain ⟨p1, q2, hh⟩ := db hh
    refine dq_gR 18 1 [4] 45 (by decide +kernel) rfl q2 ?_
    obtain ⟨x3, q4, hh⟩ := db hh
    obtain ⟨a5, q6, q4⟩ := db q4
    rw [dq_xI q4] at q6
    refine dq_cif hD 54 1 101 7 0 [5] p1 [] [.int i1] 50 [.int x3.1, .int i1] (by decide +kernel) ap_101 ⟨⟨Nat.le_of_ble_eq_true rfl, by decide⟩, rfl, rfl⟩ (dq_ok8 [1] [1] (dc_r dc_n) (dc_i dc_n) (by decide +kernel)) (by decide +kernel) rfl q6 rfl ?_
    rcases di hh with ⟨q7, hh⟩ | ⟨q7, hh⟩
    · refine dq_2 .ge 57 true 107 q7 (by decide +kernel) ?_
      refine dq_S (.iconst 0) 1 [] 108 _ [.int 0] (by decide +kernel) rfl ?_
      refine dq_isn 1 109 (by decide +kernel) (by decide +kernel) ?_
      have g8 := dg_ne (i := 1) (u := .int 0) (by decide) (Or.inr (drc _)) G0
      have g9 := dg_eq (lv) 1 (.int 0)
      exact c145_109 hD hz _ _ _ _ _ _ g8 g9 hh
    · refine dq_2 .ge 57 false 53 q7 (by decide +kernel) ?_
      refine dq_aln 0 54 (by decide +kernel) rfl G0 ?_
      obtain ⟨p10, q11, hh⟩ := db hh
      refine dq_gR 18 1 [4] 57 (by decide +kernel) rfl q11 ?_
      refine dq_iln 1 58 (by decide +kernel) rfl G1 ?_
      obtain ⟨p12, q13, hh⟩ := db hh
      obtain ⟨a14, q15, q13⟩ := db q13
      rw [dq_xR q13] at q15
      refine dq_cif hD 59 2 146 7 1 [5] p10 [.int i1] [] 63 [va_rf p12.1] (by decide +kernel) ap_146 ⟨⟨Nat.le_of_ble_eq_true rfl, by decide⟩, rfl, rfl⟩ (dq_ok8 [1, 1] [] (dc_r (dc_i dc_n)) dc_n (by decide +kernel)) (by decide +kernel) rfl q15 rfl ?_
      rcases dp hh with ⟨_, hh⟩ | ⟨q16, hh⟩
      · cases hh
      refine dq_cast 63 [9] 66 (by decide +kernel) ⟨rfl, by decide⟩ (by rw [Bool.not_eq_false] at q16; exact q16) ?_
      refine dq_asn 2 67 (by decide +kernel) (by decide +kernel) ?_
      have g17 := dg_ne (i := 2) (u := va_rf p12.1) (by decide) (Or.inl (by decide)) G0
      have g18 := dg_ne (i := 2) (u := va_rf p12.1) (by decide) (Or.inr rfl) G1
      have g19 := dg_eq (lv) 2 (va_rf p12.1)
      refine dq_aln 0 68 (by decide +kernel) rfl g17 ?_
      refine dq_aln 2 69 (by decide +kernel) rfl g19 ?_
      obtain ⟨p20, q21, hh⟩ := db hh
      refine dq_gR 76 0 [9] 72 (by decide +kernel) rfl q21 ?_
      obtain ⟨p22, q23, hh⟩ := db hh
      obtain ⟨a24, q25, q23⟩ := db q23
      rw [dq_xR q23] at q25
      refine dq_cvi hD 80 150 5 1 [4] o0 [va_rf p20] [] 75 [va_rf p22.1] (by decide +kernel) ap_150 ⟨⟨Nat.le_of_ble_eq_true rfl, by decide⟩, rfl, rfl⟩ (dq_ok8 [1, 1] [] (dc_r (dc_r dc_n)) dc_n (by decide +kernel)) (by decide +kernel) rfl q25 rfl ?_
      refine dq_aln 2 76 (by decide +kernel) rfl g19 ?_
      rcases di hh with ⟨q27, hh⟩ | ⟨_, hh⟩
      rotate_left
      · cases hh
      rcases di hh with ⟨q26, hh⟩ | ⟨q26, hh⟩
      · refine dq_acmp .eq 12 true 88 q27 q26 (by decide +kernel) (by decide +kernel) ?_
        exact c145_88 hD hz ih _ _ _ _ _ _ g17 g18 g19 hh
      · refine dq_acmp .eq 12 false 79 q27 q26 (by decide +kernel) (by decide +kernel) ?_
        refine dq_aln 0 80 (by decide +kernel) rfl g17 ?_
        refine dq_S (.iconst 2) 1 [] 81 _ [.int 2, va_rf o0] (by decide +kernel) rfl ?_
        refine dq_aln 2 82 (by decide +kernel) rfl g19 ?_
        obtain ⟨x28, q29, hh⟩ := db hh
        refine dq_gI 84 1 [9] 85 (by decide +kernel) rfl q29 ?_
        obtain ⟨h30, q31, hh⟩ := db hh
        obtain ⟨a32, q33, q31⟩ := db q31
        rw [dq_xV q31] at q33
        refine dq_cvi hD 87 144 5 2 [4] o0 [.int 2, .int x28] [] 88 [] (by decide +kernel) ap_144 ⟨⟨Nat.le_of_ble_eq_true rfl, by decide⟩, rfl, rfl⟩ (dq_ok8 [1, 1, 1] [] (dc_r (dc_i (dc_i dc_n))) dc_n (by decide +kernel)) (by decide +kernel) rfl q33 rfl ?_
        exact c145_88 hD hz ih _ _ _ _ _ _ g17 g18 g19 hh
def b145_2 (L : Nat) (xs : Nat → Int32) (zf : Value) (D : dD) (w : Nat) : Nat → Option Nat → Int32 → rm_H → Option dR
  | 0, _, _, _ => none
  | n + 1, o0, i1, h =>
    (dgR L xs h 3 [4] o0).bind fun p1 =>
    ((dcV L xs D 101 [5] p1 [] h).bind dxI).bind fun x3 =>
    if mx_f2 .ge i1 x3.1 = true then
      b145_40 L xs zf D w w o0 0 x3.2
    else
      (dgR L xs x3.2 3 [4] o0).bind fun p10 =>
      ((dcV L xs D 146 [5] p10 [.int i1] x3.2).bind dxR).bind fun p12 =>
      if dcK L xs p12.2 [10] p12.1 = false then none else
      ((dcV L xs D 149 [4] o0 [va_rf p12.1] p12.2).bind dxV).bind fun h17 =>
      b145_2 L xs zf D w n o0 (i1 + 1) h17
theorem c145_2 {L : Nat} {xs : Nat → Int32} {zf : Value} {D : dD} {w k : Nat} (hD : dO L xs zf D k) (hz : zf.category = 1) : ∀ (n : Nat) (o0 : Option Nat) (i1 : Int32) (lv : rm_L) (h : rm_H) (r : dR), rm_get lv 0 = some (va_rf o0) → rm_get lv 1 = some (.int i1) → b145_2 L xs zf D w n  o0 i1 h = some r → dq L xs zf ah_M145 2 lv [] h (k + 1) r := by
  intro n
  induction n with
  | zero =>
    intro o0 i1 lv h r G0 G1 hh
    cases hh
  | succ n ih =>
    intro o0 i1 lv h r G0 G1 hh
    rw [b145_2] at hh
    refine dq_iln 1 3 (by decide +kernel) rfl G1 ?_
    refine dq_aln 0 4 (by decide +kernel) rfl G0 ?_
    obtain ⟨p1, q2, hh⟩ := db hh
    refine dq_gR 25 3 [4] 7 (by decide +kernel) rfl q2 ?_
    obtain ⟨x3, q4, hh⟩ := db hh
    obtain ⟨a5, q6, q4⟩ := db q4
    rw [dq_xI q4] at q6
    refine dq_cif hD 54 1 101 7 0 [5] p1 [] [.int i1] 12 [.int x3.1, .int i1] (by decide +kernel) ap_101 ⟨⟨Nat.le_of_ble_eq_true rfl, by decide⟩, rfl, rfl⟩ (dq_ok8 [1] [1] (dc_r dc_n) (dc_i dc_n) (by decide +kernel)) (by decide +kernel) rfl q6 rfl ?_
    rcases di hh with ⟨q7, hh⟩ | ⟨q7, hh⟩
    · refine dq_2 .ge 26 true 38 q7 (by decide +kernel) ?_
      refine dq_S (.iconst 0) 1 [] 39 _ [.int 0] (by decide +kernel) rfl ?_
      refine dq_isn 1 40 (by decide +kernel) (by decide +kernel) ?_
      have g8 := dg_ne (i := 1) (u := .int 0) (by decide) (Or.inr (drc _)) G0
      have g9 := dg_eq (lv) 1 (.int 0)
      exact c145_40 hD hz _ _ _ _ _ _ g8 g9 hh
    · refine dq_2 .ge 26 false 15 q7 (by decide +kernel) ?_
      refine dq_aln 0 16 (by decide +kernel) rfl G0 ?_
      refine dq_aln 0 17 (by decide +kernel) rfl G0 ?_
      obtain ⟨p10, q11, hh⟩ := db hh
      refine dq_gR 25 3 [4] 20 (by decide +kernel) rfl q11 ?_
      refine dq_iln 1 21 (by decide +kernel) rfl G1 ?_
      obtain ⟨p12, q13, hh⟩ := db hh
      obtain ⟨a14, q15, q13⟩ := db q13
      rw [dq_xR q13] at q15
      refine dq_cif hD 59 2 146 7 1 [5] p10 [.int i1] [va_rf o0] 26 [va_rf p12.1, va_rf o0] (by decide +kernel) ap_146 ⟨⟨Nat.le_of_ble_eq_true rfl, by decide⟩, rfl, rfl⟩ (dq_ok8 [1, 1] [1] (dc_r (dc_i dc_n)) (dc_r dc_n) (by decide +kernel)) (by decide +kernel) rfl q15 rfl ?_
      rcases dp hh with ⟨_, hh⟩ | ⟨q16, hh⟩
      · cases hh
      refine dq_cast 70 [10] 29 (by decide +kernel) ⟨rfl, by decide⟩ (by rw [Bool.not_eq_false] at q16; exact q16) ?_
      obtain ⟨h17, q18, hh⟩ := db hh
      obtain ⟨a19, q20, q18⟩ := db q18
      rw [dq_xV q18] at q20
      refine dq_cvi hD 72 149 5 1 [4] o0 [va_rf p12.1] [] 32 [] (by decide +kernel) ap_149 ⟨⟨Nat.le_of_ble_eq_true rfl, by decide⟩, rfl, rfl⟩ (dq_ok8 [1, 1] [] (dc_r (dc_r dc_n)) dc_n (by decide +kernel)) (by decide +kernel) rfl q20 rfl ?_
      refine dq_incy 1 1 1 35 (by decide +kernel) ⟨rfl, by decide +kernel, by decide +kernel⟩ G1 ?_
      have g21 := dg_ne (i := 1) (u := .int (i1 + 1)) (by decide) (Or.inr (drc _)) G0
      have g22 := dg_eq (lv) 1 (.int (i1 + 1))
      refine dq_S (.goto (-33)) 3 [] 2 _ [] (by decide +kernel) rfl ?_
      exact ih _ _ _ _ _ g21 g22 hh
def b145_0 (L : Nat) (xs : Nat → Int32) (zf : Value) (D : dD) (w : Nat) (o0 : Option Nat) (h : rm_H) : Option dR :=
  b145_2 L xs zf D w w o0 0 h
theorem c145_0 {L : Nat} {xs : Nat → Int32} {zf : Value} {D : dD} {w k : Nat} (hD : dO L xs zf D k) (hz : zf.category = 1) : ∀ (o0 : Option Nat) (lv : rm_L) (h : rm_H) (r : dR), rm_get lv 0 = some (va_rf o0) → b145_0 L xs zf D w  o0 h = some r → dq L xs zf ah_M145 0 lv [] h (k + 1) r := by
  intro o0 lv h r G0 hh
  unfold b145_0 at hh
  refine dq_S (.iconst 0) 1 [] 1 _ [.int 0] (by decide +kernel) rfl ?_
  refine dq_isn 1 2 (by decide +kernel) (by decide +kernel) ?_
  have g1 := dg_ne (i := 1) (u := .int 0) (by decide) (Or.inr (drc _)) G0
  have g2 := dg_eq (lv) 1 (.int 0)
  exact c145_2 hD hz _ _ _ _ _ _ g1 g2 hh
def f145 (L : Nat) (xs : Nat → Int32) (zf : Value) (D : dD) (w : Nat) (As : List Value) (h : rm_H) : Option dR := match As with
  | [v0] => (rm_rf v0).bind fun o0 => b145_0 L xs zf D w o0 h
  | _ => none
theorem d145 {L : Nat} {xs : Nat → Int32} {zf : Value} {D : dD} {w k : Nat} (hD : dO L xs zf D k) (hz : zf.category = 1) (As : List Value) (h : rm_H) (r : dR) (hh : f145 L xs zf D w As h = some r) : dq L xs zf ah_M145 0 (lv_args 0 As) [] h (k + 1) r := by
  unfold f145 at hh
  split at hh
  · obtain ⟨o0, e0, hb0⟩ := db hh
    have e0 := rm_rf_v _ _ e0
    subst e0
    refine c145_0 hD hz _ _ _ _ ?_ hb0
    all_goals (simp only [la_r, la_i, la_j]; rfl)
  · cases hh
