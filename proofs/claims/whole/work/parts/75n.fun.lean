/-! METHODS AS FUNCTIONS, printed by wip/whole/gen_fun.py -/
def b361_0 (L : Nat) (xs : Nat → Int32) (zf : Value) (D : dD) (w : Nat) (o0 : Option Nat) (i1 : Int32) (i2 : Int32) (i3 : Int32) (h : rm_H) : Option dR :=
  (dgR L xs h 11 [15] o0).bind fun p1 =>
  (daI L xs h p1 i1).bind fun x3 =>
  if dsw 10 12 x3 = true then
    (dgR L xs h 13 [15] o0).bind fun p6 =>
    (daI L xs h p6 i1).bind fun x8 =>
    ((dcV L xs D 339 [15] o0 [.int x8] h).bind dxI).bind fun x10 =>
    (dgI L xs x10.2 57 [15] o0).bind fun x19 =>
    if mx_f1 .le x19 = true then
      ((dcV L xs D 367 [15] o0 [.int i2, .int i3] x10.2).bind dxV).bind fun h22 =>
      (dgR L xs h22 13 [15] o0).bind fun p26 =>
      (daI L xs h22 p26 i1).bind fun x28 =>
      ((dcV L xs D 367 [15] o0 [.int x28, .int x10.1] h22).bind dxV).bind fun h30 =>
      ((dcV L xs D 344 [15] o0 [.int 0] h30).bind dxI).bind fun x34 =>
      drI (some .int) x34.1 x34.2
    else
      drI (some .int) (-1) x10.2
  else if x3 = 10 then
    ((dcV L xs D 362 [15] o0 [.int i1, .int i2, .int i3] h).bind dxI).bind fun x39 =>
    drI (some .int) x39.1 x39.2
  else if x3 = 11 then
    ((dcV L xs D 363 [15] o0 [.int i1, .int i2, .int i3] h).bind dxI).bind fun x44 =>
    drI (some .int) x44.1 x44.2
  else if x3 = 12 then
    ((dcV L xs D 366 [15] o0 [.int i1, .int i2, .int i3] h).bind dxI).bind fun x49 =>
    drI (some .int) x49.1 x49.2
  else none
theorem c361_0 {L : Nat} {xs : Nat → Int32} {zf : Value} {D : dD} {w k : Nat} (hD : dO L xs zf D k) (hz : zf.category = 1) : ∀ (o0 : Option Nat) (i1 : Int32) (i2 : Int32) (i3 : Int32) (lv : rm_L) (h : rm_H) (r : dR), rm_get lv 0 = some (va_rf o0) → rm_get lv 1 = some (.int i1) → rm_get lv 2 = some (.int i2) → rm_get lv 3 = some (.int i3) → b361_0 L xs zf D w  o0 i1 i2 i3 h = some r → dq L xs zf ah_M361 0 lv [] h (k + 1) r := by
  intro o0 i1 i2 i3 lv h r G0 G1 G2 G3 hh
  unfold b361_0 at hh
  refine dq_aln 0 1 (by decide +kernel) rfl G0 ?_
  obtain ⟨p1, q2, hh⟩ := db hh
  refine dq_gR 36 11 [15] 4 (by decide +kernel) rfl q2 ?_
  refine dq_iln 1 5 (by decide +kernel) rfl G1 ?_
  obtain ⟨x3, q4, hh⟩ := db hh
  refine dq_aI 6 (by decide +kernel) rfl q4 ?_
  rcases di hh with ⟨q5, hh⟩ | ⟨_, hh⟩
  · refine dq_sd 50 10 12 #[26, 34, 42] 26 56 (by decide +kernel) (by decide +kernel) q5 ?_
    refine dq_aln 0 57 (by decide +kernel) rfl G0 ?_
    refine dq_aln 0 58 (by decide +kernel) rfl G0 ?_
    obtain ⟨p6, q7, hh⟩ := db hh
    refine dq_gR 42 13 [15] 61 (by decide +kernel) rfl q7 ?_
    refine dq_iln 1 62 (by decide +kernel) rfl G1 ?_
    obtain ⟨x8, q9, hh⟩ := db hh
    refine dq_aI 63 (by decide +kernel) rfl q9 ?_
    obtain ⟨x10, q11, hh⟩ := db hh
    obtain ⟨a12, q13, q11⟩ := db q11
    rw [dq_xI q11] at q13
    refine dq_cvi hD 453 339 5 1 [15] o0 [.int x8] [] 66 [.int x10.1] (by decide +kernel) ap_339 ⟨⟨Nat.le_of_ble_eq_true rfl, by decide⟩, rfl, rfl⟩ (dq_ok8 [1, 1] [] (dc_r (dc_i dc_n)) dc_n (by decide +kernel)) (by decide +kernel) rfl q13 rfl ?_
    refine dq_is 4 68 (by decide +kernel) (by decide +kernel) ?_
    have g14 := dg_ne (i := 4) (u := .int x10.1) (by decide) (Or.inl (by decide)) G0
    have g15 := dg_ne (i := 4) (u := .int x10.1) (by decide) (Or.inl (by decide)) G1
    have g16 := dg_ne (i := 4) (u := .int x10.1) (by decide) (Or.inl (by decide)) G2
    have g17 := dg_ne (i := 4) (u := .int x10.1) (by decide) (Or.inr rfl) G3
    have g18 := dg_eq (lv) 4 (.int x10.1)
    refine dq_aln 0 69 (by decide +kernel) rfl g14 ?_
    obtain ⟨x19, q20, hh⟩ := db hh
    refine dq_gI 295 57 [15] 72 (by decide +kernel) rfl q20 ?_
    rcases di hh with ⟨q21, hh⟩ | ⟨q21, hh⟩
    · refine dq_1 .le 5 true 77 q21 (by decide +kernel) ?_
      refine dq_aln 0 78 (by decide +kernel) rfl g14 ?_
      refine dq_iln 2 79 (by decide +kernel) rfl g16 ?_
      refine dq_iln 3 80 (by decide +kernel) rfl g17 ?_
      obtain ⟨h22, q23, hh⟩ := db hh
      obtain ⟨a24, q25, q23⟩ := db q23
      rw [dq_xV q23] at q25
      refine dq_cvi hD 532 367 5 2 [15] o0 [.int i2, .int i3] [] 83 [] (by decide +kernel) ap_367 ⟨⟨Nat.le_of_ble_eq_true rfl, by decide⟩, rfl, rfl⟩ (dq_ok8 [1, 1, 1] [] (dc_r (dc_i (dc_i dc_n))) dc_n (by decide +kernel)) (by decide +kernel) rfl q25 rfl ?_
      refine dq_aln 0 84 (by decide +kernel) rfl g14 ?_
      refine dq_aln 0 85 (by decide +kernel) rfl g14 ?_
      obtain ⟨p26, q27, hh⟩ := db hh
      refine dq_gR 42 13 [15] 88 (by decide +kernel) rfl q27 ?_
      refine dq_iln 1 89 (by decide +kernel) rfl g15 ?_
      obtain ⟨x28, q29, hh⟩ := db hh
      refine dq_aI 90 (by decide +kernel) rfl q29 ?_
      refine dq_il 4 92 (by decide +kernel) rfl g18 ?_
      obtain ⟨h30, q31, hh⟩ := db hh
      obtain ⟨a32, q33, q31⟩ := db q31
      rw [dq_xV q31] at q33
      refine dq_cvi hD 532 367 5 2 [15] o0 [.int x28, .int x10.1] [] 95 [] (by decide +kernel) ap_367 ⟨⟨Nat.le_of_ble_eq_true rfl, by decide⟩, rfl, rfl⟩ (dq_ok8 [1, 1, 1] [] (dc_r (dc_i (dc_i dc_n))) dc_n (by decide +kernel)) (by decide +kernel) rfl q33 rfl ?_
      refine dq_aln 0 96 (by decide +kernel) rfl g14 ?_
      refine dq_S (.iconst 0) 1 [] 97 _ [.int 0, va_rf o0] (by decide +kernel) rfl ?_
      obtain ⟨x34, q35, hh⟩ := db hh
      obtain ⟨a36, q37, q35⟩ := db q35
      rw [dq_xI q35] at q37
      refine dq_cvi hD 478 344 5 1 [15] o0 [.int 0] [] 100 [.int x34.1] (by decide +kernel) ap_344 ⟨⟨Nat.le_of_ble_eq_true rfl, by decide⟩, rfl, rfl⟩ (dq_ok8 [1, 1] [] (dc_r (dc_i dc_n)) dc_n (by decide +kernel)) (by decide +kernel) rfl q37 rfl ?_
      exact dq_retI (some .int) (by decide +kernel) rfl hh
    · refine dq_1 .le 5 false 75 q21 (by decide +kernel) ?_
      refine dq_S (.iconst (-1)) 1 [] 76 _ [.int (-1)] (by decide +kernel) rfl ?_
      exact dq_retI (some .int) (by decide +kernel) rfl hh
  rcases dp hh with ⟨q38, hh⟩ | ⟨_, hh⟩
  · refine dq_eq 10 q38 ?_
    refine dq_S (.tableswitch 50 10 12 #[26, 34, 42]) 26 [] 32 _ [] (by decide +kernel) rfl ?_
    refine dq_aln 0 33 (by decide +kernel) rfl G0 ?_
    refine dq_iln 1 34 (by decide +kernel) rfl G1 ?_
    refine dq_iln 2 35 (by decide +kernel) rfl G2 ?_
    refine dq_iln 3 36 (by decide +kernel) rfl G3 ?_
    obtain ⟨x39, q40, hh⟩ := db hh
    obtain ⟨a41, q42, q40⟩ := db q40
    rw [dq_xI q40] at q42
    refine dq_cvi hD 523 362 5 3 [15] o0 [.int i1, .int i2, .int i3] [] 39 [.int x39.1] (by decide +kernel) ap_362 ⟨⟨Nat.le_of_ble_eq_true rfl, by decide⟩, rfl, rfl⟩ (dq_ok8 [1, 1, 1, 1] [] (dc_r (dc_i (dc_i (dc_i dc_n)))) dc_n (by decide +kernel)) (by decide +kernel) rfl q42 rfl ?_
    exact dq_retI (some .int) (by decide +kernel) rfl hh
  rcases dp hh with ⟨q43, hh⟩ | ⟨_, hh⟩
  · refine dq_eq 11 q43 ?_
    refine dq_S (.tableswitch 50 10 12 #[26, 34, 42]) 26 [] 40 _ [] (by decide +kernel) rfl ?_
    refine dq_aln 0 41 (by decide +kernel) rfl G0 ?_
    refine dq_iln 1 42 (by decide +kernel) rfl G1 ?_
    refine dq_iln 2 43 (by decide +kernel) rfl G2 ?_
    refine dq_iln 3 44 (by decide +kernel) rfl G3 ?_
    obtain ⟨x44, q45, hh⟩ := db hh
    obtain ⟨a46, q47, q45⟩ := db q45
    rw [dq_xI q45] at q47
    refine dq_cvi hD 526 363 5 3 [15] o0 [.int i1, .int i2, .int i3] [] 47 [.int x44.1] (by decide +kernel) ap_363 ⟨⟨Nat.le_of_ble_eq_true rfl, by decide⟩, rfl, rfl⟩ (dq_ok8 [1, 1, 1, 1] [] (dc_r (dc_i (dc_i (dc_i dc_n)))) dc_n (by decide +kernel)) (by decide +kernel) rfl q47 rfl ?_
    exact dq_retI (some .int) (by decide +kernel) rfl hh
  rcases dp hh with ⟨q48, hh⟩ | ⟨_, hh⟩
  · refine dq_eq 12 q48 ?_
    refine dq_S (.tableswitch 50 10 12 #[26, 34, 42]) 26 [] 48 _ [] (by decide +kernel) rfl ?_
    refine dq_aln 0 49 (by decide +kernel) rfl G0 ?_
    refine dq_iln 1 50 (by decide +kernel) rfl G1 ?_
    refine dq_iln 2 51 (by decide +kernel) rfl G2 ?_
    refine dq_iln 3 52 (by decide +kernel) rfl G3 ?_
    obtain ⟨x49, q50, hh⟩ := db hh
    obtain ⟨a51, q52, q50⟩ := db q50
    rw [dq_xI q50] at q52
    refine dq_cvi hD 529 366 5 3 [15] o0 [.int i1, .int i2, .int i3] [] 55 [.int x49.1] (by decide +kernel) ap_366 ⟨⟨Nat.le_of_ble_eq_true rfl, by decide⟩, rfl, rfl⟩ (dq_ok8 [1, 1, 1, 1] [] (dc_r (dc_i (dc_i (dc_i dc_n)))) dc_n (by decide +kernel)) (by decide +kernel) rfl q52 rfl ?_
    exact dq_retI (some .int) (by decide +kernel) rfl hh
  cases hh
def f361 (L : Nat) (xs : Nat → Int32) (zf : Value) (D : dD) (w : Nat) (As : List Value) (h : rm_H) : Option dR := match As with
  | [v0, .int i1, .int i2, .int i3] => (rm_rf v0).bind fun o0 => b361_0 L xs zf D w o0 i1 i2 i3 h
  | _ => none
theorem d361 {L : Nat} {xs : Nat → Int32} {zf : Value} {D : dD} {w k : Nat} (hD : dO L xs zf D k) (hz : zf.category = 1) (As : List Value) (h : rm_H) (r : dR) (hh : f361 L xs zf D w As h = some r) : dq L xs zf ah_M361 0 (lv_args 0 As) [] h (k + 1) r := by
  unfold f361 at hh
  split at hh
  · obtain ⟨o0, e0, hb0⟩ := db hh
    have e0 := rm_rf_v _ _ e0
    subst e0
    refine c361_0 hD hz _ _ _ _ _ _ _ ?_ ?_ ?_ ?_ hb0
    all_goals (simp only [la_r, la_i, la_j]; rfl)
  · cases hh
def b362_158 (L : Nat) (xs : Nat → Int32) (zf : Value) (D : dD) (w : Nat) (s0 : Int32) (h : rm_H) : Option dR :=
  drI (some .int) s0 h
theorem c362_158 {L : Nat} {xs : Nat → Int32} {zf : Value} {D : dD} {w k : Nat} (hD : dO L xs zf D k) (hz : zf.category = 1) : ∀ (s0 : Int32) (lv : rm_L) (h : rm_H) (r : dR), b362_158 L xs zf D w  s0 h = some r → dq L xs zf ah_M362 158 lv [.int s0] h (k + 1) r := by
  intro s0 lv h r hh
  unfold b362_158 at hh
  exact dq_retI (some .int) (by decide +kernel) rfl hh
def b362_87 (L : Nat) (xs : Nat → Int32) (zf : Value) (D : dD) (w : Nat) (o0 : Option Nat) (i1 : Int32) (i4 : Int32) (i5 : Int32) (i6 : Int32) (s0 : Int32) (h : rm_H) : Option dR :=
  if mx_f2 .ne s0 (-1) = true then
    (dgR L xs h 20 [15] o0).bind fun p8 =>
    (dgR L xs h 35 [15] o0).bind fun p10 =>
    (daI L xs h p10 i4).bind fun x12 =>
    (dsI h p8 i1 (i5 - x12)).bind fun h14 =>
    (dpF h14 60 [15] o0 (.int 3)).bind fun h16 =>
    (dpF h16 61 [15] o0 (.int 0)).bind fun h18 =>
    ((D 333 [.int i6] h18).bind dxI).bind fun x20 =>
    if mx_f1 .eq x20.1 = true then
      b362_158 L xs zf D w i6 x20.2
    else
      b362_158 L xs zf D w ((i6 - (i6 - i6 / 8 * 8)) + s0) x20.2
  else
    (dgR L xs h 18 [15] o0).bind fun p25 =>
    (daI L xs h p25 i1).bind fun x27 =>
    ((dcV L xs D 347 [15] o0 [.int 6, .int x27] h).bind dxI).bind fun x29 =>
    drI (some .int) x29.1 x29.2
theorem c362_87 {L : Nat} {xs : Nat → Int32} {zf : Value} {D : dD} {w k : Nat} (hD : dO L xs zf D k) (hz : zf.category = 1) : ∀ (o0 : Option Nat) (i1 : Int32) (i4 : Int32) (i5 : Int32) (i6 : Int32) (s0 : Int32) (lv : rm_L) (h : rm_H) (r : dR), rm_get lv 0 = some (va_rf o0) → rm_get lv 1 = some (.int i1) → rm_get lv 4 = some (.int i4) → rm_get lv 5 = some (.int i5) → rm_get lv 6 = some (.int i6) → b362_87 L xs zf D w  o0 i1 i4 i5 i6 s0 h = some r → dq L xs zf ah_M362 87 lv [.int s0] h (k + 1) r := by
  intro o0 i1 i4 i5 i6 s0 lv h r G0 G1 G4 G5 G6 hh
  unfold b362_87 at hh
  refine dq_is 7 89 (by decide +kernel) (by decide +kernel) ?_
  have g1 := dg_ne (i := 7) (u := .int s0) (by decide) (Or.inl (by decide)) G0
  have g2 := dg_ne (i := 7) (u := .int s0) (by decide) (Or.inl (by decide)) G1
  have g3 := dg_ne (i := 7) (u := .int s0) (by decide) (Or.inl (by decide)) G4
  have g4 := dg_ne (i := 7) (u := .int s0) (by decide) (Or.inl (by decide)) G5
  have g5 := dg_ne (i := 7) (u := .int s0) (by decide) (Or.inr rfl) G6
  have g6 := dg_eq (lv) 7 (.int s0)
  refine dq_il 7 91 (by decide +kernel) rfl g6 ?_
  refine dq_S (.iconst (-1)) 1 [] 92 _ [.int (-1), .int s0] (by decide +kernel) rfl ?_
  rcases di hh with ⟨q7, hh⟩ | ⟨q7, hh⟩
  · refine dq_2 .ne 16 true 108 q7 (by decide +kernel) ?_
    refine dq_aln 0 109 (by decide +kernel) rfl g1 ?_
    obtain ⟨p8, q9, hh⟩ := db hh
    refine dq_gR 63 20 [15] 112 (by decide +kernel) rfl q9 ?_
    refine dq_iln 1 113 (by decide +kernel) rfl g2 ?_
    refine dq_il 5 115 (by decide +kernel) rfl g4 ?_
    refine dq_aln 0 116 (by decide +kernel) rfl g1 ?_
    obtain ⟨p10, q11, hh⟩ := db hh
    refine dq_gR 96 35 [15] 119 (by decide +kernel) rfl q11 ?_
    refine dq_il 4 121 (by decide +kernel) rfl g3 ?_
    obtain ⟨x12, q13, hh⟩ := db hh
    refine dq_aI 122 (by decide +kernel) rfl q13 ?_
    refine dq_S (.isub) 1 [] 123 _ [.int (i5 - x12), .int i1, va_rf p8] (by decide +kernel) rfl ?_
    obtain ⟨h14, q15, hh⟩ := db hh
    refine dq_sI 124 (by decide +kernel) rfl q15 ?_
    refine dq_aln 0 125 (by decide +kernel) rfl g1 ?_
    refine dq_S (.iconst 3) 1 [] 126 _ [.int 3, va_rf o0] (by decide +kernel) rfl ?_
    obtain ⟨h16, q17, hh⟩ := db hh
    refine dq_put 443 60 [15] 129 (by decide +kernel) rfl q17 ?_
    refine dq_aln 0 130 (by decide +kernel) rfl g1 ?_
    refine dq_S (.iconst 0) 1 [] 131 _ [.int 0, va_rf o0] (by decide +kernel) rfl ?_
    obtain ⟨h18, q19, hh⟩ := db hh
    refine dq_put 446 61 [15] 134 (by decide +kernel) rfl q19 ?_
    refine dq_il 6 136 (by decide +kernel) rfl g5 ?_
    obtain ⟨x20, q21, hh⟩ := db hh
    obtain ⟨a22, q23, q21⟩ := db q21
    rw [dq_xI q21] at q23
    refine dq_cst hD 400 333 0 1 [.int i6] [] 139 [.int x20.1] (by decide +kernel) ap_333 ⟨⟨Nat.le_of_ble_eq_true rfl, by decide⟩, rfl, rfl⟩ (dq_ok8 [1] [] (dc_i dc_n) dc_n (by decide +kernel)) (by decide +kernel) rfl q23 rfl ?_
    rcases di hh with ⟨q24, hh⟩ | ⟨q24, hh⟩
    · refine dq_1 .eq 17 true 156 q24 (by decide +kernel) ?_
      refine dq_il 6 158 (by decide +kernel) rfl g5 ?_
      exact c362_158 hD hz _ _ _ _  hh
    · refine dq_1 .eq 17 false 142 q24 (by decide +kernel) ?_
      refine dq_il 6 144 (by decide +kernel) rfl g5 ?_
      refine dq_il 6 146 (by decide +kernel) rfl g5 ?_
      refine dq_S (.bipush 8) 2 [] 148 _ [.int 8, .int i6, .int i6] (by decide +kernel) rfl ?_
      refine dq_rem 149 (by decide) (by decide +kernel) rfl ?_
      refine dq_S (.isub) 1 [] 150 _ [.int (i6 - (i6 - i6 / 8 * 8))] (by decide +kernel) rfl ?_
      refine dq_il 7 152 (by decide +kernel) rfl g6 ?_
      refine dq_S (.iadd) 1 [] 153 _ [.int ((i6 - (i6 - i6 / 8 * 8)) + s0)] (by decide +kernel) rfl ?_
      refine dq_S (.goto 5) 3 [] 158 _ [.int ((i6 - (i6 - i6 / 8 * 8)) + s0)] (by decide +kernel) rfl ?_
      exact c362_158 hD hz _ _ _ _  hh
  · refine dq_2 .ne 16 false 95 q7 (by decide +kernel) ?_
    refine dq_aln 0 96 (by decide +kernel) rfl g1 ?_
    refine dq_S (.bipush 6) 2 [] 98 _ [.int 6, va_rf o0] (by decide +kernel) rfl ?_
    refine dq_aln 0 99 (by decide +kernel) rfl g1 ?_
    obtain ⟨p25, q26, hh⟩ := db hh
    refine dq_gR 57 18 [15] 102 (by decide +kernel) rfl q26 ?_
    refine dq_iln 1 103 (by decide +kernel) rfl g2 ?_
    obtain ⟨x27, q28, hh⟩ := db hh
    refine dq_aI 104 (by decide +kernel) rfl q28 ?_
    obtain ⟨x29, q30, hh⟩ := db hh
    obtain ⟨a31, q32, q30⟩ := db q30
    rw [dq_xI q30] at q32
    refine dq_cvi hD 456 347 5 2 [15] o0 [.int 6, .int x27] [] 107 [.int x29.1] (by decide +kernel) ap_347 ⟨⟨Nat.le_of_ble_eq_true rfl, by decide⟩, rfl, rfl⟩ (dq_ok8 [1, 1, 1] [] (dc_r (dc_i (dc_i dc_n))) dc_n (by decide +kernel)) (by decide +kernel) rfl q32 rfl ?_
    exact dq_retI (some .int) (by decide +kernel) rfl hh
def b362_0 (L : Nat) (xs : Nat → Int32) (zf : Value) (D : dD) (w : Nat) (o0 : Option Nat) (i1 : Int32) (i2 : Int32) (i3 : Int32) (h : rm_H) : Option dR :=
  ((dcV L xs D 354 [15] o0 [.int i2, .int i3] h).bind dxI).bind fun x1 =>
  if mx_f2 .ne x1.1 (-1) = true then
    (dgR L xs x1.2 23 [15] o0).bind fun p11 =>
    (daJ L xs x1.2 p11 i1).bind fun y13 =>
    ((dcV L xs D 356 [15] o0 [.int x1.1, .long y13] x1.2).bind dxI).bind fun x15 =>
    if mx_f2 .ne x15.1 (-1) = true then
      (dgR L xs x15.2 30 [15] o0).bind fun p26 =>
      (dgR L xs x15.2 41 [15] o0).bind fun p28 =>
      (daI L xs x15.2 p28 x15.1).bind fun x30 =>
      (daI L xs x15.2 p26 x30).bind fun x32 =>
      ((D 333 [.int x32] x15.2).bind dxI).bind fun x41 =>
      if mx_f1 .eq x41.1 = true then
        b362_87 L xs zf D w o0 i1 x1.1 x15.1 x32 0 x41.2
      else
        ((dcV L xs D 355 [15] o0 [.int i3] x41.2).bind dxI).bind fun x46 =>
        ((D 291 [.int x46.1, .int (x32 - x32 / 8 * 8)] x46.2).bind dxI).bind fun x50 =>
        b362_87 L xs zf D w o0 i1 x1.1 x15.1 x32 x50.1 x50.2
    else
      (dgR L xs x15.2 18 [15] o0).bind fun p54 =>
      (daI L xs x15.2 p54 i1).bind fun x56 =>
      ((dcV L xs D 347 [15] o0 [.int 3, .int x56] x15.2).bind dxI).bind fun x58 =>
      drI (some .int) x58.1 x58.2
  else
    drI (some .int) (-1) x1.2
theorem c362_0 {L : Nat} {xs : Nat → Int32} {zf : Value} {D : dD} {w k : Nat} (hD : dO L xs zf D k) (hz : zf.category = 1) : ∀ (o0 : Option Nat) (i1 : Int32) (i2 : Int32) (i3 : Int32) (lv : rm_L) (h : rm_H) (r : dR), rm_get lv 0 = some (va_rf o0) → rm_get lv 1 = some (.int i1) → rm_get lv 2 = some (.int i2) → rm_get lv 3 = some (.int i3) → b362_0 L xs zf D w  o0 i1 i2 i3 h = some r → dq L xs zf ah_M362 0 lv [] h (k + 1) r := by
  intro o0 i1 i2 i3 lv h r G0 G1 G2 G3 hh
  unfold b362_0 at hh
  refine dq_aln 0 1 (by decide +kernel) rfl G0 ?_
  refine dq_iln 2 2 (by decide +kernel) rfl G2 ?_
  refine dq_iln 3 3 (by decide +kernel) rfl G3 ?_
  obtain ⟨x1, q2, hh⟩ := db hh
  obtain ⟨a3, q4, q2⟩ := db q2
  rw [dq_xI q2] at q4
  refine dq_cvi hD 535 354 5 2 [15] o0 [.int i2, .int i3] [] 6 [.int x1.1] (by decide +kernel) ap_354 ⟨⟨Nat.le_of_ble_eq_true rfl, by decide⟩, rfl, rfl⟩ (dq_ok8 [1, 1, 1] [] (dc_r (dc_i (dc_i dc_n))) dc_n (by decide +kernel)) (by decide +kernel) rfl q4 rfl ?_
  refine dq_is 4 8 (by decide +kernel) (by decide +kernel) ?_
  have g5 := dg_ne (i := 4) (u := .int x1.1) (by decide) (Or.inl (by decide)) G0
  have g6 := dg_ne (i := 4) (u := .int x1.1) (by decide) (Or.inl (by decide)) G1
  have g7 := dg_ne (i := 4) (u := .int x1.1) (by decide) (Or.inl (by decide)) G2
  have g8 := dg_ne (i := 4) (u := .int x1.1) (by decide) (Or.inr rfl) G3
  have g9 := dg_eq (lv) 4 (.int x1.1)
  refine dq_il 4 10 (by decide +kernel) rfl g9 ?_
  refine dq_S (.iconst (-1)) 1 [] 11 _ [.int (-1), .int x1.1] (by decide +kernel) rfl ?_
  rcases di hh with ⟨q10, hh⟩ | ⟨q10, hh⟩
  · refine dq_2 .ne 5 true 16 q10 (by decide +kernel) ?_
    refine dq_aln 0 17 (by decide +kernel) rfl g5 ?_
    refine dq_il 4 19 (by decide +kernel) rfl g9 ?_
    refine dq_aln 0 20 (by decide +kernel) rfl g5 ?_
    obtain ⟨p11, q12, hh⟩ := db hh
    refine dq_gR 72 23 [15] 23 (by decide +kernel) rfl q12 ?_
    refine dq_iln 1 24 (by decide +kernel) rfl g6 ?_
    obtain ⟨y13, q14, hh⟩ := db hh
    refine dq_aJ 25 (by decide +kernel) rfl q14 ?_
    obtain ⟨x15, q16, hh⟩ := db hh
    obtain ⟨a17, q18, q16⟩ := db q16
    rw [dq_xI q16] at q18
    refine dq_cvi hD 538 356 5 2 [15] o0 [.int x1.1, .long y13] [] 28 [.int x15.1] (by decide +kernel) ap_356 ⟨⟨Nat.le_of_ble_eq_true rfl, by decide⟩, rfl, rfl⟩ (dq_ok8 [1, 1, 2] [] (dc_r (dc_i (dc_j dc_n))) dc_n (by decide +kernel)) (by decide +kernel) rfl q18 rfl ?_
    refine dq_is 5 30 (by decide +kernel) (by decide +kernel) ?_
    have g19 := dg_ne (i := 5) (u := .int x15.1) (by decide) (Or.inl (by decide)) g5
    have g20 := dg_ne (i := 5) (u := .int x15.1) (by decide) (Or.inl (by decide)) g6
    have g21 := dg_ne (i := 5) (u := .int x15.1) (by decide) (Or.inl (by decide)) g7
    have g22 := dg_ne (i := 5) (u := .int x15.1) (by decide) (Or.inl (by decide)) g8
    have g23 := dg_ne (i := 5) (u := .int x15.1) (by decide) (Or.inr rfl) g9
    have g24 := dg_eq (rm_set1 (lv) 4 (.int x1.1)) 5 (.int x15.1)
    refine dq_il 5 32 (by decide +kernel) rfl g24 ?_
    refine dq_S (.iconst (-1)) 1 [] 33 _ [.int (-1), .int x15.1] (by decide +kernel) rfl ?_
    rcases di hh with ⟨q25, hh⟩ | ⟨q25, hh⟩
    · refine dq_2 .ne 15 true 48 q25 (by decide +kernel) ?_
      refine dq_aln 0 49 (by decide +kernel) rfl g19 ?_
      obtain ⟨p26, q27, hh⟩ := db hh
      refine dq_gR 84 30 [15] 52 (by decide +kernel) rfl q27 ?_
      refine dq_aln 0 53 (by decide +kernel) rfl g19 ?_
      obtain ⟨p28, q29, hh⟩ := db hh
      refine dq_gR 112 41 [15] 56 (by decide +kernel) rfl q29 ?_
      refine dq_il 5 58 (by decide +kernel) rfl g24 ?_
      obtain ⟨x30, q31, hh⟩ := db hh
      refine dq_aI 59 (by decide +kernel) rfl q31 ?_
      obtain ⟨x32, q33, hh⟩ := db hh
      refine dq_aI 60 (by decide +kernel) rfl q33 ?_
      refine dq_is 6 62 (by decide +kernel) (by decide +kernel) ?_
      have g34 := dg_ne (i := 6) (u := .int x32) (by decide) (Or.inl (by decide)) g19
      have g35 := dg_ne (i := 6) (u := .int x32) (by decide) (Or.inl (by decide)) g20
      have g36 := dg_ne (i := 6) (u := .int x32) (by decide) (Or.inl (by decide)) g21
      have g37 := dg_ne (i := 6) (u := .int x32) (by decide) (Or.inl (by decide)) g22
      have g38 := dg_ne (i := 6) (u := .int x32) (by decide) (Or.inl (by decide)) g23
      have g39 := dg_ne (i := 6) (u := .int x32) (by decide) (Or.inr rfl) g24
      have g40 := dg_eq (rm_set1 (rm_set1 (lv) 4 (.int x1.1)) 5 (.int x15.1)) 6 (.int x32)
      refine dq_il 6 64 (by decide +kernel) rfl g40 ?_
      obtain ⟨x41, q42, hh⟩ := db hh
      obtain ⟨a43, q44, q42⟩ := db q42
      rw [dq_xI q42] at q44
      refine dq_cst hD 400 333 0 1 [.int x32] [] 67 [.int x41.1] (by decide +kernel) ap_333 ⟨⟨Nat.le_of_ble_eq_true rfl, by decide⟩, rfl, rfl⟩ (dq_ok8 [1] [] (dc_i dc_n) dc_n (by decide +kernel)) (by decide +kernel) rfl q44 rfl ?_
      rcases di hh with ⟨q45, hh⟩ | ⟨q45, hh⟩
      · refine dq_1 .eq 19 true 86 q45 (by decide +kernel) ?_
        refine dq_S (.iconst 0) 1 [] 87 _ [.int 0] (by decide +kernel) rfl ?_
        exact c362_87 hD hz _ _ _ _ _ _ _ _ _ g34 g35 g38 g39 g40 hh
      · refine dq_1 .eq 19 false 70 q45 (by decide +kernel) ?_
        refine dq_aln 0 71 (by decide +kernel) rfl g34 ?_
        refine dq_iln 3 72 (by decide +kernel) rfl g37 ?_
        obtain ⟨x46, q47, hh⟩ := db hh
        obtain ⟨a48, q49, q47⟩ := db q47
        rw [dq_xI q47] at q49
        refine dq_cvi hD 542 355 5 1 [15] o0 [.int i3] [] 75 [.int x46.1] (by decide +kernel) ap_355 ⟨⟨Nat.le_of_ble_eq_true rfl, by decide⟩, rfl, rfl⟩ (dq_ok8 [1, 1] [] (dc_r (dc_i dc_n)) dc_n (by decide +kernel)) (by decide +kernel) rfl q49 rfl ?_
        refine dq_il 6 77 (by decide +kernel) rfl g40 ?_
        refine dq_S (.bipush 8) 2 [] 79 _ [.int 8, .int x32, .int x46.1] (by decide +kernel) rfl ?_
        refine dq_rem 80 (by decide) (by decide +kernel) rfl ?_
        obtain ⟨x50, q51, hh⟩ := db hh
        obtain ⟨a52, q53, q51⟩ := db q51
        rw [dq_xI q51] at q53
        refine dq_cst hD 425 291 0 2 [.int x46.1, .int (x32 - x32 / 8 * 8)] [] 83 [.int x50.1] (by decide +kernel) ap_291 ⟨⟨Nat.le_of_ble_eq_true rfl, by decide⟩, rfl, rfl⟩ (dq_ok8 [1, 1] [] (dc_i (dc_i dc_n)) dc_n (by decide +kernel)) (by decide +kernel) rfl q53 rfl ?_
        refine dq_S (.goto 4) 3 [] 87 _ [.int x50.1] (by decide +kernel) rfl ?_
        exact c362_87 hD hz _ _ _ _ _ _ _ _ _ g34 g35 g38 g39 g40 hh
    · refine dq_2 .ne 15 false 36 q25 (by decide +kernel) ?_
      refine dq_aln 0 37 (by decide +kernel) rfl g19 ?_
      refine dq_S (.iconst 3) 1 [] 38 _ [.int 3, va_rf o0] (by decide +kernel) rfl ?_
      refine dq_aln 0 39 (by decide +kernel) rfl g19 ?_
      obtain ⟨p54, q55, hh⟩ := db hh
      refine dq_gR 57 18 [15] 42 (by decide +kernel) rfl q55 ?_
      refine dq_iln 1 43 (by decide +kernel) rfl g20 ?_
      obtain ⟨x56, q57, hh⟩ := db hh
      refine dq_aI 44 (by decide +kernel) rfl q57 ?_
      obtain ⟨x58, q59, hh⟩ := db hh
      obtain ⟨a60, q61, q59⟩ := db q59
      rw [dq_xI q59] at q61
      refine dq_cvi hD 456 347 5 2 [15] o0 [.int 3, .int x56] [] 47 [.int x58.1] (by decide +kernel) ap_347 ⟨⟨Nat.le_of_ble_eq_true rfl, by decide⟩, rfl, rfl⟩ (dq_ok8 [1, 1, 1] [] (dc_r (dc_i (dc_i dc_n))) dc_n (by decide +kernel)) (by decide +kernel) rfl q61 rfl ?_
      exact dq_retI (some .int) (by decide +kernel) rfl hh
  · refine dq_2 .ne 5 false 14 q10 (by decide +kernel) ?_
    refine dq_S (.iconst (-1)) 1 [] 15 _ [.int (-1)] (by decide +kernel) rfl ?_
    exact dq_retI (some .int) (by decide +kernel) rfl hh
def f362 (L : Nat) (xs : Nat → Int32) (zf : Value) (D : dD) (w : Nat) (As : List Value) (h : rm_H) : Option dR := match As with
  | [v0, .int i1, .int i2, .int i3] => (rm_rf v0).bind fun o0 => b362_0 L xs zf D w o0 i1 i2 i3 h
  | _ => none
theorem d362 {L : Nat} {xs : Nat → Int32} {zf : Value} {D : dD} {w k : Nat} (hD : dO L xs zf D k) (hz : zf.category = 1) (As : List Value) (h : rm_H) (r : dR) (hh : f362 L xs zf D w As h = some r) : dq L xs zf ah_M362 0 (lv_args 0 As) [] h (k + 1) r := by
  unfold f362 at hh
  split at hh
  · obtain ⟨o0, e0, hb0⟩ := db hh
    have e0 := rm_rf_v _ _ e0
    subst e0
    refine c362_0 hD hz _ _ _ _ _ _ _ ?_ ?_ ?_ ?_ hb0
    all_goals (simp only [la_r, la_i, la_j]; rfl)
  · cases hh
def b363_237 (L : Nat) (xs : Nat → Int32) (zf : Value) (D : dD) (w : Nat) (s0 : Int32) (s1 : Option Nat) (h : rm_H) : Option dR :=
  ((dcV L xs D 344 [15] s1 [.int s0] h).bind dxI).bind fun x1 =>
  drI (some .int) x1.1 x1.2
theorem c363_237 {L : Nat} {xs : Nat → Int32} {zf : Value} {D : dD} {w k : Nat} (hD : dO L xs zf D k) (hz : zf.category = 1) : ∀ (s0 : Int32) (s1 : Option Nat) (lv : rm_L) (h : rm_H) (r : dR), b363_237 L xs zf D w  s0 s1 h = some r → dq L xs zf ah_M363 237 lv [.int s0, va_rf s1] h (k + 1) r := by
  intro s0 s1 lv h r hh
  unfold b363_237 at hh
  obtain ⟨x1, q2, hh⟩ := db hh
  obtain ⟨a3, q4, q2⟩ := db q2
  rw [dq_xI q2] at q4
  refine dq_cvi hD 478 344 5 1 [15] s1 [.int s0] [] 240 [.int x1.1] (by decide +kernel) ap_344 ⟨⟨Nat.le_of_ble_eq_true rfl, by decide⟩, rfl, rfl⟩ (dq_ok8 [1, 1] [] (dc_r (dc_i dc_n)) dc_n (by decide +kernel)) (by decide +kernel) rfl q4 rfl ?_
  exact dq_retI (some .int) (by decide +kernel) rfl hh
def b363_183 (L : Nat) (xs : Nat → Int32) (zf : Value) (D : dD) (w : Nat) (o0 : Option Nat) (i1 : Int32) (i2 : Int32) (i7 : Int32) (i9 : Int32) (h : rm_H) : Option dR :=
  if mx_f1 .ne i9 = true then
    (dgR L xs h 20 [15] o0).bind fun p2 =>
    (dsI h p2 i1 i7).bind fun h4 =>
    (dgR L xs h4 48 [15] o0).bind fun p6 =>
    (daI L xs h4 p6 i7).bind fun x8 =>
    if mx_f2 .ne x8 (-1) = true then
      (dgR L xs h4 30 [15] o0).bind fun p11 =>
      (dgR L xs h4 48 [15] o0).bind fun p13 =>
      (daI L xs h4 p13 i7).bind fun x15 =>
      (daI L xs h4 p11 x15).bind fun x17 =>
      b363_237 L xs zf D w x17 o0 h4
    else
      b363_237 L xs zf D w (-1) o0 h4
  else
    (dgR L xs h 17 [15] o0).bind fun p19 =>
    (daI L xs h p19 i2).bind fun x21 =>
    ((dcV L xs D 347 [15] o0 [.int 6, .int x21] h).bind dxI).bind fun x23 =>
    drI (some .int) x23.1 x23.2
theorem c363_183 {L : Nat} {xs : Nat → Int32} {zf : Value} {D : dD} {w k : Nat} (hD : dO L xs zf D k) (hz : zf.category = 1) : ∀ (o0 : Option Nat) (i1 : Int32) (i2 : Int32) (i7 : Int32) (i9 : Int32) (lv : rm_L) (h : rm_H) (r : dR), rm_get lv 0 = some (va_rf o0) → rm_get lv 1 = some (.int i1) → rm_get lv 2 = some (.int i2) → rm_get lv 7 = some (.int i7) → rm_get lv 9 = some (.int i9) → b363_183 L xs zf D w  o0 i1 i2 i7 i9 h = some r → dq L xs zf ah_M363 183 lv [] h (k + 1) r := by
  intro o0 i1 i2 i7 i9 lv h r G0 G1 G2 G7 G9 hh
  unfold b363_183 at hh
  refine dq_il 9 185 (by decide +kernel) rfl G9 ?_
  rcases di hh with ⟨q1, hh⟩ | ⟨q1, hh⟩
  · refine dq_1 .ne 16 true 201 q1 (by decide +kernel) ?_
    refine dq_aln 0 202 (by decide +kernel) rfl G0 ?_
    obtain ⟨p2, q3, hh⟩ := db hh
    refine dq_gR 63 20 [15] 205 (by decide +kernel) rfl q3 ?_
    refine dq_iln 1 206 (by decide +kernel) rfl G1 ?_
    refine dq_il 7 208 (by decide +kernel) rfl G7 ?_
    obtain ⟨h4, q5, hh⟩ := db hh
    refine dq_sI 209 (by decide +kernel) rfl q5 ?_
    refine dq_aln 0 210 (by decide +kernel) rfl G0 ?_
    refine dq_aln 0 211 (by decide +kernel) rfl G0 ?_
    obtain ⟨p6, q7, hh⟩ := db hh
    refine dq_gR 130 48 [15] 214 (by decide +kernel) rfl q7 ?_
    refine dq_il 7 216 (by decide +kernel) rfl G7 ?_
    obtain ⟨x8, q9, hh⟩ := db hh
    refine dq_aI 217 (by decide +kernel) rfl q9 ?_
    refine dq_S (.iconst (-1)) 1 [] 218 _ [.int (-1), .int x8, va_rf o0] (by decide +kernel) rfl ?_
    rcases di hh with ⟨q10, hh⟩ | ⟨q10, hh⟩
    · refine dq_2 .ne 7 true 225 q10 (by decide +kernel) ?_
      refine dq_aln 0 226 (by decide +kernel) rfl G0 ?_
      obtain ⟨p11, q12, hh⟩ := db hh
      refine dq_gR 84 30 [15] 229 (by decide +kernel) rfl q12 ?_
      refine dq_aln 0 230 (by decide +kernel) rfl G0 ?_
      obtain ⟨p13, q14, hh⟩ := db hh
      refine dq_gR 130 48 [15] 233 (by decide +kernel) rfl q14 ?_
      refine dq_il 7 235 (by decide +kernel) rfl G7 ?_
      obtain ⟨x15, q16, hh⟩ := db hh
      refine dq_aI 236 (by decide +kernel) rfl q16 ?_
      obtain ⟨x17, q18, hh⟩ := db hh
      refine dq_aI 237 (by decide +kernel) rfl q18 ?_
      exact c363_237 hD hz _ _ _ _ _  hh
    · refine dq_2 .ne 7 false 221 q10 (by decide +kernel) ?_
      refine dq_S (.iconst (-1)) 1 [] 222 _ [.int (-1), va_rf o0] (by decide +kernel) rfl ?_
      refine dq_S (.goto 15) 3 [] 237 _ [.int (-1), va_rf o0] (by decide +kernel) rfl ?_
      exact c363_237 hD hz _ _ _ _ _  hh
  · refine dq_1 .ne 16 false 188 q1 (by decide +kernel) ?_
    refine dq_aln 0 189 (by decide +kernel) rfl G0 ?_
    refine dq_S (.bipush 6) 2 [] 191 _ [.int 6, va_rf o0] (by decide +kernel) rfl ?_
    refine dq_aln 0 192 (by decide +kernel) rfl G0 ?_
    obtain ⟨p19, q20, hh⟩ := db hh
    refine dq_gR 54 17 [15] 195 (by decide +kernel) rfl q20 ?_
    refine dq_iln 2 196 (by decide +kernel) rfl G2 ?_
    obtain ⟨x21, q22, hh⟩ := db hh
    refine dq_aI 197 (by decide +kernel) rfl q22 ?_
    obtain ⟨x23, q24, hh⟩ := db hh
    obtain ⟨a25, q26, q24⟩ := db q24
    rw [dq_xI q24] at q26
    refine dq_cvi hD 456 347 5 2 [15] o0 [.int 6, .int x21] [] 200 [.int x23.1] (by decide +kernel) ap_347 ⟨⟨Nat.le_of_ble_eq_true rfl, by decide⟩, rfl, rfl⟩ (dq_ok8 [1, 1, 1] [] (dc_r (dc_i (dc_i dc_n))) dc_n (by decide +kernel)) (by decide +kernel) rfl q26 rfl ?_
    exact dq_retI (some .int) (by decide +kernel) rfl hh
def b363_181 (L : Nat) (xs : Nat → Int32) (zf : Value) (D : dD) (w : Nat) (o0 : Option Nat) (i1 : Int32) (i2 : Int32) (i7 : Int32) (s0 : Int32) (h : rm_H) : Option dR :=
  b363_183 L xs zf D w o0 i1 i2 i7 s0 h
theorem c363_181 {L : Nat} {xs : Nat → Int32} {zf : Value} {D : dD} {w k : Nat} (hD : dO L xs zf D k) (hz : zf.category = 1) : ∀ (o0 : Option Nat) (i1 : Int32) (i2 : Int32) (i7 : Int32) (s0 : Int32) (lv : rm_L) (h : rm_H) (r : dR), rm_get lv 0 = some (va_rf o0) → rm_get lv 1 = some (.int i1) → rm_get lv 2 = some (.int i2) → rm_get lv 7 = some (.int i7) → b363_181 L xs zf D w  o0 i1 i2 i7 s0 h = some r → dq L xs zf ah_M363 181 lv [.int s0] h (k + 1) r := by
  intro o0 i1 i2 i7 s0 lv h r G0 G1 G2 G7 hh
  unfold b363_181 at hh
  refine dq_is 9 183 (by decide +kernel) (by decide +kernel) ?_
  have g1 := dg_ne (i := 9) (u := .int s0) (by decide) (Or.inl (by decide)) G0
  have g2 := dg_ne (i := 9) (u := .int s0) (by decide) (Or.inl (by decide)) G1
  have g3 := dg_ne (i := 9) (u := .int s0) (by decide) (Or.inl (by decide)) G2
  have g4 := dg_ne (i := 9) (u := .int s0) (by decide) (Or.inl (by decide)) G7
  have g5 := dg_eq (lv) 9 (.int s0)
  exact c363_183 hD hz _ _ _ _ _ _ _ _ g1 g2 g3 g4 g5 hh
def b363_180 (L : Nat) (xs : Nat → Int32) (zf : Value) (D : dD) (w : Nat) (o0 : Option Nat) (i1 : Int32) (i2 : Int32) (i7 : Int32) (h : rm_H) : Option dR :=
  b363_181 L xs zf D w o0 i1 i2 i7 0 h
theorem c363_180 {L : Nat} {xs : Nat → Int32} {zf : Value} {D : dD} {w k : Nat} (hD : dO L xs zf D k) (hz : zf.category = 1) : ∀ (o0 : Option Nat) (i1 : Int32) (i2 : Int32) (i7 : Int32) (lv : rm_L) (h : rm_H) (r : dR), rm_get lv 0 = some (va_rf o0) → rm_get lv 1 = some (.int i1) → rm_get lv 2 = some (.int i2) → rm_get lv 7 = some (.int i7) → b363_180 L xs zf D w  o0 i1 i2 i7 h = some r → dq L xs zf ah_M363 180 lv [] h (k + 1) r := by
  intro o0 i1 i2 i7 lv h r G0 G1 G2 G7 hh
  unfold b363_180 at hh
  refine dq_S (.iconst 0) 1 [] 181 _ [.int 0] (by decide +kernel) rfl ?_
  exact c363_181 hD hz _ _ _ _ _ _ _ _ G0 G1 G2 G7 hh
def b363_167 (L : Nat) (xs : Nat → Int32) (zf : Value) (D : dD) (w : Nat) (o0 : Option Nat) (i1 : Int32) (i2 : Int32) (i7 : Int32) (h : rm_H) : Option dR :=
  ((dcV L xs D 365 [15] o0 [.int i7] h).bind dxI).bind fun x1 =>
  if mx_f1 .eq x1.1 = true then
    b363_180 L xs zf D w o0 i1 i2 i7 x1.2
  else
    b363_181 L xs zf D w o0 i1 i2 i7 1 x1.2
theorem c363_167 {L : Nat} {xs : Nat → Int32} {zf : Value} {D : dD} {w k : Nat} (hD : dO L xs zf D k) (hz : zf.category = 1) : ∀ (o0 : Option Nat) (i1 : Int32) (i2 : Int32) (i7 : Int32) (lv : rm_L) (h : rm_H) (r : dR), rm_get lv 0 = some (va_rf o0) → rm_get lv 1 = some (.int i1) → rm_get lv 2 = some (.int i2) → rm_get lv 7 = some (.int i7) → b363_167 L xs zf D w  o0 i1 i2 i7 h = some r → dq L xs zf ah_M363 167 lv [] h (k + 1) r := by
  intro o0 i1 i2 i7 lv h r G0 G1 G2 G7 hh
  unfold b363_167 at hh
  refine dq_aln 0 168 (by decide +kernel) rfl G0 ?_
  refine dq_il 7 170 (by decide +kernel) rfl G7 ?_
  obtain ⟨x1, q2, hh⟩ := db hh
  obtain ⟨a3, q4, q2⟩ := db q2
  rw [dq_xI q2] at q4
  refine dq_cvi hD 549 365 5 1 [15] o0 [.int i7] [] 173 [.int x1.1] (by decide +kernel) ap_365 ⟨⟨Nat.le_of_ble_eq_true rfl, by decide⟩, rfl, rfl⟩ (dq_ok8 [1, 1] [] (dc_r (dc_i dc_n)) dc_n (by decide +kernel)) (by decide +kernel) rfl q4 rfl ?_
  rcases di hh with ⟨q5, hh⟩ | ⟨q5, hh⟩
  · refine dq_1 .eq 7 true 180 q5 (by decide +kernel) ?_
    exact c363_180 hD hz _ _ _ _ _ _ _ G0 G1 G2 G7 hh
  · refine dq_1 .eq 7 false 176 q5 (by decide +kernel) ?_
    refine dq_S (.iconst 1) 1 [] 177 _ [.int 1] (by decide +kernel) rfl ?_
    refine dq_S (.goto 4) 3 [] 181 _ [.int 1] (by decide +kernel) rfl ?_
    exact c363_181 hD hz _ _ _ _ _ _ _ _ G0 G1 G2 G7 hh
def b363_145 (L : Nat) (xs : Nat → Int32) (zf : Value) (D : dD) (w : Nat) (o0 : Option Nat) (i1 : Int32) (i2 : Int32) (i5 : Int32) (i6 : Int32) (i7 : Int32) (i8 : Int32) (i9 : Int32) (h : rm_H) : Option dR :=
  if mx_f1 .eq i5 = true then
    b363_183 L xs zf D w o0 i1 i2 i7 i9 h
  else
    if mx_f1 .ne i6 = true then
      b363_183 L xs zf D w o0 i1 i2 i7 i9 h
    else
      if mx_f2 .eq i8 4 = true then
        b363_167 L xs zf D w o0 i1 i2 i7 h
      else
        if mx_f2 .ne i8 2 = true then
          b363_180 L xs zf D w o0 i1 i2 i7 h
        else
          b363_167 L xs zf D w o0 i1 i2 i7 h
theorem c363_145 {L : Nat} {xs : Nat → Int32} {zf : Value} {D : dD} {w k : Nat} (hD : dO L xs zf D k) (hz : zf.category = 1) : ∀ (o0 : Option Nat) (i1 : Int32) (i2 : Int32) (i5 : Int32) (i6 : Int32) (i7 : Int32) (i8 : Int32) (i9 : Int32) (lv : rm_L) (h : rm_H) (r : dR), rm_get lv 0 = some (va_rf o0) → rm_get lv 1 = some (.int i1) → rm_get lv 2 = some (.int i2) → rm_get lv 5 = some (.int i5) → rm_get lv 6 = some (.int i6) → rm_get lv 7 = some (.int i7) → rm_get lv 8 = some (.int i8) → rm_get lv 9 = some (.int i9) → b363_145 L xs zf D w  o0 i1 i2 i5 i6 i7 i8 i9 h = some r → dq L xs zf ah_M363 145 lv [] h (k + 1) r := by
  intro o0 i1 i2 i5 i6 i7 i8 i9 lv h r G0 G1 G2 G5 G6 G7 G8 G9 hh
  unfold b363_145 at hh
  refine dq_il 5 147 (by decide +kernel) rfl G5 ?_
  rcases di hh with ⟨q1, hh⟩ | ⟨q1, hh⟩
  · refine dq_1 .eq 36 true 183 q1 (by decide +kernel) ?_
    exact c363_183 hD hz _ _ _ _ _ _ _ _ G0 G1 G2 G7 G9 hh
  · refine dq_1 .eq 36 false 150 q1 (by decide +kernel) ?_
    refine dq_il 6 152 (by decide +kernel) rfl G6 ?_
    rcases di hh with ⟨q2, hh⟩ | ⟨q2, hh⟩
    · refine dq_1 .ne 31 true 183 q2 (by decide +kernel) ?_
      exact c363_183 hD hz _ _ _ _ _ _ _ _ G0 G1 G2 G7 G9 hh
    · refine dq_1 .ne 31 false 155 q2 (by decide +kernel) ?_
      refine dq_il 8 157 (by decide +kernel) rfl G8 ?_
      refine dq_S (.iconst 4) 1 [] 158 _ [.int 4, .int i8] (by decide +kernel) rfl ?_
      rcases di hh with ⟨q3, hh⟩ | ⟨q3, hh⟩
      · refine dq_2 .eq 9 true 167 q3 (by decide +kernel) ?_
        exact c363_167 hD hz _ _ _ _ _ _ _ G0 G1 G2 G7 hh
      · refine dq_2 .eq 9 false 161 q3 (by decide +kernel) ?_
        refine dq_il 8 163 (by decide +kernel) rfl G8 ?_
        refine dq_S (.iconst 2) 1 [] 164 _ [.int 2, .int i8] (by decide +kernel) rfl ?_
        rcases di hh with ⟨q4, hh⟩ | ⟨q4, hh⟩
        · refine dq_2 .ne 16 true 180 q4 (by decide +kernel) ?_
          exact c363_180 hD hz _ _ _ _ _ _ _ G0 G1 G2 G7 hh
        · refine dq_2 .ne 16 false 167 q4 (by decide +kernel) ?_
          exact c363_167 hD hz _ _ _ _ _ _ _ G0 G1 G2 G7 hh
def b363_143 (L : Nat) (xs : Nat → Int32) (zf : Value) (D : dD) (w : Nat) (o0 : Option Nat) (i1 : Int32) (i2 : Int32) (i5 : Int32) (i6 : Int32) (i7 : Int32) (i8 : Int32) (s0 : Int32) (h : rm_H) : Option dR :=
  b363_145 L xs zf D w o0 i1 i2 i5 i6 i7 i8 s0 h
theorem c363_143 {L : Nat} {xs : Nat → Int32} {zf : Value} {D : dD} {w k : Nat} (hD : dO L xs zf D k) (hz : zf.category = 1) : ∀ (o0 : Option Nat) (i1 : Int32) (i2 : Int32) (i5 : Int32) (i6 : Int32) (i7 : Int32) (i8 : Int32) (s0 : Int32) (lv : rm_L) (h : rm_H) (r : dR), rm_get lv 0 = some (va_rf o0) → rm_get lv 1 = some (.int i1) → rm_get lv 2 = some (.int i2) → rm_get lv 5 = some (.int i5) → rm_get lv 6 = some (.int i6) → rm_get lv 7 = some (.int i7) → rm_get lv 8 = some (.int i8) → b363_143 L xs zf D w  o0 i1 i2 i5 i6 i7 i8 s0 h = some r → dq L xs zf ah_M363 143 lv [.int s0] h (k + 1) r := by
  intro o0 i1 i2 i5 i6 i7 i8 s0 lv h r G0 G1 G2 G5 G6 G7 G8 hh
  unfold b363_143 at hh
  refine dq_is 9 145 (by decide +kernel) (by decide +kernel) ?_
  have g1 := dg_ne (i := 9) (u := .int s0) (by decide) (Or.inl (by decide)) G0
  have g2 := dg_ne (i := 9) (u := .int s0) (by decide) (Or.inl (by decide)) G1
  have g3 := dg_ne (i := 9) (u := .int s0) (by decide) (Or.inl (by decide)) G2
  have g4 := dg_ne (i := 9) (u := .int s0) (by decide) (Or.inl (by decide)) G5
  have g5 := dg_ne (i := 9) (u := .int s0) (by decide) (Or.inl (by decide)) G6
  have g6 := dg_ne (i := 9) (u := .int s0) (by decide) (Or.inl (by decide)) G7
  have g7 := dg_ne (i := 9) (u := .int s0) (by decide) (Or.inr rfl) G8
  have g8 := dg_eq (lv) 9 (.int s0)
  exact c363_145 hD hz _ _ _ _ _ _ _ _ _ _ _ g1 g2 g3 g4 g5 g6 g7 g8 hh
def b363_138 (L : Nat) (xs : Nat → Int32) (zf : Value) (D : dD) (w : Nat) (o0 : Option Nat) (i1 : Int32) (i2 : Int32) (i5 : Int32) (i6 : Int32) (i7 : Int32) (i8 : Int32) (h : rm_H) : Option dR :=
  b363_143 L xs zf D w o0 i1 i2 i5 i6 i7 i8 1 h
theorem c363_138 {L : Nat} {xs : Nat → Int32} {zf : Value} {D : dD} {w k : Nat} (hD : dO L xs zf D k) (hz : zf.category = 1) : ∀ (o0 : Option Nat) (i1 : Int32) (i2 : Int32) (i5 : Int32) (i6 : Int32) (i7 : Int32) (i8 : Int32) (lv : rm_L) (h : rm_H) (r : dR), rm_get lv 0 = some (va_rf o0) → rm_get lv 1 = some (.int i1) → rm_get lv 2 = some (.int i2) → rm_get lv 5 = some (.int i5) → rm_get lv 6 = some (.int i6) → rm_get lv 7 = some (.int i7) → rm_get lv 8 = some (.int i8) → b363_138 L xs zf D w  o0 i1 i2 i5 i6 i7 i8 h = some r → dq L xs zf ah_M363 138 lv [] h (k + 1) r := by
  intro o0 i1 i2 i5 i6 i7 i8 lv h r G0 G1 G2 G5 G6 G7 G8 hh
  unfold b363_138 at hh
  refine dq_S (.iconst 1) 1 [] 139 _ [.int 1] (by decide +kernel) rfl ?_
  refine dq_S (.goto 4) 3 [] 143 _ [.int 1] (by decide +kernel) rfl ?_
  exact c363_143 hD hz _ _ _ _ _ _ _ _ _ _ _ G0 G1 G2 G5 G6 G7 G8 hh
def b363_142 (L : Nat) (xs : Nat → Int32) (zf : Value) (D : dD) (w : Nat) (o0 : Option Nat) (i1 : Int32) (i2 : Int32) (i5 : Int32) (i6 : Int32) (i7 : Int32) (i8 : Int32) (h : rm_H) : Option dR :=
  b363_143 L xs zf D w o0 i1 i2 i5 i6 i7 i8 0 h
theorem c363_142 {L : Nat} {xs : Nat → Int32} {zf : Value} {D : dD} {w k : Nat} (hD : dO L xs zf D k) (hz : zf.category = 1) : ∀ (o0 : Option Nat) (i1 : Int32) (i2 : Int32) (i5 : Int32) (i6 : Int32) (i7 : Int32) (i8 : Int32) (lv : rm_L) (h : rm_H) (r : dR), rm_get lv 0 = some (va_rf o0) → rm_get lv 1 = some (.int i1) → rm_get lv 2 = some (.int i2) → rm_get lv 5 = some (.int i5) → rm_get lv 6 = some (.int i6) → rm_get lv 7 = some (.int i7) → rm_get lv 8 = some (.int i8) → b363_142 L xs zf D w  o0 i1 i2 i5 i6 i7 i8 h = some r → dq L xs zf ah_M363 142 lv [] h (k + 1) r := by
  intro o0 i1 i2 i5 i6 i7 i8 lv h r G0 G1 G2 G5 G6 G7 G8 hh
  unfold b363_142 at hh
  refine dq_S (.iconst 0) 1 [] 143 _ [.int 0] (by decide +kernel) rfl ?_
  exact c363_143 hD hz _ _ _ _ _ _ _ _ _ _ _ G0 G1 G2 G5 G6 G7 G8 hh
def b363_28 (L : Nat) (xs : Nat → Int32) (zf : Value) (D : dD) (w : Nat) (o0 : Option Nat) (i1 : Int32) (i2 : Int32) (i3 : Int32) (i4 : Int32) (s0 : Int32) (h : rm_H) : Option dR :=
  ((dcV L xs D 355 [15] o0 [.int i3] h).bind dxI).bind fun x7 =>
  (dgR L xs x7.2 23 [15] o0).bind fun p18 =>
  (daJ L xs x7.2 p18 i1).bind fun y20 =>
  ((dcV L xs D 364 [15] o0 [.int i4, .int 1, .long y20] x7.2).bind dxI).bind fun x22 =>
  if mx_f2 .ne x22.1 (-1) = true then
    (dgR L xs x22.2 18 [15] o0).bind fun p35 =>
    (daI L xs x22.2 p35 i1).bind fun x37 =>
    ((dcV L xs D 358 [15] o0 [.int i1, .int x22.1, .int x37] x22.2).bind dxI).bind fun x39 =>
    if mx_f1 .ne x39.1 = true then
      (dgR L xs x39.2 45 [15] o0).bind fun p44 =>
      (daI L xs x39.2 p44 x22.1).bind fun x46 =>
      ((D 290 [.int x7.1, .int x46] x39.2).bind dxI).bind fun x57 =>
      if mx_f1 .eq s0 = true then
        b363_145 L xs zf D w o0 i1 i2 s0 x7.1 x22.1 x46 x57.1 x57.2
      else
        if mx_f2 .ne x7.1 1 = true then
          b363_145 L xs zf D w o0 i1 i2 s0 x7.1 x22.1 x46 x57.1 x57.2
        else
          if mx_f2 .eq x46 4 = true then
            b363_138 L xs zf D w o0 i1 i2 s0 x7.1 x22.1 x46 x57.2
          else
            if mx_f2 .ne x46 2 = true then
              b363_142 L xs zf D w o0 i1 i2 s0 x7.1 x22.1 x46 x57.2
            else
              ((dcV L xs D 365 [15] o0 [.int x22.1] x57.2).bind dxI).bind fun x75 =>
              if mx_f1 .eq x75.1 = true then
                b363_142 L xs zf D w o0 i1 i2 s0 x7.1 x22.1 x46 x75.2
              else
                b363_138 L xs zf D w o0 i1 i2 s0 x7.1 x22.1 x46 x75.2
    else
      drI (some .int) (-1) x39.2
  else
    (dgR L xs x22.2 18 [15] o0).bind fun p80 =>
    (daI L xs x22.2 p80 i1).bind fun x82 =>
    ((dcV L xs D 347 [15] o0 [.int 3, .int x82] x22.2).bind dxI).bind fun x84 =>
    drI (some .int) x84.1 x84.2
theorem c363_28 {L : Nat} {xs : Nat → Int32} {zf : Value} {D : dD} {w k : Nat} (hD : dO L xs zf D k) (hz : zf.category = 1) : ∀ (o0 : Option Nat) (i1 : Int32) (i2 : Int32) (i3 : Int32) (i4 : Int32) (s0 : Int32) (lv : rm_L) (h : rm_H) (r : dR), rm_get lv 0 = some (va_rf o0) → rm_get lv 1 = some (.int i1) → rm_get lv 2 = some (.int i2) → rm_get lv 3 = some (.int i3) → rm_get lv 4 = some (.int i4) → b363_28 L xs zf D w  o0 i1 i2 i3 i4 s0 h = some r → dq L xs zf ah_M363 28 lv [.int s0] h (k + 1) r := by
  intro o0 i1 i2 i3 i4 s0 lv h r G0 G1 G2 G3 G4 hh
  unfold b363_28 at hh
  refine dq_is 5 30 (by decide +kernel) (by decide +kernel) ?_
  have g1 := dg_ne (i := 5) (u := .int s0) (by decide) (Or.inl (by decide)) G0
  have g2 := dg_ne (i := 5) (u := .int s0) (by decide) (Or.inl (by decide)) G1
  have g3 := dg_ne (i := 5) (u := .int s0) (by decide) (Or.inl (by decide)) G2
  have g4 := dg_ne (i := 5) (u := .int s0) (by decide) (Or.inl (by decide)) G3
  have g5 := dg_ne (i := 5) (u := .int s0) (by decide) (Or.inr rfl) G4
  have g6 := dg_eq (lv) 5 (.int s0)
  refine dq_aln 0 31 (by decide +kernel) rfl g1 ?_
  refine dq_iln 3 32 (by decide +kernel) rfl g4 ?_
  obtain ⟨x7, q8, hh⟩ := db hh
  obtain ⟨a9, q10, q8⟩ := db q8
  rw [dq_xI q8] at q10
  refine dq_cvi hD 542 355 5 1 [15] o0 [.int i3] [] 35 [.int x7.1] (by decide +kernel) ap_355 ⟨⟨Nat.le_of_ble_eq_true rfl, by decide⟩, rfl, rfl⟩ (dq_ok8 [1, 1] [] (dc_r (dc_i dc_n)) dc_n (by decide +kernel)) (by decide +kernel) rfl q10 rfl ?_
  refine dq_is 6 37 (by decide +kernel) (by decide +kernel) ?_
  have g11 := dg_ne (i := 6) (u := .int x7.1) (by decide) (Or.inl (by decide)) g1
  have g12 := dg_ne (i := 6) (u := .int x7.1) (by decide) (Or.inl (by decide)) g2
  have g13 := dg_ne (i := 6) (u := .int x7.1) (by decide) (Or.inl (by decide)) g3
  have g14 := dg_ne (i := 6) (u := .int x7.1) (by decide) (Or.inl (by decide)) g4
  have g15 := dg_ne (i := 6) (u := .int x7.1) (by decide) (Or.inl (by decide)) g5
  have g16 := dg_ne (i := 6) (u := .int x7.1) (by decide) (Or.inr rfl) g6
  have g17 := dg_eq (rm_set1 (lv) 5 (.int s0)) 6 (.int x7.1)
  refine dq_aln 0 38 (by decide +kernel) rfl g11 ?_
  refine dq_il 4 40 (by decide +kernel) rfl g15 ?_
  refine dq_S (.iconst 1) 1 [] 41 _ [.int 1, .int i4, va_rf o0] (by decide +kernel) rfl ?_
  refine dq_aln 0 42 (by decide +kernel) rfl g11 ?_
  obtain ⟨p18, q19, hh⟩ := db hh
  refine dq_gR 72 23 [15] 45 (by decide +kernel) rfl q19 ?_
  refine dq_iln 1 46 (by decide +kernel) rfl g12 ?_
  obtain ⟨y20, q21, hh⟩ := db hh
  refine dq_aJ 47 (by decide +kernel) rfl q21 ?_
  obtain ⟨x22, q23, hh⟩ := db hh
  obtain ⟨a24, q25, q23⟩ := db q23
  rw [dq_xI q23] at q25
  refine dq_cvi hD 545 364 5 3 [15] o0 [.int i4, .int 1, .long y20] [] 50 [.int x22.1] (by decide +kernel) ap_364 ⟨⟨Nat.le_of_ble_eq_true rfl, by decide⟩, rfl, rfl⟩ (dq_ok8 [1, 1, 1, 2] [] (dc_r (dc_i (dc_i (dc_j dc_n)))) dc_n (by decide +kernel)) (by decide +kernel) rfl q25 rfl ?_
  refine dq_is 7 52 (by decide +kernel) (by decide +kernel) ?_
  have g26 := dg_ne (i := 7) (u := .int x22.1) (by decide) (Or.inl (by decide)) g11
  have g27 := dg_ne (i := 7) (u := .int x22.1) (by decide) (Or.inl (by decide)) g12
  have g28 := dg_ne (i := 7) (u := .int x22.1) (by decide) (Or.inl (by decide)) g13
  have g29 := dg_ne (i := 7) (u := .int x22.1) (by decide) (Or.inl (by decide)) g14
  have g30 := dg_ne (i := 7) (u := .int x22.1) (by decide) (Or.inl (by decide)) g15
  have g31 := dg_ne (i := 7) (u := .int x22.1) (by decide) (Or.inl (by decide)) g16
  have g32 := dg_ne (i := 7) (u := .int x22.1) (by decide) (Or.inr rfl) g17
  have g33 := dg_eq (rm_set1 (rm_set1 (lv) 5 (.int s0)) 6 (.int x7.1)) 7 (.int x22.1)
  refine dq_il 7 54 (by decide +kernel) rfl g33 ?_
  refine dq_S (.iconst (-1)) 1 [] 55 _ [.int (-1), .int x22.1] (by decide +kernel) rfl ?_
  rcases di hh with ⟨q34, hh⟩ | ⟨q34, hh⟩
  · refine dq_2 .ne 15 true 70 q34 (by decide +kernel) ?_
    refine dq_aln 0 71 (by decide +kernel) rfl g26 ?_
    refine dq_iln 1 72 (by decide +kernel) rfl g27 ?_
    refine dq_il 7 74 (by decide +kernel) rfl g33 ?_
    refine dq_aln 0 75 (by decide +kernel) rfl g26 ?_
    obtain ⟨p35, q36, hh⟩ := db hh
    refine dq_gR 57 18 [15] 78 (by decide +kernel) rfl q36 ?_
    refine dq_iln 1 79 (by decide +kernel) rfl g27 ?_
    obtain ⟨x37, q38, hh⟩ := db hh
    refine dq_aI 80 (by decide +kernel) rfl q38 ?_
    obtain ⟨x39, q40, hh⟩ := db hh
    obtain ⟨a41, q42, q40⟩ := db q40
    rw [dq_xI q40] at q42
    refine dq_cvi hD 511 358 5 3 [15] o0 [.int i1, .int x22.1, .int x37] [] 83 [.int x39.1] (by decide +kernel) ap_358 ⟨⟨Nat.le_of_ble_eq_true rfl, by decide⟩, rfl, rfl⟩ (dq_ok8 [1, 1, 1, 1] [] (dc_r (dc_i (dc_i (dc_i dc_n)))) dc_n (by decide +kernel)) (by decide +kernel) rfl q42 rfl ?_
    rcases di hh with ⟨q43, hh⟩ | ⟨q43, hh⟩
    · refine dq_1 .ne 5 true 88 q43 (by decide +kernel) ?_
      refine dq_aln 0 89 (by decide +kernel) rfl g26 ?_
      obtain ⟨p44, q45, hh⟩ := db hh
      refine dq_gR 121 45 [15] 92 (by decide +kernel) rfl q45 ?_
      refine dq_il 7 94 (by decide +kernel) rfl g33 ?_
      obtain ⟨x46, q47, hh⟩ := db hh
      refine dq_aI 95 (by decide +kernel) rfl q47 ?_
      refine dq_is 8 97 (by decide +kernel) (by decide +kernel) ?_
      have g48 := dg_ne (i := 8) (u := .int x46) (by decide) (Or.inl (by decide)) g26
      have g49 := dg_ne (i := 8) (u := .int x46) (by decide) (Or.inl (by decide)) g27
      have g50 := dg_ne (i := 8) (u := .int x46) (by decide) (Or.inl (by decide)) g28
      have g51 := dg_ne (i := 8) (u := .int x46) (by decide) (Or.inl (by decide)) g29
      have g52 := dg_ne (i := 8) (u := .int x46) (by decide) (Or.inl (by decide)) g30
      have g53 := dg_ne (i := 8) (u := .int x46) (by decide) (Or.inl (by decide)) g31
      have g54 := dg_ne (i := 8) (u := .int x46) (by decide) (Or.inl (by decide)) g32
      have g55 := dg_ne (i := 8) (u := .int x46) (by decide) (Or.inr rfl) g33
      have g56 := dg_eq (rm_set1 (rm_set1 (rm_set1 (lv) 5 (.int s0)) 6 (.int x7.1)) 7 (.int x22.1)) 8 (.int x46)
      refine dq_il 6 99 (by decide +kernel) rfl g54 ?_
      refine dq_il 8 101 (by decide +kernel) rfl g56 ?_
      obtain ⟨x57, q58, hh⟩ := db hh
      obtain ⟨a59, q60, q58⟩ := db q58
      rw [dq_xI q58] at q60
      refine dq_cst hD 421 290 0 2 [.int x7.1, .int x46] [] 104 [.int x57.1] (by decide +kernel) ap_290 ⟨⟨Nat.le_of_ble_eq_true rfl, by decide⟩, rfl, rfl⟩ (dq_ok8 [1, 1] [] (dc_i (dc_i dc_n)) dc_n (by decide +kernel)) (by decide +kernel) rfl q60 rfl ?_
      refine dq_is 9 106 (by decide +kernel) (by decide +kernel) ?_
      have g61 := dg_ne (i := 9) (u := .int x57.1) (by decide) (Or.inl (by decide)) g48
      have g62 := dg_ne (i := 9) (u := .int x57.1) (by decide) (Or.inl (by decide)) g49
      have g63 := dg_ne (i := 9) (u := .int x57.1) (by decide) (Or.inl (by decide)) g50
      have g64 := dg_ne (i := 9) (u := .int x57.1) (by decide) (Or.inl (by decide)) g51
      have g65 := dg_ne (i := 9) (u := .int x57.1) (by decide) (Or.inl (by decide)) g52
      have g66 := dg_ne (i := 9) (u := .int x57.1) (by decide) (Or.inl (by decide)) g53
      have g67 := dg_ne (i := 9) (u := .int x57.1) (by decide) (Or.inl (by decide)) g54
      have g68 := dg_ne (i := 9) (u := .int x57.1) (by decide) (Or.inl (by decide)) g55
      have g69 := dg_ne (i := 9) (u := .int x57.1) (by decide) (Or.inr rfl) g56
      have g70 := dg_eq (rm_set1 (rm_set1 (rm_set1 (rm_set1 (lv) 5 (.int s0)) 6 (.int x7.1)) 7 (.int x22.1)) 8 (.int x46)) 9 (.int x57.1)
      refine dq_il 5 108 (by decide +kernel) rfl g66 ?_
      rcases di hh with ⟨q71, hh⟩ | ⟨q71, hh⟩
      · refine dq_1 .eq 37 true 145 q71 (by decide +kernel) ?_
        exact c363_145 hD hz _ _ _ _ _ _ _ _ _ _ _ g61 g62 g63 g66 g67 g68 g69 g70 hh
      · refine dq_1 .eq 37 false 111 q71 (by decide +kernel) ?_
        refine dq_il 6 113 (by decide +kernel) rfl g67 ?_
        refine dq_S (.iconst 1) 1 [] 114 _ [.int 1, .int x7.1] (by decide +kernel) rfl ?_
        rcases di hh with ⟨q72, hh⟩ | ⟨q72, hh⟩
        · refine dq_2 .ne 31 true 145 q72 (by decide +kernel) ?_
          exact c363_145 hD hz _ _ _ _ _ _ _ _ _ _ _ g61 g62 g63 g66 g67 g68 g69 g70 hh
        · refine dq_2 .ne 31 false 117 q72 (by decide +kernel) ?_
          refine dq_il 8 119 (by decide +kernel) rfl g69 ?_
          refine dq_S (.iconst 4) 1 [] 120 _ [.int 4, .int x46] (by decide +kernel) rfl ?_
          rcases di hh with ⟨q73, hh⟩ | ⟨q73, hh⟩
          · refine dq_2 .eq 18 true 138 q73 (by decide +kernel) ?_
            exact c363_138 hD hz _ _ _ _ _ _ _ _ _ _ g61 g62 g63 g66 g67 g68 g69 hh
          · refine dq_2 .eq 18 false 123 q73 (by decide +kernel) ?_
            refine dq_il 8 125 (by decide +kernel) rfl g69 ?_
            refine dq_S (.iconst 2) 1 [] 126 _ [.int 2, .int x46] (by decide +kernel) rfl ?_
            rcases di hh with ⟨q74, hh⟩ | ⟨q74, hh⟩
            · refine dq_2 .ne 16 true 142 q74 (by decide +kernel) ?_
              exact c363_142 hD hz _ _ _ _ _ _ _ _ _ _ g61 g62 g63 g66 g67 g68 g69 hh
            · refine dq_2 .ne 16 false 129 q74 (by decide +kernel) ?_
              refine dq_aln 0 130 (by decide +kernel) rfl g61 ?_
              refine dq_il 7 132 (by decide +kernel) rfl g68 ?_
              obtain ⟨x75, q76, hh⟩ := db hh
              obtain ⟨a77, q78, q76⟩ := db q76
              rw [dq_xI q76] at q78
              refine dq_cvi hD 549 365 5 1 [15] o0 [.int x22.1] [] 135 [.int x75.1] (by decide +kernel) ap_365 ⟨⟨Nat.le_of_ble_eq_true rfl, by decide⟩, rfl, rfl⟩ (dq_ok8 [1, 1] [] (dc_r (dc_i dc_n)) dc_n (by decide +kernel)) (by decide +kernel) rfl q78 rfl ?_
              rcases di hh with ⟨q79, hh⟩ | ⟨q79, hh⟩
              · refine dq_1 .eq 7 true 142 q79 (by decide +kernel) ?_
                exact c363_142 hD hz _ _ _ _ _ _ _ _ _ _ g61 g62 g63 g66 g67 g68 g69 hh
              · refine dq_1 .eq 7 false 138 q79 (by decide +kernel) ?_
                exact c363_138 hD hz _ _ _ _ _ _ _ _ _ _ g61 g62 g63 g66 g67 g68 g69 hh
    · refine dq_1 .ne 5 false 86 q43 (by decide +kernel) ?_
      refine dq_S (.iconst (-1)) 1 [] 87 _ [.int (-1)] (by decide +kernel) rfl ?_
      exact dq_retI (some .int) (by decide +kernel) rfl hh
  · refine dq_2 .ne 15 false 58 q34 (by decide +kernel) ?_
    refine dq_aln 0 59 (by decide +kernel) rfl g26 ?_
    refine dq_S (.iconst 3) 1 [] 60 _ [.int 3, va_rf o0] (by decide +kernel) rfl ?_
    refine dq_aln 0 61 (by decide +kernel) rfl g26 ?_
    obtain ⟨p80, q81, hh⟩ := db hh
    refine dq_gR 57 18 [15] 64 (by decide +kernel) rfl q81 ?_
    refine dq_iln 1 65 (by decide +kernel) rfl g27 ?_
    obtain ⟨x82, q83, hh⟩ := db hh
    refine dq_aI 66 (by decide +kernel) rfl q83 ?_
    obtain ⟨x84, q85, hh⟩ := db hh
    obtain ⟨a86, q87, q85⟩ := db q85
    rw [dq_xI q85] at q87
    refine dq_cvi hD 456 347 5 2 [15] o0 [.int 3, .int x82] [] 69 [.int x84.1] (by decide +kernel) ap_347 ⟨⟨Nat.le_of_ble_eq_true rfl, by decide⟩, rfl, rfl⟩ (dq_ok8 [1, 1, 1] [] (dc_r (dc_i (dc_i dc_n))) dc_n (by decide +kernel)) (by decide +kernel) rfl q87 rfl ?_
    exact dq_retI (some .int) (by decide +kernel) rfl hh
def b363_0 (L : Nat) (xs : Nat → Int32) (zf : Value) (D : dD) (w : Nat) (o0 : Option Nat) (i1 : Int32) (i2 : Int32) (i3 : Int32) (h : rm_H) : Option dR :=
  ((dcV L xs D 354 [15] o0 [.int i2, .int i3] h).bind dxI).bind fun x1 =>
  if mx_f2 .ne x1.1 (-1) = true then
    (dgI L xs x1.2 60 [15] o0).bind fun x11 =>
    if mx_f1 .le x11 = true then
      b363_28 L xs zf D w o0 i1 i2 i3 x1.1 0 x1.2
    else
      b363_28 L xs zf D w o0 i1 i2 i3 x1.1 1 x1.2
  else
    drI (some .int) (-1) x1.2
theorem c363_0 {L : Nat} {xs : Nat → Int32} {zf : Value} {D : dD} {w k : Nat} (hD : dO L xs zf D k) (hz : zf.category = 1) : ∀ (o0 : Option Nat) (i1 : Int32) (i2 : Int32) (i3 : Int32) (lv : rm_L) (h : rm_H) (r : dR), rm_get lv 0 = some (va_rf o0) → rm_get lv 1 = some (.int i1) → rm_get lv 2 = some (.int i2) → rm_get lv 3 = some (.int i3) → b363_0 L xs zf D w  o0 i1 i2 i3 h = some r → dq L xs zf ah_M363 0 lv [] h (k + 1) r := by
  intro o0 i1 i2 i3 lv h r G0 G1 G2 G3 hh
  unfold b363_0 at hh
  refine dq_aln 0 1 (by decide +kernel) rfl G0 ?_
  refine dq_iln 2 2 (by decide +kernel) rfl G2 ?_
  refine dq_iln 3 3 (by decide +kernel) rfl G3 ?_
  obtain ⟨x1, q2, hh⟩ := db hh
  obtain ⟨a3, q4, q2⟩ := db q2
  rw [dq_xI q2] at q4
  refine dq_cvi hD 535 354 5 2 [15] o0 [.int i2, .int i3] [] 6 [.int x1.1] (by decide +kernel) ap_354 ⟨⟨Nat.le_of_ble_eq_true rfl, by decide⟩, rfl, rfl⟩ (dq_ok8 [1, 1, 1] [] (dc_r (dc_i (dc_i dc_n))) dc_n (by decide +kernel)) (by decide +kernel) rfl q4 rfl ?_
  refine dq_is 4 8 (by decide +kernel) (by decide +kernel) ?_
  have g5 := dg_ne (i := 4) (u := .int x1.1) (by decide) (Or.inl (by decide)) G0
  have g6 := dg_ne (i := 4) (u := .int x1.1) (by decide) (Or.inl (by decide)) G1
  have g7 := dg_ne (i := 4) (u := .int x1.1) (by decide) (Or.inl (by decide)) G2
  have g8 := dg_ne (i := 4) (u := .int x1.1) (by decide) (Or.inr rfl) G3
  have g9 := dg_eq (lv) 4 (.int x1.1)
  refine dq_il 4 10 (by decide +kernel) rfl g9 ?_
  refine dq_S (.iconst (-1)) 1 [] 11 _ [.int (-1), .int x1.1] (by decide +kernel) rfl ?_
  rcases di hh with ⟨q10, hh⟩ | ⟨q10, hh⟩
  · refine dq_2 .ne 5 true 16 q10 (by decide +kernel) ?_
    refine dq_aln 0 17 (by decide +kernel) rfl g5 ?_
    obtain ⟨x11, q12, hh⟩ := db hh
    refine dq_gI 443 60 [15] 20 (by decide +kernel) rfl q12 ?_
    rcases di hh with ⟨q13, hh⟩ | ⟨q13, hh⟩
    · refine dq_1 .le 7 true 27 q13 (by decide +kernel) ?_
      refine dq_S (.iconst 0) 1 [] 28 _ [.int 0] (by decide +kernel) rfl ?_
      exact c363_28 hD hz _ _ _ _ _ _ _ _ _ g5 g6 g7 g8 g9 hh
    · refine dq_1 .le 7 false 23 q13 (by decide +kernel) ?_
      refine dq_S (.iconst 1) 1 [] 24 _ [.int 1] (by decide +kernel) rfl ?_
      refine dq_S (.goto 4) 3 [] 28 _ [.int 1] (by decide +kernel) rfl ?_
      exact c363_28 hD hz _ _ _ _ _ _ _ _ _ g5 g6 g7 g8 g9 hh
  · refine dq_2 .ne 5 false 14 q10 (by decide +kernel) ?_
    refine dq_S (.iconst (-1)) 1 [] 15 _ [.int (-1)] (by decide +kernel) rfl ?_
    exact dq_retI (some .int) (by decide +kernel) rfl hh
def f363 (L : Nat) (xs : Nat → Int32) (zf : Value) (D : dD) (w : Nat) (As : List Value) (h : rm_H) : Option dR := match As with
  | [v0, .int i1, .int i2, .int i3] => (rm_rf v0).bind fun o0 => b363_0 L xs zf D w o0 i1 i2 i3 h
  | _ => none
theorem d363 {L : Nat} {xs : Nat → Int32} {zf : Value} {D : dD} {w k : Nat} (hD : dO L xs zf D k) (hz : zf.category = 1) (As : List Value) (h : rm_H) (r : dR) (hh : f363 L xs zf D w As h = some r) : dq L xs zf ah_M363 0 (lv_args 0 As) [] h (k + 1) r := by
  unfold f363 at hh
  split at hh
  · obtain ⟨o0, e0, hb0⟩ := db hh
    have e0 := rm_rf_v _ _ e0
    subst e0
    refine c363_0 hD hz _ _ _ _ _ _ _ ?_ ?_ ?_ ?_ hb0
    all_goals (simp only [la_r, la_i, la_j]; rfl)
  · cases hh
def b364_49 (L : Nat) (xs : Nat → Int32) (zf : Value) (D : dD) (w : Nat) (K10 : Option Nat → Int32 → Int32 → Int64 → Int32 → rm_H → Option dR) (o0 : Option Nat) (i1 : Int32) (i2 : Int32) (j3 : Int64) (i5 : Int32) (h : rm_H) : Option dR :=
  K10 o0 i1 i2 j3 (i5 + 1) h
theorem c364_49 {L : Nat} {xs : Nat → Int32} {zf : Value} {D : dD} {w k : Nat} {K10 : Option Nat → Int32 → Int32 → Int64 → Int32 → rm_H → Option dR} (hD : dO L xs zf D k) (hz : zf.category = 1) (hK10 : ∀ (o0 : Option Nat) (i1 : Int32) (i2 : Int32) (j3 : Int64) (i5 : Int32) (lv : rm_L) (h : rm_H) (r : dR), rm_get lv 0 = some (va_rf o0) → rm_get lv 1 = some (.int i1) → rm_get lv 2 = some (.int i2) → rm_get lv 3 = some (.long j3) → rm_get lv 5 = some (.int i5) → K10 o0 i1 i2 j3 i5 h = some r → dq L xs zf ah_M364 10 lv [] h (k + 1) r) : ∀ (o0 : Option Nat) (i1 : Int32) (i2 : Int32) (j3 : Int64) (i5 : Int32) (lv : rm_L) (h : rm_H) (r : dR), rm_get lv 0 = some (va_rf o0) → rm_get lv 1 = some (.int i1) → rm_get lv 2 = some (.int i2) → rm_get lv 3 = some (.long j3) → rm_get lv 5 = some (.int i5) → b364_49 L xs zf D w K10  o0 i1 i2 j3 i5 h = some r → dq L xs zf ah_M364 49 lv [] h (k + 1) r := by
  intro o0 i1 i2 j3 i5 lv h r G0 G1 G2 G3 G5 hh
  unfold b364_49 at hh
  refine dq_incy 5 1 1 52 (by decide +kernel) ⟨rfl, by decide +kernel, by decide +kernel⟩ G5 ?_
  have g1 := dg_ne (i := 5) (u := .int (i5 + 1)) (by decide) (Or.inl (by decide)) G0
  have g2 := dg_ne (i := 5) (u := .int (i5 + 1)) (by decide) (Or.inl (by decide)) G1
  have g3 := dg_ne (i := 5) (u := .int (i5 + 1)) (by decide) (Or.inl (by decide)) G2
  have g4 := dg_ne (i := 5) (u := .int (i5 + 1)) (by decide) (Or.inl (by decide)) G3
  have g5 := dg_eq (lv) 5 (.int (i5 + 1))
  refine dq_S (.goto (-42)) 3 [] 10 _ [] (by decide +kernel) rfl ?_
  exact hK10 _ _ _ _ _ _ _ _ g1 g2 g3 g4 g5 hh
def b364_10 (L : Nat) (xs : Nat → Int32) (zf : Value) (D : dD) (w : Nat) : Nat → Option Nat → Int32 → Int32 → Int64 → Int32 → rm_H → Option dR
  | 0, _, _, _, _, _, _ => none
  | n + 1, o0, i1, i2, j3, i5, h =>
    (dgR L xs h 36 [15] o0).bind fun p1 =>
    (daI L xs h p1 (i1 + 1)).bind fun x3 =>
    if mx_f2 .ge i5 x3 = true then
      drI (some .int) (-1) h
    else
      (dgR L xs h 43 [15] o0).bind fun p6 =>
      (daI L xs h p6 i5).bind fun x8 =>
      if mx_f2 .ne x8 i2 = true then
        b364_49 L xs zf D w (b364_10 L xs zf D w n) o0 i1 i2 j3 i5 h
      else
        (dgR L xs h 51 [15] o0).bind fun p11 =>
        (daJ L xs h p11 i5).bind fun y13 =>
        if mx_f1 .ne (lg_cmp y13 j3) = true then
          b364_49 L xs zf D w (b364_10 L xs zf D w n) o0 i1 i2 j3 i5 h
        else
          drI (some .int) i5 h
theorem c364_10 {L : Nat} {xs : Nat → Int32} {zf : Value} {D : dD} {w k : Nat} (hD : dO L xs zf D k) (hz : zf.category = 1) : ∀ (n : Nat) (o0 : Option Nat) (i1 : Int32) (i2 : Int32) (j3 : Int64) (i5 : Int32) (lv : rm_L) (h : rm_H) (r : dR), rm_get lv 0 = some (va_rf o0) → rm_get lv 1 = some (.int i1) → rm_get lv 2 = some (.int i2) → rm_get lv 3 = some (.long j3) → rm_get lv 5 = some (.int i5) → b364_10 L xs zf D w n  o0 i1 i2 j3 i5 h = some r → dq L xs zf ah_M364 10 lv [] h (k + 1) r := by
  intro n
  induction n with
  | zero =>
    intro o0 i1 i2 j3 i5 lv h r G0 G1 G2 G3 G5 hh
    cases hh
  | succ n ih =>
    intro o0 i1 i2 j3 i5 lv h r G0 G1 G2 G3 G5 hh
    rw [b364_10] at hh
    refine dq_il 5 12 (by decide +kernel) rfl G5 ?_
    refine dq_aln 0 13 (by decide +kernel) rfl G0 ?_
    obtain ⟨p1, q2, hh⟩ := db hh
    refine dq_gR 99 36 [15] 16 (by decide +kernel) rfl q2 ?_
    refine dq_iln 1 17 (by decide +kernel) rfl G1 ?_
    refine dq_S (.iconst 1) 1 [] 18 _ [.int 1, .int i1, va_rf p1, .int i5] (by decide +kernel) rfl ?_
    refine dq_S (.iadd) 1 [] 19 _ [.int (i1 + 1), va_rf p1, .int i5] (by decide +kernel) rfl ?_
    obtain ⟨x3, q4, hh⟩ := db hh
    refine dq_aI 20 (by decide +kernel) rfl q4 ?_
    rcases di hh with ⟨q5, hh⟩ | ⟨q5, hh⟩
    · refine dq_2 .ge 35 true 55 q5 (by decide +kernel) ?_
      refine dq_S (.iconst (-1)) 1 [] 56 _ [.int (-1)] (by decide +kernel) rfl ?_
      exact dq_retI (some .int) (by decide +kernel) rfl hh
    · refine dq_2 .ge 35 false 23 q5 (by decide +kernel) ?_
      refine dq_aln 0 24 (by decide +kernel) rfl G0 ?_
      obtain ⟨p6, q7, hh⟩ := db hh
      refine dq_gR 115 43 [15] 27 (by decide +kernel) rfl q7 ?_
      refine dq_il 5 29 (by decide +kernel) rfl G5 ?_
      obtain ⟨x8, q9, hh⟩ := db hh
      refine dq_aI 30 (by decide +kernel) rfl q9 ?_
      refine dq_iln 2 31 (by decide +kernel) rfl G2 ?_
      rcases di hh with ⟨q10, hh⟩ | ⟨q10, hh⟩
      · refine dq_2 .ne 18 true 49 q10 (by decide +kernel) ?_
        exact c364_49 hD hz ih _ _ _ _ _ _ _ _ G0 G1 G2 G3 G5 hh
      · refine dq_2 .ne 18 false 34 q10 (by decide +kernel) ?_
        refine dq_aln 0 35 (by decide +kernel) rfl G0 ?_
        obtain ⟨p11, q12, hh⟩ := db hh
        refine dq_gR 139 51 [15] 38 (by decide +kernel) rfl q12 ?_
        refine dq_il 5 40 (by decide +kernel) rfl G5 ?_
        obtain ⟨y13, q14, hh⟩ := db hh
        refine dq_aJ 41 (by decide +kernel) rfl q14 ?_
        refine dq_lln 3 42 (by decide +kernel) rfl G3 ?_
        refine dq_S (.lcmp) 1 [] 43 _ [.int (lg_cmp y13 j3)] (by decide +kernel) rfl ?_
        rcases di hh with ⟨q15, hh⟩ | ⟨q15, hh⟩
        · refine dq_1 .ne 6 true 49 q15 (by decide +kernel) ?_
          exact c364_49 hD hz ih _ _ _ _ _ _ _ _ G0 G1 G2 G3 G5 hh
        · refine dq_1 .ne 6 false 46 q15 (by decide +kernel) ?_
          refine dq_il 5 48 (by decide +kernel) rfl G5 ?_
          exact dq_retI (some .int) (by decide +kernel) rfl hh
def b364_0 (L : Nat) (xs : Nat → Int32) (zf : Value) (D : dD) (w : Nat) (o0 : Option Nat) (i1 : Int32) (i2 : Int32) (j3 : Int64) (h : rm_H) : Option dR :=
  (dgR L xs h 36 [15] o0).bind fun p1 =>
  (daI L xs h p1 i1).bind fun x3 =>
  b364_10 L xs zf D w w o0 i1 i2 j3 (x3 + 1) h
theorem c364_0 {L : Nat} {xs : Nat → Int32} {zf : Value} {D : dD} {w k : Nat} (hD : dO L xs zf D k) (hz : zf.category = 1) : ∀ (o0 : Option Nat) (i1 : Int32) (i2 : Int32) (j3 : Int64) (lv : rm_L) (h : rm_H) (r : dR), rm_get lv 0 = some (va_rf o0) → rm_get lv 1 = some (.int i1) → rm_get lv 2 = some (.int i2) → rm_get lv 3 = some (.long j3) → b364_0 L xs zf D w  o0 i1 i2 j3 h = some r → dq L xs zf ah_M364 0 lv [] h (k + 1) r := by
  intro o0 i1 i2 j3 lv h r G0 G1 G2 G3 hh
  unfold b364_0 at hh
  refine dq_aln 0 1 (by decide +kernel) rfl G0 ?_
  obtain ⟨p1, q2, hh⟩ := db hh
  refine dq_gR 99 36 [15] 4 (by decide +kernel) rfl q2 ?_
  refine dq_iln 1 5 (by decide +kernel) rfl G1 ?_
  obtain ⟨x3, q4, hh⟩ := db hh
  refine dq_aI 6 (by decide +kernel) rfl q4 ?_
  refine dq_S (.iconst 1) 1 [] 7 _ [.int 1, .int x3] (by decide +kernel) rfl ?_
  refine dq_S (.iadd) 1 [] 8 _ [.int (x3 + 1)] (by decide +kernel) rfl ?_
  refine dq_is 5 10 (by decide +kernel) (by decide +kernel) ?_
  have g5 := dg_ne (i := 5) (u := .int (x3 + 1)) (by decide) (Or.inl (by decide)) G0
  have g6 := dg_ne (i := 5) (u := .int (x3 + 1)) (by decide) (Or.inl (by decide)) G1
  have g7 := dg_ne (i := 5) (u := .int (x3 + 1)) (by decide) (Or.inl (by decide)) G2
  have g8 := dg_ne (i := 5) (u := .int (x3 + 1)) (by decide) (Or.inl (by decide)) G3
  have g9 := dg_eq (lv) 5 (.int (x3 + 1))
  exact c364_10 hD hz _ _ _ _ _ _ _ _ _ g5 g6 g7 g8 g9 hh
def f364 (L : Nat) (xs : Nat → Int32) (zf : Value) (D : dD) (w : Nat) (As : List Value) (h : rm_H) : Option dR := match As with
  | [v0, .int i1, .int i2, .long j3] => (rm_rf v0).bind fun o0 => b364_0 L xs zf D w o0 i1 i2 j3 h
  | _ => none
theorem d364 {L : Nat} {xs : Nat → Int32} {zf : Value} {D : dD} {w k : Nat} (hD : dO L xs zf D k) (hz : zf.category = 1) (As : List Value) (h : rm_H) (r : dR) (hh : f364 L xs zf D w As h = some r) : dq L xs zf ah_M364 0 (lv_args 0 As) [] h (k + 1) r := by
  unfold f364 at hh
  split at hh
  · obtain ⟨o0, e0, hb0⟩ := db hh
    have e0 := rm_rf_v _ _ e0
    subst e0
    refine c364_0 hD hz _ _ _ _ _ _ _ ?_ ?_ ?_ ?_ hb0
    all_goals (simp only [la_r, la_i, la_j]; rfl)
  · cases hh
def b365_40 (L : Nat) (xs : Nat → Int32) (zf : Value) (D : dD) (w : Nat) (s0 : Int32) (h : rm_H) : Option dR :=
  drI (some .boolean) s0 h
theorem c365_40 {L : Nat} {xs : Nat → Int32} {zf : Value} {D : dD} {w k : Nat} (hD : dO L xs zf D k) (hz : zf.category = 1) : ∀ (s0 : Int32) (lv : rm_L) (h : rm_H) (r : dR), b365_40 L xs zf D w  s0 h = some r → dq L xs zf ah_M365 40 lv [.int s0] h (k + 1) r := by
  intro s0 lv h r hh
  unfold b365_40 at hh
  exact dq_retI (some .boolean) (by decide +kernel) rfl hh
def b365_35 (L : Nat) (xs : Nat → Int32) (zf : Value) (D : dD) (w : Nat) (h : rm_H) : Option dR :=
  b365_40 L xs zf D w 1 h
theorem c365_35 {L : Nat} {xs : Nat → Int32} {zf : Value} {D : dD} {w k : Nat} (hD : dO L xs zf D k) (hz : zf.category = 1) : ∀ (lv : rm_L) (h : rm_H) (r : dR), b365_35 L xs zf D w  h = some r → dq L xs zf ah_M365 35 lv [] h (k + 1) r := by
  intro lv h r hh
  unfold b365_35 at hh
  refine dq_S (.iconst 1) 1 [] 36 _ [.int 1] (by decide +kernel) rfl ?_
  refine dq_S (.goto 4) 3 [] 40 _ [.int 1] (by decide +kernel) rfl ?_
  exact c365_40 hD hz _ _ _ _  hh
def b365_39 (L : Nat) (xs : Nat → Int32) (zf : Value) (D : dD) (w : Nat) (h : rm_H) : Option dR :=
  b365_40 L xs zf D w 0 h
theorem c365_39 {L : Nat} {xs : Nat → Int32} {zf : Value} {D : dD} {w k : Nat} (hD : dO L xs zf D k) (hz : zf.category = 1) : ∀ (lv : rm_L) (h : rm_H) (r : dR), b365_39 L xs zf D w  h = some r → dq L xs zf ah_M365 39 lv [] h (k + 1) r := by
  intro lv h r hh
  unfold b365_39 at hh
  refine dq_S (.iconst 0) 1 [] 40 _ [.int 0] (by decide +kernel) rfl ?_
  exact c365_40 hD hz _ _ _ _  hh
def b365_0 (L : Nat) (xs : Nat → Int32) (zf : Value) (D : dD) (w : Nat) (o0 : Option Nat) (i1 : Int32) (h : rm_H) : Option dR :=
  ((dcV L xs D 359 [15] o0 [.int i1] h).bind dxI).bind fun x1 =>
  if mx_f1 .eq x1.1 = true then
    b365_39 L xs zf D w x1.2
  else
    (dgR L xs x1.2 48 [15] o0).bind fun p6 =>
    (daI L xs x1.2 p6 i1).bind fun x8 =>
    if mx_f2 .eq x8 (-1) = true then
      b365_35 L xs zf D w x1.2
    else
      (dgR L xs x1.2 30 [15] o0).bind fun p11 =>
      (dgR L xs x1.2 48 [15] o0).bind fun p13 =>
      (daI L xs x1.2 p13 i1).bind fun x15 =>
      (daI L xs x1.2 p11 x15).bind fun x17 =>
      ((D 331 [.int x17] x1.2).bind dxI).bind fun x19 =>
      if mx_f1 .eq x19.1 = true then
        b365_39 L xs zf D w x19.2
      else
        b365_35 L xs zf D w x19.2
theorem c365_0 {L : Nat} {xs : Nat → Int32} {zf : Value} {D : dD} {w k : Nat} (hD : dO L xs zf D k) (hz : zf.category = 1) : ∀ (o0 : Option Nat) (i1 : Int32) (lv : rm_L) (h : rm_H) (r : dR), rm_get lv 0 = some (va_rf o0) → rm_get lv 1 = some (.int i1) → b365_0 L xs zf D w  o0 i1 h = some r → dq L xs zf ah_M365 0 lv [] h (k + 1) r := by
  intro o0 i1 lv h r G0 G1 hh
  unfold b365_0 at hh
  refine dq_aln 0 1 (by decide +kernel) rfl G0 ?_
  refine dq_iln 1 2 (by decide +kernel) rfl G1 ?_
  obtain ⟨x1, q2, hh⟩ := db hh
  obtain ⟨a3, q4, q2⟩ := db q2
  rw [dq_xI q2] at q4
  refine dq_cvi hD 514 359 5 1 [15] o0 [.int i1] [] 5 [.int x1.1] (by decide +kernel) ap_359 ⟨⟨Nat.le_of_ble_eq_true rfl, by decide⟩, rfl, rfl⟩ (dq_ok8 [1, 1] [] (dc_r (dc_i dc_n)) dc_n (by decide +kernel)) (by decide +kernel) rfl q4 rfl ?_
  rcases di hh with ⟨q5, hh⟩ | ⟨q5, hh⟩
  · refine dq_1 .eq 34 true 39 q5 (by decide +kernel) ?_
    exact c365_39 hD hz  _ _ _  hh
  · refine dq_1 .eq 34 false 8 q5 (by decide +kernel) ?_
    refine dq_aln 0 9 (by decide +kernel) rfl G0 ?_
    obtain ⟨p6, q7, hh⟩ := db hh
    refine dq_gR 130 48 [15] 12 (by decide +kernel) rfl q7 ?_
    refine dq_iln 1 13 (by decide +kernel) rfl G1 ?_
    obtain ⟨x8, q9, hh⟩ := db hh
    refine dq_aI 14 (by decide +kernel) rfl q9 ?_
    refine dq_S (.iconst (-1)) 1 [] 15 _ [.int (-1), .int x8] (by decide +kernel) rfl ?_
    rcases di hh with ⟨q10, hh⟩ | ⟨q10, hh⟩
    · refine dq_2 .eq 20 true 35 q10 (by decide +kernel) ?_
      exact c365_35 hD hz  _ _ _  hh
    · refine dq_2 .eq 20 false 18 q10 (by decide +kernel) ?_
      refine dq_aln 0 19 (by decide +kernel) rfl G0 ?_
      obtain ⟨p11, q12, hh⟩ := db hh
      refine dq_gR 84 30 [15] 22 (by decide +kernel) rfl q12 ?_
      refine dq_aln 0 23 (by decide +kernel) rfl G0 ?_
      obtain ⟨p13, q14, hh⟩ := db hh
      refine dq_gR 130 48 [15] 26 (by decide +kernel) rfl q14 ?_
      refine dq_iln 1 27 (by decide +kernel) rfl G1 ?_
      obtain ⟨x15, q16, hh⟩ := db hh
      refine dq_aI 28 (by decide +kernel) rfl q16 ?_
      obtain ⟨x17, q18, hh⟩ := db hh
      refine dq_aI 29 (by decide +kernel) rfl q18 ?_
      obtain ⟨x19, q20, hh⟩ := db hh
      obtain ⟨a21, q22, q20⟩ := db q20
      rw [dq_xI q20] at q22
      refine dq_cst hD 418 331 0 1 [.int x17] [] 32 [.int x19.1] (by decide +kernel) ap_331 ⟨⟨Nat.le_of_ble_eq_true rfl, by decide⟩, rfl, rfl⟩ (dq_ok8 [1] [] (dc_i dc_n) dc_n (by decide +kernel)) (by decide +kernel) rfl q22 rfl ?_
      rcases di hh with ⟨q23, hh⟩ | ⟨q23, hh⟩
      · refine dq_1 .eq 7 true 39 q23 (by decide +kernel) ?_
        exact c365_39 hD hz  _ _ _  hh
      · refine dq_1 .eq 7 false 35 q23 (by decide +kernel) ?_
        exact c365_35 hD hz  _ _ _  hh
def f365 (L : Nat) (xs : Nat → Int32) (zf : Value) (D : dD) (w : Nat) (As : List Value) (h : rm_H) : Option dR := match As with
  | [v0, .int i1] => (rm_rf v0).bind fun o0 => b365_0 L xs zf D w o0 i1 h
  | _ => none
theorem d365 {L : Nat} {xs : Nat → Int32} {zf : Value} {D : dD} {w k : Nat} (hD : dO L xs zf D k) (hz : zf.category = 1) (As : List Value) (h : rm_H) (r : dR) (hh : f365 L xs zf D w As h = some r) : dq L xs zf ah_M365 0 (lv_args 0 As) [] h (k + 1) r := by
  unfold f365 at hh
  split at hh
  · obtain ⟨o0, e0, hb0⟩ := db hh
    have e0 := rm_rf_v _ _ e0
    subst e0
    refine c365_0 hD hz _ _ _ _ _ ?_ ?_ hb0
    all_goals (simp only [la_r, la_i, la_j]; rfl)
  · cases hh
def b366_0 (L : Nat) (xs : Nat → Int32) (zf : Value) (D : dD) (w : Nat) (o0 : Option Nat) (i1 : Int32) (i2 : Int32) (i3 : Int32) (h : rm_H) : Option dR :=
  ((dcV L xs D 350 [15] o0 [.int i2, .int i3] h).bind dxI).bind fun x1 =>
  if mx_f1 .ne x1.1 = true then
    ((D 332 [.int i3] x1.2).bind dxI).bind fun x6 =>
    if mx_f1 .ne x6.1 = true then
      (dgR L xs x6.2 23 [15] o0).bind fun p11 =>
      (daJ L xs x6.2 p11 i1).bind fun y13 =>
      ((dcV L xs D 364 [15] o0 [.int ((i3 / 8) - 1), .int 2, .long y13] x6.2).bind dxI).bind fun x15 =>
      if mx_f2 .ne x15.1 (-1) = true then
        (dgR L xs x15.2 18 [15] o0).bind fun p25 =>
        (daI L xs x15.2 p25 i1).bind fun x27 =>
        ((dcV L xs D 358 [15] o0 [.int i1, .int x15.1, .int x27] x15.2).bind dxI).bind fun x29 =>
        if mx_f1 .ne x29.1 = true then
          (dgR L xs x29.2 20 [15] o0).bind fun p34 =>
          (dsI x29.2 p34 i1 x15.1).bind fun h36 =>
          ((dcV L xs D 344 [15] o0 [.int (-1)] h36).bind dxI).bind fun x38 =>
          drI (some .int) x38.1 x38.2
        else
          drI (some .int) (-1) x29.2
      else
        (dgR L xs x15.2 18 [15] o0).bind fun p42 =>
        (daI L xs x15.2 p42 i1).bind fun x44 =>
        ((dcV L xs D 347 [15] o0 [.int 3, .int x44] x15.2).bind dxI).bind fun x46 =>
        drI (some .int) x46.1 x46.2
    else
      (dgR L xs x6.2 17 [15] o0).bind fun p50 =>
      (daI L xs x6.2 p50 i2).bind fun x52 =>
      ((dcV L xs D 347 [15] o0 [.int 5, .int x52] x6.2).bind dxI).bind fun x54 =>
      drI (some .int) x54.1 x54.2
  else
    drI (some .int) (-1) x1.2
theorem c366_0 {L : Nat} {xs : Nat → Int32} {zf : Value} {D : dD} {w k : Nat} (hD : dO L xs zf D k) (hz : zf.category = 1) : ∀ (o0 : Option Nat) (i1 : Int32) (i2 : Int32) (i3 : Int32) (lv : rm_L) (h : rm_H) (r : dR), rm_get lv 0 = some (va_rf o0) → rm_get lv 1 = some (.int i1) → rm_get lv 2 = some (.int i2) → rm_get lv 3 = some (.int i3) → b366_0 L xs zf D w  o0 i1 i2 i3 h = some r → dq L xs zf ah_M366 0 lv [] h (k + 1) r := by
  intro o0 i1 i2 i3 lv h r G0 G1 G2 G3 hh
  unfold b366_0 at hh
  refine dq_aln 0 1 (by decide +kernel) rfl G0 ?_
  refine dq_iln 2 2 (by decide +kernel) rfl G2 ?_
  refine dq_iln 3 3 (by decide +kernel) rfl G3 ?_
  obtain ⟨x1, q2, hh⟩ := db hh
  obtain ⟨a3, q4, q2⟩ := db q2
  rw [dq_xI q2] at q4
  refine dq_cvi hD 450 350 5 2 [15] o0 [.int i2, .int i3] [] 6 [.int x1.1] (by decide +kernel) ap_350 ⟨⟨Nat.le_of_ble_eq_true rfl, by decide⟩, rfl, rfl⟩ (dq_ok8 [1, 1, 1] [] (dc_r (dc_i (dc_i dc_n))) dc_n (by decide +kernel)) (by decide +kernel) rfl q4 rfl ?_
  rcases di hh with ⟨q5, hh⟩ | ⟨q5, hh⟩
  · refine dq_1 .ne 5 true 11 q5 (by decide +kernel) ?_
    refine dq_iln 3 12 (by decide +kernel) rfl G3 ?_
    obtain ⟨x6, q7, hh⟩ := db hh
    obtain ⟨a8, q9, q7⟩ := db q7
    rw [dq_xI q7] at q9
    refine dq_cst hD 397 332 0 1 [.int i3] [] 15 [.int x6.1] (by decide +kernel) ap_332 ⟨⟨Nat.le_of_ble_eq_true rfl, by decide⟩, rfl, rfl⟩ (dq_ok8 [1] [] (dc_i dc_n) dc_n (by decide +kernel)) (by decide +kernel) rfl q9 rfl ?_
    rcases di hh with ⟨q10, hh⟩ | ⟨q10, hh⟩
    · refine dq_1 .ne 15 true 30 q10 (by decide +kernel) ?_
      refine dq_aln 0 31 (by decide +kernel) rfl G0 ?_
      refine dq_iln 3 32 (by decide +kernel) rfl G3 ?_
      refine dq_S (.bipush 8) 2 [] 34 _ [.int 8, .int i3, va_rf o0] (by decide +kernel) rfl ?_
      refine dq_div 35 (by decide) (by decide +kernel) rfl ?_
      refine dq_S (.iconst 1) 1 [] 36 _ [.int 1, .int (i3 / 8), va_rf o0] (by decide +kernel) rfl ?_
      refine dq_S (.isub) 1 [] 37 _ [.int ((i3 / 8) - 1), va_rf o0] (by decide +kernel) rfl ?_
      refine dq_S (.iconst 2) 1 [] 38 _ [.int 2, .int ((i3 / 8) - 1), va_rf o0] (by decide +kernel) rfl ?_
      refine dq_aln 0 39 (by decide +kernel) rfl G0 ?_
      obtain ⟨p11, q12, hh⟩ := db hh
      refine dq_gR 72 23 [15] 42 (by decide +kernel) rfl q12 ?_
      refine dq_iln 1 43 (by decide +kernel) rfl G1 ?_
      obtain ⟨y13, q14, hh⟩ := db hh
      refine dq_aJ 44 (by decide +kernel) rfl q14 ?_
      obtain ⟨x15, q16, hh⟩ := db hh
      obtain ⟨a17, q18, q16⟩ := db q16
      rw [dq_xI q16] at q18
      refine dq_cvi hD 545 364 5 3 [15] o0 [.int ((i3 / 8) - 1), .int 2, .long y13] [] 47 [.int x15.1] (by decide +kernel) ap_364 ⟨⟨Nat.le_of_ble_eq_true rfl, by decide⟩, rfl, rfl⟩ (dq_ok8 [1, 1, 1, 2] [] (dc_r (dc_i (dc_i (dc_j dc_n)))) dc_n (by decide +kernel)) (by decide +kernel) rfl q18 rfl ?_
      refine dq_is 4 49 (by decide +kernel) (by decide +kernel) ?_
      have g19 := dg_ne (i := 4) (u := .int x15.1) (by decide) (Or.inl (by decide)) G0
      have g20 := dg_ne (i := 4) (u := .int x15.1) (by decide) (Or.inl (by decide)) G1
      have g21 := dg_ne (i := 4) (u := .int x15.1) (by decide) (Or.inl (by decide)) G2
      have g22 := dg_ne (i := 4) (u := .int x15.1) (by decide) (Or.inr rfl) G3
      have g23 := dg_eq (lv) 4 (.int x15.1)
      refine dq_il 4 51 (by decide +kernel) rfl g23 ?_
      refine dq_S (.iconst (-1)) 1 [] 52 _ [.int (-1), .int x15.1] (by decide +kernel) rfl ?_
      rcases di hh with ⟨q24, hh⟩ | ⟨q24, hh⟩
      · refine dq_2 .ne 15 true 67 q24 (by decide +kernel) ?_
        refine dq_aln 0 68 (by decide +kernel) rfl g19 ?_
        refine dq_iln 1 69 (by decide +kernel) rfl g20 ?_
        refine dq_il 4 71 (by decide +kernel) rfl g23 ?_
        refine dq_aln 0 72 (by decide +kernel) rfl g19 ?_
        obtain ⟨p25, q26, hh⟩ := db hh
        refine dq_gR 57 18 [15] 75 (by decide +kernel) rfl q26 ?_
        refine dq_iln 1 76 (by decide +kernel) rfl g20 ?_
        obtain ⟨x27, q28, hh⟩ := db hh
        refine dq_aI 77 (by decide +kernel) rfl q28 ?_
        obtain ⟨x29, q30, hh⟩ := db hh
        obtain ⟨a31, q32, q30⟩ := db q30
        rw [dq_xI q30] at q32
        refine dq_cvi hD 511 358 5 3 [15] o0 [.int i1, .int x15.1, .int x27] [] 80 [.int x29.1] (by decide +kernel) ap_358 ⟨⟨Nat.le_of_ble_eq_true rfl, by decide⟩, rfl, rfl⟩ (dq_ok8 [1, 1, 1, 1] [] (dc_r (dc_i (dc_i (dc_i dc_n)))) dc_n (by decide +kernel)) (by decide +kernel) rfl q32 rfl ?_
        rcases di hh with ⟨q33, hh⟩ | ⟨q33, hh⟩
        · refine dq_1 .ne 5 true 85 q33 (by decide +kernel) ?_
          refine dq_aln 0 86 (by decide +kernel) rfl g19 ?_
          obtain ⟨p34, q35, hh⟩ := db hh
          refine dq_gR 63 20 [15] 89 (by decide +kernel) rfl q35 ?_
          refine dq_iln 1 90 (by decide +kernel) rfl g20 ?_
          refine dq_il 4 92 (by decide +kernel) rfl g23 ?_
          obtain ⟨h36, q37, hh⟩ := db hh
          refine dq_sI 93 (by decide +kernel) rfl q37 ?_
          refine dq_aln 0 94 (by decide +kernel) rfl g19 ?_
          refine dq_S (.iconst (-1)) 1 [] 95 _ [.int (-1), va_rf o0] (by decide +kernel) rfl ?_
          obtain ⟨x38, q39, hh⟩ := db hh
          obtain ⟨a40, q41, q39⟩ := db q39
          rw [dq_xI q39] at q41
          refine dq_cvi hD 478 344 5 1 [15] o0 [.int (-1)] [] 98 [.int x38.1] (by decide +kernel) ap_344 ⟨⟨Nat.le_of_ble_eq_true rfl, by decide⟩, rfl, rfl⟩ (dq_ok8 [1, 1] [] (dc_r (dc_i dc_n)) dc_n (by decide +kernel)) (by decide +kernel) rfl q41 rfl ?_
          exact dq_retI (some .int) (by decide +kernel) rfl hh
        · refine dq_1 .ne 5 false 83 q33 (by decide +kernel) ?_
          refine dq_S (.iconst (-1)) 1 [] 84 _ [.int (-1)] (by decide +kernel) rfl ?_
          exact dq_retI (some .int) (by decide +kernel) rfl hh
      · refine dq_2 .ne 15 false 55 q24 (by decide +kernel) ?_
        refine dq_aln 0 56 (by decide +kernel) rfl g19 ?_
        refine dq_S (.iconst 3) 1 [] 57 _ [.int 3, va_rf o0] (by decide +kernel) rfl ?_
        refine dq_aln 0 58 (by decide +kernel) rfl g19 ?_
        obtain ⟨p42, q43, hh⟩ := db hh
        refine dq_gR 57 18 [15] 61 (by decide +kernel) rfl q43 ?_
        refine dq_iln 1 62 (by decide +kernel) rfl g20 ?_
        obtain ⟨x44, q45, hh⟩ := db hh
        refine dq_aI 63 (by decide +kernel) rfl q45 ?_
        obtain ⟨x46, q47, hh⟩ := db hh
        obtain ⟨a48, q49, q47⟩ := db q47
        rw [dq_xI q47] at q49
        refine dq_cvi hD 456 347 5 2 [15] o0 [.int 3, .int x44] [] 66 [.int x46.1] (by decide +kernel) ap_347 ⟨⟨Nat.le_of_ble_eq_true rfl, by decide⟩, rfl, rfl⟩ (dq_ok8 [1, 1, 1] [] (dc_r (dc_i (dc_i dc_n))) dc_n (by decide +kernel)) (by decide +kernel) rfl q49 rfl ?_
        exact dq_retI (some .int) (by decide +kernel) rfl hh
    · refine dq_1 .ne 15 false 18 q10 (by decide +kernel) ?_
      refine dq_aln 0 19 (by decide +kernel) rfl G0 ?_
      refine dq_S (.iconst 5) 1 [] 20 _ [.int 5, va_rf o0] (by decide +kernel) rfl ?_
      refine dq_aln 0 21 (by decide +kernel) rfl G0 ?_
      obtain ⟨p50, q51, hh⟩ := db hh
      refine dq_gR 54 17 [15] 24 (by decide +kernel) rfl q51 ?_
      refine dq_iln 2 25 (by decide +kernel) rfl G2 ?_
      obtain ⟨x52, q53, hh⟩ := db hh
      refine dq_aI 26 (by decide +kernel) rfl q53 ?_
      obtain ⟨x54, q55, hh⟩ := db hh
      obtain ⟨a56, q57, q55⟩ := db q55
      rw [dq_xI q55] at q57
      refine dq_cvi hD 456 347 5 2 [15] o0 [.int 5, .int x52] [] 29 [.int x54.1] (by decide +kernel) ap_347 ⟨⟨Nat.le_of_ble_eq_true rfl, by decide⟩, rfl, rfl⟩ (dq_ok8 [1, 1, 1] [] (dc_r (dc_i (dc_i dc_n))) dc_n (by decide +kernel)) (by decide +kernel) rfl q57 rfl ?_
      exact dq_retI (some .int) (by decide +kernel) rfl hh
  · refine dq_1 .ne 5 false 9 q5 (by decide +kernel) ?_
    refine dq_S (.iconst (-1)) 1 [] 10 _ [.int (-1)] (by decide +kernel) rfl ?_
    exact dq_retI (some .int) (by decide +kernel) rfl hh
def f366 (L : Nat) (xs : Nat → Int32) (zf : Value) (D : dD) (w : Nat) (As : List Value) (h : rm_H) : Option dR := match As with
  | [v0, .int i1, .int i2, .int i3] => (rm_rf v0).bind fun o0 => b366_0 L xs zf D w o0 i1 i2 i3 h
  | _ => none
theorem d366 {L : Nat} {xs : Nat → Int32} {zf : Value} {D : dD} {w k : Nat} (hD : dO L xs zf D k) (hz : zf.category = 1) (As : List Value) (h : rm_H) (r : dR) (hh : f366 L xs zf D w As h = some r) : dq L xs zf ah_M366 0 (lv_args 0 As) [] h (k + 1) r := by
  unfold f366 at hh
  split at hh
  · obtain ⟨o0, e0, hb0⟩ := db hh
    have e0 := rm_rf_v _ _ e0
    subst e0
    refine c366_0 hD hz _ _ _ _ _ _ _ ?_ ?_ ?_ ?_ hb0
    all_goals (simp only [la_r, la_i, la_j]; rfl)
  · cases hh
def b367_24 (L : Nat) (xs : Nat → Int32) (zf : Value) (D : dD) (w : Nat) (h : rm_H) : Option dR :=
  some (none, h)
theorem c367_24 {L : Nat} {xs : Nat → Int32} {zf : Value} {D : dD} {w k : Nat} (hD : dO L xs zf D k) (hz : zf.category = 1) : ∀ (lv : rm_L) (h : rm_H) (r : dR), b367_24 L xs zf D w  h = some r → dq L xs zf ah_M367 24 lv [] h (k + 1) r := by
  intro lv h r hh
  unfold b367_24 at hh
  cases hh
  exact dq_ret0 (by decide +kernel) rfl
def b367_0 (L : Nat) (xs : Nat → Int32) (zf : Value) (D : dD) (w : Nat) (o0 : Option Nat) (i1 : Int32) (i2 : Int32) (h : rm_H) : Option dR :=
  ((dcV L xs D 350 [15] o0 [.int i1, .int i2] h).bind dxI).bind fun x1 =>
  if mx_f1 .eq x1.1 = true then
    b367_24 L xs zf D w x1.2
  else
    if mx_f1 .eq i2 = true then
      b367_24 L xs zf D w x1.2
    else
      (dgR L xs x1.2 17 [15] o0).bind fun p7 =>
      (daI L xs x1.2 p7 i1).bind fun x9 =>
      ((dcV L xs D 305 [15] o0 [.int 5, .int x9] x1.2).bind dxV).bind fun h11 =>
      b367_24 L xs zf D w h11
theorem c367_0 {L : Nat} {xs : Nat → Int32} {zf : Value} {D : dD} {w k : Nat} (hD : dO L xs zf D k) (hz : zf.category = 1) : ∀ (o0 : Option Nat) (i1 : Int32) (i2 : Int32) (lv : rm_L) (h : rm_H) (r : dR), rm_get lv 0 = some (va_rf o0) → rm_get lv 1 = some (.int i1) → rm_get lv 2 = some (.int i2) → b367_0 L xs zf D w  o0 i1 i2 h = some r → dq L xs zf ah_M367 0 lv [] h (k + 1) r := by
  intro o0 i1 i2 lv h r G0 G1 G2 hh
  unfold b367_0 at hh
  refine dq_aln 0 1 (by decide +kernel) rfl G0 ?_
  refine dq_iln 1 2 (by decide +kernel) rfl G1 ?_
  refine dq_iln 2 3 (by decide +kernel) rfl G2 ?_
  obtain ⟨x1, q2, hh⟩ := db hh
  obtain ⟨a3, q4, q2⟩ := db q2
  rw [dq_xI q2] at q4
  refine dq_cvi hD 450 350 5 2 [15] o0 [.int i1, .int i2] [] 6 [.int x1.1] (by decide +kernel) ap_350 ⟨⟨Nat.le_of_ble_eq_true rfl, by decide⟩, rfl, rfl⟩ (dq_ok8 [1, 1, 1] [] (dc_r (dc_i (dc_i dc_n))) dc_n (by decide +kernel)) (by decide +kernel) rfl q4 rfl ?_
  rcases di hh with ⟨q5, hh⟩ | ⟨q5, hh⟩
  · refine dq_1 .eq 18 true 24 q5 (by decide +kernel) ?_
    exact c367_24 hD hz  _ _ _  hh
  · refine dq_1 .eq 18 false 9 q5 (by decide +kernel) ?_
    refine dq_iln 2 10 (by decide +kernel) rfl G2 ?_
    rcases di hh with ⟨q6, hh⟩ | ⟨q6, hh⟩
    · refine dq_1 .eq 14 true 24 q6 (by decide +kernel) ?_
      exact c367_24 hD hz  _ _ _  hh
    · refine dq_1 .eq 14 false 13 q6 (by decide +kernel) ?_
      refine dq_aln 0 14 (by decide +kernel) rfl G0 ?_
      refine dq_S (.iconst 5) 1 [] 15 _ [.int 5, va_rf o0] (by decide +kernel) rfl ?_
      refine dq_aln 0 16 (by decide +kernel) rfl G0 ?_
      obtain ⟨p7, q8, hh⟩ := db hh
      refine dq_gR 54 17 [15] 19 (by decide +kernel) rfl q8 ?_
      refine dq_iln 1 20 (by decide +kernel) rfl G1 ?_
      obtain ⟨x9, q10, hh⟩ := db hh
      refine dq_aI 21 (by decide +kernel) rfl q10 ?_
      obtain ⟨h11, q12, hh⟩ := db hh
      obtain ⟨a13, q14, q12⟩ := db q12
      rw [dq_xV q12] at q14
      refine dq_cvi hD 301 305 5 2 [15] o0 [.int 5, .int x9] [] 24 [] (by decide +kernel) ap_305 ⟨⟨Nat.le_of_ble_eq_true rfl, by decide⟩, rfl, rfl⟩ (dq_ok8 [1, 1, 1] [] (dc_r (dc_i (dc_i dc_n))) dc_n (by decide +kernel)) (by decide +kernel) rfl q14 rfl ?_
      exact c367_24 hD hz  _ _ _  hh
def f367 (L : Nat) (xs : Nat → Int32) (zf : Value) (D : dD) (w : Nat) (As : List Value) (h : rm_H) : Option dR := match As with
  | [v0, .int i1, .int i2] => (rm_rf v0).bind fun o0 => b367_0 L xs zf D w o0 i1 i2 h
  | _ => none
theorem d367 {L : Nat} {xs : Nat → Int32} {zf : Value} {D : dD} {w k : Nat} (hD : dO L xs zf D k) (hz : zf.category = 1) (As : List Value) (h : rm_H) (r : dR) (hh : f367 L xs zf D w As h = some r) : dq L xs zf ah_M367 0 (lv_args 0 As) [] h (k + 1) r := by
  unfold f367 at hh
  split at hh
  · obtain ⟨o0, e0, hb0⟩ := db hh
    have e0 := rm_rf_v _ _ e0
    subst e0
    refine c367_0 hD hz _ _ _ _ _ _ ?_ ?_ ?_ hb0
    all_goals (simp only [la_r, la_i, la_j]; rfl)
  · cases hh
def b368_82 (L : Nat) (xs : Nat → Int32) (zf : Value) (D : dD) (w : Nat) (o0 : Option Nat) (i3 : Int32) (h : rm_H) : Option dR :=
  (dgI L xs h 64 [15] o0).bind fun x1 =>
  (dpF h 64 [15] o0 (.int (x1 ||| i3))).bind fun h3 =>
  some (none, h3)
theorem c368_82 {L : Nat} {xs : Nat → Int32} {zf : Value} {D : dD} {w k : Nat} (hD : dO L xs zf D k) (hz : zf.category = 1) : ∀ (o0 : Option Nat) (i3 : Int32) (lv : rm_L) (h : rm_H) (r : dR), rm_get lv 0 = some (va_rf o0) → rm_get lv 3 = some (.int i3) → b368_82 L xs zf D w  o0 i3 h = some r → dq L xs zf ah_M368 82 lv [] h (k + 1) r := by
  intro o0 i3 lv h r G0 G3 hh
  unfold b368_82 at hh
  refine dq_aln 0 83 (by decide +kernel) rfl G0 ?_
  refine dq_dup 84 (by decide +kernel) rfl ?_
  obtain ⟨x1, q2, hh⟩ := db hh
  refine dq_gI 440 64 [15] 87 (by decide +kernel) rfl q2 ?_
  refine dq_iln 3 88 (by decide +kernel) rfl G3 ?_
  refine dq_S (.ior) 1 [] 89 _ [.int (x1 ||| i3), va_rf o0] (by decide +kernel) rfl ?_
  obtain ⟨h3, q4, hh⟩ := db hh
  refine dq_put 440 64 [15] 92 (by decide +kernel) rfl q4 ?_
  cases hh
  exact dq_ret0 (by decide +kernel) rfl
def b368_0 (L : Nat) (xs : Nat → Int32) (zf : Value) (D : dD) (w : Nat) (o0 : Option Nat) (i1 : Int32) (h : rm_H) : Option dR :=
  (dgR L xs h 12 [15] o0).bind fun p1 =>
  (daI L xs h p1 i1).bind fun x3 =>
  (dgR L xs h 12 [15] o0).bind fun p5 =>
  (daI L xs h p5 i1).bind fun x7 =>
  ((dcV L xs D 339 [15] o0 [.int x7] h).bind dxI).bind fun x9 =>
  ((dcV L xs D 367 [15] o0 [.int x3, .int x9.1] x9.2).bind dxV).bind fun h13 =>
  (dgI L xs h13 57 [15] o0).bind fun x17 =>
  if mx_f1 .le x17 = true then
    (dgI L xs h13 64 [15] o0).bind fun x20 =>
    (dgR L xs h13 13 [15] o0).bind fun p25 =>
    (daI L xs h13 p25 i1).bind fun x27 =>
    ((dcV L xs D 336 [15] o0 [.int x27, .int 0] h13).bind dxV).bind fun h29 =>
    (dgI L xs h29 57 [15] o0).bind fun x33 =>
    if mx_f1 .le x33 = true then
      (dgI L xs h29 64 [15] o0).bind fun x36 =>
      (dpF h29 64 [15] o0 (.int x20)).bind fun h42 =>
      (dgR L xs h42 14 [15] o0).bind fun p44 =>
      (daI L xs h42 p44 i1).bind fun x46 =>
      if mx_f1 .eq x46 = true then
        b368_82 L xs zf D w o0 x36 h42
      else
        (dgR L xs h42 14 [15] o0).bind fun p49 =>
        (daI L xs h42 p49 i1).bind fun x51 =>
        ((dcV L xs D 336 [15] o0 [.int x51, .int 0] h42).bind dxV).bind fun h53 =>
        b368_82 L xs zf D w o0 x36 h53
    else
      some (none, h29)
  else
    some (none, h13)
theorem c368_0 {L : Nat} {xs : Nat → Int32} {zf : Value} {D : dD} {w k : Nat} (hD : dO L xs zf D k) (hz : zf.category = 1) : ∀ (o0 : Option Nat) (i1 : Int32) (lv : rm_L) (h : rm_H) (r : dR), rm_get lv 0 = some (va_rf o0) → rm_get lv 1 = some (.int i1) → b368_0 L xs zf D w  o0 i1 h = some r → dq L xs zf ah_M368 0 lv [] h (k + 1) r := by
  intro o0 i1 lv h r G0 G1 hh
  unfold b368_0 at hh
  refine dq_aln 0 1 (by decide +kernel) rfl G0 ?_
  refine dq_aln 0 2 (by decide +kernel) rfl G0 ?_
  obtain ⟨p1, q2, hh⟩ := db hh
  refine dq_gR 39 12 [15] 5 (by decide +kernel) rfl q2 ?_
  refine dq_iln 1 6 (by decide +kernel) rfl G1 ?_
  obtain ⟨x3, q4, hh⟩ := db hh
  refine dq_aI 7 (by decide +kernel) rfl q4 ?_
  refine dq_aln 0 8 (by decide +kernel) rfl G0 ?_
  refine dq_aln 0 9 (by decide +kernel) rfl G0 ?_
  obtain ⟨p5, q6, hh⟩ := db hh
  refine dq_gR 39 12 [15] 12 (by decide +kernel) rfl q6 ?_
  refine dq_iln 1 13 (by decide +kernel) rfl G1 ?_
  obtain ⟨x7, q8, hh⟩ := db hh
  refine dq_aI 14 (by decide +kernel) rfl q8 ?_
  obtain ⟨x9, q10, hh⟩ := db hh
  obtain ⟨a11, q12, q10⟩ := db q10
  rw [dq_xI q10] at q12
  refine dq_cvi hD 453 339 5 1 [15] o0 [.int x7] [.int x3, va_rf o0] 17 [.int x9.1, .int x3, va_rf o0] (by decide +kernel) ap_339 ⟨⟨Nat.le_of_ble_eq_true rfl, by decide⟩, rfl, rfl⟩ (dq_ok8 [1, 1] [1, 1] (dc_r (dc_i dc_n)) (dc_i (dc_r dc_n)) (by decide +kernel)) (by decide +kernel) rfl q12 rfl ?_
  obtain ⟨h13, q14, hh⟩ := db hh
  obtain ⟨a15, q16, q14⟩ := db q14
  rw [dq_xV q14] at q16
  refine dq_cvi hD 532 367 5 2 [15] o0 [.int x3, .int x9.1] [] 20 [] (by decide +kernel) ap_367 ⟨⟨Nat.le_of_ble_eq_true rfl, by decide⟩, rfl, rfl⟩ (dq_ok8 [1, 1, 1] [] (dc_r (dc_i (dc_i dc_n))) dc_n (by decide +kernel)) (by decide +kernel) rfl q16 rfl ?_
  refine dq_aln 0 21 (by decide +kernel) rfl G0 ?_
  obtain ⟨x17, q18, hh⟩ := db hh
  refine dq_gI 295 57 [15] 24 (by decide +kernel) rfl q18 ?_
  rcases di hh with ⟨q19, hh⟩ | ⟨q19, hh⟩
  · refine dq_1 .le 4 true 28 q19 (by decide +kernel) ?_
    refine dq_aln 0 29 (by decide +kernel) rfl G0 ?_
    obtain ⟨x20, q21, hh⟩ := db hh
    refine dq_gI 440 64 [15] 32 (by decide +kernel) rfl q21 ?_
    refine dq_isn 2 33 (by decide +kernel) (by decide +kernel) ?_
    have g22 := dg_ne (i := 2) (u := .int x20) (by decide) (Or.inl (by decide)) G0
    have g23 := dg_ne (i := 2) (u := .int x20) (by decide) (Or.inr rfl) G1
    have g24 := dg_eq (lv) 2 (.int x20)
    refine dq_aln 0 34 (by decide +kernel) rfl g22 ?_
    refine dq_aln 0 35 (by decide +kernel) rfl g22 ?_
    obtain ⟨p25, q26, hh⟩ := db hh
    refine dq_gR 42 13 [15] 38 (by decide +kernel) rfl q26 ?_
    refine dq_iln 1 39 (by decide +kernel) rfl g23 ?_
    obtain ⟨x27, q28, hh⟩ := db hh
    refine dq_aI 40 (by decide +kernel) rfl q28 ?_
    refine dq_S (.iconst 0) 1 [] 41 _ [.int 0, .int x27, va_rf o0] (by decide +kernel) rfl ?_
    obtain ⟨h29, q30, hh⟩ := db hh
    obtain ⟨a31, q32, q30⟩ := db q30
    rw [dq_xV q30] at q32
    refine dq_cvi hD 517 336 5 2 [15] o0 [.int x27, .int 0] [] 44 [] (by decide +kernel) ap_336 ⟨⟨Nat.le_of_ble_eq_true rfl, by decide⟩, rfl, rfl⟩ (dq_ok8 [1, 1, 1] [] (dc_r (dc_i (dc_i dc_n))) dc_n (by decide +kernel)) (by decide +kernel) rfl q32 rfl ?_
    refine dq_aln 0 45 (by decide +kernel) rfl g22 ?_
    obtain ⟨x33, q34, hh⟩ := db hh
    refine dq_gI 295 57 [15] 48 (by decide +kernel) rfl q34 ?_
    rcases di hh with ⟨q35, hh⟩ | ⟨q35, hh⟩
    · refine dq_1 .le 4 true 52 q35 (by decide +kernel) ?_
      refine dq_aln 0 53 (by decide +kernel) rfl g22 ?_
      obtain ⟨x36, q37, hh⟩ := db hh
      refine dq_gI 440 64 [15] 56 (by decide +kernel) rfl q37 ?_
      refine dq_isn 3 57 (by decide +kernel) (by decide +kernel) ?_
      have g38 := dg_ne (i := 3) (u := .int x36) (by decide) (Or.inl (by decide)) g22
      have g39 := dg_ne (i := 3) (u := .int x36) (by decide) (Or.inl (by decide)) g23
      have g40 := dg_ne (i := 3) (u := .int x36) (by decide) (Or.inr rfl) g24
      have g41 := dg_eq (rm_set1 (lv) 2 (.int x20)) 3 (.int x36)
      refine dq_aln 0 58 (by decide +kernel) rfl g38 ?_
      refine dq_iln 2 59 (by decide +kernel) rfl g40 ?_
      obtain ⟨h42, q43, hh⟩ := db hh
      refine dq_put 440 64 [15] 62 (by decide +kernel) rfl q43 ?_
      refine dq_aln 0 63 (by decide +kernel) rfl g38 ?_
      obtain ⟨p44, q45, hh⟩ := db hh
      refine dq_gR 45 14 [15] 66 (by decide +kernel) rfl q45 ?_
      refine dq_iln 1 67 (by decide +kernel) rfl g39 ?_
      obtain ⟨x46, q47, hh⟩ := db hh
      refine dq_aI 68 (by decide +kernel) rfl q47 ?_
      rcases di hh with ⟨q48, hh⟩ | ⟨q48, hh⟩
      · refine dq_1 .eq 14 true 82 q48 (by decide +kernel) ?_
        exact c368_82 hD hz _ _ _ _ _ g38 g41 hh
      · refine dq_1 .eq 14 false 71 q48 (by decide +kernel) ?_
        refine dq_aln 0 72 (by decide +kernel) rfl g38 ?_
        refine dq_aln 0 73 (by decide +kernel) rfl g38 ?_
        obtain ⟨p49, q50, hh⟩ := db hh
        refine dq_gR 45 14 [15] 76 (by decide +kernel) rfl q50 ?_
        refine dq_iln 1 77 (by decide +kernel) rfl g39 ?_
        obtain ⟨x51, q52, hh⟩ := db hh
        refine dq_aI 78 (by decide +kernel) rfl q52 ?_
        refine dq_S (.iconst 0) 1 [] 79 _ [.int 0, .int x51, va_rf o0] (by decide +kernel) rfl ?_
        obtain ⟨h53, q54, hh⟩ := db hh
        obtain ⟨a55, q56, q54⟩ := db q54
        rw [dq_xV q54] at q56
        refine dq_cvi hD 517 336 5 2 [15] o0 [.int x51, .int 0] [] 82 [] (by decide +kernel) ap_336 ⟨⟨Nat.le_of_ble_eq_true rfl, by decide⟩, rfl, rfl⟩ (dq_ok8 [1, 1, 1] [] (dc_r (dc_i (dc_i dc_n))) dc_n (by decide +kernel)) (by decide +kernel) rfl q56 rfl ?_
        exact c368_82 hD hz _ _ _ _ _ g38 g41 hh
    · refine dq_1 .le 4 false 51 q35 (by decide +kernel) ?_
      cases hh
      exact dq_ret0 (by decide +kernel) rfl
  · refine dq_1 .le 4 false 27 q19 (by decide +kernel) ?_
    cases hh
    exact dq_ret0 (by decide +kernel) rfl
def f368 (L : Nat) (xs : Nat → Int32) (zf : Value) (D : dD) (w : Nat) (As : List Value) (h : rm_H) : Option dR := match As with
  | [v0, .int i1] => (rm_rf v0).bind fun o0 => b368_0 L xs zf D w o0 i1 h
  | _ => none
theorem d368 {L : Nat} {xs : Nat → Int32} {zf : Value} {D : dD} {w k : Nat} (hD : dO L xs zf D k) (hz : zf.category = 1) (As : List Value) (h : rm_H) (r : dR) (hh : f368 L xs zf D w As h = some r) : dq L xs zf ah_M368 0 (lv_args 0 As) [] h (k + 1) r := by
  unfold f368 at hh
  split at hh
  · obtain ⟨o0, e0, hb0⟩ := db hh
    have e0 := rm_rf_v _ _ e0
    subst e0
    refine c368_0 hD hz _ _ _ _ _ ?_ ?_ hb0
    all_goals (simp only [la_r, la_i, la_j]; rfl)
  · cases hh
def b369_102 (L : Nat) (xs : Nat → Int32) (zf : Value) (D : dD) (w : Nat) (K60 : Option Nat → Int32 → Int32 → Int32 → Int32 → rm_H → Option dR) (o0 : Option Nat) (i1 : Int32) (i2 : Int32) (i3 : Int32) (i4 : Int32) (h : rm_H) : Option dR :=
  K60 o0 i1 i2 i3 (i4 + 1) h
theorem c369_102 {L : Nat} {xs : Nat → Int32} {zf : Value} {D : dD} {w k : Nat} {K60 : Option Nat → Int32 → Int32 → Int32 → Int32 → rm_H → Option dR} (hD : dO L xs zf D k) (hz : zf.category = 1) (hK60 : ∀ (o0 : Option Nat) (i1 : Int32) (i2 : Int32) (i3 : Int32) (i4 : Int32) (lv : rm_L) (h : rm_H) (r : dR), rm_get lv 0 = some (va_rf o0) → rm_get lv 1 = some (.int i1) → rm_get lv 2 = some (.int i2) → rm_get lv 3 = some (.int i3) → rm_get lv 4 = some (.int i4) → K60 o0 i1 i2 i3 i4 h = some r → dq L xs zf ah_M369 60 lv [] h (k + 1) r) : ∀ (o0 : Option Nat) (i1 : Int32) (i2 : Int32) (i3 : Int32) (i4 : Int32) (lv : rm_L) (h : rm_H) (r : dR), rm_get lv 0 = some (va_rf o0) → rm_get lv 1 = some (.int i1) → rm_get lv 2 = some (.int i2) → rm_get lv 3 = some (.int i3) → rm_get lv 4 = some (.int i4) → b369_102 L xs zf D w K60  o0 i1 i2 i3 i4 h = some r → dq L xs zf ah_M369 102 lv [] h (k + 1) r := by
  intro o0 i1 i2 i3 i4 lv h r G0 G1 G2 G3 G4 hh
  unfold b369_102 at hh
  refine dq_incy 4 1 1 105 (by decide +kernel) ⟨rfl, by decide +kernel, by decide +kernel⟩ G4 ?_
  have g1 := dg_ne (i := 4) (u := .int (i4 + 1)) (by decide) (Or.inl (by decide)) G0
  have g2 := dg_ne (i := 4) (u := .int (i4 + 1)) (by decide) (Or.inl (by decide)) G1
  have g3 := dg_ne (i := 4) (u := .int (i4 + 1)) (by decide) (Or.inl (by decide)) G2
  have g4 := dg_ne (i := 4) (u := .int (i4 + 1)) (by decide) (Or.inr rfl) G3
  have g5 := dg_eq (lv) 4 (.int (i4 + 1))
  refine dq_S (.goto (-45)) 3 [] 60 _ [] (by decide +kernel) rfl ?_
  exact hK60 _ _ _ _ _ _ _ _ g1 g2 g3 g4 g5 hh
def b369_60 (L : Nat) (xs : Nat → Int32) (zf : Value) (D : dD) (w : Nat) : Nat → Option Nat → Int32 → Int32 → Int32 → Int32 → rm_H → Option dR
  | 0, _, _, _, _, _, _ => none
  | n + 1, o0, i1, i2, i3, i4, h =>
    (dgI L xs h 62 [15] o0).bind fun x1 =>
    if mx_f2 .ge i4 x1 = true then
      (dpF h 64 [15] o0 (.int i3)).bind fun h4 =>
      some (none, h4)
    else
      (dgI L xs h 64 [15] o0).bind fun x6 =>
      (dgR L xs h 68 [15] o0).bind fun p8 =>
      (daI L xs h p8 i4).bind fun x10 =>
      if mx_f1 .eq ((x6 &&& (i2 ^^^ (-1))) &&& ((1 : Int32) <<< (x10 &&& 31))) = true then
        b369_102 L xs zf D w (b369_60 L xs zf D w n) o0 i1 i2 i3 i4 h
      else
        (dgR L xs h 17 [15] o0).bind fun p13 =>
        (daI L xs h p13 i1).bind fun x15 =>
        ((dcV L xs D 305 [15] o0 [.int 7, .int x15] h).bind dxV).bind fun h17 =>
        b369_102 L xs zf D w (b369_60 L xs zf D w n) o0 i1 i2 i3 i4 h17
theorem c369_60 {L : Nat} {xs : Nat → Int32} {zf : Value} {D : dD} {w k : Nat} (hD : dO L xs zf D k) (hz : zf.category = 1) : ∀ (n : Nat) (o0 : Option Nat) (i1 : Int32) (i2 : Int32) (i3 : Int32) (i4 : Int32) (lv : rm_L) (h : rm_H) (r : dR), rm_get lv 0 = some (va_rf o0) → rm_get lv 1 = some (.int i1) → rm_get lv 2 = some (.int i2) → rm_get lv 3 = some (.int i3) → rm_get lv 4 = some (.int i4) → b369_60 L xs zf D w n  o0 i1 i2 i3 i4 h = some r → dq L xs zf ah_M369 60 lv [] h (k + 1) r := by
  intro n
  induction n with
  | zero =>
    intro o0 i1 i2 i3 i4 lv h r G0 G1 G2 G3 G4 hh
    cases hh
  | succ n ih =>
    intro o0 i1 i2 i3 i4 lv h r G0 G1 G2 G3 G4 hh
    rw [b369_60] at hh
    refine dq_il 4 62 (by decide +kernel) rfl G4 ?_
    refine dq_aln 0 63 (by decide +kernel) rfl G0 ?_
    obtain ⟨x1, q2, hh⟩ := db hh
    refine dq_gI 434 62 [15] 66 (by decide +kernel) rfl q2 ?_
    rcases di hh with ⟨q3, hh⟩ | ⟨q3, hh⟩
    · refine dq_2 .ge 42 true 108 q3 (by decide +kernel) ?_
      refine dq_aln 0 109 (by decide +kernel) rfl G0 ?_
      refine dq_iln 3 110 (by decide +kernel) rfl G3 ?_
      obtain ⟨h4, q5, hh⟩ := db hh
      refine dq_put 440 64 [15] 113 (by decide +kernel) rfl q5 ?_
      cases hh
      exact dq_ret0 (by decide +kernel) rfl
    · refine dq_2 .ge 42 false 69 q3 (by decide +kernel) ?_
      refine dq_aln 0 70 (by decide +kernel) rfl G0 ?_
      obtain ⟨x6, q7, hh⟩ := db hh
      refine dq_gI 440 64 [15] 73 (by decide +kernel) rfl q7 ?_
      refine dq_iln 2 74 (by decide +kernel) rfl G2 ?_
      refine dq_S (.iconst (-1)) 1 [] 75 _ [.int (-1), .int i2, .int x6] (by decide +kernel) rfl ?_
      refine dq_S (.ixor) 1 [] 76 _ [.int (i2 ^^^ (-1)), .int x6] (by decide +kernel) rfl ?_
      refine dq_S (.iand) 1 [] 77 _ [.int (x6 &&& (i2 ^^^ (-1)))] (by decide +kernel) rfl ?_
      refine dq_S (.iconst 1) 1 [] 78 _ [.int 1, .int (x6 &&& (i2 ^^^ (-1)))] (by decide +kernel) rfl ?_
      refine dq_aln 0 79 (by decide +kernel) rfl G0 ?_
      obtain ⟨p8, q9, hh⟩ := db hh
      refine dq_gR 157 68 [15] 82 (by decide +kernel) rfl q9 ?_
      refine dq_il 4 84 (by decide +kernel) rfl G4 ?_
      obtain ⟨x10, q11, hh⟩ := db hh
      refine dq_aI 85 (by decide +kernel) rfl q11 ?_
      refine dq_S (.ishl) 1 [] 86 _ [.int ((1 : Int32) <<< (x10 &&& 31)), .int (x6 &&& (i2 ^^^ (-1)))] (by decide +kernel) rfl ?_
      refine dq_S (.iand) 1 [] 87 _ [.int ((x6 &&& (i2 ^^^ (-1))) &&& ((1 : Int32) <<< (x10 &&& 31)))] (by decide +kernel) rfl ?_
      rcases di hh with ⟨q12, hh⟩ | ⟨q12, hh⟩
      · refine dq_1 .eq 15 true 102 q12 (by decide +kernel) ?_
        exact c369_102 hD hz ih _ _ _ _ _ _ _ _ G0 G1 G2 G3 G4 hh
      · refine dq_1 .eq 15 false 90 q12 (by decide +kernel) ?_
        refine dq_aln 0 91 (by decide +kernel) rfl G0 ?_
        refine dq_S (.bipush 7) 2 [] 93 _ [.int 7, va_rf o0] (by decide +kernel) rfl ?_
        refine dq_aln 0 94 (by decide +kernel) rfl G0 ?_
        obtain ⟨p13, q14, hh⟩ := db hh
        refine dq_gR 54 17 [15] 97 (by decide +kernel) rfl q14 ?_
        refine dq_iln 1 98 (by decide +kernel) rfl G1 ?_
        obtain ⟨x15, q16, hh⟩ := db hh
        refine dq_aI 99 (by decide +kernel) rfl q16 ?_
        obtain ⟨h17, q18, hh⟩ := db hh
        obtain ⟨a19, q20, q18⟩ := db q18
        rw [dq_xV q18] at q20
        refine dq_cvi hD 301 305 5 2 [15] o0 [.int 7, .int x15] [] 102 [] (by decide +kernel) ap_305 ⟨⟨Nat.le_of_ble_eq_true rfl, by decide⟩, rfl, rfl⟩ (dq_ok8 [1, 1, 1] [] (dc_r (dc_i (dc_i dc_n))) dc_n (by decide +kernel)) (by decide +kernel) rfl q20 rfl ?_
        exact c369_102 hD hz ih _ _ _ _ _ _ _ _ G0 G1 G2 G3 G4 hh
def b369_0 (L : Nat) (xs : Nat → Int32) (zf : Value) (D : dD) (w : Nat) (o0 : Option Nat) (i1 : Int32) (h : rm_H) : Option dR :=
  (dgI L xs h 64 [15] o0).bind fun x1 =>
  (dgR L xs h 12 [15] o0).bind fun p6 =>
  (daI L xs h p6 i1).bind fun x8 =>
  (dgR L xs h 12 [15] o0).bind fun p10 =>
  (daI L xs h p10 i1).bind fun x12 =>
  ((dcV L xs D 339 [15] o0 [.int x12] h).bind dxI).bind fun x14 =>
  ((dcV L xs D 367 [15] o0 [.int x8, .int x14.1] x14.2).bind dxV).bind fun h18 =>
  (dgI L xs h18 57 [15] o0).bind fun x22 =>
  if mx_f1 .le x22 = true then
    (dgI L xs h18 64 [15] o0).bind fun x25 =>
    (dgR L xs h18 13 [15] o0).bind fun p31 =>
    (daI L xs h18 p31 i1).bind fun x33 =>
    ((dcV L xs D 336 [15] o0 [.int x33, .int 0] h18).bind dxV).bind fun h35 =>
    (dgI L xs h35 57 [15] o0).bind fun x39 =>
    if mx_f1 .le x39 = true then
      b369_60 L xs zf D w w o0 i1 x1 x25 0 h35
    else
      some (none, h35)
  else
    some (none, h18)
theorem c369_0 {L : Nat} {xs : Nat → Int32} {zf : Value} {D : dD} {w k : Nat} (hD : dO L xs zf D k) (hz : zf.category = 1) : ∀ (o0 : Option Nat) (i1 : Int32) (lv : rm_L) (h : rm_H) (r : dR), rm_get lv 0 = some (va_rf o0) → rm_get lv 1 = some (.int i1) → b369_0 L xs zf D w  o0 i1 h = some r → dq L xs zf ah_M369 0 lv [] h (k + 1) r := by
  intro o0 i1 lv h r G0 G1 hh
  unfold b369_0 at hh
  refine dq_aln 0 1 (by decide +kernel) rfl G0 ?_
  obtain ⟨x1, q2, hh⟩ := db hh
  refine dq_gI 440 64 [15] 4 (by decide +kernel) rfl q2 ?_
  refine dq_isn 2 5 (by decide +kernel) (by decide +kernel) ?_
  have g3 := dg_ne (i := 2) (u := .int x1) (by decide) (Or.inl (by decide)) G0
  have g4 := dg_ne (i := 2) (u := .int x1) (by decide) (Or.inr rfl) G1
  have g5 := dg_eq (lv) 2 (.int x1)
  refine dq_aln 0 6 (by decide +kernel) rfl g3 ?_
  refine dq_aln 0 7 (by decide +kernel) rfl g3 ?_
  obtain ⟨p6, q7, hh⟩ := db hh
  refine dq_gR 39 12 [15] 10 (by decide +kernel) rfl q7 ?_
  refine dq_iln 1 11 (by decide +kernel) rfl g4 ?_
  obtain ⟨x8, q9, hh⟩ := db hh
  refine dq_aI 12 (by decide +kernel) rfl q9 ?_
  refine dq_aln 0 13 (by decide +kernel) rfl g3 ?_
  refine dq_aln 0 14 (by decide +kernel) rfl g3 ?_
  obtain ⟨p10, q11, hh⟩ := db hh
  refine dq_gR 39 12 [15] 17 (by decide +kernel) rfl q11 ?_
  refine dq_iln 1 18 (by decide +kernel) rfl g4 ?_
  obtain ⟨x12, q13, hh⟩ := db hh
  refine dq_aI 19 (by decide +kernel) rfl q13 ?_
  obtain ⟨x14, q15, hh⟩ := db hh
  obtain ⟨a16, q17, q15⟩ := db q15
  rw [dq_xI q15] at q17
  refine dq_cvi hD 453 339 5 1 [15] o0 [.int x12] [.int x8, va_rf o0] 22 [.int x14.1, .int x8, va_rf o0] (by decide +kernel) ap_339 ⟨⟨Nat.le_of_ble_eq_true rfl, by decide⟩, rfl, rfl⟩ (dq_ok8 [1, 1] [1, 1] (dc_r (dc_i dc_n)) (dc_i (dc_r dc_n)) (by decide +kernel)) (by decide +kernel) rfl q17 rfl ?_
  obtain ⟨h18, q19, hh⟩ := db hh
  obtain ⟨a20, q21, q19⟩ := db q19
  rw [dq_xV q19] at q21
  refine dq_cvi hD 532 367 5 2 [15] o0 [.int x8, .int x14.1] [] 25 [] (by decide +kernel) ap_367 ⟨⟨Nat.le_of_ble_eq_true rfl, by decide⟩, rfl, rfl⟩ (dq_ok8 [1, 1, 1] [] (dc_r (dc_i (dc_i dc_n))) dc_n (by decide +kernel)) (by decide +kernel) rfl q21 rfl ?_
  refine dq_aln 0 26 (by decide +kernel) rfl g3 ?_
  obtain ⟨x22, q23, hh⟩ := db hh
  refine dq_gI 295 57 [15] 29 (by decide +kernel) rfl q23 ?_
  rcases di hh with ⟨q24, hh⟩ | ⟨q24, hh⟩
  · refine dq_1 .le 4 true 33 q24 (by decide +kernel) ?_
    refine dq_aln 0 34 (by decide +kernel) rfl g3 ?_
    obtain ⟨x25, q26, hh⟩ := db hh
    refine dq_gI 440 64 [15] 37 (by decide +kernel) rfl q26 ?_
    refine dq_isn 3 38 (by decide +kernel) (by decide +kernel) ?_
    have g27 := dg_ne (i := 3) (u := .int x25) (by decide) (Or.inl (by decide)) g3
    have g28 := dg_ne (i := 3) (u := .int x25) (by decide) (Or.inl (by decide)) g4
    have g29 := dg_ne (i := 3) (u := .int x25) (by decide) (Or.inr rfl) g5
    have g30 := dg_eq (rm_set1 (lv) 2 (.int x1)) 3 (.int x25)
    refine dq_aln 0 39 (by decide +kernel) rfl g27 ?_
    refine dq_aln 0 40 (by decide +kernel) rfl g27 ?_
    obtain ⟨p31, q32, hh⟩ := db hh
    refine dq_gR 42 13 [15] 43 (by decide +kernel) rfl q32 ?_
    refine dq_iln 1 44 (by decide +kernel) rfl g28 ?_
    obtain ⟨x33, q34, hh⟩ := db hh
    refine dq_aI 45 (by decide +kernel) rfl q34 ?_
    refine dq_S (.iconst 0) 1 [] 46 _ [.int 0, .int x33, va_rf o0] (by decide +kernel) rfl ?_
    obtain ⟨h35, q36, hh⟩ := db hh
    obtain ⟨a37, q38, q36⟩ := db q36
    rw [dq_xV q36] at q38
    refine dq_cvi hD 517 336 5 2 [15] o0 [.int x33, .int 0] [] 49 [] (by decide +kernel) ap_336 ⟨⟨Nat.le_of_ble_eq_true rfl, by decide⟩, rfl, rfl⟩ (dq_ok8 [1, 1, 1] [] (dc_r (dc_i (dc_i dc_n))) dc_n (by decide +kernel)) (by decide +kernel) rfl q38 rfl ?_
    refine dq_aln 0 50 (by decide +kernel) rfl g27 ?_
    obtain ⟨x39, q40, hh⟩ := db hh
    refine dq_gI 295 57 [15] 53 (by decide +kernel) rfl q40 ?_
    rcases di hh with ⟨q41, hh⟩ | ⟨q41, hh⟩
    · refine dq_1 .le 4 true 57 q41 (by decide +kernel) ?_
      refine dq_S (.iconst 0) 1 [] 58 _ [.int 0] (by decide +kernel) rfl ?_
      refine dq_is 4 60 (by decide +kernel) (by decide +kernel) ?_
      have g42 := dg_ne (i := 4) (u := .int 0) (by decide) (Or.inl (by decide)) g27
      have g43 := dg_ne (i := 4) (u := .int 0) (by decide) (Or.inl (by decide)) g28
      have g44 := dg_ne (i := 4) (u := .int 0) (by decide) (Or.inl (by decide)) g29
      have g45 := dg_ne (i := 4) (u := .int 0) (by decide) (Or.inr rfl) g30
      have g46 := dg_eq (rm_set1 (rm_set1 (lv) 2 (.int x1)) 3 (.int x25)) 4 (.int 0)
      exact c369_60 hD hz _ _ _ _ _ _ _ _ _ g42 g43 g44 g45 g46 hh
    · refine dq_1 .le 4 false 56 q41 (by decide +kernel) ?_
      cases hh
      exact dq_ret0 (by decide +kernel) rfl
  · refine dq_1 .le 4 false 32 q24 (by decide +kernel) ?_
    cases hh
    exact dq_ret0 (by decide +kernel) rfl
def f369 (L : Nat) (xs : Nat → Int32) (zf : Value) (D : dD) (w : Nat) (As : List Value) (h : rm_H) : Option dR := match As with
  | [v0, .int i1] => (rm_rf v0).bind fun o0 => b369_0 L xs zf D w o0 i1 h
  | _ => none
theorem d369 {L : Nat} {xs : Nat → Int32} {zf : Value} {D : dD} {w k : Nat} (hD : dO L xs zf D k) (hz : zf.category = 1) (As : List Value) (h : rm_H) (r : dR) (hh : f369 L xs zf D w As h = some r) : dq L xs zf ah_M369 0 (lv_args 0 As) [] h (k + 1) r := by
  unfold f369 at hh
  split at hh
  · obtain ⟨o0, e0, hb0⟩ := db hh
    have e0 := rm_rf_v _ _ e0
    subst e0
    refine c369_0 hD hz _ _ _ _ _ ?_ ?_ hb0
    all_goals (simp only [la_r, la_i, la_j]; rfl)
  · cases hh
def b370_35 (L : Nat) (xs : Nat → Int32) (zf : Value) (D : dD) (w : Nat) (s0 : Int32) (h : rm_H) : Option dR :=
  drI (some .int) s0 h
theorem c370_35 {L : Nat} {xs : Nat → Int32} {zf : Value} {D : dD} {w k : Nat} (hD : dO L xs zf D k) (hz : zf.category = 1) : ∀ (s0 : Int32) (lv : rm_L) (h : rm_H) (r : dR), b370_35 L xs zf D w  s0 h = some r → dq L xs zf ah_M370 35 lv [.int s0] h (k + 1) r := by
  intro s0 lv h r hh
  unfold b370_35 at hh
  exact dq_retI (some .int) (by decide +kernel) rfl hh
def b370_16 (L : Nat) (xs : Nat → Int32) (zf : Value) (D : dD) (w : Nat) (h : rm_H) : Option dR :=
  b370_35 L xs zf D w (-1) h
theorem c370_16 {L : Nat} {xs : Nat → Int32} {zf : Value} {D : dD} {w k : Nat} (hD : dO L xs zf D k) (hz : zf.category = 1) : ∀ (lv : rm_L) (h : rm_H) (r : dR), b370_16 L xs zf D w  h = some r → dq L xs zf ah_M370 16 lv [] h (k + 1) r := by
  intro lv h r hh
  unfold b370_16 at hh
  refine dq_S (.iconst (-1)) 1 [] 17 _ [.int (-1)] (by decide +kernel) rfl ?_
  refine dq_S (.goto 18) 3 [] 35 _ [.int (-1)] (by decide +kernel) rfl ?_
  exact c370_35 hD hz _ _ _ _  hh
def b370_0 (L : Nat) (xs : Nat → Int32) (zf : Value) (D : dD) (w : Nat) (o0 : Option Nat) (i1 : Int32) (h : rm_H) : Option dR :=
  (dgI L xs h 72 [15] o0).bind fun x1 =>
  if mx_f1 .eq x1 = true then
    b370_16 L xs zf D w h
  else
    if mx_f1 .lt i1 = true then
      b370_16 L xs zf D w h
    else
      if mx_f2 .le i1 1 = true then
        if mx_f1 .ne i1 = true then
          (dgI L xs h 58 [15] o0).bind fun x7 =>
          b370_35 L xs zf D w x7 h
        else
          (dgI L xs h 57 [15] o0).bind fun x9 =>
          b370_35 L xs zf D w x9 h
      else
        b370_16 L xs zf D w h
theorem c370_0 {L : Nat} {xs : Nat → Int32} {zf : Value} {D : dD} {w k : Nat} (hD : dO L xs zf D k) (hz : zf.category = 1) : ∀ (o0 : Option Nat) (i1 : Int32) (lv : rm_L) (h : rm_H) (r : dR), rm_get lv 0 = some (va_rf o0) → rm_get lv 1 = some (.int i1) → b370_0 L xs zf D w  o0 i1 h = some r → dq L xs zf ah_M370 0 lv [] h (k + 1) r := by
  intro o0 i1 lv h r G0 G1 hh
  unfold b370_0 at hh
  refine dq_aln 0 1 (by decide +kernel) rfl G0 ?_
  obtain ⟨x1, q2, hh⟩ := db hh
  refine dq_gI 575 72 [15] 4 (by decide +kernel) rfl q2 ?_
  rcases di hh with ⟨q3, hh⟩ | ⟨q3, hh⟩
  · refine dq_1 .eq 12 true 16 q3 (by decide +kernel) ?_
    exact c370_16 hD hz  _ _ _  hh
  · refine dq_1 .eq 12 false 7 q3 (by decide +kernel) ?_
    refine dq_iln 1 8 (by decide +kernel) rfl G1 ?_
    rcases di hh with ⟨q4, hh⟩ | ⟨q4, hh⟩
    · refine dq_1 .lt 8 true 16 q4 (by decide +kernel) ?_
      exact c370_16 hD hz  _ _ _  hh
    · refine dq_1 .lt 8 false 11 q4 (by decide +kernel) ?_
      refine dq_iln 1 12 (by decide +kernel) rfl G1 ?_
      refine dq_S (.iconst 1) 1 [] 13 _ [.int 1, .int i1] (by decide +kernel) rfl ?_
      rcases di hh with ⟨q5, hh⟩ | ⟨q5, hh⟩
      · refine dq_2 .le 7 true 20 q5 (by decide +kernel) ?_
        refine dq_iln 1 21 (by decide +kernel) rfl G1 ?_
        rcases di hh with ⟨q6, hh⟩ | ⟨q6, hh⟩
        · refine dq_1 .ne 10 true 31 q6 (by decide +kernel) ?_
          refine dq_aln 0 32 (by decide +kernel) rfl G0 ?_
          obtain ⟨x7, q8, hh⟩ := db hh
          refine dq_gI 151 58 [15] 35 (by decide +kernel) rfl q8 ?_
          exact c370_35 hD hz _ _ _ _  hh
        · refine dq_1 .ne 10 false 24 q6 (by decide +kernel) ?_
          refine dq_aln 0 25 (by decide +kernel) rfl G0 ?_
          obtain ⟨x9, q10, hh⟩ := db hh
          refine dq_gI 295 57 [15] 28 (by decide +kernel) rfl q10 ?_
          refine dq_S (.goto 7) 3 [] 35 _ [.int x9] (by decide +kernel) rfl ?_
          exact c370_35 hD hz _ _ _ _  hh
      · refine dq_2 .le 7 false 16 q5 (by decide +kernel) ?_
        exact c370_16 hD hz  _ _ _  hh
def f370 (L : Nat) (xs : Nat → Int32) (zf : Value) (D : dD) (w : Nat) (As : List Value) (h : rm_H) : Option dR := match As with
  | [v0, .int i1] => (rm_rf v0).bind fun o0 => b370_0 L xs zf D w o0 i1 h
  | _ => none
theorem d370 {L : Nat} {xs : Nat → Int32} {zf : Value} {D : dD} {w k : Nat} (hD : dO L xs zf D k) (hz : zf.category = 1) (As : List Value) (h : rm_H) (r : dR) (hh : f370 L xs zf D w As h = some r) : dq L xs zf ah_M370 0 (lv_args 0 As) [] h (k + 1) r := by
  unfold f370 at hh
  split at hh
  · obtain ⟨o0, e0, hb0⟩ := db hh
    have e0 := rm_rf_v _ _ e0
    subst e0
    refine c370_0 hD hz _ _ _ _ _ ?_ ?_ hb0
    all_goals (simp only [la_r, la_i, la_j]; rfl)
  · cases hh
def b371_0 (L : Nat) (xs : Nat → Int32) (zf : Value) (D : dD) (w : Nat) (o0 : Option Nat) (i1 : Int32) (h : rm_H) : Option dR :=
  (dgI L xs h 73 [15] o0).bind fun x1 =>
  if mx_f1 .ne x1 = true then
    if dsw 0 4 i1 = true then
      drI (some .int) (-1) h
    else if i1 = 0 then
      (dgI L xs h 32 [15] o0).bind fun x6 =>
      drI (some .int) x6 h
    else if i1 = 1 then
      (dgI L xs h 38 [15] o0).bind fun x9 =>
      drI (some .int) x9 h
    else if i1 = 2 then
      (dgI L xs h 42 [15] o0).bind fun x12 =>
      (dgI L xs h 32 [15] o0).bind fun x14 =>
      drI (some .int) (x12 - x14) h
    else if i1 = 3 then
      (dgI L xs h 24 [15] o0).bind fun x17 =>
      drI (some .int) x17 h
    else if i1 = 4 then
      (dgI L xs h 25 [15] o0).bind fun x20 =>
      drI (some .int) x20 h
    else none
  else
    drI (some .int) (-1) h
theorem c371_0 {L : Nat} {xs : Nat → Int32} {zf : Value} {D : dD} {w k : Nat} (hD : dO L xs zf D k) (hz : zf.category = 1) : ∀ (o0 : Option Nat) (i1 : Int32) (lv : rm_L) (h : rm_H) (r : dR), rm_get lv 0 = some (va_rf o0) → rm_get lv 1 = some (.int i1) → b371_0 L xs zf D w  o0 i1 h = some r → dq L xs zf ah_M371 0 lv [] h (k + 1) r := by
  intro o0 i1 lv h r G0 G1 hh
  unfold b371_0 at hh
  refine dq_aln 0 1 (by decide +kernel) rfl G0 ?_
  obtain ⟨x1, q2, hh⟩ := db hh
  refine dq_gI 578 73 [15] 4 (by decide +kernel) rfl q2 ?_
  rcases di hh with ⟨q3, hh⟩ | ⟨q3, hh⟩
  · refine dq_1 .ne 5 true 9 q3 (by decide +kernel) ?_
    refine dq_iln 1 10 (by decide +kernel) rfl G1 ?_
    rcases di hh with ⟨q4, hh⟩ | ⟨_, hh⟩
    · refine dq_sd 64 0 4 #[34, 39, 44, 54, 59] 34 74 (by decide +kernel) (by decide +kernel) q4 ?_
      refine dq_S (.iconst (-1)) 1 [] 75 _ [.int (-1)] (by decide +kernel) rfl ?_
      exact dq_retI (some .int) (by decide +kernel) rfl hh
    rcases dp hh with ⟨q5, hh⟩ | ⟨_, hh⟩
    · refine dq_eq 0 q5 ?_
      refine dq_S (.tableswitch 64 0 4 #[34, 39, 44, 54, 59]) 34 [] 44 _ [] (by decide +kernel) rfl ?_
      refine dq_aln 0 45 (by decide +kernel) rfl G0 ?_
      obtain ⟨x6, q7, hh⟩ := db hh
      refine dq_gI 326 32 [15] 48 (by decide +kernel) rfl q7 ?_
      exact dq_retI (some .int) (by decide +kernel) rfl hh
    rcases dp hh with ⟨q8, hh⟩ | ⟨_, hh⟩
    · refine dq_eq 1 q8 ?_
      refine dq_S (.tableswitch 64 0 4 #[34, 39, 44, 54, 59]) 34 [] 49 _ [] (by decide +kernel) rfl ?_
      refine dq_aln 0 50 (by decide +kernel) rfl G0 ?_
      obtain ⟨x9, q10, hh⟩ := db hh
      refine dq_gI 332 38 [15] 53 (by decide +kernel) rfl q10 ?_
      exact dq_retI (some .int) (by decide +kernel) rfl hh
    rcases dp hh with ⟨q11, hh⟩ | ⟨_, hh⟩
    · refine dq_eq 2 q11 ?_
      refine dq_S (.tableswitch 64 0 4 #[34, 39, 44, 54, 59]) 34 [] 54 _ [] (by decide +kernel) rfl ?_
      refine dq_aln 0 55 (by decide +kernel) rfl G0 ?_
      obtain ⟨x12, q13, hh⟩ := db hh
      refine dq_gI 342 42 [15] 58 (by decide +kernel) rfl q13 ?_
      refine dq_aln 0 59 (by decide +kernel) rfl G0 ?_
      obtain ⟨x14, q15, hh⟩ := db hh
      refine dq_gI 326 32 [15] 62 (by decide +kernel) rfl q15 ?_
      refine dq_S (.isub) 1 [] 63 _ [.int (x12 - x14)] (by decide +kernel) rfl ?_
      exact dq_retI (some .int) (by decide +kernel) rfl hh
    rcases dp hh with ⟨q16, hh⟩ | ⟨_, hh⟩
    · refine dq_eq 3 q16 ?_
      refine dq_S (.tableswitch 64 0 4 #[34, 39, 44, 54, 59]) 34 [] 64 _ [] (by decide +kernel) rfl ?_
      refine dq_aln 0 65 (by decide +kernel) rfl G0 ?_
      obtain ⟨x17, q18, hh⟩ := db hh
      refine dq_gI 388 24 [15] 68 (by decide +kernel) rfl q18 ?_
      exact dq_retI (some .int) (by decide +kernel) rfl hh
    rcases dp hh with ⟨q19, hh⟩ | ⟨_, hh⟩
    · refine dq_eq 4 q19 ?_
      refine dq_S (.tableswitch 64 0 4 #[34, 39, 44, 54, 59]) 34 [] 69 _ [] (by decide +kernel) rfl ?_
      refine dq_aln 0 70 (by decide +kernel) rfl G0 ?_
      obtain ⟨x20, q21, hh⟩ := db hh
      refine dq_gI 379 25 [15] 73 (by decide +kernel) rfl q21 ?_
      exact dq_retI (some .int) (by decide +kernel) rfl hh
    cases hh
  · refine dq_1 .ne 5 false 7 q3 (by decide +kernel) ?_
    refine dq_S (.iconst (-1)) 1 [] 8 _ [.int (-1)] (by decide +kernel) rfl ?_
    exact dq_retI (some .int) (by decide +kernel) rfl hh
def f371 (L : Nat) (xs : Nat → Int32) (zf : Value) (D : dD) (w : Nat) (As : List Value) (h : rm_H) : Option dR := match As with
  | [v0, .int i1] => (rm_rf v0).bind fun o0 => b371_0 L xs zf D w o0 i1 h
  | _ => none
theorem d371 {L : Nat} {xs : Nat → Int32} {zf : Value} {D : dD} {w k : Nat} (hD : dO L xs zf D k) (hz : zf.category = 1) (As : List Value) (h : rm_H) (r : dR) (hh : f371 L xs zf D w As h = some r) : dq L xs zf ah_M371 0 (lv_args 0 As) [] h (k + 1) r := by
  unfold f371 at hh
  split at hh
  · obtain ⟨o0, e0, hb0⟩ := db hh
    have e0 := rm_rf_v _ _ e0
    subst e0
    refine c371_0 hD hz _ _ _ _ _ ?_ ?_ hb0
    all_goals (simp only [la_r, la_i, la_j]; rfl)
  · cases hh
def b372_30 (L : Nat) (xs : Nat → Int32) (zf : Value) (D : dD) (w : Nat) (h : rm_H) : Option dR :=
  drI (some .boolean) 0 h
theorem c372_30 {L : Nat} {xs : Nat → Int32} {zf : Value} {D : dD} {w k : Nat} (hD : dO L xs zf D k) (hz : zf.category = 1) : ∀ (lv : rm_L) (h : rm_H) (r : dR), b372_30 L xs zf D w  h = some r → dq L xs zf ah_M372 30 lv [] h (k + 1) r := by
  intro lv h r hh
  unfold b372_30 at hh
  refine dq_S (.iconst 0) 1 [] 31 _ [.int 0] (by decide +kernel) rfl ?_
  exact dq_retI (some .boolean) (by decide +kernel) rfl hh
def b372_0 (L : Nat) (xs : Nat → Int32) (zf : Value) (D : dD) (w : Nat) (o0 : Option Nat) (i1 : Int32) (i2 : Int32) (h : rm_H) : Option dR :=
  (dgI L xs h 73 [15] o0).bind fun x1 =>
  if mx_f1 .eq x1 = true then
    b372_30 L xs zf D w h
  else
    if mx_f2 .lt i1 1 = true then
      b372_30 L xs zf D w h
    else
      if mx_f2 .gt i1 400 = true then
        b372_30 L xs zf D w h
      else
        if mx_f2 .lt i2 1 = true then
          b372_30 L xs zf D w h
        else
          if mx_f2 .le i2 6 = true then
            ((dcV L xs D 328 [15] o0 [.long 1298229614] h).bind dxI).bind fun x8 =>
            ((dcV L xs D 373 [15] o0 [.int x8.1] x8.2).bind dxI).bind fun x16 =>
            if mx_f2 .le (x16.1 + 1) i1 = true then
              (dpF x16.2 74 [15] o0 (.int 1)).bind fun h21 =>
              (dpF h21 78 [15] o0 (.int i1)).bind fun h23 =>
              (dpF h23 79 [15] o0 (.int i2)).bind fun h25 =>
              (dpF h25 75 [15] o0 (.int 0)).bind fun h27 =>
              (dpF h27 76 [15] o0 (.int 0)).bind fun h29 =>
              (dpF h29 77 [15] o0 (.int 0)).bind fun h31 =>
              (dpF h31 87 [15] o0 (.int 0)).bind fun h33 =>
              (dpF h33 80 [15] o0 (.int 0)).bind fun h35 =>
              (dpF h35 81 [15] o0 (.int 0)).bind fun h37 =>
              (dpF h37 82 [15] o0 (.int 0)).bind fun h39 =>
              (dpF h39 83 [15] o0 (.int 0)).bind fun h41 =>
              (dpF h41 84 [15] o0 (.int 0)).bind fun h43 =>
              (dpF h43 111 [15] o0 (.int 0)).bind fun h45 =>
              ((dcV L xs D 374 [15] o0 [.int x8.1] h45).bind dxI).bind fun x47 =>
              (dgR L xs x47.2 36 [15] o0).bind fun p56 =>
              (daI L xs x47.2 p56 x8.1).bind fun x58 =>
              ((dcV L xs D 377 [15] o0 [.int x47.1, .int x58, .int x47.1, .int 0] x47.2).bind dxV).bind fun h60 =>
              drI (some .boolean) 1 h60
            else
              drI (some .boolean) 0 x16.2
          else
            b372_30 L xs zf D w h
theorem c372_0 {L : Nat} {xs : Nat → Int32} {zf : Value} {D : dD} {w k : Nat} (hD : dO L xs zf D k) (hz : zf.category = 1) : ∀ (o0 : Option Nat) (i1 : Int32) (i2 : Int32) (lv : rm_L) (h : rm_H) (r : dR), rm_get lv 0 = some (va_rf o0) → rm_get lv 1 = some (.int i1) → rm_get lv 2 = some (.int i2) → b372_0 L xs zf D w  o0 i1 i2 h = some r → dq L xs zf ah_M372 0 lv [] h (k + 1) r := by
  intro o0 i1 i2 lv h r G0 G1 G2 hh
  unfold b372_0 at hh
  refine dq_aln 0 1 (by decide +kernel) rfl G0 ?_
  obtain ⟨x1, q2, hh⟩ := db hh
  refine dq_gI 578 73 [15] 4 (by decide +kernel) rfl q2 ?_
  rcases di hh with ⟨q3, hh⟩ | ⟨q3, hh⟩
  · refine dq_1 .eq 26 true 30 q3 (by decide +kernel) ?_
    exact c372_30 hD hz  _ _ _  hh
  · refine dq_1 .eq 26 false 7 q3 (by decide +kernel) ?_
    refine dq_iln 1 8 (by decide +kernel) rfl G1 ?_
    refine dq_S (.iconst 1) 1 [] 9 _ [.int 1, .int i1] (by decide +kernel) rfl ?_
    rcases di hh with ⟨q4, hh⟩ | ⟨q4, hh⟩
    · refine dq_2 .lt 21 true 30 q4 (by decide +kernel) ?_
      exact c372_30 hD hz  _ _ _  hh
    · refine dq_2 .lt 21 false 12 q4 (by decide +kernel) ?_
      refine dq_iln 1 13 (by decide +kernel) rfl G1 ?_
      refine dq_S (.sipush 400) 3 [] 16 _ [.int 400, .int i1] (by decide +kernel) rfl ?_
      rcases di hh with ⟨q5, hh⟩ | ⟨q5, hh⟩
      · refine dq_2 .gt 14 true 30 q5 (by decide +kernel) ?_
        exact c372_30 hD hz  _ _ _  hh
      · refine dq_2 .gt 14 false 19 q5 (by decide +kernel) ?_
        refine dq_iln 2 20 (by decide +kernel) rfl G2 ?_
        refine dq_S (.iconst 1) 1 [] 21 _ [.int 1, .int i2] (by decide +kernel) rfl ?_
        rcases di hh with ⟨q6, hh⟩ | ⟨q6, hh⟩
        · refine dq_2 .lt 9 true 30 q6 (by decide +kernel) ?_
          exact c372_30 hD hz  _ _ _  hh
        · refine dq_2 .lt 9 false 24 q6 (by decide +kernel) ?_
          refine dq_iln 2 25 (by decide +kernel) rfl G2 ?_
          refine dq_S (.bipush 6) 2 [] 27 _ [.int 6, .int i2] (by decide +kernel) rfl ?_
          rcases di hh with ⟨q7, hh⟩ | ⟨q7, hh⟩
          · refine dq_2 .le 5 true 32 q7 (by decide +kernel) ?_
            refine dq_aln 0 33 (by decide +kernel) rfl G0 ?_
            refine dq_S (.ldc2_w 416) 3 [1298229614] 36 _ [.long 1298229614, va_rf o0] (by decide +kernel) rfl ?_
            obtain ⟨x8, q9, hh⟩ := db hh
            obtain ⟨a10, q11, q9⟩ := db q9
            rw [dq_xI q9] at q11
            refine dq_cvi hD 403 328 5 1 [15] o0 [.long 1298229614] [] 39 [.int x8.1] (by decide +kernel) ap_328 ⟨⟨Nat.le_of_ble_eq_true rfl, by decide⟩, rfl, rfl⟩ (dq_ok8 [1, 2] [] (dc_r (dc_j dc_n)) dc_n (by decide +kernel)) (by decide +kernel) rfl q11 rfl ?_
            refine dq_isn 3 40 (by decide +kernel) (by decide +kernel) ?_
            have g12 := dg_ne (i := 3) (u := .int x8.1) (by decide) (Or.inl (by decide)) G0
            have g13 := dg_ne (i := 3) (u := .int x8.1) (by decide) (Or.inl (by decide)) G1
            have g14 := dg_ne (i := 3) (u := .int x8.1) (by decide) (Or.inr rfl) G2
            have g15 := dg_eq (lv) 3 (.int x8.1)
            refine dq_aln 0 41 (by decide +kernel) rfl g12 ?_
            refine dq_iln 3 42 (by decide +kernel) rfl g15 ?_
            obtain ⟨x16, q17, hh⟩ := db hh
            obtain ⟨a18, q19, q17⟩ := db q17
            rw [dq_xI q17] at q19
            refine dq_cvi hD 605 373 5 1 [15] o0 [.int x8.1] [] 45 [.int x16.1] (by decide +kernel) ap_373 ⟨⟨Nat.le_of_ble_eq_true rfl, by decide⟩, rfl, rfl⟩ (dq_ok8 [1, 1] [] (dc_r (dc_i dc_n)) dc_n (by decide +kernel)) (by decide +kernel) rfl q19 rfl ?_
            refine dq_S (.iconst 1) 1 [] 46 _ [.int 1, .int x16.1] (by decide +kernel) rfl ?_
            refine dq_S (.iadd) 1 [] 47 _ [.int (x16.1 + 1)] (by decide +kernel) rfl ?_
            refine dq_iln 1 48 (by decide +kernel) rfl g13 ?_
            rcases di hh with ⟨q20, hh⟩ | ⟨q20, hh⟩
            · refine dq_2 .le 5 true 53 q20 (by decide +kernel) ?_
              refine dq_aln 0 54 (by decide +kernel) rfl g12 ?_
              refine dq_S (.iconst 1) 1 [] 55 _ [.int 1, va_rf o0] (by decide +kernel) rfl ?_
              obtain ⟨h21, q22, hh⟩ := db hh
              refine dq_put 569 74 [15] 58 (by decide +kernel) rfl q22 ?_
              refine dq_aln 0 59 (by decide +kernel) rfl g12 ?_
              refine dq_iln 1 60 (by decide +kernel) rfl g13 ?_
              obtain ⟨h23, q24, hh⟩ := db hh
              refine dq_put 690 78 [15] 63 (by decide +kernel) rfl q24 ?_
              refine dq_aln 0 64 (by decide +kernel) rfl g12 ?_
              refine dq_iln 2 65 (by decide +kernel) rfl g14 ?_
              obtain ⟨h25, q26, hh⟩ := db hh
              refine dq_put 703 79 [15] 68 (by decide +kernel) rfl q26 ?_
              refine dq_aln 0 69 (by decide +kernel) rfl g12 ?_
              refine dq_S (.iconst 0) 1 [] 70 _ [.int 0, va_rf o0] (by decide +kernel) rfl ?_
              obtain ⟨h27, q28, hh⟩ := db hh
              refine dq_put 599 75 [15] 73 (by decide +kernel) rfl q28 ?_
              refine dq_aln 0 74 (by decide +kernel) rfl g12 ?_
              refine dq_S (.iconst 0) 1 [] 75 _ [.int 0, va_rf o0] (by decide +kernel) rfl ?_
              obtain ⟨h29, q30, hh⟩ := db hh
              refine dq_put 612 76 [15] 78 (by decide +kernel) rfl q30 ?_
              refine dq_aln 0 79 (by decide +kernel) rfl g12 ?_
              refine dq_S (.iconst 0) 1 [] 80 _ [.int 0, va_rf o0] (by decide +kernel) rfl ?_
              obtain ⟨h31, q32, hh⟩ := db hh
              refine dq_put 602 77 [15] 83 (by decide +kernel) rfl q32 ?_
              refine dq_aln 0 84 (by decide +kernel) rfl g12 ?_
              refine dq_S (.iconst 0) 1 [] 85 _ [.int 0, va_rf o0] (by decide +kernel) rfl ?_
              obtain ⟨h33, q34, hh⟩ := db hh
              refine dq_put 615 87 [15] 88 (by decide +kernel) rfl q34 ?_
              refine dq_aln 0 89 (by decide +kernel) rfl g12 ?_
              refine dq_S (.iconst 0) 1 [] 90 _ [.int 0, va_rf o0] (by decide +kernel) rfl ?_
              obtain ⟨h35, q36, hh⟩ := db hh
              refine dq_put 647 80 [15] 93 (by decide +kernel) rfl q36 ?_
              refine dq_aln 0 94 (by decide +kernel) rfl g12 ?_
              refine dq_S (.iconst 0) 1 [] 95 _ [.int 0, va_rf o0] (by decide +kernel) rfl ?_
              obtain ⟨h37, q38, hh⟩ := db hh
              refine dq_put 681 81 [15] 98 (by decide +kernel) rfl q38 ?_
              refine dq_aln 0 99 (by decide +kernel) rfl g12 ?_
              refine dq_S (.iconst 0) 1 [] 100 _ [.int 0, va_rf o0] (by decide +kernel) rfl ?_
              obtain ⟨h39, q40, hh⟩ := db hh
              refine dq_put 618 82 [15] 103 (by decide +kernel) rfl q40 ?_
              refine dq_aln 0 104 (by decide +kernel) rfl g12 ?_
              refine dq_S (.iconst 0) 1 [] 105 _ [.int 0, va_rf o0] (by decide +kernel) rfl ?_
              obtain ⟨h41, q42, hh⟩ := db hh
              refine dq_put 706 83 [15] 108 (by decide +kernel) rfl q42 ?_
              refine dq_aln 0 109 (by decide +kernel) rfl g12 ?_
              refine dq_S (.iconst 0) 1 [] 110 _ [.int 0, va_rf o0] (by decide +kernel) rfl ?_
              obtain ⟨h43, q44, hh⟩ := db hh
              refine dq_put 656 84 [15] 113 (by decide +kernel) rfl q44 ?_
              refine dq_aln 0 114 (by decide +kernel) rfl g12 ?_
              refine dq_S (.iconst 0) 1 [] 115 _ [.int 0, va_rf o0] (by decide +kernel) rfl ?_
              obtain ⟨h45, q46, hh⟩ := db hh
              refine dq_put 572 111 [15] 118 (by decide +kernel) rfl q46 ?_
              refine dq_aln 0 119 (by decide +kernel) rfl g12 ?_
              refine dq_iln 3 120 (by decide +kernel) rfl g15 ?_
              obtain ⟨x47, q48, hh⟩ := db hh
              obtain ⟨a49, q50, q48⟩ := db q48
              rw [dq_xI q48] at q50
              refine dq_cvi hD 693 374 5 1 [15] o0 [.int x8.1] [] 123 [.int x47.1] (by decide +kernel) ap_374 ⟨⟨Nat.le_of_ble_eq_true rfl, by decide⟩, rfl, rfl⟩ (dq_ok8 [1, 1] [] (dc_r (dc_i dc_n)) dc_n (by decide +kernel)) (by decide +kernel) rfl q50 rfl ?_
              refine dq_is 4 125 (by decide +kernel) (by decide +kernel) ?_
              have g51 := dg_ne (i := 4) (u := .int x47.1) (by decide) (Or.inl (by decide)) g12
              have g52 := dg_ne (i := 4) (u := .int x47.1) (by decide) (Or.inl (by decide)) g13
              have g53 := dg_ne (i := 4) (u := .int x47.1) (by decide) (Or.inl (by decide)) g14
              have g54 := dg_ne (i := 4) (u := .int x47.1) (by decide) (Or.inr rfl) g15
              have g55 := dg_eq (rm_set1 (lv) 3 (.int x8.1)) 4 (.int x47.1)
              refine dq_aln 0 126 (by decide +kernel) rfl g51 ?_
              refine dq_il 4 128 (by decide +kernel) rfl g55 ?_
              refine dq_aln 0 129 (by decide +kernel) rfl g51 ?_
              obtain ⟨p56, q57, hh⟩ := db hh
              refine dq_gR 99 36 [15] 132 (by decide +kernel) rfl q57 ?_
              refine dq_iln 3 133 (by decide +kernel) rfl g54 ?_
              obtain ⟨x58, q59, hh⟩ := db hh
              refine dq_aI 134 (by decide +kernel) rfl q59 ?_
              refine dq_il 4 136 (by decide +kernel) rfl g55 ?_
              refine dq_S (.iconst 0) 1 [] 137 _ [.int 0, .int x47.1, .int x58, .int x47.1, va_rf o0] (by decide +kernel) rfl ?_
              obtain ⟨h60, q61, hh⟩ := db hh
              obtain ⟨a62, q63, q61⟩ := db q61
              rw [dq_xV q61] at q63
              refine dq_cvi hD 696 377 5 4 [15] o0 [.int x47.1, .int x58, .int x47.1, .int 0] [] 140 [] (by decide +kernel) ap_377 ⟨⟨Nat.le_of_ble_eq_true rfl, by decide⟩, rfl, rfl⟩ (dq_ok8 [1, 1, 1, 1, 1] [] (dc_r (dc_i (dc_i (dc_i (dc_i dc_n))))) dc_n (by decide +kernel)) (by decide +kernel) rfl q63 rfl ?_
              refine dq_S (.iconst 1) 1 [] 141 _ [.int 1] (by decide +kernel) rfl ?_
              exact dq_retI (some .boolean) (by decide +kernel) rfl hh
            · refine dq_2 .le 5 false 51 q20 (by decide +kernel) ?_
              refine dq_S (.iconst 0) 1 [] 52 _ [.int 0] (by decide +kernel) rfl ?_
              exact dq_retI (some .boolean) (by decide +kernel) rfl hh
          · refine dq_2 .le 5 false 30 q7 (by decide +kernel) ?_
            exact c372_30 hD hz  _ _ _  hh
def f372 (L : Nat) (xs : Nat → Int32) (zf : Value) (D : dD) (w : Nat) (As : List Value) (h : rm_H) : Option dR := match As with
  | [v0, .int i1, .int i2] => (rm_rf v0).bind fun o0 => b372_0 L xs zf D w o0 i1 i2 h
  | _ => none
theorem d372 {L : Nat} {xs : Nat → Int32} {zf : Value} {D : dD} {w k : Nat} (hD : dO L xs zf D k) (hz : zf.category = 1) (As : List Value) (h : rm_H) (r : dR) (hh : f372 L xs zf D w As h = some r) : dq L xs zf ah_M372 0 (lv_args 0 As) [] h (k + 1) r := by
  unfold f372 at hh
  split at hh
  · obtain ⟨o0, e0, hb0⟩ := db hh
    have e0 := rm_rf_v _ _ e0
    subst e0
    refine c372_0 hD hz _ _ _ _ _ _ ?_ ?_ ?_ hb0
    all_goals (simp only [la_r, la_i, la_j]; rfl)
  · cases hh
def b373_0 (L : Nat) (xs : Nat → Int32) (zf : Value) (D : dD) (w : Nat) (o0 : Option Nat) (i1 : Int32) (h : rm_H) : Option dR :=
  (dgR L xs h 35 [15] o0).bind fun p1 =>
  (daI L xs h p1 (i1 + 1)).bind fun x3 =>
  (dgR L xs h 35 [15] o0).bind fun p5 =>
  (daI L xs h p5 i1).bind fun x7 =>
  drI (some .int) (x3 - x7) h
theorem c373_0 {L : Nat} {xs : Nat → Int32} {zf : Value} {D : dD} {w k : Nat} (hD : dO L xs zf D k) (hz : zf.category = 1) : ∀ (o0 : Option Nat) (i1 : Int32) (lv : rm_L) (h : rm_H) (r : dR), rm_get lv 0 = some (va_rf o0) → rm_get lv 1 = some (.int i1) → b373_0 L xs zf D w  o0 i1 h = some r → dq L xs zf ah_M373 0 lv [] h (k + 1) r := by
  intro o0 i1 lv h r G0 G1 hh
  unfold b373_0 at hh
  refine dq_aln 0 1 (by decide +kernel) rfl G0 ?_
  obtain ⟨p1, q2, hh⟩ := db hh
  refine dq_gR 96 35 [15] 4 (by decide +kernel) rfl q2 ?_
  refine dq_iln 1 5 (by decide +kernel) rfl G1 ?_
  refine dq_S (.iconst 1) 1 [] 6 _ [.int 1, .int i1, va_rf p1] (by decide +kernel) rfl ?_
  refine dq_S (.iadd) 1 [] 7 _ [.int (i1 + 1), va_rf p1] (by decide +kernel) rfl ?_
  obtain ⟨x3, q4, hh⟩ := db hh
  refine dq_aI 8 (by decide +kernel) rfl q4 ?_
  refine dq_aln 0 9 (by decide +kernel) rfl G0 ?_
  obtain ⟨p5, q6, hh⟩ := db hh
  refine dq_gR 96 35 [15] 12 (by decide +kernel) rfl q6 ?_
  refine dq_iln 1 13 (by decide +kernel) rfl G1 ?_
  obtain ⟨x7, q8, hh⟩ := db hh
  refine dq_aI 14 (by decide +kernel) rfl q8 ?_
  refine dq_S (.isub) 1 [] 15 _ [.int (x3 - x7)] (by decide +kernel) rfl ?_
  exact dq_retI (some .int) (by decide +kernel) rfl hh
def f373 (L : Nat) (xs : Nat → Int32) (zf : Value) (D : dD) (w : Nat) (As : List Value) (h : rm_H) : Option dR := match As with
  | [v0, .int i1] => (rm_rf v0).bind fun o0 => b373_0 L xs zf D w o0 i1 h
  | _ => none
theorem d373 {L : Nat} {xs : Nat → Int32} {zf : Value} {D : dD} {w k : Nat} (hD : dO L xs zf D k) (hz : zf.category = 1) (As : List Value) (h : rm_H) (r : dR) (hh : f373 L xs zf D w As h = some r) : dq L xs zf ah_M373 0 (lv_args 0 As) [] h (k + 1) r := by
  unfold f373 at hh
  split at hh
  · obtain ⟨o0, e0, hb0⟩ := db hh
    have e0 := rm_rf_v _ _ e0
    subst e0
    refine c373_0 hD hz _ _ _ _ _ ?_ ?_ hb0
    all_goals (simp only [la_r, la_i, la_j]; rfl)
  · cases hh
def b374_124 (L : Nat) (xs : Nat → Int32) (zf : Value) (D : dD) (w : Nat) : Nat → Option Nat → Int32 → Int32 → rm_H → Option dR
  | 0, _, _, _, _ => none
  | n + 1, o0, i2, i3, h =>
    if mx_f2 .ge i3 6 = true then
      drI (some .int) i2 h
    else
      (dgR L xs h 103 [15] o0).bind fun p2 =>
      (dsB h p2 ((6 * i2) + i3) 0).bind fun h4 =>
      b374_124 L xs zf D w n o0 i2 (i3 + 1) h4
theorem c374_124 {L : Nat} {xs : Nat → Int32} {zf : Value} {D : dD} {w k : Nat} (hD : dO L xs zf D k) (hz : zf.category = 1) : ∀ (n : Nat) (o0 : Option Nat) (i2 : Int32) (i3 : Int32) (lv : rm_L) (h : rm_H) (r : dR), rm_get lv 0 = some (va_rf o0) → rm_get lv 2 = some (.int i2) → rm_get lv 3 = some (.int i3) → b374_124 L xs zf D w n  o0 i2 i3 h = some r → dq L xs zf ah_M374 124 lv [] h (k + 1) r := by
  intro n
  induction n with
  | zero =>
    intro o0 i2 i3 lv h r G0 G2 G3 hh
    cases hh
  | succ n ih =>
    intro o0 i2 i3 lv h r G0 G2 G3 hh
    rw [b374_124] at hh
    refine dq_iln 3 125 (by decide +kernel) rfl G3 ?_
    refine dq_S (.bipush 6) 2 [] 127 _ [.int 6, .int i3] (by decide +kernel) rfl ?_
    rcases di hh with ⟨q1, hh⟩ | ⟨q1, hh⟩
    · refine dq_2 .ge 21 true 148 q1 (by decide +kernel) ?_
      refine dq_iln 2 149 (by decide +kernel) rfl G2 ?_
      exact dq_retI (some .int) (by decide +kernel) rfl hh
    · refine dq_2 .ge 21 false 130 q1 (by decide +kernel) ?_
      refine dq_aln 0 131 (by decide +kernel) rfl G0 ?_
      obtain ⟨p2, q3, hh⟩ := db hh
      refine dq_gR 221 103 [15] 134 (by decide +kernel) rfl q3 ?_
      refine dq_S (.bipush 6) 2 [] 136 _ [.int 6, va_rf p2] (by decide +kernel) rfl ?_
      refine dq_iln 2 137 (by decide +kernel) rfl G2 ?_
      refine dq_S (.imul) 1 [] 138 _ [.int (6 * i2), va_rf p2] (by decide +kernel) rfl ?_
      refine dq_iln 3 139 (by decide +kernel) rfl G3 ?_
      refine dq_S (.iadd) 1 [] 140 _ [.int ((6 * i2) + i3), va_rf p2] (by decide +kernel) rfl ?_
      refine dq_S (.iconst 0) 1 [] 141 _ [.int 0, .int ((6 * i2) + i3), va_rf p2] (by decide +kernel) rfl ?_
      obtain ⟨h4, q5, hh⟩ := db hh
      refine dq_sB1 142 (by decide +kernel) rfl q5 ?_
      refine dq_incy 3 1 1 145 (by decide +kernel) ⟨rfl, by decide +kernel, by decide +kernel⟩ G3 ?_
      have g6 := dg_ne (i := 3) (u := .int (i3 + 1)) (by decide) (Or.inl (by decide)) G0
      have g7 := dg_ne (i := 3) (u := .int (i3 + 1)) (by decide) (Or.inr rfl) G2
      have g8 := dg_eq (lv) 3 (.int (i3 + 1))
      refine dq_S (.goto (-21)) 3 [] 124 _ [] (by decide +kernel) rfl ?_
      exact ih _ _ _ _ _ _ g6 g7 g8 hh
def b374_75 (L : Nat) (xs : Nat → Int32) (zf : Value) (D : dD) (w : Nat) : Nat → Option Nat → Int32 → Int32 → Int32 → rm_H → Option dR
  | 0, _, _, _, _, _ => none
  | n + 1, o0, i1, i2, i3, h =>
    ((dcV L xs D 373 [15] o0 [.int i1] h).bind dxI).bind fun x1 =>
    if mx_f2 .ge i3 x1.1 = true then
      b374_124 L xs zf D w w o0 i2 0 x1.2
    else
      (dgR L xs x1.2 94 [15] o0).bind fun p10 =>
      (dgR L xs x1.2 30 [15] o0).bind fun p12 =>
      (dgR L xs x1.2 41 [15] o0).bind fun p14 =>
      (dgR L xs x1.2 35 [15] o0).bind fun p16 =>
      (daI L xs x1.2 p16 i1).bind fun x18 =>
      (daI L xs x1.2 p14 (x18 + i3)).bind fun x20 =>
      (daI L xs x1.2 p12 x20).bind fun x22 =>
      ((D 375 [.int x22] x1.2).bind dxJ).bind fun y24 =>
      (dsJ y24.2 p10 ((8 * i2) + i3) y24.1).bind fun h28 =>
      b374_75 L xs zf D w n o0 i1 i2 (i3 + 1) h28
theorem c374_75 {L : Nat} {xs : Nat → Int32} {zf : Value} {D : dD} {w k : Nat} (hD : dO L xs zf D k) (hz : zf.category = 1) : ∀ (n : Nat) (o0 : Option Nat) (i1 : Int32) (i2 : Int32) (i3 : Int32) (lv : rm_L) (h : rm_H) (r : dR), rm_get lv 0 = some (va_rf o0) → rm_get lv 1 = some (.int i1) → rm_get lv 2 = some (.int i2) → rm_get lv 3 = some (.int i3) → b374_75 L xs zf D w n  o0 i1 i2 i3 h = some r → dq L xs zf ah_M374 75 lv [] h (k + 1) r := by
  intro n
  induction n with
  | zero =>
    intro o0 i1 i2 i3 lv h r G0 G1 G2 G3 hh
    cases hh
  | succ n ih =>
    intro o0 i1 i2 i3 lv h r G0 G1 G2 G3 hh
    rw [b374_75] at hh
    refine dq_iln 3 76 (by decide +kernel) rfl G3 ?_
    refine dq_aln 0 77 (by decide +kernel) rfl G0 ?_
    refine dq_iln 1 78 (by decide +kernel) rfl G1 ?_
    obtain ⟨x1, q2, hh⟩ := db hh
    obtain ⟨a3, q4, q2⟩ := db q2
    rw [dq_xI q2] at q4
    refine dq_cvi hD 605 373 5 1 [15] o0 [.int i1] [.int i3] 81 [.int x1.1, .int i3] (by decide +kernel) ap_373 ⟨⟨Nat.le_of_ble_eq_true rfl, by decide⟩, rfl, rfl⟩ (dq_ok8 [1, 1] [1] (dc_r (dc_i dc_n)) (dc_i dc_n) (by decide +kernel)) (by decide +kernel) rfl q4 rfl ?_
    rcases di hh with ⟨q5, hh⟩ | ⟨q5, hh⟩
    · refine dq_2 .ge 41 true 122 q5 (by decide +kernel) ?_
      refine dq_S (.iconst 0) 1 [] 123 _ [.int 0] (by decide +kernel) rfl ?_
      refine dq_isn 3 124 (by decide +kernel) (by decide +kernel) ?_
      have g6 := dg_ne (i := 3) (u := .int 0) (by decide) (Or.inl (by decide)) G0
      have g7 := dg_ne (i := 3) (u := .int 0) (by decide) (Or.inl (by decide)) G1
      have g8 := dg_ne (i := 3) (u := .int 0) (by decide) (Or.inr rfl) G2
      have g9 := dg_eq (lv) 3 (.int 0)
      exact c374_124 hD hz _ _ _ _ _ _ _ g6 g8 g9 hh
    · refine dq_2 .ge 41 false 84 q5 (by decide +kernel) ?_
      refine dq_aln 0 85 (by decide +kernel) rfl G0 ?_
      obtain ⟨p10, q11, hh⟩ := db hh
      refine dq_gR 193 94 [15] 88 (by decide +kernel) rfl q11 ?_
      refine dq_S (.bipush 8) 2 [] 90 _ [.int 8, va_rf p10] (by decide +kernel) rfl ?_
      refine dq_iln 2 91 (by decide +kernel) rfl G2 ?_
      refine dq_S (.imul) 1 [] 92 _ [.int (8 * i2), va_rf p10] (by decide +kernel) rfl ?_
      refine dq_iln 3 93 (by decide +kernel) rfl G3 ?_
      refine dq_S (.iadd) 1 [] 94 _ [.int ((8 * i2) + i3), va_rf p10] (by decide +kernel) rfl ?_
      refine dq_aln 0 95 (by decide +kernel) rfl G0 ?_
      obtain ⟨p12, q13, hh⟩ := db hh
      refine dq_gR 84 30 [15] 98 (by decide +kernel) rfl q13 ?_
      refine dq_aln 0 99 (by decide +kernel) rfl G0 ?_
      obtain ⟨p14, q15, hh⟩ := db hh
      refine dq_gR 112 41 [15] 102 (by decide +kernel) rfl q15 ?_
      refine dq_aln 0 103 (by decide +kernel) rfl G0 ?_
      obtain ⟨p16, q17, hh⟩ := db hh
      refine dq_gR 96 35 [15] 106 (by decide +kernel) rfl q17 ?_
      refine dq_iln 1 107 (by decide +kernel) rfl G1 ?_
      obtain ⟨x18, q19, hh⟩ := db hh
      refine dq_aI 108 (by decide +kernel) rfl q19 ?_
      refine dq_iln 3 109 (by decide +kernel) rfl G3 ?_
      refine dq_S (.iadd) 1 [] 110 _ [.int (x18 + i3), va_rf p14, va_rf p12, .int ((8 * i2) + i3), va_rf p10] (by decide +kernel) rfl ?_
      obtain ⟨x20, q21, hh⟩ := db hh
      refine dq_aI 111 (by decide +kernel) rfl q21 ?_
      obtain ⟨x22, q23, hh⟩ := db hh
      refine dq_aI 112 (by decide +kernel) rfl q23 ?_
      obtain ⟨y24, q25, hh⟩ := db hh
      obtain ⟨a26, q27, q25⟩ := db q25
      rw [dq_xJ q25] at q27
      refine dq_cst hD 608 375 0 1 [.int x22] [.int ((8 * i2) + i3), va_rf p10] 115 [.long y24.1, .int ((8 * i2) + i3), va_rf p10] (by decide +kernel) ap_375 ⟨⟨Nat.le_of_ble_eq_true rfl, by decide⟩, rfl, rfl⟩ (dq_ok8 [1] [1, 1] (dc_i dc_n) (dc_i (dc_r dc_n)) (by decide +kernel)) (by decide +kernel) rfl q27 rfl ?_
      obtain ⟨h28, q29, hh⟩ := db hh
      refine dq_sJ 116 (by decide +kernel) rfl q29 ?_
      refine dq_incy 3 1 1 119 (by decide +kernel) ⟨rfl, by decide +kernel, by decide +kernel⟩ G3 ?_
      have g30 := dg_ne (i := 3) (u := .int (i3 + 1)) (by decide) (Or.inl (by decide)) G0
      have g31 := dg_ne (i := 3) (u := .int (i3 + 1)) (by decide) (Or.inl (by decide)) G1
      have g32 := dg_ne (i := 3) (u := .int (i3 + 1)) (by decide) (Or.inr rfl) G2
      have g33 := dg_eq (lv) 3 (.int (i3 + 1))
      refine dq_S (.goto (-44)) 3 [] 75 _ [] (by decide +kernel) rfl ?_
      exact ih _ _ _ _ _ _ _ g30 g31 g32 g33 hh
def b374_0 (L : Nat) (xs : Nat → Int32) (zf : Value) (D : dD) (w : Nat) (o0 : Option Nat) (i1 : Int32) (h : rm_H) : Option dR :=
  (dgI L xs h 75 [15] o0).bind fun x1 =>
  (dgI L xs h 75 [15] o0).bind fun x6 =>
  (dpF h 75 [15] o0 (.int (x6 + 1))).bind fun h8 =>
  (dgI L xs h8 77 [15] o0).bind fun x10 =>
  ((dcV L xs D 373 [15] o0 [.int i1] h8).bind dxI).bind fun x12 =>
  (dpF x12.2 77 [15] o0 (.int (x10 + (x12.1 + 1)))).bind fun h16 =>
  (dgR L xs h16 88 [15] o0).bind fun p18 =>
  (dsI h16 p18 x1 i1).bind fun h20 =>
  (dgR L xs h20 89 [15] o0).bind fun p22 =>
  (dsI h20 p22 x1 0).bind fun h24 =>
  (dgR L xs h24 90 [15] o0).bind fun p26 =>
  (dsI h24 p26 x1 0).bind fun h28 =>
  (dgR L xs h28 91 [15] o0).bind fun p30 =>
  (dsI h28 p30 x1 0).bind fun h32 =>
  (dgR L xs h32 92 [15] o0).bind fun p34 =>
  (dsI h32 p34 x1 0).bind fun h36 =>
  (dgR L xs h36 93 [15] o0).bind fun p38 =>
  (dsI h36 p38 x1 0).bind fun h40 =>
  b374_75 L xs zf D w w o0 i1 x1 0 h40
theorem c374_0 {L : Nat} {xs : Nat → Int32} {zf : Value} {D : dD} {w k : Nat} (hD : dO L xs zf D k) (hz : zf.category = 1) : ∀ (o0 : Option Nat) (i1 : Int32) (lv : rm_L) (h : rm_H) (r : dR), rm_get lv 0 = some (va_rf o0) → rm_get lv 1 = some (.int i1) → b374_0 L xs zf D w  o0 i1 h = some r → dq L xs zf ah_M374 0 lv [] h (k + 1) r := by
  intro o0 i1 lv h r G0 G1 hh
  unfold b374_0 at hh
  refine dq_aln 0 1 (by decide +kernel) rfl G0 ?_
  obtain ⟨x1, q2, hh⟩ := db hh
  refine dq_gI 599 75 [15] 4 (by decide +kernel) rfl q2 ?_
  refine dq_isn 2 5 (by decide +kernel) (by decide +kernel) ?_
  have g3 := dg_ne (i := 2) (u := .int x1) (by decide) (Or.inl (by decide)) G0
  have g4 := dg_ne (i := 2) (u := .int x1) (by decide) (Or.inr rfl) G1
  have g5 := dg_eq (lv) 2 (.int x1)
  refine dq_aln 0 6 (by decide +kernel) rfl g3 ?_
  refine dq_dup 7 (by decide +kernel) rfl ?_
  obtain ⟨x6, q7, hh⟩ := db hh
  refine dq_gI 599 75 [15] 10 (by decide +kernel) rfl q7 ?_
  refine dq_S (.iconst 1) 1 [] 11 _ [.int 1, .int x6, va_rf o0] (by decide +kernel) rfl ?_
  refine dq_S (.iadd) 1 [] 12 _ [.int (x6 + 1), va_rf o0] (by decide +kernel) rfl ?_
  obtain ⟨h8, q9, hh⟩ := db hh
  refine dq_put 599 75 [15] 15 (by decide +kernel) rfl q9 ?_
  refine dq_aln 0 16 (by decide +kernel) rfl g3 ?_
  refine dq_dup 17 (by decide +kernel) rfl ?_
  obtain ⟨x10, q11, hh⟩ := db hh
  refine dq_gI 602 77 [15] 20 (by decide +kernel) rfl q11 ?_
  refine dq_aln 0 21 (by decide +kernel) rfl g3 ?_
  refine dq_iln 1 22 (by decide +kernel) rfl g4 ?_
  obtain ⟨x12, q13, hh⟩ := db hh
  obtain ⟨a14, q15, q13⟩ := db q13
  rw [dq_xI q13] at q15
  refine dq_cvi hD 605 373 5 1 [15] o0 [.int i1] [.int x10, va_rf o0] 25 [.int x12.1, .int x10, va_rf o0] (by decide +kernel) ap_373 ⟨⟨Nat.le_of_ble_eq_true rfl, by decide⟩, rfl, rfl⟩ (dq_ok8 [1, 1] [1, 1] (dc_r (dc_i dc_n)) (dc_i (dc_r dc_n)) (by decide +kernel)) (by decide +kernel) rfl q15 rfl ?_
  refine dq_S (.iconst 1) 1 [] 26 _ [.int 1, .int x12.1, .int x10, va_rf o0] (by decide +kernel) rfl ?_
  refine dq_S (.iadd) 1 [] 27 _ [.int (x12.1 + 1), .int x10, va_rf o0] (by decide +kernel) rfl ?_
  refine dq_S (.iadd) 1 [] 28 _ [.int (x10 + (x12.1 + 1)), va_rf o0] (by decide +kernel) rfl ?_
  obtain ⟨h16, q17, hh⟩ := db hh
  refine dq_put 602 77 [15] 31 (by decide +kernel) rfl q17 ?_
  refine dq_aln 0 32 (by decide +kernel) rfl g3 ?_
  obtain ⟨p18, q19, hh⟩ := db hh
  refine dq_gR 175 88 [15] 35 (by decide +kernel) rfl q19 ?_
  refine dq_iln 2 36 (by decide +kernel) rfl g5 ?_
  refine dq_iln 1 37 (by decide +kernel) rfl g4 ?_
  obtain ⟨h20, q21, hh⟩ := db hh
  refine dq_sI 38 (by decide +kernel) rfl q21 ?_
  refine dq_aln 0 39 (by decide +kernel) rfl g3 ?_
  obtain ⟨p22, q23, hh⟩ := db hh
  refine dq_gR 178 89 [15] 42 (by decide +kernel) rfl q23 ?_
  refine dq_iln 2 43 (by decide +kernel) rfl g5 ?_
  refine dq_S (.iconst 0) 1 [] 44 _ [.int 0, .int x1, va_rf p22] (by decide +kernel) rfl ?_
  obtain ⟨h24, q25, hh⟩ := db hh
  refine dq_sI 45 (by decide +kernel) rfl q25 ?_
  refine dq_aln 0 46 (by decide +kernel) rfl g3 ?_
  obtain ⟨p26, q27, hh⟩ := db hh
  refine dq_gR 181 90 [15] 49 (by decide +kernel) rfl q27 ?_
  refine dq_iln 2 50 (by decide +kernel) rfl g5 ?_
  refine dq_S (.iconst 0) 1 [] 51 _ [.int 0, .int x1, va_rf p26] (by decide +kernel) rfl ?_
  obtain ⟨h28, q29, hh⟩ := db hh
  refine dq_sI 52 (by decide +kernel) rfl q29 ?_
  refine dq_aln 0 53 (by decide +kernel) rfl g3 ?_
  obtain ⟨p30, q31, hh⟩ := db hh
  refine dq_gR 184 91 [15] 56 (by decide +kernel) rfl q31 ?_
  refine dq_iln 2 57 (by decide +kernel) rfl g5 ?_
  refine dq_S (.iconst 0) 1 [] 58 _ [.int 0, .int x1, va_rf p30] (by decide +kernel) rfl ?_
  obtain ⟨h32, q33, hh⟩ := db hh
  refine dq_sI 59 (by decide +kernel) rfl q33 ?_
  refine dq_aln 0 60 (by decide +kernel) rfl g3 ?_
  obtain ⟨p34, q35, hh⟩ := db hh
  refine dq_gR 187 92 [15] 63 (by decide +kernel) rfl q35 ?_
  refine dq_iln 2 64 (by decide +kernel) rfl g5 ?_
  refine dq_S (.iconst 0) 1 [] 65 _ [.int 0, .int x1, va_rf p34] (by decide +kernel) rfl ?_
  obtain ⟨h36, q37, hh⟩ := db hh
  refine dq_sI 66 (by decide +kernel) rfl q37 ?_
  refine dq_aln 0 67 (by decide +kernel) rfl g3 ?_
  obtain ⟨p38, q39, hh⟩ := db hh
  refine dq_gR 190 93 [15] 70 (by decide +kernel) rfl q39 ?_
  refine dq_iln 2 71 (by decide +kernel) rfl g5 ?_
  refine dq_S (.iconst 0) 1 [] 72 _ [.int 0, .int x1, va_rf p38] (by decide +kernel) rfl ?_
  obtain ⟨h40, q41, hh⟩ := db hh
  refine dq_sI 73 (by decide +kernel) rfl q41 ?_
  refine dq_S (.iconst 0) 1 [] 74 _ [.int 0] (by decide +kernel) rfl ?_
  refine dq_isn 3 75 (by decide +kernel) (by decide +kernel) ?_
  have g42 := dg_ne (i := 3) (u := .int 0) (by decide) (Or.inl (by decide)) g3
  have g43 := dg_ne (i := 3) (u := .int 0) (by decide) (Or.inl (by decide)) g4
  have g44 := dg_ne (i := 3) (u := .int 0) (by decide) (Or.inr rfl) g5
  have g45 := dg_eq (rm_set1 (lv) 2 (.int x1)) 3 (.int 0)
  exact c374_75 hD hz _ _ _ _ _ _ _ _ g42 g43 g44 g45 hh
def f374 (L : Nat) (xs : Nat → Int32) (zf : Value) (D : dD) (w : Nat) (As : List Value) (h : rm_H) : Option dR := match As with
  | [v0, .int i1] => (rm_rf v0).bind fun o0 => b374_0 L xs zf D w o0 i1 h
  | _ => none
theorem d374 {L : Nat} {xs : Nat → Int32} {zf : Value} {D : dD} {w k : Nat} (hD : dO L xs zf D k) (hz : zf.category = 1) (As : List Value) (h : rm_H) (r : dR) (hh : f374 L xs zf D w As h = some r) : dq L xs zf ah_M374 0 (lv_args 0 As) [] h (k + 1) r := by
  unfold f374 at hh
  split at hh
  · obtain ⟨o0, e0, hb0⟩ := db hh
    have e0 := rm_rf_v _ _ e0
    subst e0
    refine c374_0 hD hz _ _ _ _ _ ?_ ?_ hb0
    all_goals (simp only [la_r, la_i, la_j]; rfl)
  · cases hh
def b375_13 (L : Nat) (xs : Nat → Int32) (zf : Value) (D : dD) (w : Nat) (s0 : Int64) (h : rm_H) : Option dR :=
  some (some (.long s0), h)
theorem c375_13 {L : Nat} {xs : Nat → Int32} {zf : Value} {D : dD} {w k : Nat} (hD : dO L xs zf D k) (hz : zf.category = 1) : ∀ (s0 : Int64) (lv : rm_L) (h : rm_H) (r : dR), b375_13 L xs zf D w  s0 h = some r → dq L xs zf ah_M375 13 lv [.long s0] h (k + 1) r := by
  intro s0 lv h r hh
  unfold b375_13 at hh
  cases hh
  exact dq_retJ (by decide +kernel) rfl
def b375_0 (L : Nat) (xs : Nat → Int32) (zf : Value) (D : dD) (w : Nat) (i0 : Int32) (h : rm_H) : Option dR :=
  if mx_f1 .ne i0 = true then
    b375_13 L xs zf D w 0 h
  else
    ((D 376 [.int 1, .int 0] h).bind dxJ).bind fun y2 =>
    b375_13 L xs zf D w y2.1 y2.2
theorem c375_0 {L : Nat} {xs : Nat → Int32} {zf : Value} {D : dD} {w k : Nat} (hD : dO L xs zf D k) (hz : zf.category = 1) : ∀ (i0 : Int32) (lv : rm_L) (h : rm_H) (r : dR), rm_get lv 0 = some (.int i0) → b375_0 L xs zf D w  i0 h = some r → dq L xs zf ah_M375 0 lv [] h (k + 1) r := by
  intro i0 lv h r G0 hh
  unfold b375_0 at hh
  refine dq_iln 0 1 (by decide +kernel) rfl G0 ?_
  rcases di hh with ⟨q1, hh⟩ | ⟨q1, hh⟩
  · refine dq_1 .ne 11 true 12 q1 (by decide +kernel) ?_
    refine dq_S (.lconst 0) 1 [] 13 _ [.long 0] (by decide +kernel) rfl ?_
    exact c375_13 hD hz _ _ _ _  hh
  · refine dq_1 .ne 11 false 4 q1 (by decide +kernel) ?_
    refine dq_S (.iconst 1) 1 [] 5 _ [.int 1] (by decide +kernel) rfl ?_
    refine dq_S (.iconst 0) 1 [] 6 _ [.int 0, .int 1] (by decide +kernel) rfl ?_
    obtain ⟨y2, q3, hh⟩ := db hh
    obtain ⟨a4, q5, q3⟩ := db q3
    rw [dq_xJ q3] at q5
    refine dq_cst hD 595 376 0 2 [.int 1, .int 0] [] 9 [.long y2.1] (by decide +kernel) ap_376 ⟨⟨Nat.le_of_ble_eq_true rfl, by decide⟩, rfl, rfl⟩ (dq_ok8 [1, 1] [] (dc_i (dc_i dc_n)) dc_n (by decide +kernel)) (by decide +kernel) rfl q5 rfl ?_
    refine dq_S (.goto 4) 3 [] 13 _ [.long y2.1] (by decide +kernel) rfl ?_
    exact c375_13 hD hz _ _ _ _  hh
def f375 (L : Nat) (xs : Nat → Int32) (zf : Value) (D : dD) (w : Nat) (As : List Value) (h : rm_H) : Option dR := match As with
  | [.int i0] => b375_0 L xs zf D w i0 h
  | _ => none
theorem d375 {L : Nat} {xs : Nat → Int32} {zf : Value} {D : dD} {w k : Nat} (hD : dO L xs zf D k) (hz : zf.category = 1) (As : List Value) (h : rm_H) (r : dR) (hh : f375 L xs zf D w As h = some r) : dq L xs zf ah_M375 0 (lv_args 0 As) [] h (k + 1) r := by
  unfold f375 at hh
  split at hh
  · refine c375_0 hD hz _ _ _ _ ?_ hh
    all_goals (simp only [la_r, la_i, la_j]; rfl)
  · cases hh
def b376_0 (L : Nat) (xs : Nat → Int32) (zf : Value) (D : dD) (w : Nat) (i0 : Int32) (i1 : Int32) (h : rm_H) : Option dR :=
  some (some (.long (((Int32.toInt64 i0) <<< ((32 : Int32).toInt64 &&& 63)) ||| ((Int32.toInt64 i1) &&& 4294967295))), h)
theorem c376_0 {L : Nat} {xs : Nat → Int32} {zf : Value} {D : dD} {w k : Nat} (hD : dO L xs zf D k) (hz : zf.category = 1) : ∀ (i0 : Int32) (i1 : Int32) (lv : rm_L) (h : rm_H) (r : dR), rm_get lv 0 = some (.int i0) → rm_get lv 1 = some (.int i1) → b376_0 L xs zf D w  i0 i1 h = some r → dq L xs zf ah_M376 0 lv [] h (k + 1) r := by
  intro i0 i1 lv h r G0 G1 hh
  unfold b376_0 at hh
  refine dq_iln 0 1 (by decide +kernel) rfl G0 ?_
  refine dq_S (.i2l) 1 [] 2 _ [.long (Int32.toInt64 i0)] (by decide +kernel) rfl ?_
  refine dq_S (.bipush 32) 2 [] 4 _ [.int 32, .long (Int32.toInt64 i0)] (by decide +kernel) rfl ?_
  refine dq_S (.lshl) 1 [] 5 _ [.long ((Int32.toInt64 i0) <<< ((32 : Int32).toInt64 &&& 63))] (by decide +kernel) rfl ?_
  refine dq_iln 1 6 (by decide +kernel) rfl G1 ?_
  refine dq_S (.i2l) 1 [] 7 _ [.long (Int32.toInt64 i1), .long ((Int32.toInt64 i0) <<< ((32 : Int32).toInt64 &&& 63))] (by decide +kernel) rfl ?_
  refine dq_S (.ldc2_w 593) 3 [4294967295] 10 _ [.long 4294967295, .long (Int32.toInt64 i1), .long ((Int32.toInt64 i0) <<< ((32 : Int32).toInt64 &&& 63))] (by decide +kernel) rfl ?_
  refine dq_S (.land) 1 [] 11 _ [.long ((Int32.toInt64 i1) &&& 4294967295), .long ((Int32.toInt64 i0) <<< ((32 : Int32).toInt64 &&& 63))] (by decide +kernel) rfl ?_
  refine dq_S (.lor) 1 [] 12 _ [.long (((Int32.toInt64 i0) <<< ((32 : Int32).toInt64 &&& 63)) ||| ((Int32.toInt64 i1) &&& 4294967295))] (by decide +kernel) rfl ?_
  cases hh
  exact dq_retJ (by decide +kernel) rfl
def f376 (L : Nat) (xs : Nat → Int32) (zf : Value) (D : dD) (w : Nat) (As : List Value) (h : rm_H) : Option dR := match As with
  | [.int i0, .int i1] => b376_0 L xs zf D w i0 i1 h
  | _ => none
theorem d376 {L : Nat} {xs : Nat → Int32} {zf : Value} {D : dD} {w k : Nat} (hD : dO L xs zf D k) (hz : zf.category = 1) (As : List Value) (h : rm_H) (r : dR) (hh : f376 L xs zf D w As h = some r) : dq L xs zf ah_M376 0 (lv_args 0 As) [] h (k + 1) r := by
  unfold f376 at hh
  split at hh
  · refine c376_0 hD hz _ _ _ _ _ ?_ ?_ hh
    all_goals (simp only [la_r, la_i, la_j]; rfl)
  · cases hh
def b377_215 (L : Nat) (xs : Nat → Int32) (zf : Value) (D : dD) (w : Nat) (K196 : Option Nat → Int32 → Int32 → Int32 → Int32 → Int32 → rm_H → Option dR) : Nat → Option Nat → Int32 → Int32 → Int32 → Int32 → Int32 → Int32 → Int32 → rm_H → Option dR
  | 0, _, _, _, _, _, _, _, _, _ => none
  | n + 1, o0, i3, i5, i6, i7, i9, i10, i11, h =>
    (dgR L xs h 85 [15] o0).bind fun p1 =>
    (daI L xs h p1 i10).bind fun x3 =>
    ((dcV L xs D 373 [15] o0 [.int x3] h).bind dxI).bind fun x5 =>
    if mx_f2 .ge i11 x5.1 = true then
      K196 o0 i3 i5 i6 i7 (i9 + 1) x5.2
    else
      (dgR L xs x5.2 95 [15] o0).bind fun p18 =>
      (dgR L xs x5.2 86 [15] o0).bind fun p20 =>
      (daI L xs x5.2 p20 i10).bind fun x22 =>
      (daJ L xs x5.2 p18 (((400 * i3) + x22) + i11)).bind fun y24 =>
      (dgR L xs x5.2 106 [15] o0).bind fun p35 =>
      (dgR L xs x5.2 86 [15] o0).bind fun p37 =>
      (daI L xs x5.2 p37 i10).bind fun x39 =>
      (dsJ x5.2 p35 (((400 * i5) + x39) + i11) y24).bind fun h41 =>
      ((dcV L xs D 378 [15] o0 [.int i6, .long y24, .int i7] h41).bind dxI).bind fun x43 =>
      b377_215 L xs zf D w K196 n o0 i3 i5 i6 x43.1 i9 i10 (i11 + 1) x43.2
theorem c377_215 {L : Nat} {xs : Nat → Int32} {zf : Value} {D : dD} {w k : Nat} {K196 : Option Nat → Int32 → Int32 → Int32 → Int32 → Int32 → rm_H → Option dR} (hD : dO L xs zf D k) (hz : zf.category = 1) (hK196 : ∀ (o0 : Option Nat) (i3 : Int32) (i5 : Int32) (i6 : Int32) (i7 : Int32) (i9 : Int32) (lv : rm_L) (h : rm_H) (r : dR), rm_get lv 0 = some (va_rf o0) → rm_get lv 3 = some (.int i3) → rm_get lv 5 = some (.int i5) → rm_get lv 6 = some (.int i6) → rm_get lv 7 = some (.int i7) → rm_get lv 9 = some (.int i9) → K196 o0 i3 i5 i6 i7 i9 h = some r → dq L xs zf ah_M377 196 lv [] h (k + 1) r) : ∀ (n : Nat) (o0 : Option Nat) (i3 : Int32) (i5 : Int32) (i6 : Int32) (i7 : Int32) (i9 : Int32) (i10 : Int32) (i11 : Int32) (lv : rm_L) (h : rm_H) (r : dR), rm_get lv 0 = some (va_rf o0) → rm_get lv 3 = some (.int i3) → rm_get lv 5 = some (.int i5) → rm_get lv 6 = some (.int i6) → rm_get lv 7 = some (.int i7) → rm_get lv 9 = some (.int i9) → rm_get lv 10 = some (.int i10) → rm_get lv 11 = some (.int i11) → b377_215 L xs zf D w K196 n  o0 i3 i5 i6 i7 i9 i10 i11 h = some r → dq L xs zf ah_M377 215 lv [] h (k + 1) r := by
  intro n
  induction n with
  | zero =>
    intro o0 i3 i5 i6 i7 i9 i10 i11 lv h r G0 G3 G5 G6 G7 G9 G10 G11 hh
    cases hh
  | succ n ih =>
    intro o0 i3 i5 i6 i7 i9 i10 i11 lv h r G0 G3 G5 G6 G7 G9 G10 G11 hh
    rw [b377_215] at hh
    refine dq_il 11 217 (by decide +kernel) rfl G11 ?_
    refine dq_aln 0 218 (by decide +kernel) rfl G0 ?_
    refine dq_aln 0 219 (by decide +kernel) rfl G0 ?_
    obtain ⟨p1, q2, hh⟩ := db hh
    refine dq_gR 169 85 [15] 222 (by decide +kernel) rfl q2 ?_
    refine dq_il 10 224 (by decide +kernel) rfl G10 ?_
    obtain ⟨x3, q4, hh⟩ := db hh
    refine dq_aI 225 (by decide +kernel) rfl q4 ?_
    obtain ⟨x5, q6, hh⟩ := db hh
    obtain ⟨a7, q8, q6⟩ := db q6
    rw [dq_xI q6] at q8
    refine dq_cvi hD 605 373 5 1 [15] o0 [.int x3] [.int i11] 228 [.int x5.1, .int i11] (by decide +kernel) ap_373 ⟨⟨Nat.le_of_ble_eq_true rfl, by decide⟩, rfl, rfl⟩ (dq_ok8 [1, 1] [1] (dc_r (dc_i dc_n)) (dc_i dc_n) (by decide +kernel)) (by decide +kernel) rfl q8 rfl ?_
    rcases di hh with ⟨q9, hh⟩ | ⟨q9, hh⟩
    · refine dq_2 .ge 68 true 296 q9 (by decide +kernel) ?_
      refine dq_incy 9 1 1 299 (by decide +kernel) ⟨rfl, by decide +kernel, by decide +kernel⟩ G9 ?_
      have g10 := dg_ne (i := 9) (u := .int (i9 + 1)) (by decide) (Or.inl (by decide)) G0
      have g11 := dg_ne (i := 9) (u := .int (i9 + 1)) (by decide) (Or.inl (by decide)) G3
      have g12 := dg_ne (i := 9) (u := .int (i9 + 1)) (by decide) (Or.inl (by decide)) G5
      have g13 := dg_ne (i := 9) (u := .int (i9 + 1)) (by decide) (Or.inl (by decide)) G6
      have g14 := dg_ne (i := 9) (u := .int (i9 + 1)) (by decide) (Or.inl (by decide)) G7
      have g15 := dg_ne (i := 9) (u := .int (i9 + 1)) (by decide) (Or.inl (by decide)) G10
      have g16 := dg_ne (i := 9) (u := .int (i9 + 1)) (by decide) (Or.inl (by decide)) G11
      have g17 := dg_eq (lv) 9 (.int (i9 + 1))
      refine dq_S (.goto (-103)) 3 [] 196 _ [] (by decide +kernel) rfl ?_
      exact hK196 _ _ _ _ _ _ _ _ _ g10 g11 g12 g13 g14 g17 hh
    · refine dq_2 .ge 68 false 231 q9 (by decide +kernel) ?_
      refine dq_aln 0 232 (by decide +kernel) rfl G0 ?_
      obtain ⟨p18, q19, hh⟩ := db hh
      refine dq_gR 196 95 [15] 235 (by decide +kernel) rfl q19 ?_
      refine dq_S (.sipush 400) 3 [] 238 _ [.int 400, va_rf p18] (by decide +kernel) rfl ?_
      refine dq_iln 3 239 (by decide +kernel) rfl G3 ?_
      refine dq_S (.imul) 1 [] 240 _ [.int (400 * i3), va_rf p18] (by decide +kernel) rfl ?_
      refine dq_aln 0 241 (by decide +kernel) rfl G0 ?_
      obtain ⟨p20, q21, hh⟩ := db hh
      refine dq_gR 172 86 [15] 244 (by decide +kernel) rfl q21 ?_
      refine dq_il 10 246 (by decide +kernel) rfl G10 ?_
      obtain ⟨x22, q23, hh⟩ := db hh
      refine dq_aI 247 (by decide +kernel) rfl q23 ?_
      refine dq_S (.iadd) 1 [] 248 _ [.int ((400 * i3) + x22), va_rf p18] (by decide +kernel) rfl ?_
      refine dq_il 11 250 (by decide +kernel) rfl G11 ?_
      refine dq_S (.iadd) 1 [] 251 _ [.int (((400 * i3) + x22) + i11), va_rf p18] (by decide +kernel) rfl ?_
      obtain ⟨y24, q25, hh⟩ := db hh
      refine dq_aJ 252 (by decide +kernel) rfl q25 ?_
      refine dq_ls 12 254 (by decide +kernel) (by decide +kernel) ?_
      have g26 := dg_ne2 (i := 12) (u := .long y24) (by decide) (by decide) (Or.inl (by decide)) G0
      have g27 := dg_ne2 (i := 12) (u := .long y24) (by decide) (by decide) (Or.inl (by decide)) G3
      have g28 := dg_ne2 (i := 12) (u := .long y24) (by decide) (by decide) (Or.inl (by decide)) G5
      have g29 := dg_ne2 (i := 12) (u := .long y24) (by decide) (by decide) (Or.inl (by decide)) G6
      have g30 := dg_ne2 (i := 12) (u := .long y24) (by decide) (by decide) (Or.inl (by decide)) G7
      have g31 := dg_ne2 (i := 12) (u := .long y24) (by decide) (by decide) (Or.inl (by decide)) G9
      have g32 := dg_ne2 (i := 12) (u := .long y24) (by decide) (by decide) (Or.inl (by decide)) G10
      have g33 := dg_ne2 (i := 12) (u := .long y24) (by decide) (by decide) (Or.inr rfl) G11
      have g34 := dg_eq2 (lv) 12 (.long y24)
      refine dq_aln 0 255 (by decide +kernel) rfl g26 ?_
      obtain ⟨p35, q36, hh⟩ := db hh
      refine dq_gR 230 106 [15] 258 (by decide +kernel) rfl q36 ?_
      refine dq_S (.sipush 400) 3 [] 261 _ [.int 400, va_rf p35] (by decide +kernel) rfl ?_
      refine dq_il 5 263 (by decide +kernel) rfl g28 ?_
      refine dq_S (.imul) 1 [] 264 _ [.int (400 * i5), va_rf p35] (by decide +kernel) rfl ?_
      refine dq_aln 0 265 (by decide +kernel) rfl g26 ?_
      obtain ⟨p37, q38, hh⟩ := db hh
      refine dq_gR 172 86 [15] 268 (by decide +kernel) rfl q38 ?_
      refine dq_il 10 270 (by decide +kernel) rfl g32 ?_
      obtain ⟨x39, q40, hh⟩ := db hh
      refine dq_aI 271 (by decide +kernel) rfl q40 ?_
      refine dq_S (.iadd) 1 [] 272 _ [.int ((400 * i5) + x39), va_rf p35] (by decide +kernel) rfl ?_
      refine dq_il 11 274 (by decide +kernel) rfl g33 ?_
      refine dq_S (.iadd) 1 [] 275 _ [.int (((400 * i5) + x39) + i11), va_rf p35] (by decide +kernel) rfl ?_
      refine dq_ll 12 277 (by decide +kernel) rfl g34 ?_
      obtain ⟨h41, q42, hh⟩ := db hh
      refine dq_sJ 278 (by decide +kernel) rfl q42 ?_
      refine dq_aln 0 279 (by decide +kernel) rfl g26 ?_
      refine dq_il 6 281 (by decide +kernel) rfl g29 ?_
      refine dq_ll 12 283 (by decide +kernel) rfl g34 ?_
      refine dq_il 7 285 (by decide +kernel) rfl g30 ?_
      obtain ⟨x43, q44, hh⟩ := db hh
      obtain ⟨a45, q46, q44⟩ := db q44
      rw [dq_xI q44] at q46
      refine dq_cvi hD 621 378 5 3 [15] o0 [.int i6, .long y24, .int i7] [] 288 [.int x43.1] (by decide +kernel) ap_378 ⟨⟨Nat.le_of_ble_eq_true rfl, by decide⟩, rfl, rfl⟩ (dq_ok8 [1, 1, 2, 1] [] (dc_r (dc_i (dc_j (dc_i dc_n)))) dc_n (by decide +kernel)) (by decide +kernel) rfl q46 rfl ?_
      refine dq_is 7 290 (by decide +kernel) (by decide +kernel) ?_
      have g47 := dg_ne (i := 7) (u := .int x43.1) (by decide) (Or.inl (by decide)) g26
      have g48 := dg_ne (i := 7) (u := .int x43.1) (by decide) (Or.inl (by decide)) g27
      have g49 := dg_ne (i := 7) (u := .int x43.1) (by decide) (Or.inl (by decide)) g28
      have g50 := dg_ne (i := 7) (u := .int x43.1) (by decide) (Or.inr rfl) g29
      have g51 := dg_ne (i := 7) (u := .int x43.1) (by decide) (Or.inl (by decide)) g31
      have g52 := dg_ne (i := 7) (u := .int x43.1) (by decide) (Or.inl (by decide)) g32
      have g53 := dg_ne (i := 7) (u := .int x43.1) (by decide) (Or.inl (by decide)) g33
      have g54 := dg_ne (i := 7) (u := .int x43.1) (by decide) (Or.inl (by decide)) g34
      have g55 := dg_eq (rm_set2 (lv) 12 (.long y24)) 7 (.int x43.1)
      refine dq_incy 11 1 1 293 (by decide +kernel) ⟨rfl, by decide +kernel, by decide +kernel⟩ g53 ?_
      have g56 := dg_ne (i := 11) (u := .int (i11 + 1)) (by decide) (Or.inl (by decide)) g47
      have g57 := dg_ne (i := 11) (u := .int (i11 + 1)) (by decide) (Or.inl (by decide)) g48
      have g58 := dg_ne (i := 11) (u := .int (i11 + 1)) (by decide) (Or.inl (by decide)) g49
      have g59 := dg_ne (i := 11) (u := .int (i11 + 1)) (by decide) (Or.inl (by decide)) g50
      have g60 := dg_ne (i := 11) (u := .int (i11 + 1)) (by decide) (Or.inl (by decide)) g51
      have g61 := dg_ne (i := 11) (u := .int (i11 + 1)) (by decide) (Or.inr rfl) g52
      have g62 := dg_ne (i := 11) (u := .int (i11 + 1)) (by decide) (Or.inl (by decide)) g54
      have g63 := dg_ne (i := 11) (u := .int (i11 + 1)) (by decide) (Or.inl (by decide)) g55
      have g64 := dg_eq (rm_set1 (rm_set2 (lv) 12 (.long y24)) 7 (.int x43.1)) 11 (.int (i11 + 1))
      refine dq_S (.goto (-78)) 3 [] 215 _ [] (by decide +kernel) rfl ?_
      exact ih _ _ _ _ _ _ _ _ _ _ _ g56 g57 g58 g59 g63 g60 g61 g64 hh
def b377_196 (L : Nat) (xs : Nat → Int32) (zf : Value) (D : dD) (w : Nat) : Nat → Option Nat → Int32 → Int32 → Int32 → Int32 → Int32 → rm_H → Option dR
  | 0, _, _, _, _, _, _, _ => none
  | n + 1, o0, i3, i5, i6, i7, i9, h =>
    if mx_f2 .ge i9 i7 = true then
      some (none, h)
    else
      (dgR L xs h 109 [15] o0).bind fun p2 =>
      (daI L xs h p2 i9).bind fun x4 =>
      b377_215 L xs zf D w (b377_196 L xs zf D w n) w o0 i3 i5 i6 i7 i9 x4 0 h
theorem c377_196 {L : Nat} {xs : Nat → Int32} {zf : Value} {D : dD} {w k : Nat} (hD : dO L xs zf D k) (hz : zf.category = 1) : ∀ (n : Nat) (o0 : Option Nat) (i3 : Int32) (i5 : Int32) (i6 : Int32) (i7 : Int32) (i9 : Int32) (lv : rm_L) (h : rm_H) (r : dR), rm_get lv 0 = some (va_rf o0) → rm_get lv 3 = some (.int i3) → rm_get lv 5 = some (.int i5) → rm_get lv 6 = some (.int i6) → rm_get lv 7 = some (.int i7) → rm_get lv 9 = some (.int i9) → b377_196 L xs zf D w n  o0 i3 i5 i6 i7 i9 h = some r → dq L xs zf ah_M377 196 lv [] h (k + 1) r := by
  intro n
  induction n with
  | zero =>
    intro o0 i3 i5 i6 i7 i9 lv h r G0 G3 G5 G6 G7 G9 hh
    cases hh
  | succ n ih =>
    intro o0 i3 i5 i6 i7 i9 lv h r G0 G3 G5 G6 G7 G9 hh
    rw [b377_196] at hh
    refine dq_il 9 198 (by decide +kernel) rfl G9 ?_
    refine dq_il 7 200 (by decide +kernel) rfl G7 ?_
    rcases di hh with ⟨q1, hh⟩ | ⟨q1, hh⟩
    · refine dq_2 .ge 102 true 302 q1 (by decide +kernel) ?_
      cases hh
      exact dq_ret0 (by decide +kernel) rfl
    · refine dq_2 .ge 102 false 203 q1 (by decide +kernel) ?_
      refine dq_aln 0 204 (by decide +kernel) rfl G0 ?_
      obtain ⟨p2, q3, hh⟩ := db hh
      refine dq_gR 239 109 [15] 207 (by decide +kernel) rfl q3 ?_
      refine dq_il 9 209 (by decide +kernel) rfl G9 ?_
      obtain ⟨x4, q5, hh⟩ := db hh
      refine dq_aI 210 (by decide +kernel) rfl q5 ?_
      refine dq_is 10 212 (by decide +kernel) (by decide +kernel) ?_
      have g6 := dg_ne (i := 10) (u := .int x4) (by decide) (Or.inl (by decide)) G0
      have g7 := dg_ne (i := 10) (u := .int x4) (by decide) (Or.inl (by decide)) G3
      have g8 := dg_ne (i := 10) (u := .int x4) (by decide) (Or.inl (by decide)) G5
      have g9 := dg_ne (i := 10) (u := .int x4) (by decide) (Or.inl (by decide)) G6
      have g10 := dg_ne (i := 10) (u := .int x4) (by decide) (Or.inl (by decide)) G7
      have g11 := dg_ne (i := 10) (u := .int x4) (by decide) (Or.inr rfl) G9
      have g12 := dg_eq (lv) 10 (.int x4)
      refine dq_S (.iconst 0) 1 [] 213 _ [.int 0] (by decide +kernel) rfl ?_
      refine dq_is 11 215 (by decide +kernel) (by decide +kernel) ?_
      have g13 := dg_ne (i := 11) (u := .int 0) (by decide) (Or.inl (by decide)) g6
      have g14 := dg_ne (i := 11) (u := .int 0) (by decide) (Or.inl (by decide)) g7
      have g15 := dg_ne (i := 11) (u := .int 0) (by decide) (Or.inl (by decide)) g8
      have g16 := dg_ne (i := 11) (u := .int 0) (by decide) (Or.inl (by decide)) g9
      have g17 := dg_ne (i := 11) (u := .int 0) (by decide) (Or.inl (by decide)) g10
      have g18 := dg_ne (i := 11) (u := .int 0) (by decide) (Or.inl (by decide)) g11
      have g19 := dg_ne (i := 11) (u := .int 0) (by decide) (Or.inr rfl) g12
      have g20 := dg_eq (rm_set1 (lv) 10 (.int x4)) 11 (.int 0)
      exact c377_215 hD hz ih _ _ _ _ _ _ _ _ _ _ _ _ g13 g14 g15 g16 g17 g18 g19 g20 hh
def b377_135 (L : Nat) (xs : Nat → Int32) (zf : Value) (D : dD) (w : Nat) : Nat → Option Nat → Int32 → Int32 → Int32 → Int32 → Int32 → Int32 → Int32 → rm_H → Option dR
  | 0, _, _, _, _, _, _, _, _, _ => none
  | n + 1, o0, i3, i4, i5, i6, i7, i8, i9, h =>
    if mx_f2 .ge i9 i8 = true then
      b377_196 L xs zf D w w o0 i3 i5 i6 i7 0 h
    else
      (dgR L xs h 96 [15] o0).bind fun p10 =>
      (daJ L xs h p10 (((10100 * i3) + i4) + i9)).bind fun y12 =>
      (dgR L xs h 105 [15] o0).bind fun p23 =>
      (dsJ h p23 ((6 * i5) + i9) y12).bind fun h25 =>
      ((dcV L xs D 378 [15] o0 [.int i6, .long y12, .int i7] h25).bind dxI).bind fun x27 =>
      b377_135 L xs zf D w n o0 i3 i4 i5 i6 x27.1 i8 (i9 + 1) x27.2
theorem c377_135 {L : Nat} {xs : Nat → Int32} {zf : Value} {D : dD} {w k : Nat} (hD : dO L xs zf D k) (hz : zf.category = 1) : ∀ (n : Nat) (o0 : Option Nat) (i3 : Int32) (i4 : Int32) (i5 : Int32) (i6 : Int32) (i7 : Int32) (i8 : Int32) (i9 : Int32) (lv : rm_L) (h : rm_H) (r : dR), rm_get lv 0 = some (va_rf o0) → rm_get lv 3 = some (.int i3) → rm_get lv 4 = some (.int i4) → rm_get lv 5 = some (.int i5) → rm_get lv 6 = some (.int i6) → rm_get lv 7 = some (.int i7) → rm_get lv 8 = some (.int i8) → rm_get lv 9 = some (.int i9) → b377_135 L xs zf D w n  o0 i3 i4 i5 i6 i7 i8 i9 h = some r → dq L xs zf ah_M377 135 lv [] h (k + 1) r := by
  intro n
  induction n with
  | zero =>
    intro o0 i3 i4 i5 i6 i7 i8 i9 lv h r G0 G3 G4 G5 G6 G7 G8 G9 hh
    cases hh
  | succ n ih =>
    intro o0 i3 i4 i5 i6 i7 i8 i9 lv h r G0 G3 G4 G5 G6 G7 G8 G9 hh
    rw [b377_135] at hh
    refine dq_il 9 137 (by decide +kernel) rfl G9 ?_
    refine dq_il 8 139 (by decide +kernel) rfl G8 ?_
    rcases di hh with ⟨q1, hh⟩ | ⟨q1, hh⟩
    · refine dq_2 .ge 54 true 193 q1 (by decide +kernel) ?_
      refine dq_S (.iconst 0) 1 [] 194 _ [.int 0] (by decide +kernel) rfl ?_
      refine dq_is 9 196 (by decide +kernel) (by decide +kernel) ?_
      have g2 := dg_ne (i := 9) (u := .int 0) (by decide) (Or.inl (by decide)) G0
      have g3 := dg_ne (i := 9) (u := .int 0) (by decide) (Or.inl (by decide)) G3
      have g4 := dg_ne (i := 9) (u := .int 0) (by decide) (Or.inl (by decide)) G4
      have g5 := dg_ne (i := 9) (u := .int 0) (by decide) (Or.inl (by decide)) G5
      have g6 := dg_ne (i := 9) (u := .int 0) (by decide) (Or.inl (by decide)) G6
      have g7 := dg_ne (i := 9) (u := .int 0) (by decide) (Or.inl (by decide)) G7
      have g8 := dg_ne (i := 9) (u := .int 0) (by decide) (Or.inr rfl) G8
      have g9 := dg_eq (lv) 9 (.int 0)
      exact c377_196 hD hz _ _ _ _ _ _ _ _ _ _ g2 g3 g5 g6 g7 g9 hh
    · refine dq_2 .ge 54 false 142 q1 (by decide +kernel) ?_
      refine dq_aln 0 143 (by decide +kernel) rfl G0 ?_
      obtain ⟨p10, q11, hh⟩ := db hh
      refine dq_gR 200 96 [15] 146 (by decide +kernel) rfl q11 ?_
      refine dq_S (.sipush 10100) 3 [] 149 _ [.int 10100, va_rf p10] (by decide +kernel) rfl ?_
      refine dq_iln 3 150 (by decide +kernel) rfl G3 ?_
      refine dq_S (.imul) 1 [] 151 _ [.int (10100 * i3), va_rf p10] (by decide +kernel) rfl ?_
      refine dq_il 4 153 (by decide +kernel) rfl G4 ?_
      refine dq_S (.iadd) 1 [] 154 _ [.int ((10100 * i3) + i4), va_rf p10] (by decide +kernel) rfl ?_
      refine dq_il 9 156 (by decide +kernel) rfl G9 ?_
      refine dq_S (.iadd) 1 [] 157 _ [.int (((10100 * i3) + i4) + i9), va_rf p10] (by decide +kernel) rfl ?_
      obtain ⟨y12, q13, hh⟩ := db hh
      refine dq_aJ 158 (by decide +kernel) rfl q13 ?_
      refine dq_ls 10 160 (by decide +kernel) (by decide +kernel) ?_
      have g14 := dg_ne2 (i := 10) (u := .long y12) (by decide) (by decide) (Or.inl (by decide)) G0
      have g15 := dg_ne2 (i := 10) (u := .long y12) (by decide) (by decide) (Or.inl (by decide)) G3
      have g16 := dg_ne2 (i := 10) (u := .long y12) (by decide) (by decide) (Or.inl (by decide)) G4
      have g17 := dg_ne2 (i := 10) (u := .long y12) (by decide) (by decide) (Or.inl (by decide)) G5
      have g18 := dg_ne2 (i := 10) (u := .long y12) (by decide) (by decide) (Or.inl (by decide)) G6
      have g19 := dg_ne2 (i := 10) (u := .long y12) (by decide) (by decide) (Or.inl (by decide)) G7
      have g20 := dg_ne2 (i := 10) (u := .long y12) (by decide) (by decide) (Or.inl (by decide)) G8
      have g21 := dg_ne2 (i := 10) (u := .long y12) (by decide) (by decide) (Or.inr rfl) G9
      have g22 := dg_eq2 (lv) 10 (.long y12)
      refine dq_aln 0 161 (by decide +kernel) rfl g14 ?_
      obtain ⟨p23, q24, hh⟩ := db hh
      refine dq_gR 227 105 [15] 164 (by decide +kernel) rfl q24 ?_
      refine dq_S (.bipush 6) 2 [] 166 _ [.int 6, va_rf p23] (by decide +kernel) rfl ?_
      refine dq_il 5 168 (by decide +kernel) rfl g17 ?_
      refine dq_S (.imul) 1 [] 169 _ [.int (6 * i5), va_rf p23] (by decide +kernel) rfl ?_
      refine dq_il 9 171 (by decide +kernel) rfl g21 ?_
      refine dq_S (.iadd) 1 [] 172 _ [.int ((6 * i5) + i9), va_rf p23] (by decide +kernel) rfl ?_
      refine dq_ll 10 174 (by decide +kernel) rfl g22 ?_
      obtain ⟨h25, q26, hh⟩ := db hh
      refine dq_sJ 175 (by decide +kernel) rfl q26 ?_
      refine dq_aln 0 176 (by decide +kernel) rfl g14 ?_
      refine dq_il 6 178 (by decide +kernel) rfl g18 ?_
      refine dq_ll 10 180 (by decide +kernel) rfl g22 ?_
      refine dq_il 7 182 (by decide +kernel) rfl g19 ?_
      obtain ⟨x27, q28, hh⟩ := db hh
      obtain ⟨a29, q30, q28⟩ := db q28
      rw [dq_xI q28] at q30
      refine dq_cvi hD 621 378 5 3 [15] o0 [.int i6, .long y12, .int i7] [] 185 [.int x27.1] (by decide +kernel) ap_378 ⟨⟨Nat.le_of_ble_eq_true rfl, by decide⟩, rfl, rfl⟩ (dq_ok8 [1, 1, 2, 1] [] (dc_r (dc_i (dc_j (dc_i dc_n)))) dc_n (by decide +kernel)) (by decide +kernel) rfl q30 rfl ?_
      refine dq_is 7 187 (by decide +kernel) (by decide +kernel) ?_
      have g31 := dg_ne (i := 7) (u := .int x27.1) (by decide) (Or.inl (by decide)) g14
      have g32 := dg_ne (i := 7) (u := .int x27.1) (by decide) (Or.inl (by decide)) g15
      have g33 := dg_ne (i := 7) (u := .int x27.1) (by decide) (Or.inl (by decide)) g16
      have g34 := dg_ne (i := 7) (u := .int x27.1) (by decide) (Or.inl (by decide)) g17
      have g35 := dg_ne (i := 7) (u := .int x27.1) (by decide) (Or.inr rfl) g18
      have g36 := dg_ne (i := 7) (u := .int x27.1) (by decide) (Or.inl (by decide)) g20
      have g37 := dg_ne (i := 7) (u := .int x27.1) (by decide) (Or.inl (by decide)) g21
      have g38 := dg_ne (i := 7) (u := .int x27.1) (by decide) (Or.inl (by decide)) g22
      have g39 := dg_eq (rm_set2 (lv) 10 (.long y12)) 7 (.int x27.1)
      refine dq_incy 9 1 1 190 (by decide +kernel) ⟨rfl, by decide +kernel, by decide +kernel⟩ g37 ?_
      have g40 := dg_ne (i := 9) (u := .int (i9 + 1)) (by decide) (Or.inl (by decide)) g31
      have g41 := dg_ne (i := 9) (u := .int (i9 + 1)) (by decide) (Or.inl (by decide)) g32
      have g42 := dg_ne (i := 9) (u := .int (i9 + 1)) (by decide) (Or.inl (by decide)) g33
      have g43 := dg_ne (i := 9) (u := .int (i9 + 1)) (by decide) (Or.inl (by decide)) g34
      have g44 := dg_ne (i := 9) (u := .int (i9 + 1)) (by decide) (Or.inl (by decide)) g35
      have g45 := dg_ne (i := 9) (u := .int (i9 + 1)) (by decide) (Or.inr rfl) g36
      have g46 := dg_ne (i := 9) (u := .int (i9 + 1)) (by decide) (Or.inl (by decide)) g38
      have g47 := dg_ne (i := 9) (u := .int (i9 + 1)) (by decide) (Or.inl (by decide)) g39
      have g48 := dg_eq (rm_set1 (rm_set2 (lv) 10 (.long y12)) 7 (.int x27.1)) 9 (.int (i9 + 1))
      refine dq_S (.goto (-55)) 3 [] 135 _ [] (by decide +kernel) rfl ?_
      exact ih _ _ _ _ _ _ _ _ _ _ _ g40 g41 g42 g43 g44 g47 g45 g48 hh
def b377_87 (L : Nat) (xs : Nat → Int32) (zf : Value) (D : dD) (w : Nat) : Nat → Option Nat → Int32 → Int32 → Int32 → Int32 → Int32 → Int32 → rm_H → Option dR
  | 0, _, _, _, _, _, _, _, _ => none
  | n + 1, o0, i2, i3, i4, i5, i6, i7, h =>
    if mx_f2 .gt i7 400 = true then
      (dgR L xs h 50 [15] o0).bind fun p9 =>
      (daI L xs h p9 (i2 + 1)).bind fun x11 =>
      (dgR L xs h 50 [15] o0).bind fun p13 =>
      (daI L xs h p13 i2).bind fun x15 =>
      b377_135 L xs zf D w w o0 i3 i4 i5 i6 0 (x11 - x15) 0 h
    else
      (dgR L xs h 104 [15] o0).bind fun p34 =>
      (dsB h p34 (i6 + i7) 0).bind fun h36 =>
      b377_87 L xs zf D w n o0 i2 i3 i4 i5 i6 (i7 + 1) h36
theorem c377_87 {L : Nat} {xs : Nat → Int32} {zf : Value} {D : dD} {w k : Nat} (hD : dO L xs zf D k) (hz : zf.category = 1) : ∀ (n : Nat) (o0 : Option Nat) (i2 : Int32) (i3 : Int32) (i4 : Int32) (i5 : Int32) (i6 : Int32) (i7 : Int32) (lv : rm_L) (h : rm_H) (r : dR), rm_get lv 0 = some (va_rf o0) → rm_get lv 2 = some (.int i2) → rm_get lv 3 = some (.int i3) → rm_get lv 4 = some (.int i4) → rm_get lv 5 = some (.int i5) → rm_get lv 6 = some (.int i6) → rm_get lv 7 = some (.int i7) → b377_87 L xs zf D w n  o0 i2 i3 i4 i5 i6 i7 h = some r → dq L xs zf ah_M377 87 lv [] h (k + 1) r := by
  intro n
  induction n with
  | zero =>
    intro o0 i2 i3 i4 i5 i6 i7 lv h r G0 G2 G3 G4 G5 G6 G7 hh
    cases hh
  | succ n ih =>
    intro o0 i2 i3 i4 i5 i6 i7 lv h r G0 G2 G3 G4 G5 G6 G7 hh
    rw [b377_87] at hh
    refine dq_il 7 89 (by decide +kernel) rfl G7 ?_
    refine dq_S (.sipush 400) 3 [] 92 _ [.int 400, .int i7] (by decide +kernel) rfl ?_
    rcases di hh with ⟨q1, hh⟩ | ⟨q1, hh⟩
    · refine dq_2 .gt 20 true 112 q1 (by decide +kernel) ?_
      refine dq_S (.iconst 0) 1 [] 113 _ [.int 0] (by decide +kernel) rfl ?_
      refine dq_is 7 115 (by decide +kernel) (by decide +kernel) ?_
      have g2 := dg_ne (i := 7) (u := .int 0) (by decide) (Or.inl (by decide)) G0
      have g3 := dg_ne (i := 7) (u := .int 0) (by decide) (Or.inl (by decide)) G2
      have g4 := dg_ne (i := 7) (u := .int 0) (by decide) (Or.inl (by decide)) G3
      have g5 := dg_ne (i := 7) (u := .int 0) (by decide) (Or.inl (by decide)) G4
      have g6 := dg_ne (i := 7) (u := .int 0) (by decide) (Or.inl (by decide)) G5
      have g7 := dg_ne (i := 7) (u := .int 0) (by decide) (Or.inr rfl) G6
      have g8 := dg_eq (lv) 7 (.int 0)
      refine dq_aln 0 116 (by decide +kernel) rfl g2 ?_
      obtain ⟨p9, q10, hh⟩ := db hh
      refine dq_gR 136 50 [15] 119 (by decide +kernel) rfl q10 ?_
      refine dq_iln 2 120 (by decide +kernel) rfl g3 ?_
      refine dq_S (.iconst 1) 1 [] 121 _ [.int 1, .int i2, va_rf p9] (by decide +kernel) rfl ?_
      refine dq_S (.iadd) 1 [] 122 _ [.int (i2 + 1), va_rf p9] (by decide +kernel) rfl ?_
      obtain ⟨x11, q12, hh⟩ := db hh
      refine dq_aI 123 (by decide +kernel) rfl q12 ?_
      refine dq_aln 0 124 (by decide +kernel) rfl g2 ?_
      obtain ⟨p13, q14, hh⟩ := db hh
      refine dq_gR 136 50 [15] 127 (by decide +kernel) rfl q14 ?_
      refine dq_iln 2 128 (by decide +kernel) rfl g3 ?_
      obtain ⟨x15, q16, hh⟩ := db hh
      refine dq_aI 129 (by decide +kernel) rfl q16 ?_
      refine dq_S (.isub) 1 [] 130 _ [.int (x11 - x15)] (by decide +kernel) rfl ?_
      refine dq_is 8 132 (by decide +kernel) (by decide +kernel) ?_
      have g17 := dg_ne (i := 8) (u := .int (x11 - x15)) (by decide) (Or.inl (by decide)) g2
      have g18 := dg_ne (i := 8) (u := .int (x11 - x15)) (by decide) (Or.inl (by decide)) g3
      have g19 := dg_ne (i := 8) (u := .int (x11 - x15)) (by decide) (Or.inl (by decide)) g4
      have g20 := dg_ne (i := 8) (u := .int (x11 - x15)) (by decide) (Or.inl (by decide)) g5
      have g21 := dg_ne (i := 8) (u := .int (x11 - x15)) (by decide) (Or.inl (by decide)) g6
      have g22 := dg_ne (i := 8) (u := .int (x11 - x15)) (by decide) (Or.inl (by decide)) g7
      have g23 := dg_ne (i := 8) (u := .int (x11 - x15)) (by decide) (Or.inr rfl) g8
      have g24 := dg_eq (rm_set1 (lv) 7 (.int 0)) 8 (.int (x11 - x15))
      refine dq_S (.iconst 0) 1 [] 133 _ [.int 0] (by decide +kernel) rfl ?_
      refine dq_is 9 135 (by decide +kernel) (by decide +kernel) ?_
      have g25 := dg_ne (i := 9) (u := .int 0) (by decide) (Or.inl (by decide)) g17
      have g26 := dg_ne (i := 9) (u := .int 0) (by decide) (Or.inl (by decide)) g18
      have g27 := dg_ne (i := 9) (u := .int 0) (by decide) (Or.inl (by decide)) g19
      have g28 := dg_ne (i := 9) (u := .int 0) (by decide) (Or.inl (by decide)) g20
      have g29 := dg_ne (i := 9) (u := .int 0) (by decide) (Or.inl (by decide)) g21
      have g30 := dg_ne (i := 9) (u := .int 0) (by decide) (Or.inl (by decide)) g22
      have g31 := dg_ne (i := 9) (u := .int 0) (by decide) (Or.inl (by decide)) g23
      have g32 := dg_ne (i := 9) (u := .int 0) (by decide) (Or.inr rfl) g24
      have g33 := dg_eq (rm_set1 (rm_set1 (lv) 7 (.int 0)) 8 (.int (x11 - x15))) 9 (.int 0)
      exact c377_135 hD hz _ _ _ _ _ _ _ _ _ _ _ _ g25 g27 g28 g29 g30 g31 g32 g33 hh
    · refine dq_2 .gt 20 false 95 q1 (by decide +kernel) ?_
      refine dq_aln 0 96 (by decide +kernel) rfl G0 ?_
      obtain ⟨p34, q35, hh⟩ := db hh
      refine dq_gR 224 104 [15] 99 (by decide +kernel) rfl q35 ?_
      refine dq_il 6 101 (by decide +kernel) rfl G6 ?_
      refine dq_il 7 103 (by decide +kernel) rfl G7 ?_
      refine dq_S (.iadd) 1 [] 104 _ [.int (i6 + i7), va_rf p34] (by decide +kernel) rfl ?_
      refine dq_S (.iconst 0) 1 [] 105 _ [.int 0, .int (i6 + i7), va_rf p34] (by decide +kernel) rfl ?_
      obtain ⟨h36, q37, hh⟩ := db hh
      refine dq_sB1 106 (by decide +kernel) rfl q37 ?_
      refine dq_incy 7 1 1 109 (by decide +kernel) ⟨rfl, by decide +kernel, by decide +kernel⟩ G7 ?_
      have g38 := dg_ne (i := 7) (u := .int (i7 + 1)) (by decide) (Or.inl (by decide)) G0
      have g39 := dg_ne (i := 7) (u := .int (i7 + 1)) (by decide) (Or.inl (by decide)) G2
      have g40 := dg_ne (i := 7) (u := .int (i7 + 1)) (by decide) (Or.inl (by decide)) G3
      have g41 := dg_ne (i := 7) (u := .int (i7 + 1)) (by decide) (Or.inl (by decide)) G4
      have g42 := dg_ne (i := 7) (u := .int (i7 + 1)) (by decide) (Or.inl (by decide)) G5
      have g43 := dg_ne (i := 7) (u := .int (i7 + 1)) (by decide) (Or.inr rfl) G6
      have g44 := dg_eq (lv) 7 (.int (i7 + 1))
      refine dq_S (.goto (-22)) 3 [] 87 _ [] (by decide +kernel) rfl ?_
      exact ih _ _ _ _ _ _ _ _ _ _ g38 g39 g40 g41 g42 g43 g44 hh
def b377_6 (L : Nat) (xs : Nat → Int32) (zf : Value) (D : dD) (w : Nat) : Nat → Option Nat → Int32 → Int32 → Int32 → Int32 → Int32 → rm_H → Option dR
  | 0, _, _, _, _, _, _, _ => none
  | n + 1, o0, i1, i2, i3, i4, i5, h =>
    (dgR L xs h 103 [15] o0).bind fun p1 =>
    (daB L xs h p1 i5).bind fun x3 =>
    if mx_f1 .eq x3 = true then
      (dgR L xs h 103 [15] o0).bind fun p6 =>
      (dsB h p6 i5 1).bind fun h8 =>
      (dgR L xs h8 101 [15] o0).bind fun p10 =>
      (dgR L xs h8 93 [15] o0).bind fun p12 =>
      (daI L xs h8 p12 i1).bind fun x14 =>
      (dsI h8 p10 ((6 * i1) + x14) i5).bind fun h16 =>
      (dgR L xs h16 93 [15] o0).bind fun p18 =>
      (daI L xs h16 p18 i1).bind fun x20 =>
      (dsI h16 p18 i1 (x20 + 1)).bind fun h22 =>
      (dgI L xs h22 82 [15] o0).bind fun x24 =>
      (dpF h22 82 [15] o0 (.int (x24 + 1))).bind fun h26 =>
      (dgR L xs h26 102 [15] o0).bind fun p28 =>
      (dsI h26 p28 i5 i2).bind fun h30 =>
      b377_87 L xs zf D w w o0 i2 i3 i4 i5 (401 * i5) 0 h30
    else
      b377_6 L xs zf D w n o0 i1 i2 i3 i4 (i5 + 1) h
theorem c377_6 {L : Nat} {xs : Nat → Int32} {zf : Value} {D : dD} {w k : Nat} (hD : dO L xs zf D k) (hz : zf.category = 1) : ∀ (n : Nat) (o0 : Option Nat) (i1 : Int32) (i2 : Int32) (i3 : Int32) (i4 : Int32) (i5 : Int32) (lv : rm_L) (h : rm_H) (r : dR), rm_get lv 0 = some (va_rf o0) → rm_get lv 1 = some (.int i1) → rm_get lv 2 = some (.int i2) → rm_get lv 3 = some (.int i3) → rm_get lv 4 = some (.int i4) → rm_get lv 5 = some (.int i5) → b377_6 L xs zf D w n  o0 i1 i2 i3 i4 i5 h = some r → dq L xs zf ah_M377 6 lv [] h (k + 1) r := by
  intro n
  induction n with
  | zero =>
    intro o0 i1 i2 i3 i4 i5 lv h r G0 G1 G2 G3 G4 G5 hh
    cases hh
  | succ n ih =>
    intro o0 i1 i2 i3 i4 i5 lv h r G0 G1 G2 G3 G4 G5 hh
    rw [b377_6] at hh
    refine dq_aln 0 7 (by decide +kernel) rfl G0 ?_
    obtain ⟨p1, q2, hh⟩ := db hh
    refine dq_gR 221 103 [15] 10 (by decide +kernel) rfl q2 ?_
    refine dq_il 5 12 (by decide +kernel) rfl G5 ?_
    obtain ⟨x3, q4, hh⟩ := db hh
    refine dq_aB 13 (by decide +kernel) rfl q4 ?_
    rcases di hh with ⟨q5, hh⟩ | ⟨q5, hh⟩
    · refine dq_1 .eq 9 true 22 q5 (by decide +kernel) ?_
      refine dq_aln 0 23 (by decide +kernel) rfl G0 ?_
      obtain ⟨p6, q7, hh⟩ := db hh
      refine dq_gR 221 103 [15] 26 (by decide +kernel) rfl q7 ?_
      refine dq_il 5 28 (by decide +kernel) rfl G5 ?_
      refine dq_S (.iconst 1) 1 [] 29 _ [.int 1, .int i5, va_rf p6] (by decide +kernel) rfl ?_
      obtain ⟨h8, q9, hh⟩ := db hh
      refine dq_sB1 30 (by decide +kernel) rfl q9 ?_
      refine dq_aln 0 31 (by decide +kernel) rfl G0 ?_
      obtain ⟨p10, q11, hh⟩ := db hh
      refine dq_gR 215 101 [15] 34 (by decide +kernel) rfl q11 ?_
      refine dq_S (.bipush 6) 2 [] 36 _ [.int 6, va_rf p10] (by decide +kernel) rfl ?_
      refine dq_iln 1 37 (by decide +kernel) rfl G1 ?_
      refine dq_S (.imul) 1 [] 38 _ [.int (6 * i1), va_rf p10] (by decide +kernel) rfl ?_
      refine dq_aln 0 39 (by decide +kernel) rfl G0 ?_
      obtain ⟨p12, q13, hh⟩ := db hh
      refine dq_gR 190 93 [15] 42 (by decide +kernel) rfl q13 ?_
      refine dq_iln 1 43 (by decide +kernel) rfl G1 ?_
      obtain ⟨x14, q15, hh⟩ := db hh
      refine dq_aI 44 (by decide +kernel) rfl q15 ?_
      refine dq_S (.iadd) 1 [] 45 _ [.int ((6 * i1) + x14), va_rf p10] (by decide +kernel) rfl ?_
      refine dq_il 5 47 (by decide +kernel) rfl G5 ?_
      obtain ⟨h16, q17, hh⟩ := db hh
      refine dq_sI 48 (by decide +kernel) rfl q17 ?_
      refine dq_aln 0 49 (by decide +kernel) rfl G0 ?_
      obtain ⟨p18, q19, hh⟩ := db hh
      refine dq_gR 190 93 [15] 52 (by decide +kernel) rfl q19 ?_
      refine dq_iln 1 53 (by decide +kernel) rfl G1 ?_
      refine dq_d2 54 (by decide +kernel) rfl ?_
      obtain ⟨x20, q21, hh⟩ := db hh
      refine dq_aI 55 (by decide +kernel) rfl q21 ?_
      refine dq_S (.iconst 1) 1 [] 56 _ [.int 1, .int x20, .int i1, va_rf p18] (by decide +kernel) rfl ?_
      refine dq_S (.iadd) 1 [] 57 _ [.int (x20 + 1), .int i1, va_rf p18] (by decide +kernel) rfl ?_
      obtain ⟨h22, q23, hh⟩ := db hh
      refine dq_sI 58 (by decide +kernel) rfl q23 ?_
      refine dq_aln 0 59 (by decide +kernel) rfl G0 ?_
      refine dq_dup 60 (by decide +kernel) rfl ?_
      obtain ⟨x24, q25, hh⟩ := db hh
      refine dq_gI 618 82 [15] 63 (by decide +kernel) rfl q25 ?_
      refine dq_S (.iconst 1) 1 [] 64 _ [.int 1, .int x24, va_rf o0] (by decide +kernel) rfl ?_
      refine dq_S (.iadd) 1 [] 65 _ [.int (x24 + 1), va_rf o0] (by decide +kernel) rfl ?_
      obtain ⟨h26, q27, hh⟩ := db hh
      refine dq_put 618 82 [15] 68 (by decide +kernel) rfl q27 ?_
      refine dq_aln 0 69 (by decide +kernel) rfl G0 ?_
      obtain ⟨p28, q29, hh⟩ := db hh
      refine dq_gR 218 102 [15] 72 (by decide +kernel) rfl q29 ?_
      refine dq_il 5 74 (by decide +kernel) rfl G5 ?_
      refine dq_iln 2 75 (by decide +kernel) rfl G2 ?_
      obtain ⟨h30, q31, hh⟩ := db hh
      refine dq_sI 76 (by decide +kernel) rfl q31 ?_
      refine dq_S (.sipush 401) 3 [] 79 _ [.int 401] (by decide +kernel) rfl ?_
      refine dq_il 5 81 (by decide +kernel) rfl G5 ?_
      refine dq_S (.imul) 1 [] 82 _ [.int (401 * i5)] (by decide +kernel) rfl ?_
      refine dq_is 6 84 (by decide +kernel) (by decide +kernel) ?_
      have g32 := dg_ne (i := 6) (u := .int (401 * i5)) (by decide) (Or.inl (by decide)) G0
      have g33 := dg_ne (i := 6) (u := .int (401 * i5)) (by decide) (Or.inl (by decide)) G1
      have g34 := dg_ne (i := 6) (u := .int (401 * i5)) (by decide) (Or.inl (by decide)) G2
      have g35 := dg_ne (i := 6) (u := .int (401 * i5)) (by decide) (Or.inl (by decide)) G3
      have g36 := dg_ne (i := 6) (u := .int (401 * i5)) (by decide) (Or.inl (by decide)) G4
      have g37 := dg_ne (i := 6) (u := .int (401 * i5)) (by decide) (Or.inr rfl) G5
      have g38 := dg_eq (lv) 6 (.int (401 * i5))
      refine dq_S (.iconst 0) 1 [] 85 _ [.int 0] (by decide +kernel) rfl ?_
      refine dq_is 7 87 (by decide +kernel) (by decide +kernel) ?_
      have g39 := dg_ne (i := 7) (u := .int 0) (by decide) (Or.inl (by decide)) g32
      have g40 := dg_ne (i := 7) (u := .int 0) (by decide) (Or.inl (by decide)) g33
      have g41 := dg_ne (i := 7) (u := .int 0) (by decide) (Or.inl (by decide)) g34
      have g42 := dg_ne (i := 7) (u := .int 0) (by decide) (Or.inl (by decide)) g35
      have g43 := dg_ne (i := 7) (u := .int 0) (by decide) (Or.inl (by decide)) g36
      have g44 := dg_ne (i := 7) (u := .int 0) (by decide) (Or.inl (by decide)) g37
      have g45 := dg_ne (i := 7) (u := .int 0) (by decide) (Or.inr rfl) g38
      have g46 := dg_eq (rm_set1 (lv) 6 (.int (401 * i5))) 7 (.int 0)
      exact c377_87 hD hz _ _ _ _ _ _ _ _ _ _ _ g39 g41 g42 g43 g44 g45 g46 hh
    · refine dq_1 .eq 9 false 16 q5 (by decide +kernel) ?_
      refine dq_incy 5 1 1 19 (by decide +kernel) ⟨rfl, by decide +kernel, by decide +kernel⟩ G5 ?_
      have g47 := dg_ne (i := 5) (u := .int (i5 + 1)) (by decide) (Or.inl (by decide)) G0
      have g48 := dg_ne (i := 5) (u := .int (i5 + 1)) (by decide) (Or.inl (by decide)) G1
      have g49 := dg_ne (i := 5) (u := .int (i5 + 1)) (by decide) (Or.inl (by decide)) G2
      have g50 := dg_ne (i := 5) (u := .int (i5 + 1)) (by decide) (Or.inl (by decide)) G3
      have g51 := dg_ne (i := 5) (u := .int (i5 + 1)) (by decide) (Or.inr rfl) G4
      have g52 := dg_eq (lv) 5 (.int (i5 + 1))
      refine dq_S (.goto (-13)) 3 [] 6 _ [] (by decide +kernel) rfl ?_
      exact ih _ _ _ _ _ _ _ _ _ g47 g48 g49 g50 g51 g52 hh
def b377_0 (L : Nat) (xs : Nat → Int32) (zf : Value) (D : dD) (w : Nat) (o0 : Option Nat) (i1 : Int32) (i2 : Int32) (i3 : Int32) (i4 : Int32) (h : rm_H) : Option dR :=
  b377_6 L xs zf D w w o0 i1 i2 i3 i4 (6 * i1) h
theorem c377_0 {L : Nat} {xs : Nat → Int32} {zf : Value} {D : dD} {w k : Nat} (hD : dO L xs zf D k) (hz : zf.category = 1) : ∀ (o0 : Option Nat) (i1 : Int32) (i2 : Int32) (i3 : Int32) (i4 : Int32) (lv : rm_L) (h : rm_H) (r : dR), rm_get lv 0 = some (va_rf o0) → rm_get lv 1 = some (.int i1) → rm_get lv 2 = some (.int i2) → rm_get lv 3 = some (.int i3) → rm_get lv 4 = some (.int i4) → b377_0 L xs zf D w  o0 i1 i2 i3 i4 h = some r → dq L xs zf ah_M377 0 lv [] h (k + 1) r := by
  intro o0 i1 i2 i3 i4 lv h r G0 G1 G2 G3 G4 hh
  unfold b377_0 at hh
  refine dq_S (.bipush 6) 2 [] 2 _ [.int 6] (by decide +kernel) rfl ?_
  refine dq_iln 1 3 (by decide +kernel) rfl G1 ?_
  refine dq_S (.imul) 1 [] 4 _ [.int (6 * i1)] (by decide +kernel) rfl ?_
  refine dq_is 5 6 (by decide +kernel) (by decide +kernel) ?_
  have g1 := dg_ne (i := 5) (u := .int (6 * i1)) (by decide) (Or.inl (by decide)) G0
  have g2 := dg_ne (i := 5) (u := .int (6 * i1)) (by decide) (Or.inl (by decide)) G1
  have g3 := dg_ne (i := 5) (u := .int (6 * i1)) (by decide) (Or.inl (by decide)) G2
  have g4 := dg_ne (i := 5) (u := .int (6 * i1)) (by decide) (Or.inl (by decide)) G3
  have g5 := dg_ne (i := 5) (u := .int (6 * i1)) (by decide) (Or.inr rfl) G4
  have g6 := dg_eq (lv) 5 (.int (6 * i1))
  exact c377_6 hD hz _ _ _ _ _ _ _ _ _ _ g1 g2 g3 g4 g5 g6 hh
def f377 (L : Nat) (xs : Nat → Int32) (zf : Value) (D : dD) (w : Nat) (As : List Value) (h : rm_H) : Option dR := match As with
  | [v0, .int i1, .int i2, .int i3, .int i4] => (rm_rf v0).bind fun o0 => b377_0 L xs zf D w o0 i1 i2 i3 i4 h
  | _ => none
theorem d377 {L : Nat} {xs : Nat → Int32} {zf : Value} {D : dD} {w k : Nat} (hD : dO L xs zf D k) (hz : zf.category = 1) (As : List Value) (h : rm_H) (r : dR) (hh : f377 L xs zf D w As h = some r) : dq L xs zf ah_M377 0 (lv_args 0 As) [] h (k + 1) r := by
  unfold f377 at hh
  split at hh
  · obtain ⟨o0, e0, hb0⟩ := db hh
    have e0 := rm_rf_v _ _ e0
    subst e0
    refine c377_0 hD hz _ _ _ _ _ _ _ _ ?_ ?_ ?_ ?_ ?_ hb0
    all_goals (simp only [la_r, la_i, la_j]; rfl)
  · cases hh
def b378_20 (L : Nat) (xs : Nat → Int32) (zf : Value) (D : dD) (w : Nat) (i4 : Int32) (h : rm_H) : Option dR :=
  drI (some .int) i4 h
theorem c378_20 {L : Nat} {xs : Nat → Int32} {zf : Value} {D : dD} {w k : Nat} (hD : dO L xs zf D k) (hz : zf.category = 1) : ∀ (i4 : Int32) (lv : rm_L) (h : rm_H) (r : dR), rm_get lv 4 = some (.int i4) → b378_20 L xs zf D w  i4 h = some r → dq L xs zf ah_M378 20 lv [] h (k + 1) r := by
  intro i4 lv h r G4 hh
  unfold b378_20 at hh
  refine dq_il 4 22 (by decide +kernel) rfl G4 ?_
  exact dq_retI (some .int) (by decide +kernel) rfl hh
def b378_0 (L : Nat) (xs : Nat → Int32) (zf : Value) (D : dD) (w : Nat) (o0 : Option Nat) (i1 : Int32) (j2 : Int64) (i4 : Int32) (h : rm_H) : Option dR :=
  ((D 379 [.long j2] h).bind dxI).bind fun x1 =>
  if mx_f2 .ne x1.1 2 = true then
    b378_20 L xs zf D w i4 x1.2
  else
    (dgR L xs x1.2 104 [15] o0).bind fun p6 =>
    (daB L xs x1.2 p6 (i1 + (Int64.toInt32 j2))).bind fun x8 =>
    if mx_f1 .eq x8 = true then
      (dgR L xs x1.2 104 [15] o0).bind fun p11 =>
      (dsB x1.2 p11 (i1 + (Int64.toInt32 j2)) 1).bind fun h13 =>
      (dgR L xs h13 109 [15] o0).bind fun p15 =>
      (dsI h13 p15 i4 (Int64.toInt32 j2)).bind fun h17 =>
      drI (some .int) (i4 + 1) h17
    else
      b378_20 L xs zf D w i4 x1.2
theorem c378_0 {L : Nat} {xs : Nat → Int32} {zf : Value} {D : dD} {w k : Nat} (hD : dO L xs zf D k) (hz : zf.category = 1) : ∀ (o0 : Option Nat) (i1 : Int32) (j2 : Int64) (i4 : Int32) (lv : rm_L) (h : rm_H) (r : dR), rm_get lv 0 = some (va_rf o0) → rm_get lv 1 = some (.int i1) → rm_get lv 2 = some (.long j2) → rm_get lv 4 = some (.int i4) → b378_0 L xs zf D w  o0 i1 j2 i4 h = some r → dq L xs zf ah_M378 0 lv [] h (k + 1) r := by
  intro o0 i1 j2 i4 lv h r G0 G1 G2 G4 hh
  unfold b378_0 at hh
  refine dq_lln 2 1 (by decide +kernel) rfl G2 ?_
  obtain ⟨x1, q2, hh⟩ := db hh
  obtain ⟨a3, q4, q2⟩ := db q2
  rw [dq_xI q2] at q4
  refine dq_cst hD 625 379 0 1 [.long j2] [] 4 [.int x1.1] (by decide +kernel) ap_379 ⟨⟨Nat.le_of_ble_eq_true rfl, by decide⟩, rfl, rfl⟩ (dq_ok8 [2] [] (dc_j dc_n) dc_n (by decide +kernel)) (by decide +kernel) rfl q4 rfl ?_
  refine dq_S (.iconst 2) 1 [] 5 _ [.int 2, .int x1.1] (by decide +kernel) rfl ?_
  rcases di hh with ⟨q5, hh⟩ | ⟨q5, hh⟩
  · refine dq_2 .ne 15 true 20 q5 (by decide +kernel) ?_
    exact c378_20 hD hz _ _ _ _ G4 hh
  · refine dq_2 .ne 15 false 8 q5 (by decide +kernel) ?_
    refine dq_aln 0 9 (by decide +kernel) rfl G0 ?_
    obtain ⟨p6, q7, hh⟩ := db hh
    refine dq_gR 224 104 [15] 12 (by decide +kernel) rfl q7 ?_
    refine dq_iln 1 13 (by decide +kernel) rfl G1 ?_
    refine dq_lln 2 14 (by decide +kernel) rfl G2 ?_
    refine dq_S (.l2i) 1 [] 15 _ [.int (Int64.toInt32 j2), .int i1, va_rf p6] (by decide +kernel) rfl ?_
    refine dq_S (.iadd) 1 [] 16 _ [.int (i1 + (Int64.toInt32 j2)), va_rf p6] (by decide +kernel) rfl ?_
    obtain ⟨x8, q9, hh⟩ := db hh
    refine dq_aB 17 (by decide +kernel) rfl q9 ?_
    rcases di hh with ⟨q10, hh⟩ | ⟨q10, hh⟩
    · refine dq_1 .eq 6 true 23 q10 (by decide +kernel) ?_
      refine dq_aln 0 24 (by decide +kernel) rfl G0 ?_
      obtain ⟨p11, q12, hh⟩ := db hh
      refine dq_gR 224 104 [15] 27 (by decide +kernel) rfl q12 ?_
      refine dq_iln 1 28 (by decide +kernel) rfl G1 ?_
      refine dq_lln 2 29 (by decide +kernel) rfl G2 ?_
      refine dq_S (.l2i) 1 [] 30 _ [.int (Int64.toInt32 j2), .int i1, va_rf p11] (by decide +kernel) rfl ?_
      refine dq_S (.iadd) 1 [] 31 _ [.int (i1 + (Int64.toInt32 j2)), va_rf p11] (by decide +kernel) rfl ?_
      refine dq_S (.iconst 1) 1 [] 32 _ [.int 1, .int (i1 + (Int64.toInt32 j2)), va_rf p11] (by decide +kernel) rfl ?_
      obtain ⟨h13, q14, hh⟩ := db hh
      refine dq_sB1 33 (by decide +kernel) rfl q14 ?_
      refine dq_aln 0 34 (by decide +kernel) rfl G0 ?_
      obtain ⟨p15, q16, hh⟩ := db hh
      refine dq_gR 239 109 [15] 37 (by decide +kernel) rfl q16 ?_
      refine dq_il 4 39 (by decide +kernel) rfl G4 ?_
      refine dq_lln 2 40 (by decide +kernel) rfl G2 ?_
      refine dq_S (.l2i) 1 [] 41 _ [.int (Int64.toInt32 j2), .int i4, va_rf p15] (by decide +kernel) rfl ?_
      obtain ⟨h17, q18, hh⟩ := db hh
      refine dq_sI 42 (by decide +kernel) rfl q18 ?_
      refine dq_il 4 44 (by decide +kernel) rfl G4 ?_
      refine dq_S (.iconst 1) 1 [] 45 _ [.int 1, .int i4] (by decide +kernel) rfl ?_
      refine dq_S (.iadd) 1 [] 46 _ [.int (i4 + 1)] (by decide +kernel) rfl ?_
      exact dq_retI (some .int) (by decide +kernel) rfl hh
    · refine dq_1 .eq 6 false 20 q10 (by decide +kernel) ?_
      exact c378_20 hD hz _ _ _ _ G4 hh
def f378 (L : Nat) (xs : Nat → Int32) (zf : Value) (D : dD) (w : Nat) (As : List Value) (h : rm_H) : Option dR := match As with
  | [v0, .int i1, .long j2, .int i4] => (rm_rf v0).bind fun o0 => b378_0 L xs zf D w o0 i1 j2 i4 h
  | _ => none
theorem d378 {L : Nat} {xs : Nat → Int32} {zf : Value} {D : dD} {w k : Nat} (hD : dO L xs zf D k) (hz : zf.category = 1) (As : List Value) (h : rm_H) (r : dR) (hh : f378 L xs zf D w As h = some r) : dq L xs zf ah_M378 0 (lv_args 0 As) [] h (k + 1) r := by
  unfold f378 at hh
  split at hh
  · obtain ⟨o0, e0, hb0⟩ := db hh
    have e0 := rm_rf_v _ _ e0
    subst e0
    refine c378_0 hD hz _ _ _ _ _ _ _ ?_ ?_ ?_ ?_ hb0
    all_goals (simp only [la_r, la_i, la_j]; rfl)
  · cases hh
def b379_0 (L : Nat) (xs : Nat → Int32) (zf : Value) (D : dD) (w : Nat) (j0 : Int64) (h : rm_H) : Option dR :=
  drI (some .int) (Int64.toInt32 (j0 >>> ((32 : Int32).toInt64 &&& 63))) h
theorem c379_0 {L : Nat} {xs : Nat → Int32} {zf : Value} {D : dD} {w k : Nat} (hD : dO L xs zf D k) (hz : zf.category = 1) : ∀ (j0 : Int64) (lv : rm_L) (h : rm_H) (r : dR), rm_get lv 0 = some (.long j0) → b379_0 L xs zf D w  j0 h = some r → dq L xs zf ah_M379 0 lv [] h (k + 1) r := by
  intro j0 lv h r G0 hh
  unfold b379_0 at hh
  refine dq_lln 0 1 (by decide +kernel) rfl G0 ?_
  refine dq_S (.bipush 32) 2 [] 3 _ [.int 32, .long j0] (by decide +kernel) rfl ?_
  refine dq_S (.lshr) 1 [] 4 _ [.long (j0 >>> ((32 : Int32).toInt64 &&& 63))] (by decide +kernel) rfl ?_
  refine dq_S (.l2i) 1 [] 5 _ [.int (Int64.toInt32 (j0 >>> ((32 : Int32).toInt64 &&& 63)))] (by decide +kernel) rfl ?_
  exact dq_retI (some .int) (by decide +kernel) rfl hh
def f379 (L : Nat) (xs : Nat → Int32) (zf : Value) (D : dD) (w : Nat) (As : List Value) (h : rm_H) : Option dR := match As with
  | [.long j0] => b379_0 L xs zf D w j0 h
  | _ => none
theorem d379 {L : Nat} {xs : Nat → Int32} {zf : Value} {D : dD} {w k : Nat} (hD : dO L xs zf D k) (hz : zf.category = 1) (As : List Value) (h : rm_H) (r : dR) (hh : f379 L xs zf D w As h = some r) : dq L xs zf ah_M379 0 (lv_args 0 As) [] h (k + 1) r := by
  unfold f379 at hh
  split at hh
  · refine c379_0 hD hz _ _ _ _ ?_ hh
    all_goals (simp only [la_r, la_i, la_j]; rfl)
  · cases hh
def b380_20 (L : Nat) (xs : Nat → Int32) (zf : Value) (D : dD) (w : Nat) (h : rm_H) : Option dR :=
  drI (some .int) (-1) h
theorem c380_20 {L : Nat} {xs : Nat → Int32} {zf : Value} {D : dD} {w k : Nat} (hD : dO L xs zf D k) (hz : zf.category = 1) : ∀ (lv : rm_L) (h : rm_H) (r : dR), b380_20 L xs zf D w  h = some r → dq L xs zf ah_M380 20 lv [] h (k + 1) r := by
  intro lv h r hh
  unfold b380_20 at hh
  refine dq_S (.iconst (-1)) 1 [] 21 _ [.int (-1)] (by decide +kernel) rfl ?_
  exact dq_retI (some .int) (by decide +kernel) rfl hh
def b380_48 (L : Nat) (xs : Nat → Int32) (zf : Value) (D : dD) (w : Nat) (i3 : Int32) (h : rm_H) : Option dR :=
  drI (some .int) i3 h
theorem c380_48 {L : Nat} {xs : Nat → Int32} {zf : Value} {D : dD} {w k : Nat} (hD : dO L xs zf D k) (hz : zf.category = 1) : ∀ (i3 : Int32) (lv : rm_L) (h : rm_H) (r : dR), rm_get lv 3 = some (.int i3) → b380_48 L xs zf D w  i3 h = some r → dq L xs zf ah_M380 48 lv [] h (k + 1) r := by
  intro i3 lv h r G3 hh
  unfold b380_48 at hh
  refine dq_iln 3 49 (by decide +kernel) rfl G3 ?_
  exact dq_retI (some .int) (by decide +kernel) rfl hh
def b380_24 (L : Nat) (xs : Nat → Int32) (zf : Value) (D : dD) (w : Nat) : Nat → Option Nat → Int32 → Int32 → Int32 → rm_H → Option dR
  | 0, _, _, _, _, _ => none
  | n + 1, o0, i1, i2, i3, h =>
    if mx_f2 .ge i3 i2 = true then
      b380_48 L xs zf D w i3 h
    else
      ((dcV L xs D 382 [15] o0 [.int i1] h).bind dxI).bind fun x2 =>
      if mx_f1 .eq x2.1 = true then
        b380_48 L xs zf D w i3 x2.2
      else
        ((dcV L xs D 383 [15] o0 [.int i1] x2.2).bind dxV).bind fun h7 =>
        b380_24 L xs zf D w n o0 i1 i2 (i3 + 1) h7
theorem c380_24 {L : Nat} {xs : Nat → Int32} {zf : Value} {D : dD} {w k : Nat} (hD : dO L xs zf D k) (hz : zf.category = 1) : ∀ (n : Nat) (o0 : Option Nat) (i1 : Int32) (i2 : Int32) (i3 : Int32) (lv : rm_L) (h : rm_H) (r : dR), rm_get lv 0 = some (va_rf o0) → rm_get lv 1 = some (.int i1) → rm_get lv 2 = some (.int i2) → rm_get lv 3 = some (.int i3) → b380_24 L xs zf D w n  o0 i1 i2 i3 h = some r → dq L xs zf ah_M380 24 lv [] h (k + 1) r := by
  intro n
  induction n with
  | zero =>
    intro o0 i1 i2 i3 lv h r G0 G1 G2 G3 hh
    cases hh
  | succ n ih =>
    intro o0 i1 i2 i3 lv h r G0 G1 G2 G3 hh
    rw [b380_24] at hh
    refine dq_iln 3 25 (by decide +kernel) rfl G3 ?_
    refine dq_iln 2 26 (by decide +kernel) rfl G2 ?_
    rcases di hh with ⟨q1, hh⟩ | ⟨q1, hh⟩
    · refine dq_2 .ge 22 true 48 q1 (by decide +kernel) ?_
      exact c380_48 hD hz _ _ _ _ G3 hh
    · refine dq_2 .ge 22 false 29 q1 (by decide +kernel) ?_
      refine dq_aln 0 30 (by decide +kernel) rfl G0 ?_
      refine dq_iln 1 31 (by decide +kernel) rfl G1 ?_
      obtain ⟨x2, q3, hh⟩ := db hh
      obtain ⟨a4, q5, q3⟩ := db q3
      rw [dq_xI q3] at q5
      refine dq_cvi hD 712 382 5 1 [15] o0 [.int i1] [] 34 [.int x2.1] (by decide +kernel) ap_382 ⟨⟨Nat.le_of_ble_eq_true rfl, by decide⟩, rfl, rfl⟩ (dq_ok8 [1, 1] [] (dc_r (dc_i dc_n)) dc_n (by decide +kernel)) (by decide +kernel) rfl q5 rfl ?_
      rcases di hh with ⟨q6, hh⟩ | ⟨q6, hh⟩
      · refine dq_1 .eq 14 true 48 q6 (by decide +kernel) ?_
        exact c380_48 hD hz _ _ _ _ G3 hh
      · refine dq_1 .eq 14 false 37 q6 (by decide +kernel) ?_
        refine dq_aln 0 38 (by decide +kernel) rfl G0 ?_
        refine dq_iln 1 39 (by decide +kernel) rfl G1 ?_
        obtain ⟨h7, q8, hh⟩ := db hh
        obtain ⟨a9, q10, q8⟩ := db q8
        rw [dq_xV q8] at q10
        refine dq_cvi hD 715 383 5 1 [15] o0 [.int i1] [] 42 [] (by decide +kernel) ap_383 ⟨⟨Nat.le_of_ble_eq_true rfl, by decide⟩, rfl, rfl⟩ (dq_ok8 [1, 1] [] (dc_r (dc_i dc_n)) dc_n (by decide +kernel)) (by decide +kernel) rfl q10 rfl ?_
        refine dq_incy 3 1 1 45 (by decide +kernel) ⟨rfl, by decide +kernel, by decide +kernel⟩ G3 ?_
        have g11 := dg_ne (i := 3) (u := .int (i3 + 1)) (by decide) (Or.inl (by decide)) G0
        have g12 := dg_ne (i := 3) (u := .int (i3 + 1)) (by decide) (Or.inl (by decide)) G1
        have g13 := dg_ne (i := 3) (u := .int (i3 + 1)) (by decide) (Or.inr rfl) G2
        have g14 := dg_eq (lv) 3 (.int (i3 + 1))
        refine dq_S (.goto (-21)) 3 [] 24 _ [] (by decide +kernel) rfl ?_
        exact ih _ _ _ _ _ _ _ g11 g12 g13 g14 hh
def b380_0 (L : Nat) (xs : Nat → Int32) (zf : Value) (D : dD) (w : Nat) (o0 : Option Nat) (i1 : Int32) (i2 : Int32) (h : rm_H) : Option dR :=
  ((dcV L xs D 381 [15] o0 [.int i1] h).bind dxI).bind fun x1 =>
  if mx_f1 .eq x1.1 = true then
    b380_20 L xs zf D w x1.2
  else
    if mx_f2 .lt i2 1 = true then
      b380_20 L xs zf D w x1.2
    else
      if mx_f2 .le i2 200 = true then
        b380_24 L xs zf D w w o0 i1 i2 0 x1.2
      else
        b380_20 L xs zf D w x1.2
theorem c380_0 {L : Nat} {xs : Nat → Int32} {zf : Value} {D : dD} {w k : Nat} (hD : dO L xs zf D k) (hz : zf.category = 1) : ∀ (o0 : Option Nat) (i1 : Int32) (i2 : Int32) (lv : rm_L) (h : rm_H) (r : dR), rm_get lv 0 = some (va_rf o0) → rm_get lv 1 = some (.int i1) → rm_get lv 2 = some (.int i2) → b380_0 L xs zf D w  o0 i1 i2 h = some r → dq L xs zf ah_M380 0 lv [] h (k + 1) r := by
  intro o0 i1 i2 lv h r G0 G1 G2 hh
  unfold b380_0 at hh
  refine dq_aln 0 1 (by decide +kernel) rfl G0 ?_
  refine dq_iln 1 2 (by decide +kernel) rfl G1 ?_
  obtain ⟨x1, q2, hh⟩ := db hh
  obtain ⟨a3, q4, q2⟩ := db q2
  rw [dq_xI q2] at q4
  refine dq_cvi hD 709 381 5 1 [15] o0 [.int i1] [] 5 [.int x1.1] (by decide +kernel) ap_381 ⟨⟨Nat.le_of_ble_eq_true rfl, by decide⟩, rfl, rfl⟩ (dq_ok8 [1, 1] [] (dc_r (dc_i dc_n)) dc_n (by decide +kernel)) (by decide +kernel) rfl q4 rfl ?_
  rcases di hh with ⟨q5, hh⟩ | ⟨q5, hh⟩
  · refine dq_1 .eq 15 true 20 q5 (by decide +kernel) ?_
    exact c380_20 hD hz  _ _ _  hh
  · refine dq_1 .eq 15 false 8 q5 (by decide +kernel) ?_
    refine dq_iln 2 9 (by decide +kernel) rfl G2 ?_
    refine dq_S (.iconst 1) 1 [] 10 _ [.int 1, .int i2] (by decide +kernel) rfl ?_
    rcases di hh with ⟨q6, hh⟩ | ⟨q6, hh⟩
    · refine dq_2 .lt 10 true 20 q6 (by decide +kernel) ?_
      exact c380_20 hD hz  _ _ _  hh
    · refine dq_2 .lt 10 false 13 q6 (by decide +kernel) ?_
      refine dq_iln 2 14 (by decide +kernel) rfl G2 ?_
      refine dq_S (.sipush 200) 3 [] 17 _ [.int 200, .int i2] (by decide +kernel) rfl ?_
      rcases di hh with ⟨q7, hh⟩ | ⟨q7, hh⟩
      · refine dq_2 .le 5 true 22 q7 (by decide +kernel) ?_
        refine dq_S (.iconst 0) 1 [] 23 _ [.int 0] (by decide +kernel) rfl ?_
        refine dq_isn 3 24 (by decide +kernel) (by decide +kernel) ?_
        have g8 := dg_ne (i := 3) (u := .int 0) (by decide) (Or.inl (by decide)) G0
        have g9 := dg_ne (i := 3) (u := .int 0) (by decide) (Or.inl (by decide)) G1
        have g10 := dg_ne (i := 3) (u := .int 0) (by decide) (Or.inr rfl) G2
        have g11 := dg_eq (lv) 3 (.int 0)
        exact c380_24 hD hz _ _ _ _ _ _ _ _ g8 g9 g10 g11 hh
      · refine dq_2 .le 5 false 20 q7 (by decide +kernel) ?_
        exact c380_20 hD hz  _ _ _  hh
def f380 (L : Nat) (xs : Nat → Int32) (zf : Value) (D : dD) (w : Nat) (As : List Value) (h : rm_H) : Option dR := match As with
  | [v0, .int i1, .int i2] => (rm_rf v0).bind fun o0 => b380_0 L xs zf D w o0 i1 i2 h
  | _ => none
theorem d380 {L : Nat} {xs : Nat → Int32} {zf : Value} {D : dD} {w k : Nat} (hD : dO L xs zf D k) (hz : zf.category = 1) (As : List Value) (h : rm_H) (r : dR) (hh : f380 L xs zf D w As h = some r) : dq L xs zf ah_M380 0 (lv_args 0 As) [] h (k + 1) r := by
  unfold f380 at hh
  split at hh
  · obtain ⟨o0, e0, hb0⟩ := db hh
    have e0 := rm_rf_v _ _ e0
    subst e0
    refine c380_0 hD hz _ _ _ _ _ _ ?_ ?_ ?_ hb0
    all_goals (simp only [la_r, la_i, la_j]; rfl)
  · cases hh
