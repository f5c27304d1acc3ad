/-! METHODS AS FUNCTIONS, printed by wip/whole/gen_fun.py -/
def b396_39 (L : Nat) (xs : Nat → Int32) (zf : Value) (D : dD) (w : Nat) : Nat → Option Nat → Int32 → Int32 → Int64 → Int32 → Int32 → rm_H → Option dR
  | 0, _, _, _, _, _, _, _ => none
  | n + 1, o0, i1, i2, j3, i6, i7, h =>
    if mx_f1 .lt i7 = true then
      ((dcV L xs D 385 [15] o0 [.int i1, .int i2, .long j3] h).bind dxV).bind fun h2 =>
      some (none, h2)
    else
      (dgR L xs h 100 [15] o0).bind fun p6 =>
      ((dcV L xs D 390 [15] o0 [.int i1] h).bind dxJ).bind fun y8 =>
      (dsJ y8.2 p6 (i6 + i7) y8.1).bind fun h12 =>
      b396_39 L xs zf D w n o0 i1 i2 j3 i6 (i7 + (-1)) h12
theorem c396_39 {L : Nat} {xs : Nat → Int32} {zf : Value} {D : dD} {w k : Nat} (hD : dO L xs zf D k) (hz : zf.category = 1) : ∀ (n : Nat) (o0 : Option Nat) (i1 : Int32) (i2 : Int32) (j3 : Int64) (i6 : Int32) (i7 : Int32) (lv : rm_L) (h : rm_H) (r : dR), rm_get lv 0 = some (va_rf o0) → rm_get lv 1 = some (.int i1) → rm_get lv 2 = some (.int i2) → rm_get lv 3 = some (.long j3) → rm_get lv 6 = some (.int i6) → rm_get lv 7 = some (.int i7) → b396_39 L xs zf D w n  o0 i1 i2 j3 i6 i7 h = some r → dq L xs zf ah_M396 39 lv [] h (k + 1) r := by
  intro n
  induction n with
  | zero =>
    intro o0 i1 i2 j3 i6 i7 lv h r G0 G1 G2 G3 G6 G7 hh
    cases hh
  | succ n ih =>
    intro o0 i1 i2 j3 i6 i7 lv h r G0 G1 G2 G3 G6 G7 hh
    rw [b396_39] at hh
    refine dq_il 7 41 (by decide +kernel) rfl G7 ?_
    rcases di hh with ⟨q1, hh⟩ | ⟨q1, hh⟩
    · refine dq_1 .lt 24 true 65 q1 (by decide +kernel) ?_
      refine dq_aln 0 66 (by decide +kernel) rfl G0 ?_
      refine dq_iln 1 67 (by decide +kernel) rfl G1 ?_
      refine dq_iln 2 68 (by decide +kernel) rfl G2 ?_
      refine dq_lln 3 69 (by decide +kernel) rfl G3 ?_
      obtain ⟨h2, q3, hh⟩ := db hh
      obtain ⟨a4, q5, q3⟩ := db q3
      rw [dq_xV q3] at q5
      refine dq_cvi hD 628 385 5 3 [15] o0 [.int i1, .int i2, .long j3] [] 72 [] (by decide +kernel) ap_385 ⟨⟨Nat.le_of_ble_eq_true rfl, by decide⟩, rfl, rfl⟩ (dq_ok8 [1, 1, 1, 2] [] (dc_r (dc_i (dc_i (dc_j dc_n)))) dc_n (by decide +kernel)) (by decide +kernel) rfl q5 rfl ?_
      cases hh
      exact dq_ret0 (by decide +kernel) rfl
    · refine dq_1 .lt 24 false 44 q1 (by decide +kernel) ?_
      refine dq_aln 0 45 (by decide +kernel) rfl G0 ?_
      obtain ⟨p6, q7, hh⟩ := db hh
      refine dq_gR 212 100 [15] 48 (by decide +kernel) rfl q7 ?_
      refine dq_il 6 50 (by decide +kernel) rfl G6 ?_
      refine dq_il 7 52 (by decide +kernel) rfl G7 ?_
      refine dq_S (.iadd) 1 [] 53 _ [.int (i6 + i7), va_rf p6] (by decide +kernel) rfl ?_
      refine dq_aln 0 54 (by decide +kernel) rfl G0 ?_
      refine dq_iln 1 55 (by decide +kernel) rfl G1 ?_
      obtain ⟨y8, q9, hh⟩ := db hh
      obtain ⟨a10, q11, q9⟩ := db q9
      rw [dq_xJ q9] at q11
      refine dq_cvi hD 663 390 5 1 [15] o0 [.int i1] [.int (i6 + i7), va_rf p6] 58 [.long y8.1, .int (i6 + i7), va_rf p6] (by decide +kernel) ap_390 ⟨⟨Nat.le_of_ble_eq_true rfl, by decide⟩, rfl, rfl⟩ (dq_ok8 [1, 1] [1, 1] (dc_r (dc_i dc_n)) (dc_i (dc_r dc_n)) (by decide +kernel)) (by decide +kernel) rfl q11 rfl ?_
      obtain ⟨h12, q13, hh⟩ := db hh
      refine dq_sJ 59 (by decide +kernel) rfl q13 ?_
      refine dq_incy 7 (-1) (-1) 62 (by decide +kernel) ⟨rfl, by decide +kernel, by decide +kernel⟩ G7 ?_
      have g14 := dg_ne (i := 7) (u := .int (i7 + (-1))) (by decide) (Or.inl (by decide)) G0
      have g15 := dg_ne (i := 7) (u := .int (i7 + (-1))) (by decide) (Or.inl (by decide)) G1
      have g16 := dg_ne (i := 7) (u := .int (i7 + (-1))) (by decide) (Or.inl (by decide)) G2
      have g17 := dg_ne (i := 7) (u := .int (i7 + (-1))) (by decide) (Or.inl (by decide)) G3
      have g18 := dg_ne (i := 7) (u := .int (i7 + (-1))) (by decide) (Or.inr rfl) G6
      have g19 := dg_eq (lv) 7 (.int (i7 + (-1)))
      refine dq_S (.goto (-23)) 3 [] 39 _ [] (by decide +kernel) rfl ?_
      exact ih _ _ _ _ _ _ _ _ _ g14 g15 g16 g17 g18 g19 hh
def b396_0 (L : Nat) (xs : Nat → Int32) (zf : Value) (D : dD) (w : Nat) (o0 : Option Nat) (i1 : Int32) (i2 : Int32) (j3 : Int64) (h : rm_H) : Option dR :=
  (dgR L xs h 50 [15] o0).bind fun p1 =>
  (daI L xs h p1 (i2 + 1)).bind fun x3 =>
  (dgR L xs h 50 [15] o0).bind fun p5 =>
  (daI L xs h p5 i2).bind fun x7 =>
  (dgR L xs h 91 [15] o0).bind fun p14 =>
  (daI L xs h p14 i1).bind fun x16 =>
  b396_39 L xs zf D w w o0 i1 i2 j3 (16 * ((10 * i1) + x16)) ((x3 - x7) - 1) h
theorem c396_0 {L : Nat} {xs : Nat → Int32} {zf : Value} {D : dD} {w k : Nat} (hD : dO L xs zf D k) (hz : zf.category = 1) : ∀ (o0 : Option Nat) (i1 : Int32) (i2 : Int32) (j3 : Int64) (lv : rm_L) (h : rm_H) (r : dR), rm_get lv 0 = some (va_rf o0) → rm_get lv 1 = some (.int i1) → rm_get lv 2 = some (.int i2) → rm_get lv 3 = some (.long j3) → b396_0 L xs zf D w  o0 i1 i2 j3 h = some r → dq L xs zf ah_M396 0 lv [] h (k + 1) r := by
  intro o0 i1 i2 j3 lv h r G0 G1 G2 G3 hh
  unfold b396_0 at hh
  refine dq_aln 0 1 (by decide +kernel) rfl G0 ?_
  obtain ⟨p1, q2, hh⟩ := db hh
  refine dq_gR 136 50 [15] 4 (by decide +kernel) rfl q2 ?_
  refine dq_iln 2 5 (by decide +kernel) rfl G2 ?_
  refine dq_S (.iconst 1) 1 [] 6 _ [.int 1, .int i2, va_rf p1] (by decide +kernel) rfl ?_
  refine dq_S (.iadd) 1 [] 7 _ [.int (i2 + 1), va_rf p1] (by decide +kernel) rfl ?_
  obtain ⟨x3, q4, hh⟩ := db hh
  refine dq_aI 8 (by decide +kernel) rfl q4 ?_
  refine dq_aln 0 9 (by decide +kernel) rfl G0 ?_
  obtain ⟨p5, q6, hh⟩ := db hh
  refine dq_gR 136 50 [15] 12 (by decide +kernel) rfl q6 ?_
  refine dq_iln 2 13 (by decide +kernel) rfl G2 ?_
  obtain ⟨x7, q8, hh⟩ := db hh
  refine dq_aI 14 (by decide +kernel) rfl q8 ?_
  refine dq_S (.isub) 1 [] 15 _ [.int (x3 - x7)] (by decide +kernel) rfl ?_
  refine dq_is 5 17 (by decide +kernel) (by decide +kernel) ?_
  have g9 := dg_ne (i := 5) (u := .int (x3 - x7)) (by decide) (Or.inl (by decide)) G0
  have g10 := dg_ne (i := 5) (u := .int (x3 - x7)) (by decide) (Or.inl (by decide)) G1
  have g11 := dg_ne (i := 5) (u := .int (x3 - x7)) (by decide) (Or.inl (by decide)) G2
  have g12 := dg_ne (i := 5) (u := .int (x3 - x7)) (by decide) (Or.inl (by decide)) G3
  have g13 := dg_eq (lv) 5 (.int (x3 - x7))
  refine dq_S (.bipush 16) 2 [] 19 _ [.int 16] (by decide +kernel) rfl ?_
  refine dq_S (.bipush 10) 2 [] 21 _ [.int 10, .int 16] (by decide +kernel) rfl ?_
  refine dq_iln 1 22 (by decide +kernel) rfl g10 ?_
  refine dq_S (.imul) 1 [] 23 _ [.int (10 * i1), .int 16] (by decide +kernel) rfl ?_
  refine dq_aln 0 24 (by decide +kernel) rfl g9 ?_
  obtain ⟨p14, q15, hh⟩ := db hh
  refine dq_gR 184 91 [15] 27 (by decide +kernel) rfl q15 ?_
  refine dq_iln 1 28 (by decide +kernel) rfl g10 ?_
  obtain ⟨x16, q17, hh⟩ := db hh
  refine dq_aI 29 (by decide +kernel) rfl q17 ?_
  refine dq_S (.iadd) 1 [] 30 _ [.int ((10 * i1) + x16), .int 16] (by decide +kernel) rfl ?_
  refine dq_S (.imul) 1 [] 31 _ [.int (16 * ((10 * i1) + x16))] (by decide +kernel) rfl ?_
  refine dq_is 6 33 (by decide +kernel) (by decide +kernel) ?_
  have g18 := dg_ne (i := 6) (u := .int (16 * ((10 * i1) + x16))) (by decide) (Or.inl (by decide)) g9
  have g19 := dg_ne (i := 6) (u := .int (16 * ((10 * i1) + x16))) (by decide) (Or.inl (by decide)) g10
  have g20 := dg_ne (i := 6) (u := .int (16 * ((10 * i1) + x16))) (by decide) (Or.inl (by decide)) g11
  have g21 := dg_ne (i := 6) (u := .int (16 * ((10 * i1) + x16))) (by decide) (Or.inl (by decide)) g12
  have g22 := dg_ne (i := 6) (u := .int (16 * ((10 * i1) + x16))) (by decide) (Or.inr rfl) g13
  have g23 := dg_eq (rm_set1 (lv) 5 (.int (x3 - x7))) 6 (.int (16 * ((10 * i1) + x16)))
  refine dq_il 5 35 (by decide +kernel) rfl g22 ?_
  refine dq_S (.iconst 1) 1 [] 36 _ [.int 1, .int (x3 - x7)] (by decide +kernel) rfl ?_
  refine dq_S (.isub) 1 [] 37 _ [.int ((x3 - x7) - 1)] (by decide +kernel) rfl ?_
  refine dq_is 7 39 (by decide +kernel) (by decide +kernel) ?_
  have g24 := dg_ne (i := 7) (u := .int ((x3 - x7) - 1)) (by decide) (Or.inl (by decide)) g18
  have g25 := dg_ne (i := 7) (u := .int ((x3 - x7) - 1)) (by decide) (Or.inl (by decide)) g19
  have g26 := dg_ne (i := 7) (u := .int ((x3 - x7) - 1)) (by decide) (Or.inl (by decide)) g20
  have g27 := dg_ne (i := 7) (u := .int ((x3 - x7) - 1)) (by decide) (Or.inl (by decide)) g21
  have g28 := dg_ne (i := 7) (u := .int ((x3 - x7) - 1)) (by decide) (Or.inl (by decide)) g22
  have g29 := dg_ne (i := 7) (u := .int ((x3 - x7) - 1)) (by decide) (Or.inr rfl) g23
  have g30 := dg_eq (rm_set1 (rm_set1 (lv) 5 (.int (x3 - x7))) 6 (.int (16 * ((10 * i1) + x16)))) 7 (.int ((x3 - x7) - 1))
  exact c396_39 hD hz _ _ _ _ _ _ _ _ _ _ g24 g25 g26 g27 g29 g30 hh
def f396 (L : Nat) (xs : Nat → Int32) (zf : Value) (D : dD) (w : Nat) (As : List Value) (h : rm_H) : Option dR := match As with
  | [v0, .int i1, .int i2, .long j3] => (rm_rf v0).bind fun o0 => b396_0 L xs zf D w o0 i1 i2 j3 h
  | _ => none
theorem d396 {L : Nat} {xs : Nat → Int32} {zf : Value} {D : dD} {w k : Nat} (hD : dO L xs zf D k) (hz : zf.category = 1) (As : List Value) (h : rm_H) (r : dR) (hh : f396 L xs zf D w As h = some r) : dq L xs zf ah_M396 0 (lv_args 0 As) [] h (k + 1) r := by
  unfold f396 at hh
  split at hh
  · obtain ⟨o0, e0, hb0⟩ := db hh
    have e0 := rm_rf_v _ _ e0
    subst e0
    refine c396_0 hD hz _ _ _ _ _ _ _ ?_ ?_ ?_ ?_ hb0
    all_goals (simp only [la_r, la_i, la_j]; rfl)
  · cases hh
def b397_0 (L : Nat) (xs : Nat → Int32) (zf : Value) (D : dD) (w : Nat) (o0 : Option Nat) (i1 : Int32) (i2 : Int32) (i3 : Int32) (h : rm_H) : Option dR :=
  (dgR L xs h 20 [15] o0).bind fun p1 =>
  (daI L xs h p1 i3).bind fun x3 =>
  (dgR L xs h 36 [15] o0).bind fun p10 =>
  (daI L xs h p10 x3).bind fun x12 =>
  (dgR L xs h 37 [15] o0).bind fun p20 =>
  (daB L xs h p20 x3).bind fun x22 =>
  if mx_f1 .eq x22 = true then
    (dgR L xs h 91 [15] o0).bind fun p25 =>
    (daI L xs h p25 i1).bind fun x27 =>
    if mx_f2 .ne x27 10 = true then
      (dgI L xs h 77 [15] o0).bind fun x30 =>
      ((dcV L xs D 373 [15] o0 [.int x3] h).bind dxI).bind fun x32 =>
      (dgI L xs x32.2 78 [15] o0).bind fun x36 =>
      if mx_f2 .le ((x30 + x32.1) + 1) x36 = true then
        (dgR L xs x32.2 98 [15] o0).bind fun p39 =>
        ((dcV L xs D 393 [15] o0 [.int i3] x32.2).bind dxI).bind fun x41 =>
        (dsI x41.2 p39 i2 x41.1).bind fun h45 =>
        ((dcV L xs D 398 [15] o0 [.int i1, .int x3] h45).bind dxI).bind fun x47 =>
        ((D 376 [.int 2, .int x47.1] x47.2).bind dxJ).bind fun y51 =>
        ((dcV L xs D 396 [15] o0 [.int i1, .int x12, .long y51.1] y51.2).bind dxV).bind fun h55 =>
        drI (some .int) 0 h55
      else
        drI (some .int) 2 x32.2
    else
      drI (some .int) 3 h
  else
    (dgI L xs h 75 [15] o0).bind fun x59 =>
    if mx_f2 .ne x59 12 = true then
      (dgI L xs h 77 [15] o0).bind fun x62 =>
      ((dcV L xs D 373 [15] o0 [.int x3] h).bind dxI).bind fun x64 =>
      (dgI L xs x64.2 78 [15] o0).bind fun x68 =>
      if mx_f2 .le ((x62 + x64.1) + 1) x68 = true then
        (dgR L xs x64.2 92 [15] o0).bind fun p71 =>
        (daI L xs x64.2 p71 i1).bind fun x73 =>
        (dgR L xs x64.2 19 [15] o0).bind fun p75 =>
        (daI L xs x64.2 p75 i3).bind fun x77 =>
        (dsI x64.2 p71 i1 (x73 - x77)).bind fun h79 =>
        ((dcV L xs D 374 [15] o0 [.int x3] h79).bind dxI).bind fun x81 =>
        (dgR L xs x81.2 92 [15] o0).bind fun p92 =>
        (daI L xs x81.2 p92 i1).bind fun x94 =>
        ((dcV L xs D 377 [15] o0 [.int x81.1, .int x12, .int i1, .int x94] x81.2).bind dxV).bind fun h96 =>
        ((D 376 [.int 3, .int x81.1] h96).bind dxJ).bind fun y100 =>
        ((dcV L xs D 389 [15] o0 [.int i1, .long y100.1] y100.2).bind dxV).bind fun h104 =>
        (dgR L xs h104 98 [15] o0).bind fun p108 =>
        ((dcV L xs D 393 [15] o0 [.int i3] h104).bind dxI).bind fun x110 =>
        (dsI x110.2 p108 i2 x110.1).bind fun h114 =>
        drI (some .int) 0 h114
      else
        drI (some .int) 2 x64.2
    else
      drI (some .int) 4 h
theorem c397_0 {L : Nat} {xs : Nat → Int32} {zf : Value} {D : dD} {w k : Nat} (hD : dO L xs zf D k) (hz : zf.category = 1) : ∀ (o0 : Option Nat) (i1 : Int32) (i2 : Int32) (i3 : Int32) (lv : rm_L) (h : rm_H) (r : dR), rm_get lv 0 = some (va_rf o0) → rm_get lv 1 = some (.int i1) → rm_get lv 2 = some (.int i2) → rm_get lv 3 = some (.int i3) → b397_0 L xs zf D w  o0 i1 i2 i3 h = some r → dq L xs zf ah_M397 0 lv [] h (k + 1) r := by
  intro o0 i1 i2 i3 lv h r G0 G1 G2 G3 hh
  unfold b397_0 at hh
  refine dq_aln 0 1 (by decide +kernel) rfl G0 ?_
  obtain ⟨p1, q2, hh⟩ := db hh
  refine dq_gR 63 20 [15] 4 (by decide +kernel) rfl q2 ?_
  refine dq_iln 3 5 (by decide +kernel) rfl G3 ?_
  obtain ⟨x3, q4, hh⟩ := db hh
  refine dq_aI 6 (by decide +kernel) rfl q4 ?_
  refine dq_is 4 8 (by decide +kernel) (by decide +kernel) ?_
  have g5 := dg_ne (i := 4) (u := .int x3) (by decide) (Or.inl (by decide)) G0
  have g6 := dg_ne (i := 4) (u := .int x3) (by decide) (Or.inl (by decide)) G1
  have g7 := dg_ne (i := 4) (u := .int x3) (by decide) (Or.inl (by decide)) G2
  have g8 := dg_ne (i := 4) (u := .int x3) (by decide) (Or.inr rfl) G3
  have g9 := dg_eq (lv) 4 (.int x3)
  refine dq_aln 0 9 (by decide +kernel) rfl g5 ?_
  obtain ⟨p10, q11, hh⟩ := db hh
  refine dq_gR 99 36 [15] 12 (by decide +kernel) rfl q11 ?_
  refine dq_il 4 14 (by decide +kernel) rfl g9 ?_
  obtain ⟨x12, q13, hh⟩ := db hh
  refine dq_aI 15 (by decide +kernel) rfl q13 ?_
  refine dq_is 5 17 (by decide +kernel) (by decide +kernel) ?_
  have g14 := dg_ne (i := 5) (u := .int x12) (by decide) (Or.inl (by decide)) g5
  have g15 := dg_ne (i := 5) (u := .int x12) (by decide) (Or.inl (by decide)) g6
  have g16 := dg_ne (i := 5) (u := .int x12) (by decide) (Or.inl (by decide)) g7
  have g17 := dg_ne (i := 5) (u := .int x12) (by decide) (Or.inl (by decide)) g8
  have g18 := dg_ne (i := 5) (u := .int x12) (by decide) (Or.inr rfl) g9
  have g19 := dg_eq (rm_set1 (lv) 4 (.int x3)) 5 (.int x12)
  refine dq_aln 0 18 (by decide +kernel) rfl g14 ?_
  obtain ⟨p20, q21, hh⟩ := db hh
  refine dq_gR 102 37 [15] 21 (by decide +kernel) rfl q21 ?_
  refine dq_il 4 23 (by decide +kernel) rfl g18 ?_
  obtain ⟨x22, q23, hh⟩ := db hh
  refine dq_aB 24 (by decide +kernel) rfl q23 ?_
  rcases di hh with ⟨q24, hh⟩ | ⟨q24, hh⟩
  · refine dq_1 .eq 98 true 122 q24 (by decide +kernel) ?_
    refine dq_aln 0 123 (by decide +kernel) rfl g14 ?_
    obtain ⟨p25, q26, hh⟩ := db hh
    refine dq_gR 184 91 [15] 126 (by decide +kernel) rfl q26 ?_
    refine dq_iln 1 127 (by decide +kernel) rfl g15 ?_
    obtain ⟨x27, q28, hh⟩ := db hh
    refine dq_aI 128 (by decide +kernel) rfl q28 ?_
    refine dq_S (.bipush 10) 2 [] 130 _ [.int 10, .int x27] (by decide +kernel) rfl ?_
    rcases di hh with ⟨q29, hh⟩ | ⟨q29, hh⟩
    · refine dq_2 .ne 5 true 135 q29 (by decide +kernel) ?_
      refine dq_aln 0 136 (by decide +kernel) rfl g14 ?_
      obtain ⟨x30, q31, hh⟩ := db hh
      refine dq_gI 602 77 [15] 139 (by decide +kernel) rfl q31 ?_
      refine dq_aln 0 140 (by decide +kernel) rfl g14 ?_
      refine dq_il 4 142 (by decide +kernel) rfl g18 ?_
      obtain ⟨x32, q33, hh⟩ := db hh
      obtain ⟨a34, q35, q33⟩ := db q33
      rw [dq_xI q33] at q35
      refine dq_cvi hD 605 373 5 1 [15] o0 [.int x3] [.int x30] 145 [.int x32.1, .int x30] (by decide +kernel) ap_373 ⟨⟨Nat.le_of_ble_eq_true rfl, by decide⟩, rfl, rfl⟩ (dq_ok8 [1, 1] [1] (dc_r (dc_i dc_n)) (dc_i dc_n) (by decide +kernel)) (by decide +kernel) rfl q35 rfl ?_
      refine dq_S (.iadd) 1 [] 146 _ [.int (x30 + x32.1)] (by decide +kernel) rfl ?_
      refine dq_S (.iconst 1) 1 [] 147 _ [.int 1, .int (x30 + x32.1)] (by decide +kernel) rfl ?_
      refine dq_S (.iadd) 1 [] 148 _ [.int ((x30 + x32.1) + 1)] (by decide +kernel) rfl ?_
      refine dq_aln 0 149 (by decide +kernel) rfl g14 ?_
      obtain ⟨x36, q37, hh⟩ := db hh
      refine dq_gI 690 78 [15] 152 (by decide +kernel) rfl q37 ?_
      rcases di hh with ⟨q38, hh⟩ | ⟨q38, hh⟩
      · refine dq_2 .le 5 true 157 q38 (by decide +kernel) ?_
        refine dq_aln 0 158 (by decide +kernel) rfl g14 ?_
        obtain ⟨p39, q40, hh⟩ := db hh
        refine dq_gR 206 98 [15] 161 (by decide +kernel) rfl q40 ?_
        refine dq_iln 2 162 (by decide +kernel) rfl g16 ?_
        refine dq_aln 0 163 (by decide +kernel) rfl g14 ?_
        refine dq_iln 3 164 (by decide +kernel) rfl g17 ?_
        obtain ⟨x41, q42, hh⟩ := db hh
        obtain ⟨a43, q44, q42⟩ := db q42
        rw [dq_xI q42] at q44
        refine dq_cvi hD 644 393 5 1 [15] o0 [.int i3] [.int i2, va_rf p39] 167 [.int x41.1, .int i2, va_rf p39] (by decide +kernel) ap_393 ⟨⟨Nat.le_of_ble_eq_true rfl, by decide⟩, rfl, rfl⟩ (dq_ok8 [1, 1] [1, 1] (dc_r (dc_i dc_n)) (dc_i (dc_r dc_n)) (by decide +kernel)) (by decide +kernel) rfl q44 rfl ?_
        obtain ⟨h45, q46, hh⟩ := db hh
        refine dq_sI 168 (by decide +kernel) rfl q46 ?_
        refine dq_aln 0 169 (by decide +kernel) rfl g14 ?_
        refine dq_iln 1 170 (by decide +kernel) rfl g15 ?_
        refine dq_il 5 172 (by decide +kernel) rfl g19 ?_
        refine dq_S (.iconst 2) 1 [] 173 _ [.int 2, .int x12, .int i1, va_rf o0] (by decide +kernel) rfl ?_
        refine dq_aln 0 174 (by decide +kernel) rfl g14 ?_
        refine dq_iln 1 175 (by decide +kernel) rfl g15 ?_
        refine dq_il 4 177 (by decide +kernel) rfl g18 ?_
        obtain ⟨x47, q48, hh⟩ := db hh
        obtain ⟨a49, q50, q48⟩ := db q48
        rw [dq_xI q48] at q50
        refine dq_cvi hD 700 398 5 2 [15] o0 [.int i1, .int x3] [.int 2, .int x12, .int i1, va_rf o0] 180 [.int x47.1, .int 2, .int x12, .int i1, va_rf o0] (by decide +kernel) ap_398 ⟨⟨Nat.le_of_ble_eq_true rfl, by decide⟩, rfl, rfl⟩ (dq_ok8 [1, 1, 1] [1, 1, 1, 1] (dc_r (dc_i (dc_i dc_n))) (dc_i (dc_i (dc_i (dc_r dc_n)))) (by decide +kernel)) (by decide +kernel) rfl q50 rfl ?_
        obtain ⟨y51, q52, hh⟩ := db hh
        obtain ⟨a53, q54, q52⟩ := db q52
        rw [dq_xJ q52] at q54
        refine dq_cst hD 595 376 0 2 [.int 2, .int x47.1] [.int x12, .int i1, va_rf o0] 183 [.long y51.1, .int x12, .int i1, va_rf o0] (by decide +kernel) ap_376 ⟨⟨Nat.le_of_ble_eq_true rfl, by decide⟩, rfl, rfl⟩ (dq_ok8 [1, 1] [1, 1, 1] (dc_i (dc_i dc_n)) (dc_i (dc_i (dc_r dc_n))) (by decide +kernel)) (by decide +kernel) rfl q54 rfl ?_
        obtain ⟨h55, q56, hh⟩ := db hh
        obtain ⟨a57, q58, q56⟩ := db q56
        rw [dq_xV q56] at q58
        refine dq_cvi hD 687 396 5 3 [15] o0 [.int i1, .int x12, .long y51.1] [] 186 [] (by decide +kernel) ap_396 ⟨⟨Nat.le_of_ble_eq_true rfl, by decide⟩, rfl, rfl⟩ (dq_ok8 [1, 1, 1, 2] [] (dc_r (dc_i (dc_i (dc_j dc_n)))) dc_n (by decide +kernel)) (by decide +kernel) rfl q58 rfl ?_
        refine dq_S (.iconst 0) 1 [] 187 _ [.int 0] (by decide +kernel) rfl ?_
        exact dq_retI (some .int) (by decide +kernel) rfl hh
      · refine dq_2 .le 5 false 155 q38 (by decide +kernel) ?_
        refine dq_S (.iconst 2) 1 [] 156 _ [.int 2] (by decide +kernel) rfl ?_
        exact dq_retI (some .int) (by decide +kernel) rfl hh
    · refine dq_2 .ne 5 false 133 q29 (by decide +kernel) ?_
      refine dq_S (.iconst 3) 1 [] 134 _ [.int 3] (by decide +kernel) rfl ?_
      exact dq_retI (some .int) (by decide +kernel) rfl hh
  · refine dq_1 .eq 98 false 27 q24 (by decide +kernel) ?_
    refine dq_aln 0 28 (by decide +kernel) rfl g14 ?_
    obtain ⟨x59, q60, hh⟩ := db hh
    refine dq_gI 599 75 [15] 31 (by decide +kernel) rfl q60 ?_
    refine dq_S (.bipush 12) 2 [] 33 _ [.int 12, .int x59] (by decide +kernel) rfl ?_
    rcases di hh with ⟨q61, hh⟩ | ⟨q61, hh⟩
    · refine dq_2 .ne 5 true 38 q61 (by decide +kernel) ?_
      refine dq_aln 0 39 (by decide +kernel) rfl g14 ?_
      obtain ⟨x62, q63, hh⟩ := db hh
      refine dq_gI 602 77 [15] 42 (by decide +kernel) rfl q63 ?_
      refine dq_aln 0 43 (by decide +kernel) rfl g14 ?_
      refine dq_il 4 45 (by decide +kernel) rfl g18 ?_
      obtain ⟨x64, q65, hh⟩ := db hh
      obtain ⟨a66, q67, q65⟩ := db q65
      rw [dq_xI q65] at q67
      refine dq_cvi hD 605 373 5 1 [15] o0 [.int x3] [.int x62] 48 [.int x64.1, .int x62] (by decide +kernel) ap_373 ⟨⟨Nat.le_of_ble_eq_true rfl, by decide⟩, rfl, rfl⟩ (dq_ok8 [1, 1] [1] (dc_r (dc_i dc_n)) (dc_i dc_n) (by decide +kernel)) (by decide +kernel) rfl q67 rfl ?_
      refine dq_S (.iadd) 1 [] 49 _ [.int (x62 + x64.1)] (by decide +kernel) rfl ?_
      refine dq_S (.iconst 1) 1 [] 50 _ [.int 1, .int (x62 + x64.1)] (by decide +kernel) rfl ?_
      refine dq_S (.iadd) 1 [] 51 _ [.int ((x62 + x64.1) + 1)] (by decide +kernel) rfl ?_
      refine dq_aln 0 52 (by decide +kernel) rfl g14 ?_
      obtain ⟨x68, q69, hh⟩ := db hh
      refine dq_gI 690 78 [15] 55 (by decide +kernel) rfl q69 ?_
      rcases di hh with ⟨q70, hh⟩ | ⟨q70, hh⟩
      · refine dq_2 .le 5 true 60 q70 (by decide +kernel) ?_
        refine dq_aln 0 61 (by decide +kernel) rfl g14 ?_
        obtain ⟨p71, q72, hh⟩ := db hh
        refine dq_gR 187 92 [15] 64 (by decide +kernel) rfl q72 ?_
        refine dq_iln 1 65 (by decide +kernel) rfl g15 ?_
        refine dq_d2 66 (by decide +kernel) rfl ?_
        obtain ⟨x73, q74, hh⟩ := db hh
        refine dq_aI 67 (by decide +kernel) rfl q74 ?_
        refine dq_aln 0 68 (by decide +kernel) rfl g14 ?_
        obtain ⟨p75, q76, hh⟩ := db hh
        refine dq_gR 60 19 [15] 71 (by decide +kernel) rfl q76 ?_
        refine dq_iln 3 72 (by decide +kernel) rfl g17 ?_
        obtain ⟨x77, q78, hh⟩ := db hh
        refine dq_aI 73 (by decide +kernel) rfl q78 ?_
        refine dq_S (.isub) 1 [] 74 _ [.int (x73 - x77), .int i1, va_rf p71] (by decide +kernel) rfl ?_
        obtain ⟨h79, q80, hh⟩ := db hh
        refine dq_sI 75 (by decide +kernel) rfl q80 ?_
        refine dq_aln 0 76 (by decide +kernel) rfl g14 ?_
        refine dq_il 4 78 (by decide +kernel) rfl g18 ?_
        obtain ⟨x81, q82, hh⟩ := db hh
        obtain ⟨a83, q84, q82⟩ := db q82
        rw [dq_xI q82] at q84
        refine dq_cvi hD 693 374 5 1 [15] o0 [.int x3] [] 81 [.int x81.1] (by decide +kernel) ap_374 ⟨⟨Nat.le_of_ble_eq_true rfl, by decide⟩, rfl, rfl⟩ (dq_ok8 [1, 1] [] (dc_r (dc_i dc_n)) dc_n (by decide +kernel)) (by decide +kernel) rfl q84 rfl ?_
        refine dq_is 6 83 (by decide +kernel) (by decide +kernel) ?_
        have g85 := dg_ne (i := 6) (u := .int x81.1) (by decide) (Or.inl (by decide)) g14
        have g86 := dg_ne (i := 6) (u := .int x81.1) (by decide) (Or.inl (by decide)) g15
        have g87 := dg_ne (i := 6) (u := .int x81.1) (by decide) (Or.inl (by decide)) g16
        have g88 := dg_ne (i := 6) (u := .int x81.1) (by decide) (Or.inl (by decide)) g17
        have g89 := dg_ne (i := 6) (u := .int x81.1) (by decide) (Or.inl (by decide)) g18
        have g90 := dg_ne (i := 6) (u := .int x81.1) (by decide) (Or.inr rfl) g19
        have g91 := dg_eq (rm_set1 (rm_set1 (lv) 4 (.int x3)) 5 (.int x12)) 6 (.int x81.1)
        refine dq_aln 0 84 (by decide +kernel) rfl g85 ?_
        refine dq_il 6 86 (by decide +kernel) rfl g91 ?_
        refine dq_il 5 88 (by decide +kernel) rfl g90 ?_
        refine dq_iln 1 89 (by decide +kernel) rfl g86 ?_
        refine dq_aln 0 90 (by decide +kernel) rfl g85 ?_
        obtain ⟨p92, q93, hh⟩ := db hh
        refine dq_gR 187 92 [15] 93 (by decide +kernel) rfl q93 ?_
        refine dq_iln 1 94 (by decide +kernel) rfl g86 ?_
        obtain ⟨x94, q95, hh⟩ := db hh
        refine dq_aI 95 (by decide +kernel) rfl q95 ?_
        obtain ⟨h96, q97, hh⟩ := db hh
        obtain ⟨a98, q99, q97⟩ := db q97
        rw [dq_xV q97] at q99
        refine dq_cvi hD 696 377 5 4 [15] o0 [.int x81.1, .int x12, .int i1, .int x94] [] 98 [] (by decide +kernel) ap_377 ⟨⟨Nat.le_of_ble_eq_true rfl, by decide⟩, rfl, rfl⟩ (dq_ok8 [1, 1, 1, 1, 1] [] (dc_r (dc_i (dc_i (dc_i (dc_i dc_n))))) dc_n (by decide +kernel)) (by decide +kernel) rfl q99 rfl ?_
        refine dq_aln 0 99 (by decide +kernel) rfl g85 ?_
        refine dq_iln 1 100 (by decide +kernel) rfl g86 ?_
        refine dq_S (.iconst 3) 1 [] 101 _ [.int 3, .int i1, va_rf o0] (by decide +kernel) rfl ?_
        refine dq_il 6 103 (by decide +kernel) rfl g91 ?_
        obtain ⟨y100, q101, hh⟩ := db hh
        obtain ⟨a102, q103, q101⟩ := db q101
        rw [dq_xJ q101] at q103
        refine dq_cst hD 595 376 0 2 [.int 3, .int x81.1] [.int i1, va_rf o0] 106 [.long y100.1, .int i1, va_rf o0] (by decide +kernel) ap_376 ⟨⟨Nat.le_of_ble_eq_true rfl, by decide⟩, rfl, rfl⟩ (dq_ok8 [1, 1] [1, 1] (dc_i (dc_i dc_n)) (dc_i (dc_r dc_n)) (by decide +kernel)) (by decide +kernel) rfl q103 rfl ?_
        obtain ⟨h104, q105, hh⟩ := db hh
        obtain ⟨a106, q107, q105⟩ := db q105
        rw [dq_xV q105] at q107
        refine dq_cvi hD 659 389 5 2 [15] o0 [.int i1, .long y100.1] [] 109 [] (by decide +kernel) ap_389 ⟨⟨Nat.le_of_ble_eq_true rfl, by decide⟩, rfl, rfl⟩ (dq_ok8 [1, 1, 2] [] (dc_r (dc_i (dc_j dc_n))) dc_n (by decide +kernel)) (by decide +kernel) rfl q107 rfl ?_
        refine dq_aln 0 110 (by decide +kernel) rfl g85 ?_
        obtain ⟨p108, q109, hh⟩ := db hh
        refine dq_gR 206 98 [15] 113 (by decide +kernel) rfl q109 ?_
        refine dq_iln 2 114 (by decide +kernel) rfl g87 ?_
        refine dq_aln 0 115 (by decide +kernel) rfl g85 ?_
        refine dq_iln 3 116 (by decide +kernel) rfl g88 ?_
        obtain ⟨x110, q111, hh⟩ := db hh
        obtain ⟨a112, q113, q111⟩ := db q111
        rw [dq_xI q111] at q113
        refine dq_cvi hD 644 393 5 1 [15] o0 [.int i3] [.int i2, va_rf p108] 119 [.int x110.1, .int i2, va_rf p108] (by decide +kernel) ap_393 ⟨⟨Nat.le_of_ble_eq_true rfl, by decide⟩, rfl, rfl⟩ (dq_ok8 [1, 1] [1, 1] (dc_r (dc_i dc_n)) (dc_i (dc_r dc_n)) (by decide +kernel)) (by decide +kernel) rfl q113 rfl ?_
        obtain ⟨h114, q115, hh⟩ := db hh
        refine dq_sI 120 (by decide +kernel) rfl q115 ?_
        refine dq_S (.iconst 0) 1 [] 121 _ [.int 0] (by decide +kernel) rfl ?_
        exact dq_retI (some .int) (by decide +kernel) rfl hh
      · refine dq_2 .le 5 false 58 q70 (by decide +kernel) ?_
        refine dq_S (.iconst 2) 1 [] 59 _ [.int 2] (by decide +kernel) rfl ?_
        exact dq_retI (some .int) (by decide +kernel) rfl hh
    · refine dq_2 .ne 5 false 36 q61 (by decide +kernel) ?_
      refine dq_S (.iconst 4) 1 [] 37 _ [.int 4] (by decide +kernel) rfl ?_
      exact dq_retI (some .int) (by decide +kernel) rfl hh
def f397 (L : Nat) (xs : Nat → Int32) (zf : Value) (D : dD) (w : Nat) (As : List Value) (h : rm_H) : Option dR := match As with
  | [v0, .int i1, .int i2, .int i3] => (rm_rf v0).bind fun o0 => b397_0 L xs zf D w o0 i1 i2 i3 h
  | _ => none
theorem d397 {L : Nat} {xs : Nat → Int32} {zf : Value} {D : dD} {w k : Nat} (hD : dO L xs zf D k) (hz : zf.category = 1) (As : List Value) (h : rm_H) (r : dR) (hh : f397 L xs zf D w As h = some r) : dq L xs zf ah_M397 0 (lv_args 0 As) [] h (k + 1) r := by
  unfold f397 at hh
  split at hh
  · obtain ⟨o0, e0, hb0⟩ := db hh
    have e0 := rm_rf_v _ _ e0
    subst e0
    refine c397_0 hD hz _ _ _ _ _ _ _ ?_ ?_ ?_ ?_ hb0
    all_goals (simp only [la_r, la_i, la_j]; rfl)
  · cases hh
def b398_51 (L : Nat) (xs : Nat → Int32) (zf : Value) (D : dD) (w : Nat) : Nat → Option Nat → Int32 → Int32 → Int32 → rm_H → Option dR
  | 0, _, _, _, _, _ => none
  | n + 1, o0, i1, i2, i3, h =>
    ((dcV L xs D 373 [15] o0 [.int i2] h).bind dxI).bind fun x1 =>
    if mx_f2 .ge i3 x1.1 = true then
      (dgI L xs x1.2 87 [15] o0).bind fun x6 =>
      ((dcV L xs D 373 [15] o0 [.int i2] x1.2).bind dxI).bind fun x8 =>
      (dpF x8.2 87 [15] o0 (.int (x6 + x8.1))).bind fun h12 =>
      (dgI L xs h12 76 [15] o0).bind fun x14 =>
      drI (some .int) x14 h12
    else
      (dgR L xs x1.2 95 [15] o0).bind fun p16 =>
      (dgI L xs x1.2 87 [15] o0).bind fun x18 =>
      (dgR L xs x1.2 30 [15] o0).bind fun p20 =>
      (dgR L xs x1.2 41 [15] o0).bind fun p22 =>
      (dgR L xs x1.2 35 [15] o0).bind fun p24 =>
      (daI L xs x1.2 p24 i2).bind fun x26 =>
      (daI L xs x1.2 p22 (x26 + i3)).bind fun x28 =>
      (daI L xs x1.2 p20 x28).bind fun x30 =>
      ((D 375 [.int x30] x1.2).bind dxJ).bind fun y32 =>
      (dsJ y32.2 p16 (((400 * i1) + x18) + i3) y32.1).bind fun h36 =>
      b398_51 L xs zf D w n o0 i1 i2 (i3 + 1) h36
theorem c398_51 {L : Nat} {xs : Nat → Int32} {zf : Value} {D : dD} {w k : Nat} (hD : dO L xs zf D k) (hz : zf.category = 1) : ∀ (n : Nat) (o0 : Option Nat) (i1 : Int32) (i2 : Int32) (i3 : Int32) (lv : rm_L) (h : rm_H) (r : dR), rm_get lv 0 = some (va_rf o0) → rm_get lv 1 = some (.int i1) → rm_get lv 2 = some (.int i2) → rm_get lv 3 = some (.int i3) → b398_51 L xs zf D w n  o0 i1 i2 i3 h = some r → dq L xs zf ah_M398 51 lv [] h (k + 1) r := by
  intro n
  induction n with
  | zero =>
    intro o0 i1 i2 i3 lv h r G0 G1 G2 G3 hh
    cases hh
  | succ n ih =>
    intro o0 i1 i2 i3 lv h r G0 G1 G2 G3 hh
    rw [b398_51] at hh
    refine dq_iln 3 52 (by decide +kernel) rfl G3 ?_
    refine dq_aln 0 53 (by decide +kernel) rfl G0 ?_
    refine dq_iln 2 54 (by decide +kernel) rfl G2 ?_
    obtain ⟨x1, q2, hh⟩ := db hh
    obtain ⟨a3, q4, q2⟩ := db q2
    rw [dq_xI q2] at q4
    refine dq_cvi hD 605 373 5 1 [15] o0 [.int i2] [.int i3] 57 [.int x1.1, .int i3] (by decide +kernel) ap_373 ⟨⟨Nat.le_of_ble_eq_true rfl, by decide⟩, rfl, rfl⟩ (dq_ok8 [1, 1] [1] (dc_r (dc_i dc_n)) (dc_i dc_n) (by decide +kernel)) (by decide +kernel) rfl q4 rfl ?_
    rcases di hh with ⟨q5, hh⟩ | ⟨q5, hh⟩
    · refine dq_2 .ge 47 true 104 q5 (by decide +kernel) ?_
      refine dq_aln 0 105 (by decide +kernel) rfl G0 ?_
      refine dq_dup 106 (by decide +kernel) rfl ?_
      obtain ⟨x6, q7, hh⟩ := db hh
      refine dq_gI 615 87 [15] 109 (by decide +kernel) rfl q7 ?_
      refine dq_aln 0 110 (by decide +kernel) rfl G0 ?_
      refine dq_iln 2 111 (by decide +kernel) rfl G2 ?_
      obtain ⟨x8, q9, hh⟩ := db hh
      obtain ⟨a10, q11, q9⟩ := db q9
      rw [dq_xI q9] at q11
      refine dq_cvi hD 605 373 5 1 [15] o0 [.int i2] [.int x6, va_rf o0] 114 [.int x8.1, .int x6, va_rf o0] (by decide +kernel) ap_373 ⟨⟨Nat.le_of_ble_eq_true rfl, by decide⟩, rfl, rfl⟩ (dq_ok8 [1, 1] [1, 1] (dc_r (dc_i dc_n)) (dc_i (dc_r dc_n)) (by decide +kernel)) (by decide +kernel) rfl q11 rfl ?_
      refine dq_S (.iadd) 1 [] 115 _ [.int (x6 + x8.1), va_rf o0] (by decide +kernel) rfl ?_
      obtain ⟨h12, q13, hh⟩ := db hh
      refine dq_put 615 87 [15] 118 (by decide +kernel) rfl q13 ?_
      refine dq_aln 0 119 (by decide +kernel) rfl G0 ?_
      obtain ⟨x14, q15, hh⟩ := db hh
      refine dq_gI 612 76 [15] 122 (by decide +kernel) rfl q15 ?_
      exact dq_retI (some .int) (by decide +kernel) rfl hh
    · refine dq_2 .ge 47 false 60 q5 (by decide +kernel) ?_
      refine dq_aln 0 61 (by decide +kernel) rfl G0 ?_
      obtain ⟨p16, q17, hh⟩ := db hh
      refine dq_gR 196 95 [15] 64 (by decide +kernel) rfl q17 ?_
      refine dq_S (.sipush 400) 3 [] 67 _ [.int 400, va_rf p16] (by decide +kernel) rfl ?_
      refine dq_iln 1 68 (by decide +kernel) rfl G1 ?_
      refine dq_S (.imul) 1 [] 69 _ [.int (400 * i1), va_rf p16] (by decide +kernel) rfl ?_
      refine dq_aln 0 70 (by decide +kernel) rfl G0 ?_
      obtain ⟨x18, q19, hh⟩ := db hh
      refine dq_gI 615 87 [15] 73 (by decide +kernel) rfl q19 ?_
      refine dq_S (.iadd) 1 [] 74 _ [.int ((400 * i1) + x18), va_rf p16] (by decide +kernel) rfl ?_
      refine dq_iln 3 75 (by decide +kernel) rfl G3 ?_
      refine dq_S (.iadd) 1 [] 76 _ [.int (((400 * i1) + x18) + i3), va_rf p16] (by decide +kernel) rfl ?_
      refine dq_aln 0 77 (by decide +kernel) rfl G0 ?_
      obtain ⟨p20, q21, hh⟩ := db hh
      refine dq_gR 84 30 [15] 80 (by decide +kernel) rfl q21 ?_
      refine dq_aln 0 81 (by decide +kernel) rfl G0 ?_
      obtain ⟨p22, q23, hh⟩ := db hh
      refine dq_gR 112 41 [15] 84 (by decide +kernel) rfl q23 ?_
      refine dq_aln 0 85 (by decide +kernel) rfl G0 ?_
      obtain ⟨p24, q25, hh⟩ := db hh
      refine dq_gR 96 35 [15] 88 (by decide +kernel) rfl q25 ?_
      refine dq_iln 2 89 (by decide +kernel) rfl G2 ?_
      obtain ⟨x26, q27, hh⟩ := db hh
      refine dq_aI 90 (by decide +kernel) rfl q27 ?_
      refine dq_iln 3 91 (by decide +kernel) rfl G3 ?_
      refine dq_S (.iadd) 1 [] 92 _ [.int (x26 + i3), va_rf p22, va_rf p20, .int (((400 * i1) + x18) + i3), va_rf p16] (by decide +kernel) rfl ?_
      obtain ⟨x28, q29, hh⟩ := db hh
      refine dq_aI 93 (by decide +kernel) rfl q29 ?_
      obtain ⟨x30, q31, hh⟩ := db hh
      refine dq_aI 94 (by decide +kernel) rfl q31 ?_
      obtain ⟨y32, q33, hh⟩ := db hh
      obtain ⟨a34, q35, q33⟩ := db q33
      rw [dq_xJ q33] at q35
      refine dq_cst hD 608 375 0 1 [.int x30] [.int (((400 * i1) + x18) + i3), va_rf p16] 97 [.long y32.1, .int (((400 * i1) + x18) + i3), va_rf p16] (by decide +kernel) ap_375 ⟨⟨Nat.le_of_ble_eq_true rfl, by decide⟩, rfl, rfl⟩ (dq_ok8 [1] [1, 1] (dc_i dc_n) (dc_i (dc_r dc_n)) (by decide +kernel)) (by decide +kernel) rfl q35 rfl ?_
      obtain ⟨h36, q37, hh⟩ := db hh
      refine dq_sJ 98 (by decide +kernel) rfl q37 ?_
      refine dq_incy 3 1 1 101 (by decide +kernel) ⟨rfl, by decide +kernel, by decide +kernel⟩ G3 ?_
      have g38 := dg_ne (i := 3) (u := .int (i3 + 1)) (by decide) (Or.inl (by decide)) G0
      have g39 := dg_ne (i := 3) (u := .int (i3 + 1)) (by decide) (Or.inl (by decide)) G1
      have g40 := dg_ne (i := 3) (u := .int (i3 + 1)) (by decide) (Or.inr rfl) G2
      have g41 := dg_eq (lv) 3 (.int (i3 + 1))
      refine dq_S (.goto (-50)) 3 [] 51 _ [] (by decide +kernel) rfl ?_
      exact ih _ _ _ _ _ _ _ g38 g39 g40 g41 hh
def b398_0 (L : Nat) (xs : Nat → Int32) (zf : Value) (D : dD) (w : Nat) (o0 : Option Nat) (i1 : Int32) (i2 : Int32) (h : rm_H) : Option dR :=
  (dgI L xs h 76 [15] o0).bind fun x1 =>
  (dpF h 76 [15] o0 (.int (x1 + 1))).bind fun h3 =>
  (dgI L xs h3 77 [15] o0).bind fun x5 =>
  ((dcV L xs D 373 [15] o0 [.int i2] h3).bind dxI).bind fun x7 =>
  (dpF x7.2 77 [15] o0 (.int (x5 + (x7.1 + 1)))).bind fun h11 =>
  (dgR L xs h11 85 [15] o0).bind fun p13 =>
  (dgI L xs h11 76 [15] o0).bind fun x15 =>
  (dsI h11 p13 x15 i2).bind fun h17 =>
  (dgR L xs h17 86 [15] o0).bind fun p19 =>
  (dgI L xs h17 76 [15] o0).bind fun x21 =>
  (dgI L xs h17 87 [15] o0).bind fun x23 =>
  (dsI h17 p19 x21 x23).bind fun h25 =>
  b398_51 L xs zf D w w o0 i1 i2 0 h25
theorem c398_0 {L : Nat} {xs : Nat → Int32} {zf : Value} {D : dD} {w k : Nat} (hD : dO L xs zf D k) (hz : zf.category = 1) : ∀ (o0 : Option Nat) (i1 : Int32) (i2 : Int32) (lv : rm_L) (h : rm_H) (r : dR), rm_get lv 0 = some (va_rf o0) → rm_get lv 1 = some (.int i1) → rm_get lv 2 = some (.int i2) → b398_0 L xs zf D w  o0 i1 i2 h = some r → dq L xs zf ah_M398 0 lv [] h (k + 1) r := by
  intro o0 i1 i2 lv h r G0 G1 G2 hh
  unfold b398_0 at hh
  refine dq_aln 0 1 (by decide +kernel) rfl G0 ?_
  refine dq_dup 2 (by decide +kernel) rfl ?_
  obtain ⟨x1, q2, hh⟩ := db hh
  refine dq_gI 612 76 [15] 5 (by decide +kernel) rfl q2 ?_
  refine dq_S (.iconst 1) 1 [] 6 _ [.int 1, .int x1, va_rf o0] (by decide +kernel) rfl ?_
  refine dq_S (.iadd) 1 [] 7 _ [.int (x1 + 1), va_rf o0] (by decide +kernel) rfl ?_
  obtain ⟨h3, q4, hh⟩ := db hh
  refine dq_put 612 76 [15] 10 (by decide +kernel) rfl q4 ?_
  refine dq_aln 0 11 (by decide +kernel) rfl G0 ?_
  refine dq_dup 12 (by decide +kernel) rfl ?_
  obtain ⟨x5, q6, hh⟩ := db hh
  refine dq_gI 602 77 [15] 15 (by decide +kernel) rfl q6 ?_
  refine dq_aln 0 16 (by decide +kernel) rfl G0 ?_
  refine dq_iln 2 17 (by decide +kernel) rfl G2 ?_
  obtain ⟨x7, q8, hh⟩ := db hh
  obtain ⟨a9, q10, q8⟩ := db q8
  rw [dq_xI q8] at q10
  refine dq_cvi hD 605 373 5 1 [15] o0 [.int i2] [.int x5, va_rf o0] 20 [.int x7.1, .int x5, va_rf o0] (by decide +kernel) ap_373 ⟨⟨Nat.le_of_ble_eq_true rfl, by decide⟩, rfl, rfl⟩ (dq_ok8 [1, 1] [1, 1] (dc_r (dc_i dc_n)) (dc_i (dc_r dc_n)) (by decide +kernel)) (by decide +kernel) rfl q10 rfl ?_
  refine dq_S (.iconst 1) 1 [] 21 _ [.int 1, .int x7.1, .int x5, va_rf o0] (by decide +kernel) rfl ?_
  refine dq_S (.iadd) 1 [] 22 _ [.int (x7.1 + 1), .int x5, va_rf o0] (by decide +kernel) rfl ?_
  refine dq_S (.iadd) 1 [] 23 _ [.int (x5 + (x7.1 + 1)), va_rf o0] (by decide +kernel) rfl ?_
  obtain ⟨h11, q12, hh⟩ := db hh
  refine dq_put 602 77 [15] 26 (by decide +kernel) rfl q12 ?_
  refine dq_aln 0 27 (by decide +kernel) rfl G0 ?_
  obtain ⟨p13, q14, hh⟩ := db hh
  refine dq_gR 169 85 [15] 30 (by decide +kernel) rfl q14 ?_
  refine dq_aln 0 31 (by decide +kernel) rfl G0 ?_
  obtain ⟨x15, q16, hh⟩ := db hh
  refine dq_gI 612 76 [15] 34 (by decide +kernel) rfl q16 ?_
  refine dq_iln 2 35 (by decide +kernel) rfl G2 ?_
  obtain ⟨h17, q18, hh⟩ := db hh
  refine dq_sI 36 (by decide +kernel) rfl q18 ?_
  refine dq_aln 0 37 (by decide +kernel) rfl G0 ?_
  obtain ⟨p19, q20, hh⟩ := db hh
  refine dq_gR 172 86 [15] 40 (by decide +kernel) rfl q20 ?_
  refine dq_aln 0 41 (by decide +kernel) rfl G0 ?_
  obtain ⟨x21, q22, hh⟩ := db hh
  refine dq_gI 612 76 [15] 44 (by decide +kernel) rfl q22 ?_
  refine dq_aln 0 45 (by decide +kernel) rfl G0 ?_
  obtain ⟨x23, q24, hh⟩ := db hh
  refine dq_gI 615 87 [15] 48 (by decide +kernel) rfl q24 ?_
  obtain ⟨h25, q26, hh⟩ := db hh
  refine dq_sI 49 (by decide +kernel) rfl q26 ?_
  refine dq_S (.iconst 0) 1 [] 50 _ [.int 0] (by decide +kernel) rfl ?_
  refine dq_isn 3 51 (by decide +kernel) (by decide +kernel) ?_
  have g27 := dg_ne (i := 3) (u := .int 0) (by decide) (Or.inl (by decide)) G0
  have g28 := dg_ne (i := 3) (u := .int 0) (by decide) (Or.inl (by decide)) G1
  have g29 := dg_ne (i := 3) (u := .int 0) (by decide) (Or.inr rfl) G2
  have g30 := dg_eq (lv) 3 (.int 0)
  exact c398_51 hD hz _ _ _ _ _ _ _ _ g27 g28 g29 g30 hh
def f398 (L : Nat) (xs : Nat → Int32) (zf : Value) (D : dD) (w : Nat) (As : List Value) (h : rm_H) : Option dR := match As with
  | [v0, .int i1, .int i2] => (rm_rf v0).bind fun o0 => b398_0 L xs zf D w o0 i1 i2 h
  | _ => none
theorem d398 {L : Nat} {xs : Nat → Int32} {zf : Value} {D : dD} {w k : Nat} (hD : dO L xs zf D k) (hz : zf.category = 1) (As : List Value) (h : rm_H) (r : dR) (hh : f398 L xs zf D w As h = some r) : dq L xs zf ah_M398 0 (lv_args 0 As) [] h (k + 1) r := by
  unfold f398 at hh
  split at hh
  · obtain ⟨o0, e0, hb0⟩ := db hh
    have e0 := rm_rf_v _ _ e0
    subst e0
    refine c398_0 hD hz _ _ _ _ _ _ ?_ ?_ ?_ hb0
    all_goals (simp only [la_r, la_i, la_j]; rfl)
  · cases hh
def b399_0 (L : Nat) (xs : Nat → Int32) (zf : Value) (D : dD) (w : Nat) (o0 : Option Nat) (i1 : Int32) (i2 : Int32) (i3 : Int32) (h : rm_H) : Option dR :=
  (dgR L xs h 96 [15] o0).bind fun p1 =>
  (dgR L xs h 92 [15] o0).bind fun p3 =>
  (daI L xs h p3 i1).bind fun x5 =>
  (daJ L xs h p1 (((10100 * i1) + x5) - 1)).bind fun y7 =>
  if mx_f1 .ne (lg_cmp y7 0) = true then
    (dgR L xs h 93 [15] o0).bind fun p21 =>
    (daI L xs h p21 (Int64.toInt32 y7)).bind fun x23 =>
    (dgI L xs h 79 [15] o0).bind fun x25 =>
    if mx_f2 .ne x23 x25 = true then
      (dgR L xs h 92 [15] o0).bind fun p28 =>
      (daI L xs h p28 i1).bind fun x30 =>
      (dgR L xs h 19 [15] o0).bind fun p32 =>
      (daI L xs h p32 i3).bind fun x34 =>
      (dsI h p28 i1 (x30 - (1 + x34))).bind fun h36 =>
      (dgR L xs h36 20 [15] o0).bind fun p38 =>
      (daI L xs h36 p38 i3).bind fun x40 =>
      (dgR L xs h36 92 [15] o0).bind fun p42 =>
      (daI L xs h36 p42 i1).bind fun x44 =>
      ((dcV L xs D 377 [15] o0 [.int (Int64.toInt32 y7), .int x40, .int i1, .int x44] h36).bind dxV).bind fun h46 =>
      ((dcV L xs D 389 [15] o0 [.int i1, .long 0] h46).bind dxV).bind fun h50 =>
      (dgR L xs h50 98 [15] o0).bind fun p54 =>
      ((dcV L xs D 393 [15] o0 [.int i3] h50).bind dxI).bind fun x56 =>
      (dsI x56.2 p54 i2 x56.1).bind fun h60 =>
      drI (some .int) 0 h60
    else
      (dgI L xs h 83 [15] o0).bind fun x62 =>
      (dpF h 83 [15] o0 (.int (x62 + 1))).bind fun h64 =>
      drI (some .int) 0 h64
  else
    drI (some .int) 1 h
theorem c399_0 {L : Nat} {xs : Nat → Int32} {zf : Value} {D : dD} {w k : Nat} (hD : dO L xs zf D k) (hz : zf.category = 1) : ∀ (o0 : Option Nat) (i1 : Int32) (i2 : Int32) (i3 : Int32) (lv : rm_L) (h : rm_H) (r : dR), rm_get lv 0 = some (va_rf o0) → rm_get lv 1 = some (.int i1) → rm_get lv 2 = some (.int i2) → rm_get lv 3 = some (.int i3) → b399_0 L xs zf D w  o0 i1 i2 i3 h = some r → dq L xs zf ah_M399 0 lv [] h (k + 1) r := by
  intro o0 i1 i2 i3 lv h r G0 G1 G2 G3 hh
  unfold b399_0 at hh
  refine dq_aln 0 1 (by decide +kernel) rfl G0 ?_
  obtain ⟨p1, q2, hh⟩ := db hh
  refine dq_gR 200 96 [15] 4 (by decide +kernel) rfl q2 ?_
  refine dq_S (.sipush 10100) 3 [] 7 _ [.int 10100, va_rf p1] (by decide +kernel) rfl ?_
  refine dq_iln 1 8 (by decide +kernel) rfl G1 ?_
  refine dq_S (.imul) 1 [] 9 _ [.int (10100 * i1), va_rf p1] (by decide +kernel) rfl ?_
  refine dq_aln 0 10 (by decide +kernel) rfl G0 ?_
  obtain ⟨p3, q4, hh⟩ := db hh
  refine dq_gR 187 92 [15] 13 (by decide +kernel) rfl q4 ?_
  refine dq_iln 1 14 (by decide +kernel) rfl G1 ?_
  obtain ⟨x5, q6, hh⟩ := db hh
  refine dq_aI 15 (by decide +kernel) rfl q6 ?_
  refine dq_S (.iadd) 1 [] 16 _ [.int ((10100 * i1) + x5), va_rf p1] (by decide +kernel) rfl ?_
  refine dq_S (.iconst 1) 1 [] 17 _ [.int 1, .int ((10100 * i1) + x5), va_rf p1] (by decide +kernel) rfl ?_
  refine dq_S (.isub) 1 [] 18 _ [.int (((10100 * i1) + x5) - 1), va_rf p1] (by decide +kernel) rfl ?_
  obtain ⟨y7, q8, hh⟩ := db hh
  refine dq_aJ 19 (by decide +kernel) rfl q8 ?_
  refine dq_ls 4 21 (by decide +kernel) (by decide +kernel) ?_
  have g9 := dg_ne2 (i := 4) (u := .long y7) (by decide) (by decide) (Or.inl (by decide)) G0
  have g10 := dg_ne2 (i := 4) (u := .long y7) (by decide) (by decide) (Or.inl (by decide)) G1
  have g11 := dg_ne2 (i := 4) (u := .long y7) (by decide) (by decide) (Or.inl (by decide)) G2
  have g12 := dg_ne2 (i := 4) (u := .long y7) (by decide) (by decide) (Or.inr rfl) G3
  have g13 := dg_eq2 (lv) 4 (.long y7)
  refine dq_ll 4 23 (by decide +kernel) rfl g13 ?_
  refine dq_S (.lconst 0) 1 [] 24 _ [.long 0, .long y7] (by decide +kernel) rfl ?_
  refine dq_S (.lcmp) 1 [] 25 _ [.int (lg_cmp y7 0)] (by decide +kernel) rfl ?_
  rcases di hh with ⟨q14, hh⟩ | ⟨q14, hh⟩
  · refine dq_1 .ne 5 true 30 q14 (by decide +kernel) ?_
    refine dq_ll 4 32 (by decide +kernel) rfl g13 ?_
    refine dq_S (.l2i) 1 [] 33 _ [.int (Int64.toInt32 y7)] (by decide +kernel) rfl ?_
    refine dq_is 6 35 (by decide +kernel) (by decide +kernel) ?_
    have g15 := dg_ne (i := 6) (u := .int (Int64.toInt32 y7)) (by decide) (Or.inl (by decide)) g9
    have g16 := dg_ne (i := 6) (u := .int (Int64.toInt32 y7)) (by decide) (Or.inl (by decide)) g10
    have g17 := dg_ne (i := 6) (u := .int (Int64.toInt32 y7)) (by decide) (Or.inl (by decide)) g11
    have g18 := dg_ne (i := 6) (u := .int (Int64.toInt32 y7)) (by decide) (Or.inl (by decide)) g12
    have g19 := dg_ne (i := 6) (u := .int (Int64.toInt32 y7)) (by decide) (Or.inl (by decide)) g13
    have g20 := dg_eq (rm_set2 (lv) 4 (.long y7)) 6 (.int (Int64.toInt32 y7))
    refine dq_aln 0 36 (by decide +kernel) rfl g15 ?_
    obtain ⟨p21, q22, hh⟩ := db hh
    refine dq_gR 190 93 [15] 39 (by decide +kernel) rfl q22 ?_
    refine dq_il 6 41 (by decide +kernel) rfl g20 ?_
    obtain ⟨x23, q24, hh⟩ := db hh
    refine dq_aI 42 (by decide +kernel) rfl q24 ?_
    refine dq_aln 0 43 (by decide +kernel) rfl g15 ?_
    obtain ⟨x25, q26, hh⟩ := db hh
    refine dq_gI 703 79 [15] 46 (by decide +kernel) rfl q26 ?_
    rcases di hh with ⟨q27, hh⟩ | ⟨q27, hh⟩
    · refine dq_2 .ne 15 true 61 q27 (by decide +kernel) ?_
      refine dq_aln 0 62 (by decide +kernel) rfl g15 ?_
      obtain ⟨p28, q29, hh⟩ := db hh
      refine dq_gR 187 92 [15] 65 (by decide +kernel) rfl q29 ?_
      refine dq_iln 1 66 (by decide +kernel) rfl g16 ?_
      refine dq_d2 67 (by decide +kernel) rfl ?_
      obtain ⟨x30, q31, hh⟩ := db hh
      refine dq_aI 68 (by decide +kernel) rfl q31 ?_
      refine dq_S (.iconst 1) 1 [] 69 _ [.int 1, .int x30, .int i1, va_rf p28] (by decide +kernel) rfl ?_
      refine dq_aln 0 70 (by decide +kernel) rfl g15 ?_
      obtain ⟨p32, q33, hh⟩ := db hh
      refine dq_gR 60 19 [15] 73 (by decide +kernel) rfl q33 ?_
      refine dq_iln 3 74 (by decide +kernel) rfl g18 ?_
      obtain ⟨x34, q35, hh⟩ := db hh
      refine dq_aI 75 (by decide +kernel) rfl q35 ?_
      refine dq_S (.iadd) 1 [] 76 _ [.int (1 + x34), .int x30, .int i1, va_rf p28] (by decide +kernel) rfl ?_
      refine dq_S (.isub) 1 [] 77 _ [.int (x30 - (1 + x34)), .int i1, va_rf p28] (by decide +kernel) rfl ?_
      obtain ⟨h36, q37, hh⟩ := db hh
      refine dq_sI 78 (by decide +kernel) rfl q37 ?_
      refine dq_aln 0 79 (by decide +kernel) rfl g15 ?_
      refine dq_il 6 81 (by decide +kernel) rfl g20 ?_
      refine dq_aln 0 82 (by decide +kernel) rfl g15 ?_
      obtain ⟨p38, q39, hh⟩ := db hh
      refine dq_gR 63 20 [15] 85 (by decide +kernel) rfl q39 ?_
      refine dq_iln 3 86 (by decide +kernel) rfl g18 ?_
      obtain ⟨x40, q41, hh⟩ := db hh
      refine dq_aI 87 (by decide +kernel) rfl q41 ?_
      refine dq_iln 1 88 (by decide +kernel) rfl g16 ?_
      refine dq_aln 0 89 (by decide +kernel) rfl g15 ?_
      obtain ⟨p42, q43, hh⟩ := db hh
      refine dq_gR 187 92 [15] 92 (by decide +kernel) rfl q43 ?_
      refine dq_iln 1 93 (by decide +kernel) rfl g16 ?_
      obtain ⟨x44, q45, hh⟩ := db hh
      refine dq_aI 94 (by decide +kernel) rfl q45 ?_
      obtain ⟨h46, q47, hh⟩ := db hh
      obtain ⟨a48, q49, q47⟩ := db q47
      rw [dq_xV q47] at q49
      refine dq_cvi hD 696 377 5 4 [15] o0 [.int (Int64.toInt32 y7), .int x40, .int i1, .int x44] [] 97 [] (by decide +kernel) ap_377 ⟨⟨Nat.le_of_ble_eq_true rfl, by decide⟩, rfl, rfl⟩ (dq_ok8 [1, 1, 1, 1, 1] [] (dc_r (dc_i (dc_i (dc_i (dc_i dc_n))))) dc_n (by decide +kernel)) (by decide +kernel) rfl q49 rfl ?_
      refine dq_aln 0 98 (by decide +kernel) rfl g15 ?_
      refine dq_iln 1 99 (by decide +kernel) rfl g16 ?_
      refine dq_S (.lconst 0) 1 [] 100 _ [.long 0, .int i1, va_rf o0] (by decide +kernel) rfl ?_
      obtain ⟨h50, q51, hh⟩ := db hh
      obtain ⟨a52, q53, q51⟩ := db q51
      rw [dq_xV q51] at q53
      refine dq_cvi hD 659 389 5 2 [15] o0 [.int i1, .long 0] [] 103 [] (by decide +kernel) ap_389 ⟨⟨Nat.le_of_ble_eq_true rfl, by decide⟩, rfl, rfl⟩ (dq_ok8 [1, 1, 2] [] (dc_r (dc_i (dc_j dc_n))) dc_n (by decide +kernel)) (by decide +kernel) rfl q53 rfl ?_
      refine dq_aln 0 104 (by decide +kernel) rfl g15 ?_
      obtain ⟨p54, q55, hh⟩ := db hh
      refine dq_gR 206 98 [15] 107 (by decide +kernel) rfl q55 ?_
      refine dq_iln 2 108 (by decide +kernel) rfl g17 ?_
      refine dq_aln 0 109 (by decide +kernel) rfl g15 ?_
      refine dq_iln 3 110 (by decide +kernel) rfl g18 ?_
      obtain ⟨x56, q57, hh⟩ := db hh
      obtain ⟨a58, q59, q57⟩ := db q57
      rw [dq_xI q57] at q59
      refine dq_cvi hD 644 393 5 1 [15] o0 [.int i3] [.int i2, va_rf p54] 113 [.int x56.1, .int i2, va_rf p54] (by decide +kernel) ap_393 ⟨⟨Nat.le_of_ble_eq_true rfl, by decide⟩, rfl, rfl⟩ (dq_ok8 [1, 1] [1, 1] (dc_r (dc_i dc_n)) (dc_i (dc_r dc_n)) (by decide +kernel)) (by decide +kernel) rfl q59 rfl ?_
      obtain ⟨h60, q61, hh⟩ := db hh
      refine dq_sI 114 (by decide +kernel) rfl q61 ?_
      refine dq_S (.iconst 0) 1 [] 115 _ [.int 0] (by decide +kernel) rfl ?_
      exact dq_retI (some .int) (by decide +kernel) rfl hh
    · refine dq_2 .ne 15 false 49 q27 (by decide +kernel) ?_
      refine dq_aln 0 50 (by decide +kernel) rfl g15 ?_
      refine dq_dup 51 (by decide +kernel) rfl ?_
      obtain ⟨x62, q63, hh⟩ := db hh
      refine dq_gI 706 83 [15] 54 (by decide +kernel) rfl q63 ?_
      refine dq_S (.iconst 1) 1 [] 55 _ [.int 1, .int x62, va_rf o0] (by decide +kernel) rfl ?_
      refine dq_S (.iadd) 1 [] 56 _ [.int (x62 + 1), va_rf o0] (by decide +kernel) rfl ?_
      obtain ⟨h64, q65, hh⟩ := db hh
      refine dq_put 706 83 [15] 59 (by decide +kernel) rfl q65 ?_
      refine dq_S (.iconst 0) 1 [] 60 _ [.int 0] (by decide +kernel) rfl ?_
      exact dq_retI (some .int) (by decide +kernel) rfl hh
  · refine dq_1 .ne 5 false 28 q14 (by decide +kernel) ?_
    refine dq_S (.iconst 1) 1 [] 29 _ [.int 1] (by decide +kernel) rfl ?_
    exact dq_retI (some .int) (by decide +kernel) rfl hh
def f399 (L : Nat) (xs : Nat → Int32) (zf : Value) (D : dD) (w : Nat) (As : List Value) (h : rm_H) : Option dR := match As with
  | [v0, .int i1, .int i2, .int i3] => (rm_rf v0).bind fun o0 => b399_0 L xs zf D w o0 i1 i2 i3 h
  | _ => none
theorem d399 {L : Nat} {xs : Nat → Int32} {zf : Value} {D : dD} {w k : Nat} (hD : dO L xs zf D k) (hz : zf.category = 1) (As : List Value) (h : rm_H) (r : dR) (hh : f399 L xs zf D w As h = some r) : dq L xs zf ah_M399 0 (lv_args 0 As) [] h (k + 1) r := by
  unfold f399 at hh
  split at hh
  · obtain ⟨o0, e0, hb0⟩ := db hh
    have e0 := rm_rf_v _ _ e0
    subst e0
    refine c399_0 hD hz _ _ _ _ _ _ _ ?_ ?_ ?_ ?_ hb0
    all_goals (simp only [la_r, la_i, la_j]; rfl)
  · cases hh
def b400_196 (L : Nat) (xs : Nat → Int32) (zf : Value) (D : dD) (w : Nat) (o0 : Option Nat) (i2 : Int32) (i3 : Int32) (h : rm_H) : Option dR :=
  (dgR L xs h 98 [15] o0).bind fun p1 =>
  ((dcV L xs D 393 [15] o0 [.int i3] h).bind dxI).bind fun x3 =>
  (dsI x3.2 p1 i2 x3.1).bind fun h7 =>
  drI (some .int) 0 h7
theorem c400_196 {L : Nat} {xs : Nat → Int32} {zf : Value} {D : dD} {w k : Nat} (hD : dO L xs zf D k) (hz : zf.category = 1) : ∀ (o0 : Option Nat) (i2 : Int32) (i3 : Int32) (lv : rm_L) (h : rm_H) (r : dR), rm_get lv 0 = some (va_rf o0) → rm_get lv 2 = some (.int i2) → rm_get lv 3 = some (.int i3) → b400_196 L xs zf D w  o0 i2 i3 h = some r → dq L xs zf ah_M400 196 lv [] h (k + 1) r := by
  intro o0 i2 i3 lv h r G0 G2 G3 hh
  unfold b400_196 at hh
  refine dq_aln 0 197 (by decide +kernel) rfl G0 ?_
  obtain ⟨p1, q2, hh⟩ := db hh
  refine dq_gR 206 98 [15] 200 (by decide +kernel) rfl q2 ?_
  refine dq_iln 2 201 (by decide +kernel) rfl G2 ?_
  refine dq_aln 0 202 (by decide +kernel) rfl G0 ?_
  refine dq_iln 3 203 (by decide +kernel) rfl G3 ?_
  obtain ⟨x3, q4, hh⟩ := db hh
  obtain ⟨a5, q6, q4⟩ := db q4
  rw [dq_xI q4] at q6
  refine dq_cvi hD 644 393 5 1 [15] o0 [.int i3] [.int i2, va_rf p1] 206 [.int x3.1, .int i2, va_rf p1] (by decide +kernel) ap_393 ⟨⟨Nat.le_of_ble_eq_true rfl, by decide⟩, rfl, rfl⟩ (dq_ok8 [1, 1] [1, 1] (dc_r (dc_i dc_n)) (dc_i (dc_r dc_n)) (by decide +kernel)) (by decide +kernel) rfl q6 rfl ?_
  obtain ⟨h7, q8, hh⟩ := db hh
  refine dq_sI 207 (by decide +kernel) rfl q8 ?_
  refine dq_S (.iconst 0) 1 [] 208 _ [.int 0] (by decide +kernel) rfl ?_
  exact dq_retI (some .int) (by decide +kernel) rfl hh
def b400_184 (L : Nat) (xs : Nat → Int32) (zf : Value) (D : dD) (w : Nat) (o0 : Option Nat) (i1 : Int32) (i2 : Int32) (i3 : Int32) (i5 : Int32) (j6 : Int64) (h : rm_H) : Option dR :=
  if mx_f1 .eq i5 = true then
    b400_196 L xs zf D w o0 i2 i3 h
  else
    ((dcV L xs D 389 [15] o0 [.int i1, .long j6] h).bind dxV).bind fun h2 =>
    b400_196 L xs zf D w o0 i2 i3 h2
theorem c400_184 {L : Nat} {xs : Nat → Int32} {zf : Value} {D : dD} {w k : Nat} (hD : dO L xs zf D k) (hz : zf.category = 1) : ∀ (o0 : Option Nat) (i1 : Int32) (i2 : Int32) (i3 : Int32) (i5 : Int32) (j6 : Int64) (lv : rm_L) (h : rm_H) (r : dR), rm_get lv 0 = some (va_rf o0) → rm_get lv 1 = some (.int i1) → rm_get lv 2 = some (.int i2) → rm_get lv 3 = some (.int i3) → rm_get lv 5 = some (.int i5) → rm_get lv 6 = some (.long j6) → b400_184 L xs zf D w  o0 i1 i2 i3 i5 j6 h = some r → dq L xs zf ah_M400 184 lv [] h (k + 1) r := by
  intro o0 i1 i2 i3 i5 j6 lv h r G0 G1 G2 G3 G5 G6 hh
  unfold b400_184 at hh
  refine dq_il 5 186 (by decide +kernel) rfl G5 ?_
  rcases di hh with ⟨q1, hh⟩ | ⟨q1, hh⟩
  · refine dq_1 .eq 10 true 196 q1 (by decide +kernel) ?_
    exact c400_196 hD hz _ _ _ _ _ _ G0 G2 G3 hh
  · refine dq_1 .eq 10 false 189 q1 (by decide +kernel) ?_
    refine dq_aln 0 190 (by decide +kernel) rfl G0 ?_
    refine dq_iln 1 191 (by decide +kernel) rfl G1 ?_
    refine dq_ll 6 193 (by decide +kernel) rfl G6 ?_
    obtain ⟨h2, q3, hh⟩ := db hh
    obtain ⟨a4, q5, q3⟩ := db q3
    rw [dq_xV q3] at q5
    refine dq_cvi hD 659 389 5 2 [15] o0 [.int i1, .long j6] [] 196 [] (by decide +kernel) ap_389 ⟨⟨Nat.le_of_ble_eq_true rfl, by decide⟩, rfl, rfl⟩ (dq_ok8 [1, 1, 2] [] (dc_r (dc_i (dc_j dc_n))) dc_n (by decide +kernel)) (by decide +kernel) rfl q5 rfl ?_
    exact c400_196 hD hz _ _ _ _ _ _ G0 G2 G3 hh
def b400_24 (L : Nat) (xs : Nat → Int32) (zf : Value) (D : dD) (w : Nat) (o0 : Option Nat) (i1 : Int32) (i2 : Int32) (i3 : Int32) (i4 : Int32) (s0 : Int32) (h : rm_H) : Option dR :=
  (dgR L xs h 11 [15] o0).bind fun p7 =>
  (daI L xs h p7 i4).bind fun x9 =>
  if mx_f2 .ne x9 4 = true then
    ((dcV L xs D 390 [15] o0 [.int i1] h).bind dxJ).bind fun y12 =>
    ((dcV L xs D 390 [15] o0 [.int i1] y12.2).bind dxJ).bind fun y23 =>
    if mx_f1 .ne (lg_cmp y12.1 0) = true then
      (dgR L xs y23.2 20 [15] o0).bind fun p36 =>
      (daI L xs y23.2 p36 i4).bind fun x38 =>
      ((dcV L xs D 391 [15] o0 [.int i1, .long y12.1, .int x38] y23.2).bind dxJ).bind fun y40 =>
      ((D 379 [.long y12.1] y40.2).bind dxI).bind fun x53 =>
      if mx_f2 .ne x53.1 3 = true then
        (dgR L xs x53.2 95 [15] o0).bind fun p58 =>
        (dgR L xs x53.2 86 [15] o0).bind fun p60 =>
        (daI L xs x53.2 p60 (Int64.toInt32 y12.1)).bind fun x62 =>
        (dgR L xs x53.2 20 [15] o0).bind fun p64 =>
        (daI L xs x53.2 p64 i4).bind fun x66 =>
        (dsJ x53.2 p58 (((400 * i1) + x62) + x66) y23.1).bind fun h68 =>
        b400_184 L xs zf D w o0 i1 i2 i3 s0 y40.1 h68
      else
        (dgR L xs x53.2 94 [15] o0).bind fun p70 =>
        (dgR L xs x53.2 20 [15] o0).bind fun p72 =>
        (daI L xs x53.2 p72 i4).bind fun x74 =>
        (dsJ x53.2 p70 ((8 * i1) + x74) y23.1).bind fun h76 =>
        b400_184 L xs zf D w o0 i1 i2 i3 s0 y40.1 h76
    else
      drI (some .int) 1 y23.2
  else
    ((dcV L xs D 390 [15] o0 [.int i1] h).bind dxJ).bind fun y78 =>
    (dgR L xs y78.2 100 [15] o0).bind fun p89 =>
    (dgR L xs y78.2 20 [15] o0).bind fun p91 =>
    (daI L xs y78.2 p91 i4).bind fun x93 =>
    (daJ L xs y78.2 p89 ((16 * i2) + x93)).bind fun y95 =>
    (dgR L xs y78.2 100 [15] o0).bind fun p105 =>
    (dgR L xs y78.2 20 [15] o0).bind fun p107 =>
    (daI L xs y78.2 p107 i4).bind fun x109 =>
    (dsJ y78.2 p105 ((16 * i2) + x109) y78.1).bind fun h111 =>
    b400_184 L xs zf D w o0 i1 i2 i3 s0 y95 h111
theorem c400_24 {L : Nat} {xs : Nat → Int32} {zf : Value} {D : dD} {w k : Nat} (hD : dO L xs zf D k) (hz : zf.category = 1) : ∀ (o0 : Option Nat) (i1 : Int32) (i2 : Int32) (i3 : Int32) (i4 : Int32) (s0 : Int32) (lv : rm_L) (h : rm_H) (r : dR), rm_get lv 0 = some (va_rf o0) → rm_get lv 1 = some (.int i1) → rm_get lv 2 = some (.int i2) → rm_get lv 3 = some (.int i3) → rm_get lv 4 = some (.int i4) → b400_24 L xs zf D w  o0 i1 i2 i3 i4 s0 h = some r → dq L xs zf ah_M400 24 lv [.int s0] h (k + 1) r := by
  intro o0 i1 i2 i3 i4 s0 lv h r G0 G1 G2 G3 G4 hh
  unfold b400_24 at hh
  refine dq_is 5 26 (by decide +kernel) (by decide +kernel) ?_
  have g1 := dg_ne (i := 5) (u := .int s0) (by decide) (Or.inl (by decide)) G0
  have g2 := dg_ne (i := 5) (u := .int s0) (by decide) (Or.inl (by decide)) G1
  have g3 := dg_ne (i := 5) (u := .int s0) (by decide) (Or.inl (by decide)) G2
  have g4 := dg_ne (i := 5) (u := .int s0) (by decide) (Or.inl (by decide)) G3
  have g5 := dg_ne (i := 5) (u := .int s0) (by decide) (Or.inr rfl) G4
  have g6 := dg_eq (lv) 5 (.int s0)
  refine dq_aln 0 27 (by decide +kernel) rfl g1 ?_
  obtain ⟨p7, q8, hh⟩ := db hh
  refine dq_gR 36 11 [15] 30 (by decide +kernel) rfl q8 ?_
  refine dq_il 4 32 (by decide +kernel) rfl g5 ?_
  obtain ⟨x9, q10, hh⟩ := db hh
  refine dq_aI 33 (by decide +kernel) rfl q10 ?_
  refine dq_S (.iconst 4) 1 [] 34 _ [.int 4, .int x9] (by decide +kernel) rfl ?_
  rcases di hh with ⟨q11, hh⟩ | ⟨q11, hh⟩
  · refine dq_2 .ne 51 true 85 q11 (by decide +kernel) ?_
    refine dq_aln 0 86 (by decide +kernel) rfl g1 ?_
    refine dq_iln 1 87 (by decide +kernel) rfl g2 ?_
    obtain ⟨y12, q13, hh⟩ := db hh
    obtain ⟨a14, q15, q13⟩ := db q13
    rw [dq_xJ q13] at q15
    refine dq_cvi hD 663 390 5 1 [15] o0 [.int i1] [] 90 [.long y12.1] (by decide +kernel) ap_390 ⟨⟨Nat.le_of_ble_eq_true rfl, by decide⟩, rfl, rfl⟩ (dq_ok8 [1, 1] [] (dc_r (dc_i dc_n)) dc_n (by decide +kernel)) (by decide +kernel) rfl q15 rfl ?_
    refine dq_ls 8 92 (by decide +kernel) (by decide +kernel) ?_
    have g16 := dg_ne2 (i := 8) (u := .long y12.1) (by decide) (by decide) (Or.inl (by decide)) g1
    have g17 := dg_ne2 (i := 8) (u := .long y12.1) (by decide) (by decide) (Or.inl (by decide)) g2
    have g18 := dg_ne2 (i := 8) (u := .long y12.1) (by decide) (by decide) (Or.inl (by decide)) g3
    have g19 := dg_ne2 (i := 8) (u := .long y12.1) (by decide) (by decide) (Or.inl (by decide)) g4
    have g20 := dg_ne2 (i := 8) (u := .long y12.1) (by decide) (by decide) (Or.inl (by decide)) g5
    have g21 := dg_ne2 (i := 8) (u := .long y12.1) (by decide) (by decide) (Or.inl (by decide)) g6
    have g22 := dg_eq2 (rm_set1 (lv) 5 (.int s0)) 8 (.long y12.1)
    refine dq_aln 0 93 (by decide +kernel) rfl g16 ?_
    refine dq_iln 1 94 (by decide +kernel) rfl g17 ?_
    obtain ⟨y23, q24, hh⟩ := db hh
    obtain ⟨a25, q26, q24⟩ := db q24
    rw [dq_xJ q24] at q26
    refine dq_cvi hD 663 390 5 1 [15] o0 [.int i1] [] 97 [.long y23.1] (by decide +kernel) ap_390 ⟨⟨Nat.le_of_ble_eq_true rfl, by decide⟩, rfl, rfl⟩ (dq_ok8 [1, 1] [] (dc_r (dc_i dc_n)) dc_n (by decide +kernel)) (by decide +kernel) rfl q26 rfl ?_
    refine dq_ls 10 99 (by decide +kernel) (by decide +kernel) ?_
    have g27 := dg_ne2 (i := 10) (u := .long y23.1) (by decide) (by decide) (Or.inl (by decide)) g16
    have g28 := dg_ne2 (i := 10) (u := .long y23.1) (by decide) (by decide) (Or.inl (by decide)) g17
    have g29 := dg_ne2 (i := 10) (u := .long y23.1) (by decide) (by decide) (Or.inl (by decide)) g18
    have g30 := dg_ne2 (i := 10) (u := .long y23.1) (by decide) (by decide) (Or.inl (by decide)) g19
    have g31 := dg_ne2 (i := 10) (u := .long y23.1) (by decide) (by decide) (Or.inl (by decide)) g20
    have g32 := dg_ne2 (i := 10) (u := .long y23.1) (by decide) (by decide) (Or.inl (by decide)) g21
    have g33 := dg_ne2 (i := 10) (u := .long y23.1) (by decide) (by decide) (Or.inl (by decide)) g22
    have g34 := dg_eq2 (rm_set2 (rm_set1 (lv) 5 (.int s0)) 8 (.long y12.1)) 10 (.long y23.1)
    refine dq_ll 8 101 (by decide +kernel) rfl g33 ?_
    refine dq_S (.lconst 0) 1 [] 102 _ [.long 0, .long y12.1] (by decide +kernel) rfl ?_
    refine dq_S (.lcmp) 1 [] 103 _ [.int (lg_cmp y12.1 0)] (by decide +kernel) rfl ?_
    rcases di hh with ⟨q35, hh⟩ | ⟨q35, hh⟩
    · refine dq_1 .ne 5 true 108 q35 (by decide +kernel) ?_
      refine dq_aln 0 109 (by decide +kernel) rfl g27 ?_
      refine dq_iln 1 110 (by decide +kernel) rfl g28 ?_
      refine dq_ll 8 112 (by decide +kernel) rfl g33 ?_
      refine dq_aln 0 113 (by decide +kernel) rfl g27 ?_
      obtain ⟨p36, q37, hh⟩ := db hh
      refine dq_gR 63 20 [15] 116 (by decide +kernel) rfl q37 ?_
      refine dq_il 4 118 (by decide +kernel) rfl g31 ?_
      obtain ⟨x38, q39, hh⟩ := db hh
      refine dq_aI 119 (by decide +kernel) rfl q39 ?_
      obtain ⟨y40, q41, hh⟩ := db hh
      obtain ⟨a42, q43, q41⟩ := db q41
      rw [dq_xJ q41] at q43
      refine dq_cvi hD 666 391 5 3 [15] o0 [.int i1, .long y12.1, .int x38] [] 122 [.long y40.1] (by decide +kernel) ap_391 ⟨⟨Nat.le_of_ble_eq_true rfl, by decide⟩, rfl, rfl⟩ (dq_ok8 [1, 1, 2, 1] [] (dc_r (dc_i (dc_j (dc_i dc_n)))) dc_n (by decide +kernel)) (by decide +kernel) rfl q43 rfl ?_
      refine dq_ls 6 124 (by decide +kernel) (by decide +kernel) ?_
      have g44 := dg_ne2 (i := 6) (u := .long y40.1) (by decide) (by decide) (Or.inl (by decide)) g27
      have g45 := dg_ne2 (i := 6) (u := .long y40.1) (by decide) (by decide) (Or.inl (by decide)) g28
      have g46 := dg_ne2 (i := 6) (u := .long y40.1) (by decide) (by decide) (Or.inl (by decide)) g29
      have g47 := dg_ne2 (i := 6) (u := .long y40.1) (by decide) (by decide) (Or.inl (by decide)) g30
      have g48 := dg_ne2 (i := 6) (u := .long y40.1) (by decide) (by decide) (Or.inl (by decide)) g31
      have g49 := dg_ne2 (i := 6) (u := .long y40.1) (by decide) (by decide) (Or.inr rfl) g32
      have g50 := dg_ne2 (i := 6) (u := .long y40.1) (by decide) (by decide) (Or.inl (by decide)) g33
      have g51 := dg_ne2 (i := 6) (u := .long y40.1) (by decide) (by decide) (Or.inl (by decide)) g34
      have g52 := dg_eq2 (rm_set2 (rm_set2 (rm_set1 (lv) 5 (.int s0)) 8 (.long y12.1)) 10 (.long y23.1)) 6 (.long y40.1)
      refine dq_ll 8 126 (by decide +kernel) rfl g50 ?_
      obtain ⟨x53, q54, hh⟩ := db hh
      obtain ⟨a55, q56, q54⟩ := db q54
      rw [dq_xI q54] at q56
      refine dq_cst hD 625 379 0 1 [.long y12.1] [] 129 [.int x53.1] (by decide +kernel) ap_379 ⟨⟨Nat.le_of_ble_eq_true rfl, by decide⟩, rfl, rfl⟩ (dq_ok8 [2] [] (dc_j dc_n) dc_n (by decide +kernel)) (by decide +kernel) rfl q56 rfl ?_
      refine dq_S (.iconst 3) 1 [] 130 _ [.int 3, .int x53.1] (by decide +kernel) rfl ?_
      rcases di hh with ⟨q57, hh⟩ | ⟨q57, hh⟩
      · refine dq_2 .ne 25 true 155 q57 (by decide +kernel) ?_
        refine dq_aln 0 156 (by decide +kernel) rfl g44 ?_
        obtain ⟨p58, q59, hh⟩ := db hh
        refine dq_gR 196 95 [15] 159 (by decide +kernel) rfl q59 ?_
        refine dq_S (.sipush 400) 3 [] 162 _ [.int 400, va_rf p58] (by decide +kernel) rfl ?_
        refine dq_iln 1 163 (by decide +kernel) rfl g45 ?_
        refine dq_S (.imul) 1 [] 164 _ [.int (400 * i1), va_rf p58] (by decide +kernel) rfl ?_
        refine dq_aln 0 165 (by decide +kernel) rfl g44 ?_
        obtain ⟨p60, q61, hh⟩ := db hh
        refine dq_gR 172 86 [15] 168 (by decide +kernel) rfl q61 ?_
        refine dq_ll 8 170 (by decide +kernel) rfl g50 ?_
        refine dq_S (.l2i) 1 [] 171 _ [.int (Int64.toInt32 y12.1), va_rf p60, .int (400 * i1), va_rf p58] (by decide +kernel) rfl ?_
        obtain ⟨x62, q63, hh⟩ := db hh
        refine dq_aI 172 (by decide +kernel) rfl q63 ?_
        refine dq_S (.iadd) 1 [] 173 _ [.int ((400 * i1) + x62), va_rf p58] (by decide +kernel) rfl ?_
        refine dq_aln 0 174 (by decide +kernel) rfl g44 ?_
        obtain ⟨p64, q65, hh⟩ := db hh
        refine dq_gR 63 20 [15] 177 (by decide +kernel) rfl q65 ?_
        refine dq_il 4 179 (by decide +kernel) rfl g48 ?_
        obtain ⟨x66, q67, hh⟩ := db hh
        refine dq_aI 180 (by decide +kernel) rfl q67 ?_
        refine dq_S (.iadd) 1 [] 181 _ [.int (((400 * i1) + x62) + x66), va_rf p58] (by decide +kernel) rfl ?_
        refine dq_ll 10 183 (by decide +kernel) rfl g51 ?_
        obtain ⟨h68, q69, hh⟩ := db hh
        refine dq_sJ 184 (by decide +kernel) rfl q69 ?_
        exact c400_184 hD hz _ _ _ _ _ _ _ _ _ g44 g45 g46 g47 g49 g52 hh
      · refine dq_2 .ne 25 false 133 q57 (by decide +kernel) ?_
        refine dq_aln 0 134 (by decide +kernel) rfl g44 ?_
        obtain ⟨p70, q71, hh⟩ := db hh
        refine dq_gR 193 94 [15] 137 (by decide +kernel) rfl q71 ?_
        refine dq_S (.bipush 8) 2 [] 139 _ [.int 8, va_rf p70] (by decide +kernel) rfl ?_
        refine dq_iln 1 140 (by decide +kernel) rfl g45 ?_
        refine dq_S (.imul) 1 [] 141 _ [.int (8 * i1), va_rf p70] (by decide +kernel) rfl ?_
        refine dq_aln 0 142 (by decide +kernel) rfl g44 ?_
        obtain ⟨p72, q73, hh⟩ := db hh
        refine dq_gR 63 20 [15] 145 (by decide +kernel) rfl q73 ?_
        refine dq_il 4 147 (by decide +kernel) rfl g48 ?_
        obtain ⟨x74, q75, hh⟩ := db hh
        refine dq_aI 148 (by decide +kernel) rfl q75 ?_
        refine dq_S (.iadd) 1 [] 149 _ [.int ((8 * i1) + x74), va_rf p70] (by decide +kernel) rfl ?_
        refine dq_ll 10 151 (by decide +kernel) rfl g51 ?_
        obtain ⟨h76, q77, hh⟩ := db hh
        refine dq_sJ 152 (by decide +kernel) rfl q77 ?_
        refine dq_S (.goto 32) 3 [] 184 _ [] (by decide +kernel) rfl ?_
        exact c400_184 hD hz _ _ _ _ _ _ _ _ _ g44 g45 g46 g47 g49 g52 hh
    · refine dq_1 .ne 5 false 106 q35 (by decide +kernel) ?_
      refine dq_S (.iconst 1) 1 [] 107 _ [.int 1] (by decide +kernel) rfl ?_
      exact dq_retI (some .int) (by decide +kernel) rfl hh
  · refine dq_2 .ne 51 false 37 q11 (by decide +kernel) ?_
    refine dq_aln 0 38 (by decide +kernel) rfl g1 ?_
    refine dq_iln 1 39 (by decide +kernel) rfl g2 ?_
    obtain ⟨y78, q79, hh⟩ := db hh
    obtain ⟨a80, q81, q79⟩ := db q79
    rw [dq_xJ q79] at q81
    refine dq_cvi hD 663 390 5 1 [15] o0 [.int i1] [] 42 [.long y78.1] (by decide +kernel) ap_390 ⟨⟨Nat.le_of_ble_eq_true rfl, by decide⟩, rfl, rfl⟩ (dq_ok8 [1, 1] [] (dc_r (dc_i dc_n)) dc_n (by decide +kernel)) (by decide +kernel) rfl q81 rfl ?_
    refine dq_ls 8 44 (by decide +kernel) (by decide +kernel) ?_
    have g82 := dg_ne2 (i := 8) (u := .long y78.1) (by decide) (by decide) (Or.inl (by decide)) g1
    have g83 := dg_ne2 (i := 8) (u := .long y78.1) (by decide) (by decide) (Or.inl (by decide)) g2
    have g84 := dg_ne2 (i := 8) (u := .long y78.1) (by decide) (by decide) (Or.inl (by decide)) g3
    have g85 := dg_ne2 (i := 8) (u := .long y78.1) (by decide) (by decide) (Or.inl (by decide)) g4
    have g86 := dg_ne2 (i := 8) (u := .long y78.1) (by decide) (by decide) (Or.inl (by decide)) g5
    have g87 := dg_ne2 (i := 8) (u := .long y78.1) (by decide) (by decide) (Or.inl (by decide)) g6
    have g88 := dg_eq2 (rm_set1 (lv) 5 (.int s0)) 8 (.long y78.1)
    refine dq_aln 0 45 (by decide +kernel) rfl g82 ?_
    obtain ⟨p89, q90, hh⟩ := db hh
    refine dq_gR 212 100 [15] 48 (by decide +kernel) rfl q90 ?_
    refine dq_S (.bipush 16) 2 [] 50 _ [.int 16, va_rf p89] (by decide +kernel) rfl ?_
    refine dq_iln 2 51 (by decide +kernel) rfl g84 ?_
    refine dq_S (.imul) 1 [] 52 _ [.int (16 * i2), va_rf p89] (by decide +kernel) rfl ?_
    refine dq_aln 0 53 (by decide +kernel) rfl g82 ?_
    obtain ⟨p91, q92, hh⟩ := db hh
    refine dq_gR 63 20 [15] 56 (by decide +kernel) rfl q92 ?_
    refine dq_il 4 58 (by decide +kernel) rfl g86 ?_
    obtain ⟨x93, q94, hh⟩ := db hh
    refine dq_aI 59 (by decide +kernel) rfl q94 ?_
    refine dq_S (.iadd) 1 [] 60 _ [.int ((16 * i2) + x93), va_rf p89] (by decide +kernel) rfl ?_
    obtain ⟨y95, q96, hh⟩ := db hh
    refine dq_aJ 61 (by decide +kernel) rfl q96 ?_
    refine dq_ls 6 63 (by decide +kernel) (by decide +kernel) ?_
    have g97 := dg_ne2 (i := 6) (u := .long y95) (by decide) (by decide) (Or.inl (by decide)) g82
    have g98 := dg_ne2 (i := 6) (u := .long y95) (by decide) (by decide) (Or.inl (by decide)) g83
    have g99 := dg_ne2 (i := 6) (u := .long y95) (by decide) (by decide) (Or.inl (by decide)) g84
    have g100 := dg_ne2 (i := 6) (u := .long y95) (by decide) (by decide) (Or.inl (by decide)) g85
    have g101 := dg_ne2 (i := 6) (u := .long y95) (by decide) (by decide) (Or.inl (by decide)) g86
    have g102 := dg_ne2 (i := 6) (u := .long y95) (by decide) (by decide) (Or.inr rfl) g87
    have g103 := dg_ne2 (i := 6) (u := .long y95) (by decide) (by decide) (Or.inl (by decide)) g88
    have g104 := dg_eq2 (rm_set2 (rm_set1 (lv) 5 (.int s0)) 8 (.long y78.1)) 6 (.long y95)
    refine dq_aln 0 64 (by decide +kernel) rfl g97 ?_
    obtain ⟨p105, q106, hh⟩ := db hh
    refine dq_gR 212 100 [15] 67 (by decide +kernel) rfl q106 ?_
    refine dq_S (.bipush 16) 2 [] 69 _ [.int 16, va_rf p105] (by decide +kernel) rfl ?_
    refine dq_iln 2 70 (by decide +kernel) rfl g99 ?_
    refine dq_S (.imul) 1 [] 71 _ [.int (16 * i2), va_rf p105] (by decide +kernel) rfl ?_
    refine dq_aln 0 72 (by decide +kernel) rfl g97 ?_
    obtain ⟨p107, q108, hh⟩ := db hh
    refine dq_gR 63 20 [15] 75 (by decide +kernel) rfl q108 ?_
    refine dq_il 4 77 (by decide +kernel) rfl g101 ?_
    obtain ⟨x109, q110, hh⟩ := db hh
    refine dq_aI 78 (by decide +kernel) rfl q110 ?_
    refine dq_S (.iadd) 1 [] 79 _ [.int ((16 * i2) + x109), va_rf p105] (by decide +kernel) rfl ?_
    refine dq_ll 8 81 (by decide +kernel) rfl g103 ?_
    obtain ⟨h111, q112, hh⟩ := db hh
    refine dq_sJ 82 (by decide +kernel) rfl q112 ?_
    refine dq_S (.goto 102) 3 [] 184 _ [] (by decide +kernel) rfl ?_
    exact c400_184 hD hz _ _ _ _ _ _ _ _ _ g97 g98 g99 g100 g102 g104 hh
def b400_0 (L : Nat) (xs : Nat → Int32) (zf : Value) (D : dD) (w : Nat) (o0 : Option Nat) (i1 : Int32) (i2 : Int32) (i3 : Int32) (h : rm_H) : Option dR :=
  (dgR L xs h 12 [15] o0).bind fun p1 =>
  (daI L xs h p1 i3).bind fun x3 =>
  (dgR L xs h 11 [15] o0).bind fun p10 =>
  (daI L xs h p10 i3).bind fun x12 =>
  if mx_f2 .ne x12 7 = true then
    b400_24 L xs zf D w o0 i1 i2 i3 x3 0 h
  else
    b400_24 L xs zf D w o0 i1 i2 i3 x3 1 h
theorem c400_0 {L : Nat} {xs : Nat → Int32} {zf : Value} {D : dD} {w k : Nat} (hD : dO L xs zf D k) (hz : zf.category = 1) : ∀ (o0 : Option Nat) (i1 : Int32) (i2 : Int32) (i3 : Int32) (lv : rm_L) (h : rm_H) (r : dR), rm_get lv 0 = some (va_rf o0) → rm_get lv 1 = some (.int i1) → rm_get lv 2 = some (.int i2) → rm_get lv 3 = some (.int i3) → b400_0 L xs zf D w  o0 i1 i2 i3 h = some r → dq L xs zf ah_M400 0 lv [] h (k + 1) r := by
  intro o0 i1 i2 i3 lv h r G0 G1 G2 G3 hh
  unfold b400_0 at hh
  refine dq_aln 0 1 (by decide +kernel) rfl G0 ?_
  obtain ⟨p1, q2, hh⟩ := db hh
  refine dq_gR 39 12 [15] 4 (by decide +kernel) rfl q2 ?_
  refine dq_iln 3 5 (by decide +kernel) rfl G3 ?_
  obtain ⟨x3, q4, hh⟩ := db hh
  refine dq_aI 6 (by decide +kernel) rfl q4 ?_
  refine dq_is 4 8 (by decide +kernel) (by decide +kernel) ?_
  have g5 := dg_ne (i := 4) (u := .int x3) (by decide) (Or.inl (by decide)) G0
  have g6 := dg_ne (i := 4) (u := .int x3) (by decide) (Or.inl (by decide)) G1
  have g7 := dg_ne (i := 4) (u := .int x3) (by decide) (Or.inl (by decide)) G2
  have g8 := dg_ne (i := 4) (u := .int x3) (by decide) (Or.inr rfl) G3
  have g9 := dg_eq (lv) 4 (.int x3)
  refine dq_aln 0 9 (by decide +kernel) rfl g5 ?_
  obtain ⟨p10, q11, hh⟩ := db hh
  refine dq_gR 36 11 [15] 12 (by decide +kernel) rfl q11 ?_
  refine dq_iln 3 13 (by decide +kernel) rfl g8 ?_
  obtain ⟨x12, q13, hh⟩ := db hh
  refine dq_aI 14 (by decide +kernel) rfl q13 ?_
  refine dq_S (.bipush 7) 2 [] 16 _ [.int 7, .int x12] (by decide +kernel) rfl ?_
  rcases di hh with ⟨q14, hh⟩ | ⟨q14, hh⟩
  · refine dq_2 .ne 7 true 23 q14 (by decide +kernel) ?_
    refine dq_S (.iconst 0) 1 [] 24 _ [.int 0] (by decide +kernel) rfl ?_
    exact c400_24 hD hz _ _ _ _ _ _ _ _ _ g5 g6 g7 g8 g9 hh
  · refine dq_2 .ne 7 false 19 q14 (by decide +kernel) ?_
    refine dq_S (.iconst 1) 1 [] 20 _ [.int 1] (by decide +kernel) rfl ?_
    refine dq_S (.goto 4) 3 [] 24 _ [.int 1] (by decide +kernel) rfl ?_
    exact c400_24 hD hz _ _ _ _ _ _ _ _ _ g5 g6 g7 g8 g9 hh
def f400 (L : Nat) (xs : Nat → Int32) (zf : Value) (D : dD) (w : Nat) (As : List Value) (h : rm_H) : Option dR := match As with
  | [v0, .int i1, .int i2, .int i3] => (rm_rf v0).bind fun o0 => b400_0 L xs zf D w o0 i1 i2 i3 h
  | _ => none
theorem d400 {L : Nat} {xs : Nat → Int32} {zf : Value} {D : dD} {w k : Nat} (hD : dO L xs zf D k) (hz : zf.category = 1) (As : List Value) (h : rm_H) (r : dR) (hh : f400 L xs zf D w As h = some r) : dq L xs zf ah_M400 0 (lv_args 0 As) [] h (k + 1) r := by
  unfold f400 at hh
  split at hh
  · obtain ⟨o0, e0, hb0⟩ := db hh
    have e0 := rm_rf_v _ _ e0
    subst e0
    refine c400_0 hD hz _ _ _ _ _ _ _ ?_ ?_ ?_ ?_ hb0
    all_goals (simp only [la_r, la_i, la_j]; rfl)
  · cases hh
def b401_27 (L : Nat) (xs : Nat → Int32) (zf : Value) (D : dD) (w : Nat) (s0 : Int32) (h : rm_H) : Option dR :=
  drI (some .int) s0 h
theorem c401_27 {L : Nat} {xs : Nat → Int32} {zf : Value} {D : dD} {w k : Nat} (hD : dO L xs zf D k) (hz : zf.category = 1) : ∀ (s0 : Int32) (lv : rm_L) (h : rm_H) (r : dR), b401_27 L xs zf D w  s0 h = some r → dq L xs zf ah_M401 27 lv [.int s0] h (k + 1) r := by
  intro s0 lv h r hh
  unfold b401_27 at hh
  exact dq_retI (some .int) (by decide +kernel) rfl hh
def b401_0 (L : Nat) (xs : Nat → Int32) (zf : Value) (D : dD) (w : Nat) (o0 : Option Nat) (i1 : Int32) (h : rm_H) : Option dR :=
  (dgR L xs h 12 [15] o0).bind fun p1 =>
  (daI L xs h p1 i1).bind fun x3 =>
  if mx_f1 .ne x3 = true then
    (dgR L xs h 12 [15] o0).bind fun p6 =>
    (daI L xs h p6 i1).bind fun x8 =>
    ((dcV L xs D 386 [15] o0 [.int x8] h).bind dxI).bind fun x10 =>
    b401_27 L xs zf D w x10.1 x10.2
  else
    ((dcV L xs D 393 [15] o0 [.int i1] h).bind dxI).bind fun x14 =>
    b401_27 L xs zf D w x14.1 x14.2
theorem c401_0 {L : Nat} {xs : Nat → Int32} {zf : Value} {D : dD} {w k : Nat} (hD : dO L xs zf D k) (hz : zf.category = 1) : ∀ (o0 : Option Nat) (i1 : Int32) (lv : rm_L) (h : rm_H) (r : dR), rm_get lv 0 = some (va_rf o0) → rm_get lv 1 = some (.int i1) → b401_0 L xs zf D w  o0 i1 h = some r → dq L xs zf ah_M401 0 lv [] h (k + 1) r := by
  intro o0 i1 lv h r G0 G1 hh
  unfold b401_0 at hh
  refine dq_aln 0 1 (by decide +kernel) rfl G0 ?_
  obtain ⟨p1, q2, hh⟩ := db hh
  refine dq_gR 39 12 [15] 4 (by decide +kernel) rfl q2 ?_
  refine dq_iln 1 5 (by decide +kernel) rfl G1 ?_
  obtain ⟨x3, q4, hh⟩ := db hh
  refine dq_aI 6 (by decide +kernel) rfl q4 ?_
  rcases di hh with ⟨q5, hh⟩ | ⟨q5, hh⟩
  · refine dq_1 .ne 11 true 17 q5 (by decide +kernel) ?_
    refine dq_aln 0 18 (by decide +kernel) rfl G0 ?_
    refine dq_aln 0 19 (by decide +kernel) rfl G0 ?_
    obtain ⟨p6, q7, hh⟩ := db hh
    refine dq_gR 39 12 [15] 22 (by decide +kernel) rfl q7 ?_
    refine dq_iln 1 23 (by decide +kernel) rfl G1 ?_
    obtain ⟨x8, q9, hh⟩ := db hh
    refine dq_aI 24 (by decide +kernel) rfl q9 ?_
    obtain ⟨x10, q11, hh⟩ := db hh
    obtain ⟨a12, q13, q11⟩ := db q11
    rw [dq_xI q11] at q13
    refine dq_cvi hD 632 386 5 1 [15] o0 [.int x8] [] 27 [.int x10.1] (by decide +kernel) ap_386 ⟨⟨Nat.le_of_ble_eq_true rfl, by decide⟩, rfl, rfl⟩ (dq_ok8 [1, 1] [] (dc_r (dc_i dc_n)) dc_n (by decide +kernel)) (by decide +kernel) rfl q13 rfl ?_
    exact c401_27 hD hz _ _ _ _  hh
  · refine dq_1 .ne 11 false 9 q5 (by decide +kernel) ?_
    refine dq_aln 0 10 (by decide +kernel) rfl G0 ?_
    refine dq_iln 1 11 (by decide +kernel) rfl G1 ?_
    obtain ⟨x14, q15, hh⟩ := db hh
    obtain ⟨a16, q17, q15⟩ := db q15
    rw [dq_xI q15] at q17
    refine dq_cvi hD 644 393 5 1 [15] o0 [.int i1] [] 14 [.int x14.1] (by decide +kernel) ap_393 ⟨⟨Nat.le_of_ble_eq_true rfl, by decide⟩, rfl, rfl⟩ (dq_ok8 [1, 1] [] (dc_r (dc_i dc_n)) dc_n (by decide +kernel)) (by decide +kernel) rfl q17 rfl ?_
    refine dq_S (.goto 13) 3 [] 27 _ [.int x14.1] (by decide +kernel) rfl ?_
    exact c401_27 hD hz _ _ _ _  hh
def f401 (L : Nat) (xs : Nat → Int32) (zf : Value) (D : dD) (w : Nat) (As : List Value) (h : rm_H) : Option dR := match As with
  | [v0, .int i1] => (rm_rf v0).bind fun o0 => b401_0 L xs zf D w o0 i1 h
  | _ => none
theorem d401 {L : Nat} {xs : Nat → Int32} {zf : Value} {D : dD} {w k : Nat} (hD : dO L xs zf D k) (hz : zf.category = 1) (As : List Value) (h : rm_H) (r : dR) (hh : f401 L xs zf D w As h = some r) : dq L xs zf ah_M401 0 (lv_args 0 As) [] h (k + 1) r := by
  unfold f401 at hh
  split at hh
  · obtain ⟨o0, e0, hb0⟩ := db hh
    have e0 := rm_rf_v _ _ e0
    subst e0
    refine c401_0 hD hz _ _ _ _ _ ?_ ?_ hb0
    all_goals (simp only [la_r, la_i, la_j]; rfl)
  · cases hh
def b402_10 (L : Nat) (xs : Nat → Int32) (zf : Value) (D : dD) (w : Nat) (h : rm_H) : Option dR :=
  drI (some .int) (-1) h
theorem c402_10 {L : Nat} {xs : Nat → Int32} {zf : Value} {D : dD} {w k : Nat} (hD : dO L xs zf D k) (hz : zf.category = 1) : ∀ (lv : rm_L) (h : rm_H) (r : dR), b402_10 L xs zf D w  h = some r → dq L xs zf ah_M402 10 lv [] h (k + 1) r := by
  intro lv h r hh
  unfold b402_10 at hh
  refine dq_S (.iconst (-1)) 1 [] 11 _ [.int (-1)] (by decide +kernel) rfl ?_
  exact dq_retI (some .int) (by decide +kernel) rfl hh
def b402_0 (L : Nat) (xs : Nat → Int32) (zf : Value) (D : dD) (w : Nat) (o0 : Option Nat) (i1 : Int32) (h : rm_H) : Option dR :=
  if mx_f1 .lt i1 = true then
    b402_10 L xs zf D w h
  else
    if mx_f2 .le i1 7 = true then
      (dgI L xs h 74 [15] o0).bind fun x3 =>
      if mx_f1 .ne x3 = true then
        if dsw 0 6 i1 = true then
          (dgI L xs h 84 [15] o0).bind fun x7 =>
          drI (some .int) x7 h
        else if i1 = 0 then
          (dgI L xs h 75 [15] o0).bind fun x10 =>
          drI (some .int) x10 h
        else if i1 = 1 then
          (dgI L xs h 76 [15] o0).bind fun x13 =>
          drI (some .int) x13 h
        else if i1 = 2 then
          (dgI L xs h 77 [15] o0).bind fun x16 =>
          drI (some .int) x16 h
        else if i1 = 3 then
          (dgI L xs h 80 [15] o0).bind fun x19 =>
          drI (some .int) x19 h
        else if i1 = 4 then
          (dgI L xs h 81 [15] o0).bind fun x22 =>
          drI (some .int) x22 h
        else if i1 = 5 then
          (dgI L xs h 82 [15] o0).bind fun x25 =>
          drI (some .int) x25 h
        else if i1 = 6 then
          (dgI L xs h 83 [15] o0).bind fun x28 =>
          drI (some .int) x28 h
        else none
      else
        drI (some .int) 0 h
    else
      b402_10 L xs zf D w h
theorem c402_0 {L : Nat} {xs : Nat → Int32} {zf : Value} {D : dD} {w k : Nat} (hD : dO L xs zf D k) (hz : zf.category = 1) : ∀ (o0 : Option Nat) (i1 : Int32) (lv : rm_L) (h : rm_H) (r : dR), rm_get lv 0 = some (va_rf o0) → rm_get lv 1 = some (.int i1) → b402_0 L xs zf D w  o0 i1 h = some r → dq L xs zf ah_M402 0 lv [] h (k + 1) r := by
  intro o0 i1 lv h r G0 G1 hh
  unfold b402_0 at hh
  refine dq_iln 1 1 (by decide +kernel) rfl G1 ?_
  rcases di hh with ⟨q1, hh⟩ | ⟨q1, hh⟩
  · refine dq_1 .lt 9 true 10 q1 (by decide +kernel) ?_
    exact c402_10 hD hz  _ _ _  hh
  · refine dq_1 .lt 9 false 4 q1 (by decide +kernel) ?_
    refine dq_iln 1 5 (by decide +kernel) rfl G1 ?_
    refine dq_S (.bipush 7) 2 [] 7 _ [.int 7, .int i1] (by decide +kernel) rfl ?_
    rcases di hh with ⟨q2, hh⟩ | ⟨q2, hh⟩
    · refine dq_2 .le 5 true 12 q2 (by decide +kernel) ?_
      refine dq_aln 0 13 (by decide +kernel) rfl G0 ?_
      obtain ⟨x3, q4, hh⟩ := db hh
      refine dq_gI 569 74 [15] 16 (by decide +kernel) rfl q4 ?_
      rcases di hh with ⟨q5, hh⟩ | ⟨q5, hh⟩
      · refine dq_1 .ne 5 true 21 q5 (by decide +kernel) ?_
        refine dq_iln 1 22 (by decide +kernel) rfl G1 ?_
        rcases di hh with ⟨q6, hh⟩ | ⟨_, hh⟩
        · refine dq_sd 77 0 6 #[42, 47, 52, 57, 62, 67, 72] 42 99 (by decide +kernel) (by decide +kernel) q6 ?_
          refine dq_aln 0 100 (by decide +kernel) rfl G0 ?_
          obtain ⟨x7, q8, hh⟩ := db hh
          refine dq_gI 656 84 [15] 103 (by decide +kernel) rfl q8 ?_
          exact dq_retI (some .int) (by decide +kernel) rfl hh
        rcases dp hh with ⟨q9, hh⟩ | ⟨_, hh⟩
        · refine dq_eq 0 q9 ?_
          refine dq_S (.tableswitch 77 0 6 #[42, 47, 52, 57, 62, 67, 72]) 42 [] 64 _ [] (by decide +kernel) rfl ?_
          refine dq_aln 0 65 (by decide +kernel) rfl G0 ?_
          obtain ⟨x10, q11, hh⟩ := db hh
          refine dq_gI 599 75 [15] 68 (by decide +kernel) rfl q11 ?_
          exact dq_retI (some .int) (by decide +kernel) rfl hh
        rcases dp hh with ⟨q12, hh⟩ | ⟨_, hh⟩
        · refine dq_eq 1 q12 ?_
          refine dq_S (.tableswitch 77 0 6 #[42, 47, 52, 57, 62, 67, 72]) 42 [] 69 _ [] (by decide +kernel) rfl ?_
          refine dq_aln 0 70 (by decide +kernel) rfl G0 ?_
          obtain ⟨x13, q14, hh⟩ := db hh
          refine dq_gI 612 76 [15] 73 (by decide +kernel) rfl q14 ?_
          exact dq_retI (some .int) (by decide +kernel) rfl hh
        rcases dp hh with ⟨q15, hh⟩ | ⟨_, hh⟩
        · refine dq_eq 2 q15 ?_
          refine dq_S (.tableswitch 77 0 6 #[42, 47, 52, 57, 62, 67, 72]) 42 [] 74 _ [] (by decide +kernel) rfl ?_
          refine dq_aln 0 75 (by decide +kernel) rfl G0 ?_
          obtain ⟨x16, q17, hh⟩ := db hh
          refine dq_gI 602 77 [15] 78 (by decide +kernel) rfl q17 ?_
          exact dq_retI (some .int) (by decide +kernel) rfl hh
        rcases dp hh with ⟨q18, hh⟩ | ⟨_, hh⟩
        · refine dq_eq 3 q18 ?_
          refine dq_S (.tableswitch 77 0 6 #[42, 47, 52, 57, 62, 67, 72]) 42 [] 79 _ [] (by decide +kernel) rfl ?_
          refine dq_aln 0 80 (by decide +kernel) rfl G0 ?_
          obtain ⟨x19, q20, hh⟩ := db hh
          refine dq_gI 647 80 [15] 83 (by decide +kernel) rfl q20 ?_
          exact dq_retI (some .int) (by decide +kernel) rfl hh
        rcases dp hh with ⟨q21, hh⟩ | ⟨_, hh⟩
        · refine dq_eq 4 q21 ?_
          refine dq_S (.tableswitch 77 0 6 #[42, 47, 52, 57, 62, 67, 72]) 42 [] 84 _ [] (by decide +kernel) rfl ?_
          refine dq_aln 0 85 (by decide +kernel) rfl G0 ?_
          obtain ⟨x22, q23, hh⟩ := db hh
          refine dq_gI 681 81 [15] 88 (by decide +kernel) rfl q23 ?_
          exact dq_retI (some .int) (by decide +kernel) rfl hh
        rcases dp hh with ⟨q24, hh⟩ | ⟨_, hh⟩
        · refine dq_eq 5 q24 ?_
          refine dq_S (.tableswitch 77 0 6 #[42, 47, 52, 57, 62, 67, 72]) 42 [] 89 _ [] (by decide +kernel) rfl ?_
          refine dq_aln 0 90 (by decide +kernel) rfl G0 ?_
          obtain ⟨x25, q26, hh⟩ := db hh
          refine dq_gI 618 82 [15] 93 (by decide +kernel) rfl q26 ?_
          exact dq_retI (some .int) (by decide +kernel) rfl hh
        rcases dp hh with ⟨q27, hh⟩ | ⟨_, hh⟩
        · refine dq_eq 6 q27 ?_
          refine dq_S (.tableswitch 77 0 6 #[42, 47, 52, 57, 62, 67, 72]) 42 [] 94 _ [] (by decide +kernel) rfl ?_
          refine dq_aln 0 95 (by decide +kernel) rfl G0 ?_
          obtain ⟨x28, q29, hh⟩ := db hh
          refine dq_gI 706 83 [15] 98 (by decide +kernel) rfl q29 ?_
          exact dq_retI (some .int) (by decide +kernel) rfl hh
        cases hh
      · refine dq_1 .ne 5 false 19 q5 (by decide +kernel) ?_
        refine dq_S (.iconst 0) 1 [] 20 _ [.int 0] (by decide +kernel) rfl ?_
        exact dq_retI (some .int) (by decide +kernel) rfl hh
    · refine dq_2 .le 5 false 10 q2 (by decide +kernel) ?_
      exact c402_10 hD hz  _ _ _  hh
def f402 (L : Nat) (xs : Nat → Int32) (zf : Value) (D : dD) (w : Nat) (As : List Value) (h : rm_H) : Option dR := match As with
  | [v0, .int i1] => (rm_rf v0).bind fun o0 => b402_0 L xs zf D w o0 i1 h
  | _ => none
theorem d402 {L : Nat} {xs : Nat → Int32} {zf : Value} {D : dD} {w k : Nat} (hD : dO L xs zf D k) (hz : zf.category = 1) (As : List Value) (h : rm_H) (r : dR) (hh : f402 L xs zf D w As h = some r) : dq L xs zf ah_M402 0 (lv_args 0 As) [] h (k + 1) r := by
  unfold f402 at hh
  split at hh
  · obtain ⟨o0, e0, hb0⟩ := db hh
    have e0 := rm_rf_v _ _ e0
    subst e0
    refine c402_0 hD hz _ _ _ _ _ ?_ ?_ hb0
    all_goals (simp only [la_r, la_i, la_j]; rfl)
  · cases hh
def b403_0 (L : Nat) (xs : Nat → Int32) (zf : Value) (D : dD) (w : Nat) (o0 : Option Nat) (i1 : Int32) (i2 : Int32) (h : rm_H) : Option dR :=
  ((dcV L xs D 381 [15] o0 [.int i1] h).bind dxI).bind fun x1 =>
  if mx_f1 .ne x1.1 = true then
    if dsw 0 4 i2 = true then
      drI (some .int) (-1) x1.2
    else if i2 = 0 then
      (dgR L xs x1.2 88 [15] o0).bind fun p8 =>
      (daI L xs x1.2 p8 i1).bind fun x10 =>
      drI (some .int) x10 x1.2
    else if i2 = 1 then
      (dgR L xs x1.2 91 [15] o0).bind fun p13 =>
      (daI L xs x1.2 p13 i1).bind fun x15 =>
      drI (some .int) x15 x1.2
    else if i2 = 2 then
      (dgR L xs x1.2 93 [15] o0).bind fun p18 =>
      (daI L xs x1.2 p18 i1).bind fun x20 =>
      drI (some .int) x20 x1.2
    else if i2 = 3 then
      (dgR L xs x1.2 89 [15] o0).bind fun p23 =>
      (daI L xs x1.2 p23 i1).bind fun x25 =>
      drI (some .int) x25 x1.2
    else if i2 = 4 then
      (dgR L xs x1.2 90 [15] o0).bind fun p28 =>
      (daI L xs x1.2 p28 i1).bind fun x30 =>
      drI (some .int) x30 x1.2
    else none
  else
    drI (some .int) (-1) x1.2
theorem c403_0 {L : Nat} {xs : Nat → Int32} {zf : Value} {D : dD} {w k : Nat} (hD : dO L xs zf D k) (hz : zf.category = 1) : ∀ (o0 : Option Nat) (i1 : Int32) (i2 : Int32) (lv : rm_L) (h : rm_H) (r : dR), rm_get lv 0 = some (va_rf o0) → rm_get lv 1 = some (.int i1) → rm_get lv 2 = some (.int i2) → b403_0 L xs zf D w  o0 i1 i2 h = some r → dq L xs zf ah_M403 0 lv [] h (k + 1) r := by
  intro o0 i1 i2 lv h r G0 G1 G2 hh
  unfold b403_0 at hh
  refine dq_aln 0 1 (by decide +kernel) rfl G0 ?_
  refine dq_iln 1 2 (by decide +kernel) rfl G1 ?_
  obtain ⟨x1, q2, hh⟩ := db hh
  obtain ⟨a3, q4, q2⟩ := db q2
  rw [dq_xI q2] at q4
  refine dq_cvi hD 709 381 5 1 [15] o0 [.int i1] [] 5 [.int x1.1] (by decide +kernel) ap_381 ⟨⟨Nat.le_of_ble_eq_true rfl, by decide⟩, rfl, rfl⟩ (dq_ok8 [1, 1] [] (dc_r (dc_i dc_n)) dc_n (by decide +kernel)) (by decide +kernel) rfl q4 rfl ?_
  rcases di hh with ⟨q5, hh⟩ | ⟨q5, hh⟩
  · refine dq_1 .ne 5 true 10 q5 (by decide +kernel) ?_
    refine dq_iln 2 11 (by decide +kernel) rfl G2 ?_
    rcases di hh with ⟨q6, hh⟩ | ⟨_, hh⟩
    · refine dq_sd 68 0 4 #[33, 40, 47, 54, 61] 33 79 (by decide +kernel) (by decide +kernel) q6 ?_
      refine dq_S (.iconst (-1)) 1 [] 80 _ [.int (-1)] (by decide +kernel) rfl ?_
      exact dq_retI (some .int) (by decide +kernel) rfl hh
    rcases dp hh with ⟨q7, hh⟩ | ⟨_, hh⟩
    · refine dq_eq 0 q7 ?_
      refine dq_S (.tableswitch 68 0 4 #[33, 40, 47, 54, 61]) 33 [] 44 _ [] (by decide +kernel) rfl ?_
      refine dq_aln 0 45 (by decide +kernel) rfl G0 ?_
      obtain ⟨p8, q9, hh⟩ := db hh
      refine dq_gR 175 88 [15] 48 (by decide +kernel) rfl q9 ?_
      refine dq_iln 1 49 (by decide +kernel) rfl G1 ?_
      obtain ⟨x10, q11, hh⟩ := db hh
      refine dq_aI 50 (by decide +kernel) rfl q11 ?_
      exact dq_retI (some .int) (by decide +kernel) rfl hh
    rcases dp hh with ⟨q12, hh⟩ | ⟨_, hh⟩
    · refine dq_eq 1 q12 ?_
      refine dq_S (.tableswitch 68 0 4 #[33, 40, 47, 54, 61]) 33 [] 51 _ [] (by decide +kernel) rfl ?_
      refine dq_aln 0 52 (by decide +kernel) rfl G0 ?_
      obtain ⟨p13, q14, hh⟩ := db hh
      refine dq_gR 184 91 [15] 55 (by decide +kernel) rfl q14 ?_
      refine dq_iln 1 56 (by decide +kernel) rfl G1 ?_
      obtain ⟨x15, q16, hh⟩ := db hh
      refine dq_aI 57 (by decide +kernel) rfl q16 ?_
      exact dq_retI (some .int) (by decide +kernel) rfl hh
    rcases dp hh with ⟨q17, hh⟩ | ⟨_, hh⟩
    · refine dq_eq 2 q17 ?_
      refine dq_S (.tableswitch 68 0 4 #[33, 40, 47, 54, 61]) 33 [] 58 _ [] (by decide +kernel) rfl ?_
      refine dq_aln 0 59 (by decide +kernel) rfl G0 ?_
      obtain ⟨p18, q19, hh⟩ := db hh
      refine dq_gR 190 93 [15] 62 (by decide +kernel) rfl q19 ?_
      refine dq_iln 1 63 (by decide +kernel) rfl G1 ?_
      obtain ⟨x20, q21, hh⟩ := db hh
      refine dq_aI 64 (by decide +kernel) rfl q21 ?_
      exact dq_retI (some .int) (by decide +kernel) rfl hh
    rcases dp hh with ⟨q22, hh⟩ | ⟨_, hh⟩
    · refine dq_eq 3 q22 ?_
      refine dq_S (.tableswitch 68 0 4 #[33, 40, 47, 54, 61]) 33 [] 65 _ [] (by decide +kernel) rfl ?_
      refine dq_aln 0 66 (by decide +kernel) rfl G0 ?_
      obtain ⟨p23, q24, hh⟩ := db hh
      refine dq_gR 178 89 [15] 69 (by decide +kernel) rfl q24 ?_
      refine dq_iln 1 70 (by decide +kernel) rfl G1 ?_
      obtain ⟨x25, q26, hh⟩ := db hh
      refine dq_aI 71 (by decide +kernel) rfl q26 ?_
      exact dq_retI (some .int) (by decide +kernel) rfl hh
    rcases dp hh with ⟨q27, hh⟩ | ⟨_, hh⟩
    · refine dq_eq 4 q27 ?_
      refine dq_S (.tableswitch 68 0 4 #[33, 40, 47, 54, 61]) 33 [] 72 _ [] (by decide +kernel) rfl ?_
      refine dq_aln 0 73 (by decide +kernel) rfl G0 ?_
      obtain ⟨p28, q29, hh⟩ := db hh
      refine dq_gR 181 90 [15] 76 (by decide +kernel) rfl q29 ?_
      refine dq_iln 1 77 (by decide +kernel) rfl G1 ?_
      obtain ⟨x30, q31, hh⟩ := db hh
      refine dq_aI 78 (by decide +kernel) rfl q31 ?_
      exact dq_retI (some .int) (by decide +kernel) rfl hh
    cases hh
  · refine dq_1 .ne 5 false 8 q5 (by decide +kernel) ?_
    refine dq_S (.iconst (-1)) 1 [] 9 _ [.int (-1)] (by decide +kernel) rfl ?_
    exact dq_retI (some .int) (by decide +kernel) rfl hh
def f403 (L : Nat) (xs : Nat → Int32) (zf : Value) (D : dD) (w : Nat) (As : List Value) (h : rm_H) : Option dR := match As with
  | [v0, .int i1, .int i2] => (rm_rf v0).bind fun o0 => b403_0 L xs zf D w o0 i1 i2 h
  | _ => none
theorem d403 {L : Nat} {xs : Nat → Int32} {zf : Value} {D : dD} {w k : Nat} (hD : dO L xs zf D k) (hz : zf.category = 1) (As : List Value) (h : rm_H) (r : dR) (hh : f403 L xs zf D w As h = some r) : dq L xs zf ah_M403 0 (lv_args 0 As) [] h (k + 1) r := by
  unfold f403 at hh
  split at hh
  · obtain ⟨o0, e0, hb0⟩ := db hh
    have e0 := rm_rf_v _ _ e0
    subst e0
    refine c403_0 hD hz _ _ _ _ _ _ ?_ ?_ ?_ hb0
    all_goals (simp only [la_r, la_i, la_j]; rfl)
  · cases hh
def b404_26 (L : Nat) (xs : Nat → Int32) (zf : Value) (D : dD) (w : Nat) (h : rm_H) : Option dR :=
  drI (some .int) 0 h
theorem c404_26 {L : Nat} {xs : Nat → Int32} {zf : Value} {D : dD} {w k : Nat} (hD : dO L xs zf D k) (hz : zf.category = 1) : ∀ (lv : rm_L) (h : rm_H) (r : dR), b404_26 L xs zf D w  h = some r → dq L xs zf ah_M404 26 lv [] h (k + 1) r := by
  intro lv h r hh
  unfold b404_26 at hh
  refine dq_S (.iconst 0) 1 [] 27 _ [.int 0] (by decide +kernel) rfl ?_
  exact dq_retI (some .int) (by decide +kernel) rfl hh
def b404_56 (L : Nat) (xs : Nat → Int32) (zf : Value) (D : dD) (w : Nat) (s0 : Int32) (h : rm_H) : Option dR :=
  drI (some .int) s0 h
theorem c404_56 {L : Nat} {xs : Nat → Int32} {zf : Value} {D : dD} {w k : Nat} (hD : dO L xs zf D k) (hz : zf.category = 1) : ∀ (s0 : Int32) (lv : rm_L) (h : rm_H) (r : dR), b404_56 L xs zf D w  s0 h = some r → dq L xs zf ah_M404 56 lv [.int s0] h (k + 1) r := by
  intro s0 lv h r hh
  unfold b404_56 at hh
  exact dq_retI (some .int) (by decide +kernel) rfl hh
def b404_0 (L : Nat) (xs : Nat → Int32) (zf : Value) (D : dD) (w : Nat) (o0 : Option Nat) (i1 : Int32) (i2 : Int32) (h : rm_H) : Option dR :=
  (dgI L xs h 74 [15] o0).bind fun x1 =>
  if mx_f1 .eq x1 = true then
    b404_26 L xs zf D w h
  else
    if mx_f1 .lt i1 = true then
      b404_26 L xs zf D w h
    else
      (dgI L xs h 81 [15] o0).bind fun x5 =>
      if mx_f2 .ge i1 x5 = true then
        b404_26 L xs zf D w h
      else
        if mx_f2 .lt i1 200 = true then
          if mx_f1 .ne i2 = true then
            if mx_f2 .ne i2 1 = true then
              b404_56 L xs zf D w 0 h
            else
              (dgR L xs h 108 [15] o0).bind fun p11 =>
              (daI L xs h p11 i1).bind fun x13 =>
              b404_56 L xs zf D w x13 h
          else
            (dgR L xs h 107 [15] o0).bind fun p15 =>
            (daI L xs h p15 i1).bind fun x17 =>
            b404_56 L xs zf D w x17 h
        else
          b404_26 L xs zf D w h
theorem c404_0 {L : Nat} {xs : Nat → Int32} {zf : Value} {D : dD} {w k : Nat} (hD : dO L xs zf D k) (hz : zf.category = 1) : ∀ (o0 : Option Nat) (i1 : Int32) (i2 : Int32) (lv : rm_L) (h : rm_H) (r : dR), rm_get lv 0 = some (va_rf o0) → rm_get lv 1 = some (.int i1) → rm_get lv 2 = some (.int i2) → b404_0 L xs zf D w  o0 i1 i2 h = some r → dq L xs zf ah_M404 0 lv [] h (k + 1) r := by
  intro o0 i1 i2 lv h r G0 G1 G2 hh
  unfold b404_0 at hh
  refine dq_aln 0 1 (by decide +kernel) rfl G0 ?_
  obtain ⟨x1, q2, hh⟩ := db hh
  refine dq_gI 569 74 [15] 4 (by decide +kernel) rfl q2 ?_
  rcases di hh with ⟨q3, hh⟩ | ⟨q3, hh⟩
  · refine dq_1 .eq 22 true 26 q3 (by decide +kernel) ?_
    exact c404_26 hD hz  _ _ _  hh
  · refine dq_1 .eq 22 false 7 q3 (by decide +kernel) ?_
    refine dq_iln 1 8 (by decide +kernel) rfl G1 ?_
    rcases di hh with ⟨q4, hh⟩ | ⟨q4, hh⟩
    · refine dq_1 .lt 18 true 26 q4 (by decide +kernel) ?_
      exact c404_26 hD hz  _ _ _  hh
    · refine dq_1 .lt 18 false 11 q4 (by decide +kernel) ?_
      refine dq_iln 1 12 (by decide +kernel) rfl G1 ?_
      refine dq_aln 0 13 (by decide +kernel) rfl G0 ?_
      obtain ⟨x5, q6, hh⟩ := db hh
      refine dq_gI 681 81 [15] 16 (by decide +kernel) rfl q6 ?_
      rcases di hh with ⟨q7, hh⟩ | ⟨q7, hh⟩
      · refine dq_2 .ge 10 true 26 q7 (by decide +kernel) ?_
        exact c404_26 hD hz  _ _ _  hh
      · refine dq_2 .ge 10 false 19 q7 (by decide +kernel) ?_
        refine dq_iln 1 20 (by decide +kernel) rfl G1 ?_
        refine dq_S (.sipush 200) 3 [] 23 _ [.int 200, .int i1] (by decide +kernel) rfl ?_
        rcases di hh with ⟨q8, hh⟩ | ⟨q8, hh⟩
        · refine dq_2 .lt 5 true 28 q8 (by decide +kernel) ?_
          refine dq_iln 2 29 (by decide +kernel) rfl G2 ?_
          rcases di hh with ⟨q9, hh⟩ | ⟨q9, hh⟩
          · refine dq_1 .ne 12 true 41 q9 (by decide +kernel) ?_
            refine dq_iln 2 42 (by decide +kernel) rfl G2 ?_
            refine dq_S (.iconst 1) 1 [] 43 _ [.int 1, .int i2] (by decide +kernel) rfl ?_
            rcases di hh with ⟨q10, hh⟩ | ⟨q10, hh⟩
            · refine dq_2 .ne 12 true 55 q10 (by decide +kernel) ?_
              refine dq_S (.iconst 0) 1 [] 56 _ [.int 0] (by decide +kernel) rfl ?_
              exact c404_56 hD hz _ _ _ _  hh
            · refine dq_2 .ne 12 false 46 q10 (by decide +kernel) ?_
              refine dq_aln 0 47 (by decide +kernel) rfl G0 ?_
              obtain ⟨p11, q12, hh⟩ := db hh
              refine dq_gR 236 108 [15] 50 (by decide +kernel) rfl q12 ?_
              refine dq_iln 1 51 (by decide +kernel) rfl G1 ?_
              obtain ⟨x13, q14, hh⟩ := db hh
              refine dq_aI 52 (by decide +kernel) rfl q14 ?_
              refine dq_S (.goto 4) 3 [] 56 _ [.int x13] (by decide +kernel) rfl ?_
              exact c404_56 hD hz _ _ _ _  hh
          · refine dq_1 .ne 12 false 32 q9 (by decide +kernel) ?_
            refine dq_aln 0 33 (by decide +kernel) rfl G0 ?_
            obtain ⟨p15, q16, hh⟩ := db hh
            refine dq_gR 233 107 [15] 36 (by decide +kernel) rfl q16 ?_
            refine dq_iln 1 37 (by decide +kernel) rfl G1 ?_
            obtain ⟨x17, q18, hh⟩ := db hh
            refine dq_aI 38 (by decide +kernel) rfl q18 ?_
            refine dq_S (.goto 18) 3 [] 56 _ [.int x17] (by decide +kernel) rfl ?_
            exact c404_56 hD hz _ _ _ _  hh
        · refine dq_2 .lt 5 false 26 q8 (by decide +kernel) ?_
          exact c404_26 hD hz  _ _ _  hh
def f404 (L : Nat) (xs : Nat → Int32) (zf : Value) (D : dD) (w : Nat) (As : List Value) (h : rm_H) : Option dR := match As with
  | [v0, .int i1, .int i2] => (rm_rf v0).bind fun o0 => b404_0 L xs zf D w o0 i1 i2 h
  | _ => none
theorem d404 {L : Nat} {xs : Nat → Int32} {zf : Value} {D : dD} {w k : Nat} (hD : dO L xs zf D k) (hz : zf.category = 1) (As : List Value) (h : rm_H) (r : dR) (hh : f404 L xs zf D w As h = some r) : dq L xs zf ah_M404 0 (lv_args 0 As) [] h (k + 1) r := by
  unfold f404 at hh
  split at hh
  · obtain ⟨o0, e0, hb0⟩ := db hh
    have e0 := rm_rf_v _ _ e0
    subst e0
    refine c404_0 hD hz _ _ _ _ _ _ ?_ ?_ ?_ hb0
    all_goals (simp only [la_r, la_i, la_j]; rfl)
  · cases hh
def b405_30 (L : Nat) (xs : Nat → Int32) (zf : Value) (D : dD) (w : Nat) (h : rm_H) : Option dR :=
  drI (some .int) (-1) h
theorem c405_30 {L : Nat} {xs : Nat → Int32} {zf : Value} {D : dD} {w k : Nat} (hD : dO L xs zf D k) (hz : zf.category = 1) : ∀ (lv : rm_L) (h : rm_H) (r : dR), b405_30 L xs zf D w  h = some r → dq L xs zf ah_M405 30 lv [] h (k + 1) r := by
  intro lv h r hh
  unfold b405_30 at hh
  refine dq_S (.iconst (-1)) 1 [] 31 _ [.int (-1)] (by decide +kernel) rfl ?_
  exact dq_retI (some .int) (by decide +kernel) rfl hh
def b405_0 (L : Nat) (xs : Nat → Int32) (zf : Value) (D : dD) (w : Nat) (o0 : Option Nat) (i1 : Int32) (i2 : Int32) (h : rm_H) : Option dR :=
  ((dcV L xs D 406 [15] o0 [] h).bind dxV).bind fun h1 =>
  ((dcV L xs D 381 [15] o0 [.int i1] h1).bind dxI).bind fun x5 =>
  if mx_f1 .eq x5.1 = true then
    b405_30 L xs zf D w x5.2
  else
    if mx_f1 .lt i2 = true then
      b405_30 L xs zf D w x5.2
    else
      (dgR L xs x5.2 88 [15] o0).bind fun p11 =>
      (daI L xs x5.2 p11 i1).bind fun x13 =>
      ((dcV L xs D 373 [15] o0 [.int x13] x5.2).bind dxI).bind fun x15 =>
      if mx_f2 .lt i2 x15.1 = true then
        (dgR L xs x15.2 94 [15] o0).bind fun p20 =>
        (daJ L xs x15.2 p20 ((8 * i1) + i2)).bind fun y22 =>
        (dgR L xs x15.2 95 [15] o0).bind fun p24 =>
        ((dcV L xs D 407 [15] o0 [.long y22, va_rf p24, .int (400 * i1)] x15.2).bind dxV).bind fun h26 =>
        (dgI L xs h26 111 [15] o0).bind fun x30 =>
        drI (some .int) x30 h26
      else
        b405_30 L xs zf D w x15.2
theorem c405_0 {L : Nat} {xs : Nat → Int32} {zf : Value} {D : dD} {w k : Nat} (hD : dO L xs zf D k) (hz : zf.category = 1) : ∀ (o0 : Option Nat) (i1 : Int32) (i2 : Int32) (lv : rm_L) (h : rm_H) (r : dR), rm_get lv 0 = some (va_rf o0) → rm_get lv 1 = some (.int i1) → rm_get lv 2 = some (.int i2) → b405_0 L xs zf D w  o0 i1 i2 h = some r → dq L xs zf ah_M405 0 lv [] h (k + 1) r := by
  intro o0 i1 i2 lv h r G0 G1 G2 hh
  unfold b405_0 at hh
  refine dq_aln 0 1 (by decide +kernel) rfl G0 ?_
  obtain ⟨h1, q2, hh⟩ := db hh
  obtain ⟨a3, q4, q2⟩ := db q2
  rw [dq_xV q2] at q4
  refine dq_cvi hD 740 406 5 0 [15] o0 [] [] 4 [] (by decide +kernel) ap_406 ⟨⟨Nat.le_of_ble_eq_true rfl, by decide⟩, rfl, rfl⟩ (dq_ok8 [1] [] (dc_r dc_n) dc_n (by decide +kernel)) (by decide +kernel) rfl q4 rfl ?_
  refine dq_aln 0 5 (by decide +kernel) rfl G0 ?_
  refine dq_iln 1 6 (by decide +kernel) rfl G1 ?_
  obtain ⟨x5, q6, hh⟩ := db hh
  obtain ⟨a7, q8, q6⟩ := db q6
  rw [dq_xI q6] at q8
  refine dq_cvi hD 709 381 5 1 [15] o0 [.int i1] [] 9 [.int x5.1] (by decide +kernel) ap_381 ⟨⟨Nat.le_of_ble_eq_true rfl, by decide⟩, rfl, rfl⟩ (dq_ok8 [1, 1] [] (dc_r (dc_i dc_n)) dc_n (by decide +kernel)) (by decide +kernel) rfl q8 rfl ?_
  rcases di hh with ⟨q9, hh⟩ | ⟨q9, hh⟩
  · refine dq_1 .eq 21 true 30 q9 (by decide +kernel) ?_
    exact c405_30 hD hz  _ _ _  hh
  · refine dq_1 .eq 21 false 12 q9 (by decide +kernel) ?_
    refine dq_iln 2 13 (by decide +kernel) rfl G2 ?_
    rcases di hh with ⟨q10, hh⟩ | ⟨q10, hh⟩
    · refine dq_1 .lt 17 true 30 q10 (by decide +kernel) ?_
      exact c405_30 hD hz  _ _ _  hh
    · refine dq_1 .lt 17 false 16 q10 (by decide +kernel) ?_
      refine dq_iln 2 17 (by decide +kernel) rfl G2 ?_
      refine dq_aln 0 18 (by decide +kernel) rfl G0 ?_
      refine dq_aln 0 19 (by decide +kernel) rfl G0 ?_
      obtain ⟨p11, q12, hh⟩ := db hh
      refine dq_gR 175 88 [15] 22 (by decide +kernel) rfl q12 ?_
      refine dq_iln 1 23 (by decide +kernel) rfl G1 ?_
      obtain ⟨x13, q14, hh⟩ := db hh
      refine dq_aI 24 (by decide +kernel) rfl q14 ?_
      obtain ⟨x15, q16, hh⟩ := db hh
      obtain ⟨a17, q18, q16⟩ := db q16
      rw [dq_xI q16] at q18
      refine dq_cvi hD 605 373 5 1 [15] o0 [.int x13] [.int i2] 27 [.int x15.1, .int i2] (by decide +kernel) ap_373 ⟨⟨Nat.le_of_ble_eq_true rfl, by decide⟩, rfl, rfl⟩ (dq_ok8 [1, 1] [1] (dc_r (dc_i dc_n)) (dc_i dc_n) (by decide +kernel)) (by decide +kernel) rfl q18 rfl ?_
      rcases di hh with ⟨q19, hh⟩ | ⟨q19, hh⟩
      · refine dq_2 .lt 5 true 32 q19 (by decide +kernel) ?_
        refine dq_aln 0 33 (by decide +kernel) rfl G0 ?_
        refine dq_aln 0 34 (by decide +kernel) rfl G0 ?_
        obtain ⟨p20, q21, hh⟩ := db hh
        refine dq_gR 193 94 [15] 37 (by decide +kernel) rfl q21 ?_
        refine dq_S (.bipush 8) 2 [] 39 _ [.int 8, va_rf p20, va_rf o0] (by decide +kernel) rfl ?_
        refine dq_iln 1 40 (by decide +kernel) rfl G1 ?_
        refine dq_S (.imul) 1 [] 41 _ [.int (8 * i1), va_rf p20, va_rf o0] (by decide +kernel) rfl ?_
        refine dq_iln 2 42 (by decide +kernel) rfl G2 ?_
        refine dq_S (.iadd) 1 [] 43 _ [.int ((8 * i1) + i2), va_rf p20, va_rf o0] (by decide +kernel) rfl ?_
        obtain ⟨y22, q23, hh⟩ := db hh
        refine dq_aJ 44 (by decide +kernel) rfl q23 ?_
        refine dq_aln 0 45 (by decide +kernel) rfl G0 ?_
        obtain ⟨p24, q25, hh⟩ := db hh
        refine dq_gR 196 95 [15] 48 (by decide +kernel) rfl q25 ?_
        refine dq_S (.sipush 400) 3 [] 51 _ [.int 400, va_rf p24, .long y22, va_rf o0] (by decide +kernel) rfl ?_
        refine dq_iln 1 52 (by decide +kernel) rfl G1 ?_
        refine dq_S (.imul) 1 [] 53 _ [.int (400 * i1), va_rf p24, .long y22, va_rf o0] (by decide +kernel) rfl ?_
        obtain ⟨h26, q27, hh⟩ := db hh
        obtain ⟨a28, q29, q27⟩ := db q27
        rw [dq_xV q27] at q29
        refine dq_cvi hD 743 407 5 3 [15] o0 [.long y22, va_rf p24, .int (400 * i1)] [] 56 [] (by decide +kernel) ap_407 ⟨⟨Nat.le_of_ble_eq_true rfl, by decide⟩, rfl, rfl⟩ (dq_ok8 [1, 2, 1, 1] [] (dc_r (dc_j (dc_r (dc_i dc_n)))) dc_n (by decide +kernel)) (by decide +kernel) rfl q29 rfl ?_
        refine dq_aln 0 57 (by decide +kernel) rfl G0 ?_
        obtain ⟨x30, q31, hh⟩ := db hh
        refine dq_gI 572 111 [15] 60 (by decide +kernel) rfl q31 ?_
        exact dq_retI (some .int) (by decide +kernel) rfl hh
      · refine dq_2 .lt 5 false 30 q19 (by decide +kernel) ?_
        exact c405_30 hD hz  _ _ _  hh
def f405 (L : Nat) (xs : Nat → Int32) (zf : Value) (D : dD) (w : Nat) (As : List Value) (h : rm_H) : Option dR := match As with
  | [v0, .int i1, .int i2] => (rm_rf v0).bind fun o0 => b405_0 L xs zf D w o0 i1 i2 h
  | _ => none
theorem d405 {L : Nat} {xs : Nat → Int32} {zf : Value} {D : dD} {w k : Nat} (hD : dO L xs zf D k) (hz : zf.category = 1) (As : List Value) (h : rm_H) (r : dR) (hh : f405 L xs zf D w As h = some r) : dq L xs zf ah_M405 0 (lv_args 0 As) [] h (k + 1) r := by
  unfold f405 at hh
  split at hh
  · obtain ⟨o0, e0, hb0⟩ := db hh
    have e0 := rm_rf_v _ _ e0
    subst e0
    refine c405_0 hD hz _ _ _ _ _ _ ?_ ?_ ?_ hb0
    all_goals (simp only [la_r, la_i, la_j]; rfl)
  · cases hh
def b406_7 (L : Nat) (xs : Nat → Int32) (zf : Value) (D : dD) (w : Nat) : Nat → Option Nat → Int32 → rm_H → Option dR
  | 0, _, _, _ => none
  | n + 1, o0, i1, h =>
    if mx_f2 .gt i1 400 = true then
      some (none, h)
    else
      (dgR L xs h 112 [15] o0).bind fun p2 =>
      (dsB h p2 i1 0).bind fun h4 =>
      b406_7 L xs zf D w n o0 (i1 + 1) h4
theorem c406_7 {L : Nat} {xs : Nat → Int32} {zf : Value} {D : dD} {w k : Nat} (hD : dO L xs zf D k) (hz : zf.category = 1) : ∀ (n : Nat) (o0 : Option Nat) (i1 : Int32) (lv : rm_L) (h : rm_H) (r : dR), rm_get lv 0 = some (va_rf o0) → rm_get lv 1 = some (.int i1) → b406_7 L xs zf D w n  o0 i1 h = some r → dq L xs zf ah_M406 7 lv [] h (k + 1) r := by
  intro n
  induction n with
  | zero =>
    intro o0 i1 lv h r G0 G1 hh
    cases hh
  | succ n ih =>
    intro o0 i1 lv h r G0 G1 hh
    rw [b406_7] at hh
    refine dq_iln 1 8 (by decide +kernel) rfl G1 ?_
    refine dq_S (.sipush 400) 3 [] 11 _ [.int 400, .int i1] (by decide +kernel) rfl ?_
    rcases di hh with ⟨q1, hh⟩ | ⟨q1, hh⟩
    · refine dq_2 .gt 16 true 27 q1 (by decide +kernel) ?_
      cases hh
      exact dq_ret0 (by decide +kernel) rfl
    · refine dq_2 .gt 16 false 14 q1 (by decide +kernel) ?_
      refine dq_aln 0 15 (by decide +kernel) rfl G0 ?_
      obtain ⟨p2, q3, hh⟩ := db hh
      refine dq_gR 245 112 [15] 18 (by decide +kernel) rfl q3 ?_
      refine dq_iln 1 19 (by decide +kernel) rfl G1 ?_
      refine dq_S (.iconst 0) 1 [] 20 _ [.int 0, .int i1, va_rf p2] (by decide +kernel) rfl ?_
      obtain ⟨h4, q5, hh⟩ := db hh
      refine dq_sB1 21 (by decide +kernel) rfl q5 ?_
      refine dq_incy 1 1 1 24 (by decide +kernel) ⟨rfl, by decide +kernel, by decide +kernel⟩ G1 ?_
      have g6 := dg_ne (i := 1) (u := .int (i1 + 1)) (by decide) (Or.inr (drc _)) G0
      have g7 := dg_eq (lv) 1 (.int (i1 + 1))
      refine dq_S (.goto (-17)) 3 [] 7 _ [] (by decide +kernel) rfl ?_
      exact ih _ _ _ _ _ g6 g7 hh
def b406_0 (L : Nat) (xs : Nat → Int32) (zf : Value) (D : dD) (w : Nat) (o0 : Option Nat) (h : rm_H) : Option dR :=
  (dpF h 111 [15] o0 (.int 0)).bind fun h1 =>
  b406_7 L xs zf D w w o0 0 h1
theorem c406_0 {L : Nat} {xs : Nat → Int32} {zf : Value} {D : dD} {w k : Nat} (hD : dO L xs zf D k) (hz : zf.category = 1) : ∀ (o0 : Option Nat) (lv : rm_L) (h : rm_H) (r : dR), rm_get lv 0 = some (va_rf o0) → b406_0 L xs zf D w  o0 h = some r → dq L xs zf ah_M406 0 lv [] h (k + 1) r := by
  intro o0 lv h r G0 hh
  unfold b406_0 at hh
  refine dq_aln 0 1 (by decide +kernel) rfl G0 ?_
  refine dq_S (.iconst 0) 1 [] 2 _ [.int 0, va_rf o0] (by decide +kernel) rfl ?_
  obtain ⟨h1, q2, hh⟩ := db hh
  refine dq_put 572 111 [15] 5 (by decide +kernel) rfl q2 ?_
  refine dq_S (.iconst 0) 1 [] 6 _ [.int 0] (by decide +kernel) rfl ?_
  refine dq_isn 1 7 (by decide +kernel) (by decide +kernel) ?_
  have g3 := dg_ne (i := 1) (u := .int 0) (by decide) (Or.inr (drc _)) G0
  have g4 := dg_eq (lv) 1 (.int 0)
  exact c406_7 hD hz _ _ _ _ _ _ g3 g4 hh
def f406 (L : Nat) (xs : Nat → Int32) (zf : Value) (D : dD) (w : Nat) (As : List Value) (h : rm_H) : Option dR := match As with
  | [v0] => (rm_rf v0).bind fun o0 => b406_0 L xs zf D w o0 h
  | _ => none
theorem d406 {L : Nat} {xs : Nat → Int32} {zf : Value} {D : dD} {w k : Nat} (hD : dO L xs zf D k) (hz : zf.category = 1) (As : List Value) (h : rm_H) (r : dR) (hh : f406 L xs zf D w As h = some r) : dq L xs zf ah_M406 0 (lv_args 0 As) [] h (k + 1) r := by
  unfold f406 at hh
  split at hh
  · obtain ⟨o0, e0, hb0⟩ := db hh
    have e0 := rm_rf_v _ _ e0
    subst e0
    refine c406_0 hD hz _ _ _ _ ?_ hb0
    all_goals (simp only [la_r, la_i, la_j]; rfl)
  · cases hh
def b407_184 (L : Nat) (xs : Nat → Int32) (zf : Value) (D : dD) (w : Nat) (K29 : Option Nat → Option Nat → Int32 → Int32 → rm_H → Option dR) (o0 : Option Nat) (o3 : Option Nat) (i4 : Int32) (i5 : Int32) (h : rm_H) : Option dR :=
  K29 o0 o3 i4 i5 h
theorem c407_184 {L : Nat} {xs : Nat → Int32} {zf : Value} {D : dD} {w k : Nat} {K29 : Option Nat → Option Nat → Int32 → Int32 → rm_H → Option dR} (hD : dO L xs zf D k) (hz : zf.category = 1) (hK29 : ∀ (o0 : Option Nat) (o3 : Option Nat) (i4 : Int32) (i5 : Int32) (lv : rm_L) (h : rm_H) (r : dR), rm_get lv 0 = some (va_rf o0) → rm_get lv 3 = some (va_rf o3) → rm_get lv 4 = some (.int i4) → rm_get lv 5 = some (.int i5) → K29 o0 o3 i4 i5 h = some r → dq L xs zf ah_M407 29 lv [] h (k + 1) r) : ∀ (o0 : Option Nat) (o3 : Option Nat) (i4 : Int32) (i5 : Int32) (lv : rm_L) (h : rm_H) (r : dR), rm_get lv 0 = some (va_rf o0) → rm_get lv 3 = some (va_rf o3) → rm_get lv 4 = some (.int i4) → rm_get lv 5 = some (.int i5) → b407_184 L xs zf D w K29  o0 o3 i4 i5 h = some r → dq L xs zf ah_M407 184 lv [] h (k + 1) r := by
  intro o0 o3 i4 i5 lv h r G0 G3 G4 G5 hh
  unfold b407_184 at hh
  refine dq_S (.goto (-155)) 3 [] 29 _ [] (by decide +kernel) rfl ?_
  exact hK29 _ _ _ _ _ _ _ G0 G3 G4 G5 hh
def b407_112 (L : Nat) (xs : Nat → Int32) (zf : Value) (D : dD) (w : Nat) (K29 : Option Nat → Option Nat → Int32 → Int32 → rm_H → Option dR) (o0 : Option Nat) (o3 : Option Nat) (i4 : Int32) (i5 : Int32) (i6 : Int32) (i7 : Int32) (i8 : Int32) (h : rm_H) : Option dR :=
  (dgR L xs h 39 [15] o0).bind fun p1 =>
  (dgR L xs h 35 [15] o0).bind fun p3 =>
  (daI L xs h p3 i8).bind fun x5 =>
  (daJ L xs h p1 (x5 + i7)).bind fun y7 =>
  ((dcV L xs D 409 [15] o0 [.long y7] h).bind dxV).bind fun h9 =>
  ((dcV L xs D 410 [15] o0 [.int 58] h9).bind dxV).bind fun h13 =>
  (dgR L xs h13 86 [15] o0).bind fun p17 =>
  (daI L xs h13 p17 i6).bind fun x19 =>
  (daJ L xs h13 o3 ((i4 + x19) + i7)).bind fun y21 =>
  ((dcV L xs D 408 [15] o0 [.long y21] h13).bind dxI).bind fun x31 =>
  if mx_f1 .eq x31.1 = true then
    b407_184 L xs zf D w K29 o0 o3 i4 i5 x31.2
  else
    (dgR L xs x31.2 113 [15] o0).bind fun p36 =>
    (dsI x31.2 p36 i5 (Int64.toInt32 y21)).bind fun h38 =>
    (dgR L xs h38 114 [15] o0).bind fun p40 =>
    (dsI h38 p40 i5 0).bind fun h42 =>
    b407_184 L xs zf D w K29 o0 o3 i4 (i5 + 1) h42
theorem c407_112 {L : Nat} {xs : Nat → Int32} {zf : Value} {D : dD} {w k : Nat} {K29 : Option Nat → Option Nat → Int32 → Int32 → rm_H → Option dR} (hD : dO L xs zf D k) (hz : zf.category = 1) (hK29 : ∀ (o0 : Option Nat) (o3 : Option Nat) (i4 : Int32) (i5 : Int32) (lv : rm_L) (h : rm_H) (r : dR), rm_get lv 0 = some (va_rf o0) → rm_get lv 3 = some (va_rf o3) → rm_get lv 4 = some (.int i4) → rm_get lv 5 = some (.int i5) → K29 o0 o3 i4 i5 h = some r → dq L xs zf ah_M407 29 lv [] h (k + 1) r) : ∀ (o0 : Option Nat) (o3 : Option Nat) (i4 : Int32) (i5 : Int32) (i6 : Int32) (i7 : Int32) (i8 : Int32) (lv : rm_L) (h : rm_H) (r : dR), rm_get lv 0 = some (va_rf o0) → rm_get lv 3 = some (va_rf o3) → rm_get lv 4 = some (.int i4) → rm_get lv 5 = some (.int i5) → rm_get lv 6 = some (.int i6) → rm_get lv 7 = some (.int i7) → rm_get lv 8 = some (.int i8) → b407_112 L xs zf D w K29  o0 o3 i4 i5 i6 i7 i8 h = some r → dq L xs zf ah_M407 112 lv [] h (k + 1) r := by
  intro o0 o3 i4 i5 i6 i7 i8 lv h r G0 G3 G4 G5 G6 G7 G8 hh
  unfold b407_112 at hh
  refine dq_aln 0 113 (by decide +kernel) rfl G0 ?_
  refine dq_aln 0 114 (by decide +kernel) rfl G0 ?_
  obtain ⟨p1, q2, hh⟩ := db hh
  refine dq_gR 106 39 [15] 117 (by decide +kernel) rfl q2 ?_
  refine dq_aln 0 118 (by decide +kernel) rfl G0 ?_
  obtain ⟨p3, q4, hh⟩ := db hh
  refine dq_gR 96 35 [15] 121 (by decide +kernel) rfl q4 ?_
  refine dq_il 8 123 (by decide +kernel) rfl G8 ?_
  obtain ⟨x5, q6, hh⟩ := db hh
  refine dq_aI 124 (by decide +kernel) rfl q6 ?_
  refine dq_il 7 126 (by decide +kernel) rfl G7 ?_
  refine dq_S (.iadd) 1 [] 127 _ [.int (x5 + i7), va_rf p1, va_rf o0] (by decide +kernel) rfl ?_
  obtain ⟨y7, q8, hh⟩ := db hh
  refine dq_aJ 128 (by decide +kernel) rfl q8 ?_
  obtain ⟨h9, q10, hh⟩ := db hh
  obtain ⟨a11, q12, q10⟩ := db q10
  rw [dq_xV q10] at q12
  refine dq_cvi hD 729 409 5 1 [15] o0 [.long y7] [] 131 [] (by decide +kernel) ap_409 ⟨⟨Nat.le_of_ble_eq_true rfl, by decide⟩, rfl, rfl⟩ (dq_ok8 [1, 2] [] (dc_r (dc_j dc_n)) dc_n (by decide +kernel)) (by decide +kernel) rfl q12 rfl ?_
  refine dq_aln 0 132 (by decide +kernel) rfl G0 ?_
  refine dq_S (.bipush 58) 2 [] 134 _ [.int 58, va_rf o0] (by decide +kernel) rfl ?_
  obtain ⟨h13, q14, hh⟩ := db hh
  obtain ⟨a15, q16, q14⟩ := db q14
  rw [dq_xV q14] at q16
  refine dq_cvi hD 720 410 5 1 [15] o0 [.int 58] [] 137 [] (by decide +kernel) ap_410 ⟨⟨Nat.le_of_ble_eq_true rfl, by decide⟩, rfl, rfl⟩ (dq_ok8 [1, 1] [] (dc_r (dc_i dc_n)) dc_n (by decide +kernel)) (by decide +kernel) rfl q16 rfl ?_
  refine dq_aln 3 138 (by decide +kernel) rfl G3 ?_
  refine dq_il 4 140 (by decide +kernel) rfl G4 ?_
  refine dq_aln 0 141 (by decide +kernel) rfl G0 ?_
  obtain ⟨p17, q18, hh⟩ := db hh
  refine dq_gR 172 86 [15] 144 (by decide +kernel) rfl q18 ?_
  refine dq_il 6 146 (by decide +kernel) rfl G6 ?_
  obtain ⟨x19, q20, hh⟩ := db hh
  refine dq_aI 147 (by decide +kernel) rfl q20 ?_
  refine dq_S (.iadd) 1 [] 148 _ [.int (i4 + x19), va_rf o3] (by decide +kernel) rfl ?_
  refine dq_il 7 150 (by decide +kernel) rfl G7 ?_
  refine dq_S (.iadd) 1 [] 151 _ [.int ((i4 + x19) + i7), va_rf o3] (by decide +kernel) rfl ?_
  obtain ⟨y21, q22, hh⟩ := db hh
  refine dq_aJ 152 (by decide +kernel) rfl q22 ?_
  refine dq_ls 9 154 (by decide +kernel) (by decide +kernel) ?_
  have g23 := dg_ne2 (i := 9) (u := .long y21) (by decide) (by decide) (Or.inl (by decide)) G0
  have g24 := dg_ne2 (i := 9) (u := .long y21) (by decide) (by decide) (Or.inl (by decide)) G3
  have g25 := dg_ne2 (i := 9) (u := .long y21) (by decide) (by decide) (Or.inl (by decide)) G4
  have g26 := dg_ne2 (i := 9) (u := .long y21) (by decide) (by decide) (Or.inl (by decide)) G5
  have g27 := dg_ne2 (i := 9) (u := .long y21) (by decide) (by decide) (Or.inl (by decide)) G6
  have g28 := dg_ne2 (i := 9) (u := .long y21) (by decide) (by decide) (Or.inl (by decide)) G7
  have g29 := dg_ne2 (i := 9) (u := .long y21) (by decide) (by decide) (Or.inr rfl) G8
  have g30 := dg_eq2 (lv) 9 (.long y21)
  refine dq_aln 0 155 (by decide +kernel) rfl g23 ?_
  refine dq_ll 9 157 (by decide +kernel) rfl g30 ?_
  obtain ⟨x31, q32, hh⟩ := db hh
  obtain ⟨a33, q34, q32⟩ := db q32
  rw [dq_xI q32] at q34
  refine dq_cvi hD 736 408 5 1 [15] o0 [.long y21] [] 160 [.int x31.1] (by decide +kernel) ap_408 ⟨⟨Nat.le_of_ble_eq_true rfl, by decide⟩, rfl, rfl⟩ (dq_ok8 [1, 2] [] (dc_r (dc_j dc_n)) dc_n (by decide +kernel)) (by decide +kernel) rfl q34 rfl ?_
  rcases di hh with ⟨q35, hh⟩ | ⟨q35, hh⟩
  · refine dq_1 .eq 24 true 184 q35 (by decide +kernel) ?_
    exact c407_184 hD hz hK29 _ _ _ _ _ _ _ g23 g24 g25 g26 hh
  · refine dq_1 .eq 24 false 163 q35 (by decide +kernel) ?_
    refine dq_aln 0 164 (by decide +kernel) rfl g23 ?_
    obtain ⟨p36, q37, hh⟩ := db hh
    refine dq_gR 248 113 [15] 167 (by decide +kernel) rfl q37 ?_
    refine dq_il 5 169 (by decide +kernel) rfl g26 ?_
    refine dq_ll 9 171 (by decide +kernel) rfl g30 ?_
    refine dq_S (.l2i) 1 [] 172 _ [.int (Int64.toInt32 y21), .int i5, va_rf p36] (by decide +kernel) rfl ?_
    obtain ⟨h38, q39, hh⟩ := db hh
    refine dq_sI 173 (by decide +kernel) rfl q39 ?_
    refine dq_aln 0 174 (by decide +kernel) rfl g23 ?_
    obtain ⟨p40, q41, hh⟩ := db hh
    refine dq_gR 251 114 [15] 177 (by decide +kernel) rfl q41 ?_
    refine dq_il 5 179 (by decide +kernel) rfl g26 ?_
    refine dq_S (.iconst 0) 1 [] 180 _ [.int 0, .int i5, va_rf p40] (by decide +kernel) rfl ?_
    obtain ⟨h42, q43, hh⟩ := db hh
    refine dq_sI 181 (by decide +kernel) rfl q43 ?_
    refine dq_incy 5 1 1 184 (by decide +kernel) ⟨rfl, by decide +kernel, by decide +kernel⟩ g26 ?_
    have g44 := dg_ne (i := 5) (u := .int (i5 + 1)) (by decide) (Or.inl (by decide)) g23
    have g45 := dg_ne (i := 5) (u := .int (i5 + 1)) (by decide) (Or.inl (by decide)) g24
    have g46 := dg_ne (i := 5) (u := .int (i5 + 1)) (by decide) (Or.inr rfl) g25
    have g47 := dg_ne (i := 5) (u := .int (i5 + 1)) (by decide) (Or.inl (by decide)) g27
    have g48 := dg_ne (i := 5) (u := .int (i5 + 1)) (by decide) (Or.inl (by decide)) g28
    have g49 := dg_ne (i := 5) (u := .int (i5 + 1)) (by decide) (Or.inl (by decide)) g29
    have g50 := dg_ne (i := 5) (u := .int (i5 + 1)) (by decide) (Or.inl (by decide)) g30
    have g51 := dg_eq (rm_set2 (lv) 9 (.long y21)) 5 (.int (i5 + 1))
    exact c407_184 hD hz hK29 _ _ _ _ _ _ _ g44 g45 g46 g51 hh
def b407_29 (L : Nat) (xs : Nat → Int32) (zf : Value) (D : dD) (w : Nat) : Nat → Option Nat → Option Nat → Int32 → Int32 → rm_H → Option dR
  | 0, _, _, _, _, _ => none
  | n + 1, o0, o3, i4, i5, h =>
    if mx_f1 .le i5 = true then
      some (none, h)
    else
      (dgR L xs h 113 [15] o0).bind fun p2 =>
      (daI L xs h p2 (i5 - 1)).bind fun x4 =>
      (dgR L xs h 114 [15] o0).bind fun p11 =>
      (daI L xs h p11 (i5 - 1)).bind fun x13 =>
      (dgR L xs h 85 [15] o0).bind fun p21 =>
      (daI L xs h p21 x4).bind fun x23 =>
      ((dcV L xs D 373 [15] o0 [.int x23] h).bind dxI).bind fun x32 =>
      if mx_f2 .ne x13 x32.1 = true then
        (dgR L xs x32.2 114 [15] o0).bind fun p37 =>
        (daI L xs x32.2 p37 (i5 - 1)).bind fun x39 =>
        (dsI x32.2 p37 (i5 - 1) (x39 + 1)).bind fun h41 =>
        if mx_f1 .le x13 = true then
          b407_112 L xs zf D w (b407_29 L xs zf D w n) o0 o3 i4 i5 x4 x13 x23 h41
        else
          ((dcV L xs D 410 [15] o0 [.int 44] h41).bind dxV).bind fun h44 =>
          b407_112 L xs zf D w (b407_29 L xs zf D w n) o0 o3 i4 i5 x4 x13 x23 h44
      else
        ((dcV L xs D 410 [15] o0 [.int 125] x32.2).bind dxV).bind fun h48 =>
        b407_29 L xs zf D w n o0 o3 i4 (i5 + (-1)) h48
theorem c407_29 {L : Nat} {xs : Nat → Int32} {zf : Value} {D : dD} {w k : Nat} (hD : dO L xs zf D k) (hz : zf.category = 1) : ∀ (n : Nat) (o0 : Option Nat) (o3 : Option Nat) (i4 : Int32) (i5 : Int32) (lv : rm_L) (h : rm_H) (r : dR), rm_get lv 0 = some (va_rf o0) → rm_get lv 3 = some (va_rf o3) → rm_get lv 4 = some (.int i4) → rm_get lv 5 = some (.int i5) → b407_29 L xs zf D w n  o0 o3 i4 i5 h = some r → dq L xs zf ah_M407 29 lv [] h (k + 1) r := by
  intro n
  induction n with
  | zero =>
    intro o0 o3 i4 i5 lv h r G0 G3 G4 G5 hh
    cases hh
  | succ n ih =>
    intro o0 o3 i4 i5 lv h r G0 G3 G4 G5 hh
    rw [b407_29] at hh
    refine dq_il 5 31 (by decide +kernel) rfl G5 ?_
    rcases di hh with ⟨q1, hh⟩ | ⟨q1, hh⟩
    · refine dq_1 .le 156 true 187 q1 (by decide +kernel) ?_
      cases hh
      exact dq_ret0 (by decide +kernel) rfl
    · refine dq_1 .le 156 false 34 q1 (by decide +kernel) ?_
      refine dq_aln 0 35 (by decide +kernel) rfl G0 ?_
      obtain ⟨p2, q3, hh⟩ := db hh
      refine dq_gR 248 113 [15] 38 (by decide +kernel) rfl q3 ?_
      refine dq_il 5 40 (by decide +kernel) rfl G5 ?_
      refine dq_S (.iconst 1) 1 [] 41 _ [.int 1, .int i5, va_rf p2] (by decide +kernel) rfl ?_
      refine dq_S (.isub) 1 [] 42 _ [.int (i5 - 1), va_rf p2] (by decide +kernel) rfl ?_
      obtain ⟨x4, q5, hh⟩ := db hh
      refine dq_aI 43 (by decide +kernel) rfl q5 ?_
      refine dq_is 6 45 (by decide +kernel) (by decide +kernel) ?_
      have g6 := dg_ne (i := 6) (u := .int x4) (by decide) (Or.inl (by decide)) G0
      have g7 := dg_ne (i := 6) (u := .int x4) (by decide) (Or.inl (by decide)) G3
      have g8 := dg_ne (i := 6) (u := .int x4) (by decide) (Or.inl (by decide)) G4
      have g9 := dg_ne (i := 6) (u := .int x4) (by decide) (Or.inr rfl) G5
      have g10 := dg_eq (lv) 6 (.int x4)
      refine dq_aln 0 46 (by decide +kernel) rfl g6 ?_
      obtain ⟨p11, q12, hh⟩ := db hh
      refine dq_gR 251 114 [15] 49 (by decide +kernel) rfl q12 ?_
      refine dq_il 5 51 (by decide +kernel) rfl g9 ?_
      refine dq_S (.iconst 1) 1 [] 52 _ [.int 1, .int i5, va_rf p11] (by decide +kernel) rfl ?_
      refine dq_S (.isub) 1 [] 53 _ [.int (i5 - 1), va_rf p11] (by decide +kernel) rfl ?_
      obtain ⟨x13, q14, hh⟩ := db hh
      refine dq_aI 54 (by decide +kernel) rfl q14 ?_
      refine dq_is 7 56 (by decide +kernel) (by decide +kernel) ?_
      have g15 := dg_ne (i := 7) (u := .int x13) (by decide) (Or.inl (by decide)) g6
      have g16 := dg_ne (i := 7) (u := .int x13) (by decide) (Or.inl (by decide)) g7
      have g17 := dg_ne (i := 7) (u := .int x13) (by decide) (Or.inl (by decide)) g8
      have g18 := dg_ne (i := 7) (u := .int x13) (by decide) (Or.inl (by decide)) g9
      have g19 := dg_ne (i := 7) (u := .int x13) (by decide) (Or.inr rfl) g10
      have g20 := dg_eq (rm_set1 (lv) 6 (.int x4)) 7 (.int x13)
      refine dq_aln 0 57 (by decide +kernel) rfl g15 ?_
      obtain ⟨p21, q22, hh⟩ := db hh
      refine dq_gR 169 85 [15] 60 (by decide +kernel) rfl q22 ?_
      refine dq_il 6 62 (by decide +kernel) rfl g19 ?_
      obtain ⟨x23, q24, hh⟩ := db hh
      refine dq_aI 63 (by decide +kernel) rfl q24 ?_
      refine dq_is 8 65 (by decide +kernel) (by decide +kernel) ?_
      have g25 := dg_ne (i := 8) (u := .int x23) (by decide) (Or.inl (by decide)) g15
      have g26 := dg_ne (i := 8) (u := .int x23) (by decide) (Or.inl (by decide)) g16
      have g27 := dg_ne (i := 8) (u := .int x23) (by decide) (Or.inl (by decide)) g17
      have g28 := dg_ne (i := 8) (u := .int x23) (by decide) (Or.inl (by decide)) g18
      have g29 := dg_ne (i := 8) (u := .int x23) (by decide) (Or.inl (by decide)) g19
      have g30 := dg_ne (i := 8) (u := .int x23) (by decide) (Or.inr rfl) g20
      have g31 := dg_eq (rm_set1 (rm_set1 (lv) 6 (.int x4)) 7 (.int x13)) 8 (.int x23)
      refine dq_il 7 67 (by decide +kernel) rfl g30 ?_
      refine dq_aln 0 68 (by decide +kernel) rfl g25 ?_
      refine dq_il 8 70 (by decide +kernel) rfl g31 ?_
      obtain ⟨x32, q33, hh⟩ := db hh
      obtain ⟨a34, q35, q33⟩ := db q33
      rw [dq_xI q33] at q35
      refine dq_cvi hD 605 373 5 1 [15] o0 [.int x23] [.int x13] 73 [.int x32.1, .int x13] (by decide +kernel) ap_373 ⟨⟨Nat.le_of_ble_eq_true rfl, by decide⟩, rfl, rfl⟩ (dq_ok8 [1, 1] [1] (dc_r (dc_i dc_n)) (dc_i dc_n) (by decide +kernel)) (by decide +kernel) rfl q35 rfl ?_
      rcases di hh with ⟨q36, hh⟩ | ⟨q36, hh⟩
      · refine dq_2 .ne 15 true 88 q36 (by decide +kernel) ?_
        refine dq_aln 0 89 (by decide +kernel) rfl g25 ?_
        obtain ⟨p37, q38, hh⟩ := db hh
        refine dq_gR 251 114 [15] 92 (by decide +kernel) rfl q38 ?_
        refine dq_il 5 94 (by decide +kernel) rfl g28 ?_
        refine dq_S (.iconst 1) 1 [] 95 _ [.int 1, .int i5, va_rf p37] (by decide +kernel) rfl ?_
        refine dq_S (.isub) 1 [] 96 _ [.int (i5 - 1), va_rf p37] (by decide +kernel) rfl ?_
        refine dq_d2 97 (by decide +kernel) rfl ?_
        obtain ⟨x39, q40, hh⟩ := db hh
        refine dq_aI 98 (by decide +kernel) rfl q40 ?_
        refine dq_S (.iconst 1) 1 [] 99 _ [.int 1, .int x39, .int (i5 - 1), va_rf p37] (by decide +kernel) rfl ?_
        refine dq_S (.iadd) 1 [] 100 _ [.int (x39 + 1), .int (i5 - 1), va_rf p37] (by decide +kernel) rfl ?_
        obtain ⟨h41, q42, hh⟩ := db hh
        refine dq_sI 101 (by decide +kernel) rfl q42 ?_
        refine dq_il 7 103 (by decide +kernel) rfl g30 ?_
        rcases di hh with ⟨q43, hh⟩ | ⟨q43, hh⟩
        · refine dq_1 .le 9 true 112 q43 (by decide +kernel) ?_
          exact c407_112 hD hz ih _ _ _ _ _ _ _ _ _ _ g25 g26 g27 g28 g29 g30 g31 hh
        · refine dq_1 .le 9 false 106 q43 (by decide +kernel) ?_
          refine dq_aln 0 107 (by decide +kernel) rfl g25 ?_
          refine dq_S (.bipush 44) 2 [] 109 _ [.int 44, va_rf o0] (by decide +kernel) rfl ?_
          obtain ⟨h44, q45, hh⟩ := db hh
          obtain ⟨a46, q47, q45⟩ := db q45
          rw [dq_xV q45] at q47
          refine dq_cvi hD 720 410 5 1 [15] o0 [.int 44] [] 112 [] (by decide +kernel) ap_410 ⟨⟨Nat.le_of_ble_eq_true rfl, by decide⟩, rfl, rfl⟩ (dq_ok8 [1, 1] [] (dc_r (dc_i dc_n)) dc_n (by decide +kernel)) (by decide +kernel) rfl q47 rfl ?_
          exact c407_112 hD hz ih _ _ _ _ _ _ _ _ _ _ g25 g26 g27 g28 g29 g30 g31 hh
      · refine dq_2 .ne 15 false 76 q36 (by decide +kernel) ?_
        refine dq_aln 0 77 (by decide +kernel) rfl g25 ?_
        refine dq_S (.bipush 125) 2 [] 79 _ [.int 125, va_rf o0] (by decide +kernel) rfl ?_
        obtain ⟨h48, q49, hh⟩ := db hh
        obtain ⟨a50, q51, q49⟩ := db q49
        rw [dq_xV q49] at q51
        refine dq_cvi hD 720 410 5 1 [15] o0 [.int 125] [] 82 [] (by decide +kernel) ap_410 ⟨⟨Nat.le_of_ble_eq_true rfl, by decide⟩, rfl, rfl⟩ (dq_ok8 [1, 1] [] (dc_r (dc_i dc_n)) dc_n (by decide +kernel)) (by decide +kernel) rfl q51 rfl ?_
        refine dq_incy 5 (-1) (-1) 85 (by decide +kernel) ⟨rfl, by decide +kernel, by decide +kernel⟩ g28 ?_
        have g52 := dg_ne (i := 5) (u := .int (i5 + (-1))) (by decide) (Or.inl (by decide)) g25
        have g53 := dg_ne (i := 5) (u := .int (i5 + (-1))) (by decide) (Or.inl (by decide)) g26
        have g54 := dg_ne (i := 5) (u := .int (i5 + (-1))) (by decide) (Or.inr rfl) g27
        have g55 := dg_ne (i := 5) (u := .int (i5 + (-1))) (by decide) (Or.inl (by decide)) g29
        have g56 := dg_ne (i := 5) (u := .int (i5 + (-1))) (by decide) (Or.inl (by decide)) g30
        have g57 := dg_ne (i := 5) (u := .int (i5 + (-1))) (by decide) (Or.inl (by decide)) g31
        have g58 := dg_eq (rm_set1 (rm_set1 (rm_set1 (lv) 6 (.int x4)) 7 (.int x13)) 8 (.int x23)) 5 (.int (i5 + (-1)))
        refine dq_S (.goto (-56)) 3 [] 29 _ [] (by decide +kernel) rfl ?_
        exact ih _ _ _ _ _ _ _ g52 g53 g54 g58 hh
def b407_0 (L : Nat) (xs : Nat → Int32) (zf : Value) (D : dD) (w : Nat) (o0 : Option Nat) (j1 : Int64) (o3 : Option Nat) (i4 : Int32) (h : rm_H) : Option dR :=
  ((dcV L xs D 408 [15] o0 [.long j1] h).bind dxI).bind fun x6 =>
  if mx_f1 .eq x6.1 = true then
    b407_29 L xs zf D w w o0 o3 i4 0 x6.2
  else
    (dgR L xs x6.2 113 [15] o0).bind fun p11 =>
    (dsI x6.2 p11 0 (Int64.toInt32 j1)).bind fun h13 =>
    (dgR L xs h13 114 [15] o0).bind fun p15 =>
    (dsI h13 p15 0 0).bind fun h17 =>
    b407_29 L xs zf D w w o0 o3 i4 1 h17
theorem c407_0 {L : Nat} {xs : Nat → Int32} {zf : Value} {D : dD} {w k : Nat} (hD : dO L xs zf D k) (hz : zf.category = 1) : ∀ (o0 : Option Nat) (j1 : Int64) (o3 : Option Nat) (i4 : Int32) (lv : rm_L) (h : rm_H) (r : dR), rm_get lv 0 = some (va_rf o0) → rm_get lv 1 = some (.long j1) → rm_get lv 3 = some (va_rf o3) → rm_get lv 4 = some (.int i4) → b407_0 L xs zf D w  o0 j1 o3 i4 h = some r → dq L xs zf ah_M407 0 lv [] h (k + 1) r := by
  intro o0 j1 o3 i4 lv h r G0 G1 G3 G4 hh
  unfold b407_0 at hh
  refine dq_S (.iconst 0) 1 [] 1 _ [.int 0] (by decide +kernel) rfl ?_
  refine dq_is 5 3 (by decide +kernel) (by decide +kernel) ?_
  have g1 := dg_ne (i := 5) (u := .int 0) (by decide) (Or.inl (by decide)) G0
  have g2 := dg_ne (i := 5) (u := .int 0) (by decide) (Or.inl (by decide)) G1
  have g3 := dg_ne (i := 5) (u := .int 0) (by decide) (Or.inl (by decide)) G3
  have g4 := dg_ne (i := 5) (u := .int 0) (by decide) (Or.inr rfl) G4
  have g5 := dg_eq (lv) 5 (.int 0)
  refine dq_aln 0 4 (by decide +kernel) rfl g1 ?_
  refine dq_lln 1 5 (by decide +kernel) rfl g2 ?_
  obtain ⟨x6, q7, hh⟩ := db hh
  obtain ⟨a8, q9, q7⟩ := db q7
  rw [dq_xI q7] at q9
  refine dq_cvi hD 736 408 5 1 [15] o0 [.long j1] [] 8 [.int x6.1] (by decide +kernel) ap_408 ⟨⟨Nat.le_of_ble_eq_true rfl, by decide⟩, rfl, rfl⟩ (dq_ok8 [1, 2] [] (dc_r (dc_j dc_n)) dc_n (by decide +kernel)) (by decide +kernel) rfl q9 rfl ?_
  rcases di hh with ⟨q10, hh⟩ | ⟨q10, hh⟩
  · refine dq_1 .eq 21 true 29 q10 (by decide +kernel) ?_
    exact c407_29 hD hz _ _ _ _ _ _ _ _ g1 g3 g4 g5 hh
  · refine dq_1 .eq 21 false 11 q10 (by decide +kernel) ?_
    refine dq_aln 0 12 (by decide +kernel) rfl g1 ?_
    obtain ⟨p11, q12, hh⟩ := db hh
    refine dq_gR 248 113 [15] 15 (by decide +kernel) rfl q12 ?_
    refine dq_S (.iconst 0) 1 [] 16 _ [.int 0, va_rf p11] (by decide +kernel) rfl ?_
    refine dq_lln 1 17 (by decide +kernel) rfl g2 ?_
    refine dq_S (.l2i) 1 [] 18 _ [.int (Int64.toInt32 j1), .int 0, va_rf p11] (by decide +kernel) rfl ?_
    obtain ⟨h13, q14, hh⟩ := db hh
    refine dq_sI 19 (by decide +kernel) rfl q14 ?_
    refine dq_aln 0 20 (by decide +kernel) rfl g1 ?_
    obtain ⟨p15, q16, hh⟩ := db hh
    refine dq_gR 251 114 [15] 23 (by decide +kernel) rfl q16 ?_
    refine dq_S (.iconst 0) 1 [] 24 _ [.int 0, va_rf p15] (by decide +kernel) rfl ?_
    refine dq_S (.iconst 0) 1 [] 25 _ [.int 0, .int 0, va_rf p15] (by decide +kernel) rfl ?_
    obtain ⟨h17, q18, hh⟩ := db hh
    refine dq_sI 26 (by decide +kernel) rfl q18 ?_
    refine dq_S (.iconst 1) 1 [] 27 _ [.int 1] (by decide +kernel) rfl ?_
    refine dq_is 5 29 (by decide +kernel) (by decide +kernel) ?_
    have g19 := dg_ne (i := 5) (u := .int 1) (by decide) (Or.inl (by decide)) g1
    have g20 := dg_ne (i := 5) (u := .int 1) (by decide) (Or.inl (by decide)) g2
    have g21 := dg_ne (i := 5) (u := .int 1) (by decide) (Or.inl (by decide)) g3
    have g22 := dg_ne (i := 5) (u := .int 1) (by decide) (Or.inr rfl) g4
    have g23 := dg_eq (rm_set1 (lv) 5 (.int 0)) 5 (.int 1)
    exact c407_29 hD hz _ _ _ _ _ _ _ _ g19 g21 g22 g23 hh
def f407 (L : Nat) (xs : Nat → Int32) (zf : Value) (D : dD) (w : Nat) (As : List Value) (h : rm_H) : Option dR := match As with
  | [v0, .long j1, v3, .int i4] => (rm_rf v0).bind fun o0 => (rm_rf v3).bind fun o3 => b407_0 L xs zf D w o0 j1 o3 i4 h
  | _ => none
theorem d407 {L : Nat} {xs : Nat → Int32} {zf : Value} {D : dD} {w k : Nat} (hD : dO L xs zf D k) (hz : zf.category = 1) (As : List Value) (h : rm_H) (r : dR) (hh : f407 L xs zf D w As h = some r) : dq L xs zf ah_M407 0 (lv_args 0 As) [] h (k + 1) r := by
  unfold f407 at hh
  split at hh
  · obtain ⟨o0, e0, hb0⟩ := db hh
    have e0 := rm_rf_v _ _ e0
    obtain ⟨o3, e3, hb3⟩ := db hb0
    have e3 := rm_rf_v _ _ e3
    subst e0 e3
    refine c407_0 hD hz _ _ _ _ _ _ _ ?_ ?_ ?_ ?_ hb3
    all_goals (simp only [la_r, la_i, la_j]; rfl)
  · cases hh
def b408_64 (L : Nat) (xs : Nat → Int32) (zf : Value) (D : dD) (w : Nat) (o0 : Option Nat) (i3 : Int32) (i4 : Int32) (h : rm_H) : Option dR :=
  if mx_f2 .eq i3 2 = true then
    (dgR L xs h 33 [15] o0).bind fun p2 =>
    (dgR L xs h 85 [15] o0).bind fun p4 =>
    (daI L xs h p4 i4).bind fun x6 =>
    (daJ L xs h p2 x6).bind fun y8 =>
    ((dcV L xs D 409 [15] o0 [.long y8] h).bind dxV).bind fun h10 =>
    ((dcV L xs D 410 [15] o0 [.int 35] h10).bind dxV).bind fun h14 =>
    ((dcV L xs D 411 [15] o0 [.int i4] h14).bind dxV).bind fun h18 =>
    (dgR L xs h18 112 [15] o0).bind fun p22 =>
    (daB L xs h18 p22 i4).bind fun x24 =>
    if mx_f1 .eq x24 = true then
      (dgR L xs h18 112 [15] o0).bind fun p27 =>
      (dsB h18 p27 i4 1).bind fun h29 =>
      ((dcV L xs D 410 [15] o0 [.int 123] h29).bind dxV).bind fun h31 =>
      drI (some .boolean) 1 h31
    else
      drI (some .boolean) 0 h18
  else
    drI (some .boolean) 0 h
theorem c408_64 {L : Nat} {xs : Nat → Int32} {zf : Value} {D : dD} {w k : Nat} (hD : dO L xs zf D k) (hz : zf.category = 1) : ∀ (o0 : Option Nat) (i3 : Int32) (i4 : Int32) (lv : rm_L) (h : rm_H) (r : dR), rm_get lv 0 = some (va_rf o0) → rm_get lv 3 = some (.int i3) → rm_get lv 4 = some (.int i4) → b408_64 L xs zf D w  o0 i3 i4 h = some r → dq L xs zf ah_M408 64 lv [] h (k + 1) r := by
  intro o0 i3 i4 lv h r G0 G3 G4 hh
  unfold b408_64 at hh
  refine dq_iln 3 65 (by decide +kernel) rfl G3 ?_
  refine dq_S (.iconst 2) 1 [] 66 _ [.int 2, .int i3] (by decide +kernel) rfl ?_
  rcases di hh with ⟨q1, hh⟩ | ⟨q1, hh⟩
  · refine dq_2 .eq 5 true 71 q1 (by decide +kernel) ?_
    refine dq_aln 0 72 (by decide +kernel) rfl G0 ?_
    refine dq_aln 0 73 (by decide +kernel) rfl G0 ?_
    obtain ⟨p2, q3, hh⟩ := db hh
    refine dq_gR 90 33 [15] 76 (by decide +kernel) rfl q3 ?_
    refine dq_aln 0 77 (by decide +kernel) rfl G0 ?_
    obtain ⟨p4, q5, hh⟩ := db hh
    refine dq_gR 169 85 [15] 80 (by decide +kernel) rfl q5 ?_
    refine dq_il 4 82 (by decide +kernel) rfl G4 ?_
    obtain ⟨x6, q7, hh⟩ := db hh
    refine dq_aI 83 (by decide +kernel) rfl q7 ?_
    obtain ⟨y8, q9, hh⟩ := db hh
    refine dq_aJ 84 (by decide +kernel) rfl q9 ?_
    obtain ⟨h10, q11, hh⟩ := db hh
    obtain ⟨a12, q13, q11⟩ := db q11
    rw [dq_xV q11] at q13
    refine dq_cvi hD 729 409 5 1 [15] o0 [.long y8] [] 87 [] (by decide +kernel) ap_409 ⟨⟨Nat.le_of_ble_eq_true rfl, by decide⟩, rfl, rfl⟩ (dq_ok8 [1, 2] [] (dc_r (dc_j dc_n)) dc_n (by decide +kernel)) (by decide +kernel) rfl q13 rfl ?_
    refine dq_aln 0 88 (by decide +kernel) rfl G0 ?_
    refine dq_S (.bipush 35) 2 [] 90 _ [.int 35, va_rf o0] (by decide +kernel) rfl ?_
    obtain ⟨h14, q15, hh⟩ := db hh
    obtain ⟨a16, q17, q15⟩ := db q15
    rw [dq_xV q15] at q17
    refine dq_cvi hD 720 410 5 1 [15] o0 [.int 35] [] 93 [] (by decide +kernel) ap_410 ⟨⟨Nat.le_of_ble_eq_true rfl, by decide⟩, rfl, rfl⟩ (dq_ok8 [1, 1] [] (dc_r (dc_i dc_n)) dc_n (by decide +kernel)) (by decide +kernel) rfl q17 rfl ?_
    refine dq_aln 0 94 (by decide +kernel) rfl G0 ?_
    refine dq_il 4 96 (by decide +kernel) rfl G4 ?_
    obtain ⟨h18, q19, hh⟩ := db hh
    obtain ⟨a20, q21, q19⟩ := db q19
    rw [dq_xV q19] at q21
    refine dq_cvi hD 733 411 5 1 [15] o0 [.int i4] [] 99 [] (by decide +kernel) ap_411 ⟨⟨Nat.le_of_ble_eq_true rfl, by decide⟩, rfl, rfl⟩ (dq_ok8 [1, 1] [] (dc_r (dc_i dc_n)) dc_n (by decide +kernel)) (by decide +kernel) rfl q21 rfl ?_
    refine dq_aln 0 100 (by decide +kernel) rfl G0 ?_
    obtain ⟨p22, q23, hh⟩ := db hh
    refine dq_gR 245 112 [15] 103 (by decide +kernel) rfl q23 ?_
    refine dq_il 4 105 (by decide +kernel) rfl G4 ?_
    obtain ⟨x24, q25, hh⟩ := db hh
    refine dq_aB 106 (by decide +kernel) rfl q25 ?_
    rcases di hh with ⟨q26, hh⟩ | ⟨q26, hh⟩
    · refine dq_1 .eq 5 true 111 q26 (by decide +kernel) ?_
      refine dq_aln 0 112 (by decide +kernel) rfl G0 ?_
      obtain ⟨p27, q28, hh⟩ := db hh
      refine dq_gR 245 112 [15] 115 (by decide +kernel) rfl q28 ?_
      refine dq_il 4 117 (by decide +kernel) rfl G4 ?_
      refine dq_S (.iconst 1) 1 [] 118 _ [.int 1, .int i4, va_rf p27] (by decide +kernel) rfl ?_
      obtain ⟨h29, q30, hh⟩ := db hh
      refine dq_sB1 119 (by decide +kernel) rfl q30 ?_
      refine dq_aln 0 120 (by decide +kernel) rfl G0 ?_
      refine dq_S (.bipush 123) 2 [] 122 _ [.int 123, va_rf o0] (by decide +kernel) rfl ?_
      obtain ⟨h31, q32, hh⟩ := db hh
      obtain ⟨a33, q34, q32⟩ := db q32
      rw [dq_xV q32] at q34
      refine dq_cvi hD 720 410 5 1 [15] o0 [.int 123] [] 125 [] (by decide +kernel) ap_410 ⟨⟨Nat.le_of_ble_eq_true rfl, by decide⟩, rfl, rfl⟩ (dq_ok8 [1, 1] [] (dc_r (dc_i dc_n)) dc_n (by decide +kernel)) (by decide +kernel) rfl q34 rfl ?_
      refine dq_S (.iconst 1) 1 [] 126 _ [.int 1] (by decide +kernel) rfl ?_
      exact dq_retI (some .boolean) (by decide +kernel) rfl hh
    · refine dq_1 .eq 5 false 109 q26 (by decide +kernel) ?_
      refine dq_S (.iconst 0) 1 [] 110 _ [.int 0] (by decide +kernel) rfl ?_
      exact dq_retI (some .boolean) (by decide +kernel) rfl hh
  · refine dq_2 .eq 5 false 69 q1 (by decide +kernel) ?_
    refine dq_S (.iconst 0) 1 [] 70 _ [.int 0] (by decide +kernel) rfl ?_
    exact dq_retI (some .boolean) (by decide +kernel) rfl hh
def b408_31 (L : Nat) (xs : Nat → Int32) (zf : Value) (D : dD) (w : Nat) (o0 : Option Nat) (i3 : Int32) (i4 : Int32) (h : rm_H) : Option dR :=
  if mx_f2 .ne i3 3 = true then
    b408_64 L xs zf D w o0 i3 i4 h
  else
    (dgR L xs h 33 [15] o0).bind fun p2 =>
    (dgR L xs h 88 [15] o0).bind fun p4 =>
    (daI L xs h p4 i4).bind fun x6 =>
    (daJ L xs h p2 x6).bind fun y8 =>
    ((dcV L xs D 409 [15] o0 [.long y8] h).bind dxV).bind fun h10 =>
    ((dcV L xs D 410 [15] o0 [.int 64] h10).bind dxV).bind fun h14 =>
    ((dcV L xs D 411 [15] o0 [.int i4] h14).bind dxV).bind fun h18 =>
    b408_64 L xs zf D w o0 i3 i4 h18
theorem c408_31 {L : Nat} {xs : Nat → Int32} {zf : Value} {D : dD} {w k : Nat} (hD : dO L xs zf D k) (hz : zf.category = 1) : ∀ (o0 : Option Nat) (i3 : Int32) (i4 : Int32) (lv : rm_L) (h : rm_H) (r : dR), rm_get lv 0 = some (va_rf o0) → rm_get lv 3 = some (.int i3) → rm_get lv 4 = some (.int i4) → b408_31 L xs zf D w  o0 i3 i4 h = some r → dq L xs zf ah_M408 31 lv [] h (k + 1) r := by
  intro o0 i3 i4 lv h r G0 G3 G4 hh
  unfold b408_31 at hh
  refine dq_iln 3 32 (by decide +kernel) rfl G3 ?_
  refine dq_S (.iconst 3) 1 [] 33 _ [.int 3, .int i3] (by decide +kernel) rfl ?_
  rcases di hh with ⟨q1, hh⟩ | ⟨q1, hh⟩
  · refine dq_2 .ne 31 true 64 q1 (by decide +kernel) ?_
    exact c408_64 hD hz _ _ _ _ _ _ G0 G3 G4 hh
  · refine dq_2 .ne 31 false 36 q1 (by decide +kernel) ?_
    refine dq_aln 0 37 (by decide +kernel) rfl G0 ?_
    refine dq_aln 0 38 (by decide +kernel) rfl G0 ?_
    obtain ⟨p2, q3, hh⟩ := db hh
    refine dq_gR 90 33 [15] 41 (by decide +kernel) rfl q3 ?_
    refine dq_aln 0 42 (by decide +kernel) rfl G0 ?_
    obtain ⟨p4, q5, hh⟩ := db hh
    refine dq_gR 175 88 [15] 45 (by decide +kernel) rfl q5 ?_
    refine dq_il 4 47 (by decide +kernel) rfl G4 ?_
    obtain ⟨x6, q7, hh⟩ := db hh
    refine dq_aI 48 (by decide +kernel) rfl q7 ?_
    obtain ⟨y8, q9, hh⟩ := db hh
    refine dq_aJ 49 (by decide +kernel) rfl q9 ?_
    obtain ⟨h10, q11, hh⟩ := db hh
    obtain ⟨a12, q13, q11⟩ := db q11
    rw [dq_xV q11] at q13
    refine dq_cvi hD 729 409 5 1 [15] o0 [.long y8] [] 52 [] (by decide +kernel) ap_409 ⟨⟨Nat.le_of_ble_eq_true rfl, by decide⟩, rfl, rfl⟩ (dq_ok8 [1, 2] [] (dc_r (dc_j dc_n)) dc_n (by decide +kernel)) (by decide +kernel) rfl q13 rfl ?_
    refine dq_aln 0 53 (by decide +kernel) rfl G0 ?_
    refine dq_S (.bipush 64) 2 [] 55 _ [.int 64, va_rf o0] (by decide +kernel) rfl ?_
    obtain ⟨h14, q15, hh⟩ := db hh
    obtain ⟨a16, q17, q15⟩ := db q15
    rw [dq_xV q15] at q17
    refine dq_cvi hD 720 410 5 1 [15] o0 [.int 64] [] 58 [] (by decide +kernel) ap_410 ⟨⟨Nat.le_of_ble_eq_true rfl, by decide⟩, rfl, rfl⟩ (dq_ok8 [1, 1] [] (dc_r (dc_i dc_n)) dc_n (by decide +kernel)) (by decide +kernel) rfl q17 rfl ?_
    refine dq_aln 0 59 (by decide +kernel) rfl G0 ?_
    refine dq_il 4 61 (by decide +kernel) rfl G4 ?_
    obtain ⟨h18, q19, hh⟩ := db hh
    obtain ⟨a20, q21, q19⟩ := db q19
    rw [dq_xV q19] at q21
    refine dq_cvi hD 733 411 5 1 [15] o0 [.int i4] [] 64 [] (by decide +kernel) ap_411 ⟨⟨Nat.le_of_ble_eq_true rfl, by decide⟩, rfl, rfl⟩ (dq_ok8 [1, 1] [] (dc_r (dc_i dc_n)) dc_n (by decide +kernel)) (by decide +kernel) rfl q21 rfl ?_
    exact c408_64 hD hz _ _ _ _ _ _ G0 G3 G4 hh
def b408_20 (L : Nat) (xs : Nat → Int32) (zf : Value) (D : dD) (w : Nat) (o0 : Option Nat) (i3 : Int32) (i4 : Int32) (h : rm_H) : Option dR :=
  if mx_f2 .ne i3 1 = true then
    b408_31 L xs zf D w o0 i3 i4 h
  else
    ((dcV L xs D 411 [15] o0 [.int i4] h).bind dxV).bind fun h2 =>
    b408_31 L xs zf D w o0 i3 i4 h2
theorem c408_20 {L : Nat} {xs : Nat → Int32} {zf : Value} {D : dD} {w k : Nat} (hD : dO L xs zf D k) (hz : zf.category = 1) : ∀ (o0 : Option Nat) (i3 : Int32) (i4 : Int32) (lv : rm_L) (h : rm_H) (r : dR), rm_get lv 0 = some (va_rf o0) → rm_get lv 3 = some (.int i3) → rm_get lv 4 = some (.int i4) → b408_20 L xs zf D w  o0 i3 i4 h = some r → dq L xs zf ah_M408 20 lv [] h (k + 1) r := by
  intro o0 i3 i4 lv h r G0 G3 G4 hh
  unfold b408_20 at hh
  refine dq_iln 3 21 (by decide +kernel) rfl G3 ?_
  refine dq_S (.iconst 1) 1 [] 22 _ [.int 1, .int i3] (by decide +kernel) rfl ?_
  rcases di hh with ⟨q1, hh⟩ | ⟨q1, hh⟩
  · refine dq_2 .ne 9 true 31 q1 (by decide +kernel) ?_
    exact c408_31 hD hz _ _ _ _ _ _ G0 G3 G4 hh
  · refine dq_2 .ne 9 false 25 q1 (by decide +kernel) ?_
    refine dq_aln 0 26 (by decide +kernel) rfl G0 ?_
    refine dq_il 4 28 (by decide +kernel) rfl G4 ?_
    obtain ⟨h2, q3, hh⟩ := db hh
    obtain ⟨a4, q5, q3⟩ := db q3
    rw [dq_xV q3] at q5
    refine dq_cvi hD 733 411 5 1 [15] o0 [.int i4] [] 31 [] (by decide +kernel) ap_411 ⟨⟨Nat.le_of_ble_eq_true rfl, by decide⟩, rfl, rfl⟩ (dq_ok8 [1, 1] [] (dc_r (dc_i dc_n)) dc_n (by decide +kernel)) (by decide +kernel) rfl q5 rfl ?_
    exact c408_31 hD hz _ _ _ _ _ _ G0 G3 G4 hh
def b408_0 (L : Nat) (xs : Nat → Int32) (zf : Value) (D : dD) (w : Nat) (o0 : Option Nat) (j1 : Int64) (h : rm_H) : Option dR :=
  ((D 379 [.long j1] h).bind dxI).bind fun x1 =>
  if mx_f1 .ne x1.1 = true then
    b408_20 L xs zf D w o0 x1.1 (Int64.toInt32 j1) x1.2
  else
    ((dcV L xs D 409 [15] o0 [.long 1852796517] x1.2).bind dxV).bind fun h13 =>
    b408_20 L xs zf D w o0 x1.1 (Int64.toInt32 j1) h13
theorem c408_0 {L : Nat} {xs : Nat → Int32} {zf : Value} {D : dD} {w k : Nat} (hD : dO L xs zf D k) (hz : zf.category = 1) : ∀ (o0 : Option Nat) (j1 : Int64) (lv : rm_L) (h : rm_H) (r : dR), rm_get lv 0 = some (va_rf o0) → rm_get lv 1 = some (.long j1) → b408_0 L xs zf D w  o0 j1 h = some r → dq L xs zf ah_M408 0 lv [] h (k + 1) r := by
  intro o0 j1 lv h r G0 G1 hh
  unfold b408_0 at hh
  refine dq_lln 1 1 (by decide +kernel) rfl G1 ?_
  obtain ⟨x1, q2, hh⟩ := db hh
  obtain ⟨a3, q4, q2⟩ := db q2
  rw [dq_xI q2] at q4
  refine dq_cst hD 625 379 0 1 [.long j1] [] 4 [.int x1.1] (by decide +kernel) ap_379 ⟨⟨Nat.le_of_ble_eq_true rfl, by decide⟩, rfl, rfl⟩ (dq_ok8 [2] [] (dc_j dc_n) dc_n (by decide +kernel)) (by decide +kernel) rfl q4 rfl ?_
  refine dq_isn 3 5 (by decide +kernel) (by decide +kernel) ?_
  have g5 := dg_ne (i := 3) (u := .int x1.1) (by decide) (Or.inl (by decide)) G0
  have g6 := dg_ne (i := 3) (u := .int x1.1) (by decide) (Or.inl (by decide)) G1
  have g7 := dg_eq (lv) 3 (.int x1.1)
  refine dq_lln 1 6 (by decide +kernel) rfl g6 ?_
  refine dq_S (.l2i) 1 [] 7 _ [.int (Int64.toInt32 j1)] (by decide +kernel) rfl ?_
  refine dq_is 4 9 (by decide +kernel) (by decide +kernel) ?_
  have g8 := dg_ne (i := 4) (u := .int (Int64.toInt32 j1)) (by decide) (Or.inl (by decide)) g5
  have g9 := dg_ne (i := 4) (u := .int (Int64.toInt32 j1)) (by decide) (Or.inl (by decide)) g6
  have g10 := dg_ne (i := 4) (u := .int (Int64.toInt32 j1)) (by decide) (Or.inr rfl) g7
  have g11 := dg_eq (rm_set1 (lv) 3 (.int x1.1)) 4 (.int (Int64.toInt32 j1))
  refine dq_iln 3 10 (by decide +kernel) rfl g10 ?_
  rcases di hh with ⟨q12, hh⟩ | ⟨q12, hh⟩
  · refine dq_1 .ne 10 true 20 q12 (by decide +kernel) ?_
    exact c408_20 hD hz _ _ _ _ _ _ g8 g10 g11 hh
  · refine dq_1 .ne 10 false 13 q12 (by decide +kernel) ?_
    refine dq_aln 0 14 (by decide +kernel) rfl g8 ?_
    refine dq_S (.ldc2_w 727) 3 [1852796517] 17 _ [.long 1852796517, va_rf o0] (by decide +kernel) rfl ?_
    obtain ⟨h13, q14, hh⟩ := db hh
    obtain ⟨a15, q16, q14⟩ := db q14
    rw [dq_xV q14] at q16
    refine dq_cvi hD 729 409 5 1 [15] o0 [.long 1852796517] [] 20 [] (by decide +kernel) ap_409 ⟨⟨Nat.le_of_ble_eq_true rfl, by decide⟩, rfl, rfl⟩ (dq_ok8 [1, 2] [] (dc_r (dc_j dc_n)) dc_n (by decide +kernel)) (by decide +kernel) rfl q16 rfl ?_
    exact c408_20 hD hz _ _ _ _ _ _ g8 g10 g11 hh
def f408 (L : Nat) (xs : Nat → Int32) (zf : Value) (D : dD) (w : Nat) (As : List Value) (h : rm_H) : Option dR := match As with
  | [v0, .long j1] => (rm_rf v0).bind fun o0 => b408_0 L xs zf D w o0 j1 h
  | _ => none
theorem d408 {L : Nat} {xs : Nat → Int32} {zf : Value} {D : dD} {w k : Nat} (hD : dO L xs zf D k) (hz : zf.category = 1) (As : List Value) (h : rm_H) (r : dR) (hh : f408 L xs zf D w As h = some r) : dq L xs zf ah_M408 0 (lv_args 0 As) [] h (k + 1) r := by
  unfold f408 at hh
  split at hh
  · obtain ⟨o0, e0, hb0⟩ := db hh
    have e0 := rm_rf_v _ _ e0
    subst e0
    refine c408_0 hD hz _ _ _ _ _ ?_ ?_ hb0
    all_goals (simp only [la_r, la_i, la_j]; rfl)
  · cases hh
def b409_31 (L : Nat) (xs : Nat → Int32) (zf : Value) (D : dD) (w : Nat) (K3 : Option Nat → Int64 → Int32 → rm_H → Option dR) (o0 : Option Nat) (j1 : Int64) (i3 : Int32) (h : rm_H) : Option dR :=
  K3 o0 j1 (i3 + (-8)) h
theorem c409_31 {L : Nat} {xs : Nat → Int32} {zf : Value} {D : dD} {w k : Nat} {K3 : Option Nat → Int64 → Int32 → rm_H → Option dR} (hD : dO L xs zf D k) (hz : zf.category = 1) (hK3 : ∀ (o0 : Option Nat) (j1 : Int64) (i3 : Int32) (lv : rm_L) (h : rm_H) (r : dR), rm_get lv 0 = some (va_rf o0) → rm_get lv 1 = some (.long j1) → rm_get lv 3 = some (.int i3) → K3 o0 j1 i3 h = some r → dq L xs zf ah_M409 3 lv [] h (k + 1) r) : ∀ (o0 : Option Nat) (j1 : Int64) (i3 : Int32) (lv : rm_L) (h : rm_H) (r : dR), rm_get lv 0 = some (va_rf o0) → rm_get lv 1 = some (.long j1) → rm_get lv 3 = some (.int i3) → b409_31 L xs zf D w K3  o0 j1 i3 h = some r → dq L xs zf ah_M409 31 lv [] h (k + 1) r := by
  intro o0 j1 i3 lv h r G0 G1 G3 hh
  unfold b409_31 at hh
  refine dq_incy 3 (-8) (-8) 34 (by decide +kernel) ⟨rfl, by decide +kernel, by decide +kernel⟩ G3 ?_
  have g1 := dg_ne (i := 3) (u := .int (i3 + (-8))) (by decide) (Or.inl (by decide)) G0
  have g2 := dg_ne (i := 3) (u := .int (i3 + (-8))) (by decide) (Or.inl (by decide)) G1
  have g3 := dg_eq (lv) 3 (.int (i3 + (-8)))
  refine dq_S (.goto (-31)) 3 [] 3 _ [] (by decide +kernel) rfl ?_
  exact hK3 _ _ _ _ _ _ g1 g2 g3 hh
def b409_3 (L : Nat) (xs : Nat → Int32) (zf : Value) (D : dD) (w : Nat) : Nat → Option Nat → Int64 → Int32 → rm_H → Option dR
  | 0, _, _, _, _ => none
  | n + 1, o0, j1, i3, h =>
    if mx_f1 .lt i3 = true then
      some (none, h)
    else
      if mx_f1 .eq (lg_cmp ((j1 >>> ((i3 : Int32).toInt64 &&& 63)) &&& 255) 0) = true then
        b409_31 L xs zf D w (b409_3 L xs zf D w n) o0 j1 i3 h
      else
        ((dcV L xs D 410 [15] o0 [.int (Int64.toInt32 ((j1 >>> ((i3 : Int32).toInt64 &&& 63)) &&& 255))] h).bind dxV).bind fun h3 =>
        b409_31 L xs zf D w (b409_3 L xs zf D w n) o0 j1 i3 h3
theorem c409_3 {L : Nat} {xs : Nat → Int32} {zf : Value} {D : dD} {w k : Nat} (hD : dO L xs zf D k) (hz : zf.category = 1) : ∀ (n : Nat) (o0 : Option Nat) (j1 : Int64) (i3 : Int32) (lv : rm_L) (h : rm_H) (r : dR), rm_get lv 0 = some (va_rf o0) → rm_get lv 1 = some (.long j1) → rm_get lv 3 = some (.int i3) → b409_3 L xs zf D w n  o0 j1 i3 h = some r → dq L xs zf ah_M409 3 lv [] h (k + 1) r := by
  intro n
  induction n with
  | zero =>
    intro o0 j1 i3 lv h r G0 G1 G3 hh
    cases hh
  | succ n ih =>
    intro o0 j1 i3 lv h r G0 G1 G3 hh
    rw [b409_3] at hh
    refine dq_iln 3 4 (by decide +kernel) rfl G3 ?_
    rcases di hh with ⟨q1, hh⟩ | ⟨q1, hh⟩
    · refine dq_1 .lt 33 true 37 q1 (by decide +kernel) ?_
      cases hh
      exact dq_ret0 (by decide +kernel) rfl
    · refine dq_1 .lt 33 false 7 q1 (by decide +kernel) ?_
      refine dq_lln 1 8 (by decide +kernel) rfl G1 ?_
      refine dq_iln 3 9 (by decide +kernel) rfl G3 ?_
      refine dq_S (.lshr) 1 [] 10 _ [.long (j1 >>> ((i3 : Int32).toInt64 &&& 63))] (by decide +kernel) rfl ?_
      refine dq_S (.ldc2_w 718) 3 [255] 13 _ [.long 255, .long (j1 >>> ((i3 : Int32).toInt64 &&& 63))] (by decide +kernel) rfl ?_
      refine dq_S (.land) 1 [] 14 _ [.long ((j1 >>> ((i3 : Int32).toInt64 &&& 63)) &&& 255)] (by decide +kernel) rfl ?_
      refine dq_S (.lconst 0) 1 [] 15 _ [.long 0, .long ((j1 >>> ((i3 : Int32).toInt64 &&& 63)) &&& 255)] (by decide +kernel) rfl ?_
      refine dq_S (.lcmp) 1 [] 16 _ [.int (lg_cmp ((j1 >>> ((i3 : Int32).toInt64 &&& 63)) &&& 255) 0)] (by decide +kernel) rfl ?_
      rcases di hh with ⟨q2, hh⟩ | ⟨q2, hh⟩
      · refine dq_1 .eq 15 true 31 q2 (by decide +kernel) ?_
        exact c409_31 hD hz ih _ _ _ _ _ _ G0 G1 G3 hh
      · refine dq_1 .eq 15 false 19 q2 (by decide +kernel) ?_
        refine dq_aln 0 20 (by decide +kernel) rfl G0 ?_
        refine dq_lln 1 21 (by decide +kernel) rfl G1 ?_
        refine dq_iln 3 22 (by decide +kernel) rfl G3 ?_
        refine dq_S (.lshr) 1 [] 23 _ [.long (j1 >>> ((i3 : Int32).toInt64 &&& 63)), va_rf o0] (by decide +kernel) rfl ?_
        refine dq_S (.ldc2_w 718) 3 [255] 26 _ [.long 255, .long (j1 >>> ((i3 : Int32).toInt64 &&& 63)), va_rf o0] (by decide +kernel) rfl ?_
        refine dq_S (.land) 1 [] 27 _ [.long ((j1 >>> ((i3 : Int32).toInt64 &&& 63)) &&& 255), va_rf o0] (by decide +kernel) rfl ?_
        refine dq_S (.l2i) 1 [] 28 _ [.int (Int64.toInt32 ((j1 >>> ((i3 : Int32).toInt64 &&& 63)) &&& 255)), va_rf o0] (by decide +kernel) rfl ?_
        obtain ⟨h3, q4, hh⟩ := db hh
        obtain ⟨a5, q6, q4⟩ := db q4
        rw [dq_xV q4] at q6
        refine dq_cvi hD 720 410 5 1 [15] o0 [.int (Int64.toInt32 ((j1 >>> ((i3 : Int32).toInt64 &&& 63)) &&& 255))] [] 31 [] (by decide +kernel) ap_410 ⟨⟨Nat.le_of_ble_eq_true rfl, by decide⟩, rfl, rfl⟩ (dq_ok8 [1, 1] [] (dc_r (dc_i dc_n)) dc_n (by decide +kernel)) (by decide +kernel) rfl q6 rfl ?_
        exact c409_31 hD hz ih _ _ _ _ _ _ G0 G1 G3 hh
def b409_0 (L : Nat) (xs : Nat → Int32) (zf : Value) (D : dD) (w : Nat) (o0 : Option Nat) (j1 : Int64) (h : rm_H) : Option dR :=
  b409_3 L xs zf D w w o0 j1 56 h
theorem c409_0 {L : Nat} {xs : Nat → Int32} {zf : Value} {D : dD} {w k : Nat} (hD : dO L xs zf D k) (hz : zf.category = 1) : ∀ (o0 : Option Nat) (j1 : Int64) (lv : rm_L) (h : rm_H) (r : dR), rm_get lv 0 = some (va_rf o0) → rm_get lv 1 = some (.long j1) → b409_0 L xs zf D w  o0 j1 h = some r → dq L xs zf ah_M409 0 lv [] h (k + 1) r := by
  intro o0 j1 lv h r G0 G1 hh
  unfold b409_0 at hh
  refine dq_S (.bipush 56) 2 [] 2 _ [.int 56] (by decide +kernel) rfl ?_
  refine dq_isn 3 3 (by decide +kernel) (by decide +kernel) ?_
  have g1 := dg_ne (i := 3) (u := .int 56) (by decide) (Or.inl (by decide)) G0
  have g2 := dg_ne (i := 3) (u := .int 56) (by decide) (Or.inl (by decide)) G1
  have g3 := dg_eq (lv) 3 (.int 56)
  exact c409_3 hD hz _ _ _ _ _ _ _ g1 g2 g3 hh
def f409 (L : Nat) (xs : Nat → Int32) (zf : Value) (D : dD) (w : Nat) (As : List Value) (h : rm_H) : Option dR := match As with
  | [v0, .long j1] => (rm_rf v0).bind fun o0 => b409_0 L xs zf D w o0 j1 h
  | _ => none
theorem d409 {L : Nat} {xs : Nat → Int32} {zf : Value} {D : dD} {w k : Nat} (hD : dO L xs zf D k) (hz : zf.category = 1) (As : List Value) (h : rm_H) (r : dR) (hh : f409 L xs zf D w As h = some r) : dq L xs zf ah_M409 0 (lv_args 0 As) [] h (k + 1) r := by
  unfold f409 at hh
  split at hh
  · obtain ⟨o0, e0, hb0⟩ := db hh
    have e0 := rm_rf_v _ _ e0
    subst e0
    refine c409_0 hD hz _ _ _ _ _ ?_ ?_ hb0
    all_goals (simp only [la_r, la_i, la_j]; rfl)
  · cases hh
def b410_20 (L : Nat) (xs : Nat → Int32) (zf : Value) (D : dD) (w : Nat) (o0 : Option Nat) (h : rm_H) : Option dR :=
  (dgI L xs h 111 [15] o0).bind fun x1 =>
  (dpF h 111 [15] o0 (.int (x1 + 1))).bind fun h3 =>
  some (none, h3)
theorem c410_20 {L : Nat} {xs : Nat → Int32} {zf : Value} {D : dD} {w k : Nat} (hD : dO L xs zf D k) (hz : zf.category = 1) : ∀ (o0 : Option Nat) (lv : rm_L) (h : rm_H) (r : dR), rm_get lv 0 = some (va_rf o0) → b410_20 L xs zf D w  o0 h = some r → dq L xs zf ah_M410 20 lv [] h (k + 1) r := by
  intro o0 lv h r G0 hh
  unfold b410_20 at hh
  refine dq_aln 0 21 (by decide +kernel) rfl G0 ?_
  refine dq_dup 22 (by decide +kernel) rfl ?_
  obtain ⟨x1, q2, hh⟩ := db hh
  refine dq_gI 572 111 [15] 25 (by decide +kernel) rfl q2 ?_
  refine dq_S (.iconst 1) 1 [] 26 _ [.int 1, .int x1, va_rf o0] (by decide +kernel) rfl ?_
  refine dq_S (.iadd) 1 [] 27 _ [.int (x1 + 1), va_rf o0] (by decide +kernel) rfl ?_
  obtain ⟨h3, q4, hh⟩ := db hh
  refine dq_put 572 111 [15] 30 (by decide +kernel) rfl q4 ?_
  cases hh
  exact dq_ret0 (by decide +kernel) rfl
def b410_0 (L : Nat) (xs : Nat → Int32) (zf : Value) (D : dD) (w : Nat) (o0 : Option Nat) (i1 : Int32) (h : rm_H) : Option dR :=
  (dgI L xs h 111 [15] o0).bind fun x1 =>
  if mx_f2 .ge x1 3000 = true then
    b410_20 L xs zf D w o0 h
  else
    (dgR L xs h 110 [15] o0).bind fun p4 =>
    (dgI L xs h 111 [15] o0).bind fun x6 =>
    (dsI h p4 x6 i1).bind fun h8 =>
    b410_20 L xs zf D w o0 h8
theorem c410_0 {L : Nat} {xs : Nat → Int32} {zf : Value} {D : dD} {w k : Nat} (hD : dO L xs zf D k) (hz : zf.category = 1) : ∀ (o0 : Option Nat) (i1 : Int32) (lv : rm_L) (h : rm_H) (r : dR), rm_get lv 0 = some (va_rf o0) → rm_get lv 1 = some (.int i1) → b410_0 L xs zf D w  o0 i1 h = some r → dq L xs zf ah_M410 0 lv [] h (k + 1) r := by
  intro o0 i1 lv h r G0 G1 hh
  unfold b410_0 at hh
  refine dq_aln 0 1 (by decide +kernel) rfl G0 ?_
  obtain ⟨x1, q2, hh⟩ := db hh
  refine dq_gI 572 111 [15] 4 (by decide +kernel) rfl q2 ?_
  refine dq_S (.sipush 3000) 3 [] 7 _ [.int 3000, .int x1] (by decide +kernel) rfl ?_
  rcases di hh with ⟨q3, hh⟩ | ⟨q3, hh⟩
  · refine dq_2 .ge 13 true 20 q3 (by decide +kernel) ?_
    exact c410_20 hD hz _ _ _ _ G0 hh
  · refine dq_2 .ge 13 false 10 q3 (by decide +kernel) ?_
    refine dq_aln 0 11 (by decide +kernel) rfl G0 ?_
    obtain ⟨p4, q5, hh⟩ := db hh
    refine dq_gR 242 110 [15] 14 (by decide +kernel) rfl q5 ?_
    refine dq_aln 0 15 (by decide +kernel) rfl G0 ?_
    obtain ⟨x6, q7, hh⟩ := db hh
    refine dq_gI 572 111 [15] 18 (by decide +kernel) rfl q7 ?_
    refine dq_iln 1 19 (by decide +kernel) rfl G1 ?_
    obtain ⟨h8, q9, hh⟩ := db hh
    refine dq_sI 20 (by decide +kernel) rfl q9 ?_
    exact c410_20 hD hz _ _ _ _ G0 hh
def f410 (L : Nat) (xs : Nat → Int32) (zf : Value) (D : dD) (w : Nat) (As : List Value) (h : rm_H) : Option dR := match As with
  | [v0, .int i1] => (rm_rf v0).bind fun o0 => b410_0 L xs zf D w o0 i1 h
  | _ => none
theorem d410 {L : Nat} {xs : Nat → Int32} {zf : Value} {D : dD} {w k : Nat} (hD : dO L xs zf D k) (hz : zf.category = 1) (As : List Value) (h : rm_H) (r : dR) (hh : f410 L xs zf D w As h = some r) : dq L xs zf ah_M410 0 (lv_args 0 As) [] h (k + 1) r := by
  unfold f410 at hh
  split at hh
  · obtain ⟨o0, e0, hb0⟩ := db hh
    have e0 := rm_rf_v _ _ e0
    subst e0
    refine c410_0 hD hz _ _ _ _ _ ?_ ?_ hb0
    all_goals (simp only [la_r, la_i, la_j]; rfl)
  · cases hh
def b411_43 (L : Nat) (xs : Nat → Int32) (zf : Value) (D : dD) (w : Nat) : Nat → Option Nat → Int64 → Int64 → rm_H → Option dR
  | 0, _, _, _, _ => none
  | n + 1, o0, j2, j4, h =>
    if mx_f1 .le (lg_cmp j4 0) = true then
      some (none, h)
    else
      if (j4 : Int64) = 0 then none else
      ((dcV L xs D 410 [15] o0 [.int (48 + (Int64.toInt32 ((j2 / j4) - (j2 / j4) / 10 * 10)))] h).bind dxV).bind fun h3 =>
      b411_43 L xs zf D w n o0 j2 (j4 / 10) h3
theorem c411_43 {L : Nat} {xs : Nat → Int32} {zf : Value} {D : dD} {w k : Nat} (hD : dO L xs zf D k) (hz : zf.category = 1) : ∀ (n : Nat) (o0 : Option Nat) (j2 : Int64) (j4 : Int64) (lv : rm_L) (h : rm_H) (r : dR), rm_get lv 0 = some (va_rf o0) → rm_get lv 2 = some (.long j2) → rm_get lv 4 = some (.long j4) → b411_43 L xs zf D w n  o0 j2 j4 h = some r → dq L xs zf ah_M411 43 lv [] h (k + 1) r := by
  intro n
  induction n with
  | zero =>
    intro o0 j2 j4 lv h r G0 G2 G4 hh
    cases hh
  | succ n ih =>
    intro o0 j2 j4 lv h r G0 G2 G4 hh
    rw [b411_43] at hh
    refine dq_ll 4 45 (by decide +kernel) rfl G4 ?_
    refine dq_S (.lconst 0) 1 [] 46 _ [.long 0, .long j4] (by decide +kernel) rfl ?_
    refine dq_S (.lcmp) 1 [] 47 _ [.int (lg_cmp j4 0)] (by decide +kernel) rfl ?_
    rcases di hh with ⟨q1, hh⟩ | ⟨q1, hh⟩
    · refine dq_1 .le 30 true 77 q1 (by decide +kernel) ?_
      cases hh
      exact dq_ret0 (by decide +kernel) rfl
    · refine dq_1 .le 30 false 50 q1 (by decide +kernel) ?_
      refine dq_aln 0 51 (by decide +kernel) rfl G0 ?_
      refine dq_S (.bipush 48) 2 [] 53 _ [.int 48, va_rf o0] (by decide +kernel) rfl ?_
      refine dq_lln 2 54 (by decide +kernel) rfl G2 ?_
      refine dq_ll 4 56 (by decide +kernel) rfl G4 ?_
      rcases dp hh with ⟨_, hh⟩ | ⟨q2, hh⟩
      · cases hh
      refine dq_divJ 57 q2 (by decide +kernel) rfl ?_
      refine dq_S (.ldc2_w 725) 3 [10] 60 _ [.long 10, .long (j2 / j4), .int 48, va_rf o0] (by decide +kernel) rfl ?_
      refine dq_remJ 61 (by decide) (by decide +kernel) rfl ?_
      refine dq_S (.l2i) 1 [] 62 _ [.int (Int64.toInt32 ((j2 / j4) - (j2 / j4) / 10 * 10)), .int 48, va_rf o0] (by decide +kernel) rfl ?_
      refine dq_S (.iadd) 1 [] 63 _ [.int (48 + (Int64.toInt32 ((j2 / j4) - (j2 / j4) / 10 * 10))), va_rf o0] (by decide +kernel) rfl ?_
      obtain ⟨h3, q4, hh⟩ := db hh
      obtain ⟨a5, q6, q4⟩ := db q4
      rw [dq_xV q4] at q6
      refine dq_cvi hD 720 410 5 1 [15] o0 [.int (48 + (Int64.toInt32 ((j2 / j4) - (j2 / j4) / 10 * 10)))] [] 66 [] (by decide +kernel) ap_410 ⟨⟨Nat.le_of_ble_eq_true rfl, by decide⟩, rfl, rfl⟩ (dq_ok8 [1, 1] [] (dc_r (dc_i dc_n)) dc_n (by decide +kernel)) (by decide +kernel) rfl q6 rfl ?_
      refine dq_ll 4 68 (by decide +kernel) rfl G4 ?_
      refine dq_S (.ldc2_w 725) 3 [10] 71 _ [.long 10, .long j4] (by decide +kernel) rfl ?_
      refine dq_divJ 72 (by decide) (by decide +kernel) rfl ?_
      refine dq_ls 4 74 (by decide +kernel) (by decide +kernel) ?_
      have g7 := dg_ne2 (i := 4) (u := .long (j4 / 10)) (by decide) (by decide) (Or.inl (by decide)) G0
      have g8 := dg_ne2 (i := 4) (u := .long (j4 / 10)) (by decide) (by decide) (Or.inl (by decide)) G2
      have g9 := dg_eq2 (lv) 4 (.long (j4 / 10))
      refine dq_S (.goto (-31)) 3 [] 43 _ [] (by decide +kernel) rfl ?_
      exact ih _ _ _ _ _ _ g7 g8 g9 hh
def b411_21 (L : Nat) (xs : Nat → Int32) (zf : Value) (D : dD) (w : Nat) : Nat → Option Nat → Int64 → Int64 → rm_H → Option dR
  | 0, _, _, _, _ => none
  | n + 1, o0, j2, j4, h =>
    if (j4 : Int64) = 0 then none else
    if mx_f1 .le (lg_cmp (j2 / j4) 9) = true then
      b411_43 L xs zf D w w o0 j2 j4 h
    else
      b411_21 L xs zf D w n o0 j2 (10 * j4) h
theorem c411_21 {L : Nat} {xs : Nat → Int32} {zf : Value} {D : dD} {w k : Nat} (hD : dO L xs zf D k) (hz : zf.category = 1) : ∀ (n : Nat) (o0 : Option Nat) (j2 : Int64) (j4 : Int64) (lv : rm_L) (h : rm_H) (r : dR), rm_get lv 0 = some (va_rf o0) → rm_get lv 2 = some (.long j2) → rm_get lv 4 = some (.long j4) → b411_21 L xs zf D w n  o0 j2 j4 h = some r → dq L xs zf ah_M411 21 lv [] h (k + 1) r := by
  intro n
  induction n with
  | zero =>
    intro o0 j2 j4 lv h r G0 G2 G4 hh
    cases hh
  | succ n ih =>
    intro o0 j2 j4 lv h r G0 G2 G4 hh
    rw [b411_21] at hh
    refine dq_lln 2 22 (by decide +kernel) rfl G2 ?_
    refine dq_ll 4 24 (by decide +kernel) rfl G4 ?_
    rcases dp hh with ⟨_, hh⟩ | ⟨q1, hh⟩
    · cases hh
    refine dq_divJ 25 q1 (by decide +kernel) rfl ?_
    refine dq_S (.ldc2_w 723) 3 [9] 28 _ [.long 9, .long (j2 / j4)] (by decide +kernel) rfl ?_
    refine dq_S (.lcmp) 1 [] 29 _ [.int (lg_cmp (j2 / j4) 9)] (by decide +kernel) rfl ?_
    rcases di hh with ⟨q2, hh⟩ | ⟨q2, hh⟩
    · refine dq_1 .le 14 true 43 q2 (by decide +kernel) ?_
      exact c411_43 hD hz _ _ _ _ _ _ _ G0 G2 G4 hh
    · refine dq_1 .le 14 false 32 q2 (by decide +kernel) ?_
      refine dq_S (.ldc2_w 725) 3 [10] 35 _ [.long 10] (by decide +kernel) rfl ?_
      refine dq_ll 4 37 (by decide +kernel) rfl G4 ?_
      refine dq_S (.lmul) 1 [] 38 _ [.long (10 * j4)] (by decide +kernel) rfl ?_
      refine dq_ls 4 40 (by decide +kernel) (by decide +kernel) ?_
      have g3 := dg_ne2 (i := 4) (u := .long (10 * j4)) (by decide) (by decide) (Or.inl (by decide)) G0
      have g4 := dg_ne2 (i := 4) (u := .long (10 * j4)) (by decide) (by decide) (Or.inl (by decide)) G2
      have g5 := dg_eq2 (lv) 4 (.long (10 * j4))
      refine dq_S (.goto (-19)) 3 [] 21 _ [] (by decide +kernel) rfl ?_
      exact ih _ _ _ _ _ _ g3 g4 g5 hh
def b411_18 (L : Nat) (xs : Nat → Int32) (zf : Value) (D : dD) (w : Nat) (o0 : Option Nat) (j2 : Int64) (h : rm_H) : Option dR :=
  b411_21 L xs zf D w w o0 j2 1 h
theorem c411_18 {L : Nat} {xs : Nat → Int32} {zf : Value} {D : dD} {w k : Nat} (hD : dO L xs zf D k) (hz : zf.category = 1) : ∀ (o0 : Option Nat) (j2 : Int64) (lv : rm_L) (h : rm_H) (r : dR), rm_get lv 0 = some (va_rf o0) → rm_get lv 2 = some (.long j2) → b411_18 L xs zf D w  o0 j2 h = some r → dq L xs zf ah_M411 18 lv [] h (k + 1) r := by
  intro o0 j2 lv h r G0 G2 hh
  unfold b411_18 at hh
  refine dq_S (.lconst 1) 1 [] 19 _ [.long 1] (by decide +kernel) rfl ?_
  refine dq_ls 4 21 (by decide +kernel) (by decide +kernel) ?_
  have g1 := dg_ne2 (i := 4) (u := .long 1) (by decide) (by decide) (Or.inl (by decide)) G0
  have g2 := dg_ne2 (i := 4) (u := .long 1) (by decide) (by decide) (Or.inl (by decide)) G2
  have g3 := dg_eq2 (lv) 4 (.long 1)
  exact c411_21 hD hz _ _ _ _ _ _ _ g1 g2 g3 hh
def b411_0 (L : Nat) (xs : Nat → Int32) (zf : Value) (D : dD) (w : Nat) (o0 : Option Nat) (i1 : Int32) (h : rm_H) : Option dR :=
  if mx_f1 .ge (lg_cmp (Int32.toInt64 i1) 0) = true then
    b411_18 L xs zf D w o0 (Int32.toInt64 i1) h
  else
    ((dcV L xs D 410 [15] o0 [.int 45] h).bind dxV).bind fun h5 =>
    b411_18 L xs zf D w o0 (-(Int32.toInt64 i1)) h5
theorem c411_0 {L : Nat} {xs : Nat → Int32} {zf : Value} {D : dD} {w k : Nat} (hD : dO L xs zf D k) (hz : zf.category = 1) : ∀ (o0 : Option Nat) (i1 : Int32) (lv : rm_L) (h : rm_H) (r : dR), rm_get lv 0 = some (va_rf o0) → rm_get lv 1 = some (.int i1) → b411_0 L xs zf D w  o0 i1 h = some r → dq L xs zf ah_M411 0 lv [] h (k + 1) r := by
  intro o0 i1 lv h r G0 G1 hh
  unfold b411_0 at hh
  refine dq_iln 1 1 (by decide +kernel) rfl G1 ?_
  refine dq_S (.i2l) 1 [] 2 _ [.long (Int32.toInt64 i1)] (by decide +kernel) rfl ?_
  refine dq_lsn 2 3 (by decide +kernel) (by decide +kernel) ?_
  have g1 := dg_ne2 (i := 2) (u := .long (Int32.toInt64 i1)) (by decide) (by decide) (Or.inl (by decide)) G0
  have g2 := dg_ne2 (i := 2) (u := .long (Int32.toInt64 i1)) (by decide) (by decide) (Or.inr rfl) G1
  have g3 := dg_eq2 (lv) 2 (.long (Int32.toInt64 i1))
  refine dq_lln 2 4 (by decide +kernel) rfl g3 ?_
  refine dq_S (.lconst 0) 1 [] 5 _ [.long 0, .long (Int32.toInt64 i1)] (by decide +kernel) rfl ?_
  refine dq_S (.lcmp) 1 [] 6 _ [.int (lg_cmp (Int32.toInt64 i1) 0)] (by decide +kernel) rfl ?_
  rcases di hh with ⟨q4, hh⟩ | ⟨q4, hh⟩
  · refine dq_1 .ge 12 true 18 q4 (by decide +kernel) ?_
    exact c411_18 hD hz _ _ _ _ _ g1 g3 hh
  · refine dq_1 .ge 12 false 9 q4 (by decide +kernel) ?_
    refine dq_aln 0 10 (by decide +kernel) rfl g1 ?_
    refine dq_S (.bipush 45) 2 [] 12 _ [.int 45, va_rf o0] (by decide +kernel) rfl ?_
    obtain ⟨h5, q6, hh⟩ := db hh
    obtain ⟨a7, q8, q6⟩ := db q6
    rw [dq_xV q6] at q8
    refine dq_cvi hD 720 410 5 1 [15] o0 [.int 45] [] 15 [] (by decide +kernel) ap_410 ⟨⟨Nat.le_of_ble_eq_true rfl, by decide⟩, rfl, rfl⟩ (dq_ok8 [1, 1] [] (dc_r (dc_i dc_n)) dc_n (by decide +kernel)) (by decide +kernel) rfl q8 rfl ?_
    refine dq_lln 2 16 (by decide +kernel) rfl g3 ?_
    refine dq_S (.lneg) 1 [] 17 _ [.long (-(Int32.toInt64 i1))] (by decide +kernel) rfl ?_
    refine dq_lsn 2 18 (by decide +kernel) (by decide +kernel) ?_
    have g9 := dg_ne2 (i := 2) (u := .long (-(Int32.toInt64 i1))) (by decide) (by decide) (Or.inl (by decide)) g1
    have g10 := dg_ne2 (i := 2) (u := .long (-(Int32.toInt64 i1))) (by decide) (by decide) (Or.inr rfl) g2
    have g11 := dg_eq2 (rm_set2 (lv) 2 (.long (Int32.toInt64 i1))) 2 (.long (-(Int32.toInt64 i1)))
    exact c411_18 hD hz _ _ _ _ _ g9 g11 hh
def f411 (L : Nat) (xs : Nat → Int32) (zf : Value) (D : dD) (w : Nat) (As : List Value) (h : rm_H) : Option dR := match As with
  | [v0, .int i1] => (rm_rf v0).bind fun o0 => b411_0 L xs zf D w o0 i1 h
  | _ => none
theorem d411 {L : Nat} {xs : Nat → Int32} {zf : Value} {D : dD} {w k : Nat} (hD : dO L xs zf D k) (hz : zf.category = 1) (As : List Value) (h : rm_H) (r : dR) (hh : f411 L xs zf D w As h = some r) : dq L xs zf ah_M411 0 (lv_args 0 As) [] h (k + 1) r := by
  unfold f411 at hh
  split at hh
  · obtain ⟨o0, e0, hb0⟩ := db hh
    have e0 := rm_rf_v _ _ e0
    subst e0
    refine c411_0 hD hz _ _ _ _ _ ?_ ?_ hb0
    all_goals (simp only [la_r, la_i, la_j]; rfl)
  · cases hh
def b412_26 (L : Nat) (xs : Nat → Int32) (zf : Value) (D : dD) (w : Nat) (h : rm_H) : Option dR :=
  drI (some .int) (-1) h
theorem c412_26 {L : Nat} {xs : Nat → Int32} {zf : Value} {D : dD} {w k : Nat} (hD : dO L xs zf D k) (hz : zf.category = 1) : ∀ (lv : rm_L) (h : rm_H) (r : dR), b412_26 L xs zf D w  h = some r → dq L xs zf ah_M412 26 lv [] h (k + 1) r := by
  intro lv h r hh
  unfold b412_26 at hh
  refine dq_S (.iconst (-1)) 1 [] 27 _ [.int (-1)] (by decide +kernel) rfl ?_
  exact dq_retI (some .int) (by decide +kernel) rfl hh
def b412_120 (L : Nat) (xs : Nat → Int32) (zf : Value) (D : dD) (w : Nat) (K87 : Option Nat → Int32 → Int32 → Int32 → rm_H → Option dR) (o0 : Option Nat) (i3 : Int32) (i4 : Int32) (i5 : Int32) (h : rm_H) : Option dR :=
  (dgR L xs h 105 [15] o0).bind fun p1 =>
  (daJ L xs h p1 ((6 * i3) + i5)).bind fun y3 =>
  (dgR L xs h 106 [15] o0).bind fun p5 =>
  ((dcV L xs D 407 [15] o0 [.long y3, va_rf p5, .int (400 * i3)] h).bind dxV).bind fun h7 =>
  K87 o0 i3 i4 (i5 + 1) h7
theorem c412_120 {L : Nat} {xs : Nat → Int32} {zf : Value} {D : dD} {w k : Nat} {K87 : Option Nat → Int32 → Int32 → Int32 → rm_H → Option dR} (hD : dO L xs zf D k) (hz : zf.category = 1) (hK87 : ∀ (o0 : Option Nat) (i3 : Int32) (i4 : Int32) (i5 : Int32) (lv : rm_L) (h : rm_H) (r : dR), rm_get lv 0 = some (va_rf o0) → rm_get lv 3 = some (.int i3) → rm_get lv 4 = some (.int i4) → rm_get lv 5 = some (.int i5) → K87 o0 i3 i4 i5 h = some r → dq L xs zf ah_M412 87 lv [] h (k + 1) r) : ∀ (o0 : Option Nat) (i3 : Int32) (i4 : Int32) (i5 : Int32) (lv : rm_L) (h : rm_H) (r : dR), rm_get lv 0 = some (va_rf o0) → rm_get lv 3 = some (.int i3) → rm_get lv 4 = some (.int i4) → rm_get lv 5 = some (.int i5) → b412_120 L xs zf D w K87  o0 i3 i4 i5 h = some r → dq L xs zf ah_M412 120 lv [] h (k + 1) r := by
  intro o0 i3 i4 i5 lv h r G0 G3 G4 G5 hh
  unfold b412_120 at hh
  refine dq_aln 0 121 (by decide +kernel) rfl G0 ?_
  refine dq_aln 0 122 (by decide +kernel) rfl G0 ?_
  obtain ⟨p1, q2, hh⟩ := db hh
  refine dq_gR 227 105 [15] 125 (by decide +kernel) rfl q2 ?_
  refine dq_S (.bipush 6) 2 [] 127 _ [.int 6, va_rf p1, va_rf o0] (by decide +kernel) rfl ?_
  refine dq_iln 3 128 (by decide +kernel) rfl G3 ?_
  refine dq_S (.imul) 1 [] 129 _ [.int (6 * i3), va_rf p1, va_rf o0] (by decide +kernel) rfl ?_
  refine dq_il 5 131 (by decide +kernel) rfl G5 ?_
  refine dq_S (.iadd) 1 [] 132 _ [.int ((6 * i3) + i5), va_rf p1, va_rf o0] (by decide +kernel) rfl ?_
  obtain ⟨y3, q4, hh⟩ := db hh
  refine dq_aJ 133 (by decide +kernel) rfl q4 ?_
  refine dq_aln 0 134 (by decide +kernel) rfl G0 ?_
  obtain ⟨p5, q6, hh⟩ := db hh
  refine dq_gR 230 106 [15] 137 (by decide +kernel) rfl q6 ?_
  refine dq_S (.sipush 400) 3 [] 140 _ [.int 400, va_rf p5, .long y3, va_rf o0] (by decide +kernel) rfl ?_
  refine dq_iln 3 141 (by decide +kernel) rfl G3 ?_
  refine dq_S (.imul) 1 [] 142 _ [.int (400 * i3), va_rf p5, .long y3, va_rf o0] (by decide +kernel) rfl ?_
  obtain ⟨h7, q8, hh⟩ := db hh
  obtain ⟨a9, q10, q8⟩ := db q8
  rw [dq_xV q8] at q10
  refine dq_cvi hD 743 407 5 3 [15] o0 [.long y3, va_rf p5, .int (400 * i3)] [] 145 [] (by decide +kernel) ap_407 ⟨⟨Nat.le_of_ble_eq_true rfl, by decide⟩, rfl, rfl⟩ (dq_ok8 [1, 2, 1, 1] [] (dc_r (dc_j (dc_r (dc_i dc_n)))) dc_n (by decide +kernel)) (by decide +kernel) rfl q10 rfl ?_
  refine dq_incy 5 1 1 148 (by decide +kernel) ⟨rfl, by decide +kernel, by decide +kernel⟩ G5 ?_
  have g11 := dg_ne (i := 5) (u := .int (i5 + 1)) (by decide) (Or.inl (by decide)) G0
  have g12 := dg_ne (i := 5) (u := .int (i5 + 1)) (by decide) (Or.inl (by decide)) G3
  have g13 := dg_ne (i := 5) (u := .int (i5 + 1)) (by decide) (Or.inr rfl) G4
  have g14 := dg_eq (lv) 5 (.int (i5 + 1))
  refine dq_S (.goto (-61)) 3 [] 87 _ [] (by decide +kernel) rfl ?_
  exact hK87 _ _ _ _ _ _ _ g11 g12 g13 g14 hh
def b412_87 (L : Nat) (xs : Nat → Int32) (zf : Value) (D : dD) (w : Nat) : Nat → Option Nat → Int32 → Int32 → Int32 → rm_H → Option dR
  | 0, _, _, _, _, _ => none
  | n + 1, o0, i3, i4, i5, h =>
    (dgR L xs h 50 [15] o0).bind fun p1 =>
    (daI L xs h p1 (i4 + 1)).bind fun x3 =>
    (dgR L xs h 50 [15] o0).bind fun p5 =>
    (daI L xs h p5 i4).bind fun x7 =>
    if mx_f2 .ge i5 (x3 - x7) = true then
      ((dcV L xs D 410 [15] o0 [.int 41] h).bind dxV).bind fun h10 =>
      (dgI L xs h10 111 [15] o0).bind fun x14 =>
      drI (some .int) x14 h10
    else
      if mx_f1 .le i5 = true then
        b412_120 L xs zf D w (b412_87 L xs zf D w n) o0 i3 i4 i5 h
      else
        ((dcV L xs D 410 [15] o0 [.int 44] h).bind dxV).bind fun h17 =>
        b412_120 L xs zf D w (b412_87 L xs zf D w n) o0 i3 i4 i5 h17
theorem c412_87 {L : Nat} {xs : Nat → Int32} {zf : Value} {D : dD} {w k : Nat} (hD : dO L xs zf D k) (hz : zf.category = 1) : ∀ (n : Nat) (o0 : Option Nat) (i3 : Int32) (i4 : Int32) (i5 : Int32) (lv : rm_L) (h : rm_H) (r : dR), rm_get lv 0 = some (va_rf o0) → rm_get lv 3 = some (.int i3) → rm_get lv 4 = some (.int i4) → rm_get lv 5 = some (.int i5) → b412_87 L xs zf D w n  o0 i3 i4 i5 h = some r → dq L xs zf ah_M412 87 lv [] h (k + 1) r := by
  intro n
  induction n with
  | zero =>
    intro o0 i3 i4 i5 lv h r G0 G3 G4 G5 hh
    cases hh
  | succ n ih =>
    intro o0 i3 i4 i5 lv h r G0 G3 G4 G5 hh
    rw [b412_87] at hh
    refine dq_il 5 89 (by decide +kernel) rfl G5 ?_
    refine dq_aln 0 90 (by decide +kernel) rfl G0 ?_
    obtain ⟨p1, q2, hh⟩ := db hh
    refine dq_gR 136 50 [15] 93 (by decide +kernel) rfl q2 ?_
    refine dq_il 4 95 (by decide +kernel) rfl G4 ?_
    refine dq_S (.iconst 1) 1 [] 96 _ [.int 1, .int i4, va_rf p1, .int i5] (by decide +kernel) rfl ?_
    refine dq_S (.iadd) 1 [] 97 _ [.int (i4 + 1), va_rf p1, .int i5] (by decide +kernel) rfl ?_
    obtain ⟨x3, q4, hh⟩ := db hh
    refine dq_aI 98 (by decide +kernel) rfl q4 ?_
    refine dq_aln 0 99 (by decide +kernel) rfl G0 ?_
    obtain ⟨p5, q6, hh⟩ := db hh
    refine dq_gR 136 50 [15] 102 (by decide +kernel) rfl q6 ?_
    refine dq_il 4 104 (by decide +kernel) rfl G4 ?_
    obtain ⟨x7, q8, hh⟩ := db hh
    refine dq_aI 105 (by decide +kernel) rfl q8 ?_
    refine dq_S (.isub) 1 [] 106 _ [.int (x3 - x7), .int i5] (by decide +kernel) rfl ?_
    rcases di hh with ⟨q9, hh⟩ | ⟨q9, hh⟩
    · refine dq_2 .ge 45 true 151 q9 (by decide +kernel) ?_
      refine dq_aln 0 152 (by decide +kernel) rfl G0 ?_
      refine dq_S (.bipush 41) 2 [] 154 _ [.int 41, va_rf o0] (by decide +kernel) rfl ?_
      obtain ⟨h10, q11, hh⟩ := db hh
      obtain ⟨a12, q13, q11⟩ := db q11
      rw [dq_xV q11] at q13
      refine dq_cvi hD 720 410 5 1 [15] o0 [.int 41] [] 157 [] (by decide +kernel) ap_410 ⟨⟨Nat.le_of_ble_eq_true rfl, by decide⟩, rfl, rfl⟩ (dq_ok8 [1, 1] [] (dc_r (dc_i dc_n)) dc_n (by decide +kernel)) (by decide +kernel) rfl q13 rfl ?_
      refine dq_aln 0 158 (by decide +kernel) rfl G0 ?_
      obtain ⟨x14, q15, hh⟩ := db hh
      refine dq_gI 572 111 [15] 161 (by decide +kernel) rfl q15 ?_
      exact dq_retI (some .int) (by decide +kernel) rfl hh
    · refine dq_2 .ge 45 false 109 q9 (by decide +kernel) ?_
      refine dq_il 5 111 (by decide +kernel) rfl G5 ?_
      rcases di hh with ⟨q16, hh⟩ | ⟨q16, hh⟩
      · refine dq_1 .le 9 true 120 q16 (by decide +kernel) ?_
        exact c412_120 hD hz ih _ _ _ _ _ _ _ G0 G3 G4 G5 hh
      · refine dq_1 .le 9 false 114 q16 (by decide +kernel) ?_
        refine dq_aln 0 115 (by decide +kernel) rfl G0 ?_
        refine dq_S (.bipush 44) 2 [] 117 _ [.int 44, va_rf o0] (by decide +kernel) rfl ?_
        obtain ⟨h17, q18, hh⟩ := db hh
        obtain ⟨a19, q20, q18⟩ := db q18
        rw [dq_xV q18] at q20
        refine dq_cvi hD 720 410 5 1 [15] o0 [.int 44] [] 120 [] (by decide +kernel) ap_410 ⟨⟨Nat.le_of_ble_eq_true rfl, by decide⟩, rfl, rfl⟩ (dq_ok8 [1, 1] [] (dc_r (dc_i dc_n)) dc_n (by decide +kernel)) (by decide +kernel) rfl q20 rfl ?_
        exact c412_120 hD hz ih _ _ _ _ _ _ _ G0 G3 G4 G5 hh
def b412_75 (L : Nat) (xs : Nat → Int32) (zf : Value) (D : dD) (w : Nat) (o0 : Option Nat) (i3 : Int32) (i4 : Int32) (s0 : Int64) (s1 : Option Nat) (h : rm_H) : Option dR :=
  ((dcV L xs D 409 [15] s1 [.long s0] h).bind dxV).bind fun h1 =>
  ((dcV L xs D 410 [15] o0 [.int 40] h1).bind dxV).bind fun h5 =>
  b412_87 L xs zf D w w o0 i3 i4 0 h5
theorem c412_75 {L : Nat} {xs : Nat → Int32} {zf : Value} {D : dD} {w k : Nat} (hD : dO L xs zf D k) (hz : zf.category = 1) : ∀ (o0 : Option Nat) (i3 : Int32) (i4 : Int32) (s0 : Int64) (s1 : Option Nat) (lv : rm_L) (h : rm_H) (r : dR), rm_get lv 0 = some (va_rf o0) → rm_get lv 3 = some (.int i3) → rm_get lv 4 = some (.int i4) → b412_75 L xs zf D w  o0 i3 i4 s0 s1 h = some r → dq L xs zf ah_M412 75 lv [.long s0, va_rf s1] h (k + 1) r := by
  intro o0 i3 i4 s0 s1 lv h r G0 G3 G4 hh
  unfold b412_75 at hh
  obtain ⟨h1, q2, hh⟩ := db hh
  obtain ⟨a3, q4, q2⟩ := db q2
  rw [dq_xV q2] at q4
  refine dq_cvi hD 729 409 5 1 [15] s1 [.long s0] [] 78 [] (by decide +kernel) ap_409 ⟨⟨Nat.le_of_ble_eq_true rfl, by decide⟩, rfl, rfl⟩ (dq_ok8 [1, 2] [] (dc_r (dc_j dc_n)) dc_n (by decide +kernel)) (by decide +kernel) rfl q4 rfl ?_
  refine dq_aln 0 79 (by decide +kernel) rfl G0 ?_
  refine dq_S (.bipush 40) 2 [] 81 _ [.int 40, va_rf o0] (by decide +kernel) rfl ?_
  obtain ⟨h5, q6, hh⟩ := db hh
  obtain ⟨a7, q8, q6⟩ := db q6
  rw [dq_xV q6] at q8
  refine dq_cvi hD 720 410 5 1 [15] o0 [.int 40] [] 84 [] (by decide +kernel) ap_410 ⟨⟨Nat.le_of_ble_eq_true rfl, by decide⟩, rfl, rfl⟩ (dq_ok8 [1, 1] [] (dc_r (dc_i dc_n)) dc_n (by decide +kernel)) (by decide +kernel) rfl q8 rfl ?_
  refine dq_S (.iconst 0) 1 [] 85 _ [.int 0] (by decide +kernel) rfl ?_
  refine dq_is 5 87 (by decide +kernel) (by decide +kernel) ?_
  have g9 := dg_ne (i := 5) (u := .int 0) (by decide) (Or.inl (by decide)) G0
  have g10 := dg_ne (i := 5) (u := .int 0) (by decide) (Or.inl (by decide)) G3
  have g11 := dg_ne (i := 5) (u := .int 0) (by decide) (Or.inr rfl) G4
  have g12 := dg_eq (lv) 5 (.int 0)
  exact c412_87 hD hz _ _ _ _ _ _ _ _ g9 g10 g11 g12 hh
def b412_0 (L : Nat) (xs : Nat → Int32) (zf : Value) (D : dD) (w : Nat) (o0 : Option Nat) (i1 : Int32) (i2 : Int32) (h : rm_H) : Option dR :=
  ((dcV L xs D 406 [15] o0 [] h).bind dxV).bind fun h1 =>
  ((dcV L xs D 381 [15] o0 [.int i1] h1).bind dxI).bind fun x5 =>
  if mx_f1 .eq x5.1 = true then
    b412_26 L xs zf D w x5.2
  else
    if mx_f1 .lt i2 = true then
      b412_26 L xs zf D w x5.2
    else
      (dgR L xs x5.2 93 [15] o0).bind fun p11 =>
      (daI L xs x5.2 p11 i1).bind fun x13 =>
      if mx_f2 .lt i2 x13 = true then
        (dgR L xs x5.2 101 [15] o0).bind fun p16 =>
        (daI L xs x5.2 p16 ((6 * i1) + i2)).bind fun x18 =>
        (dgR L xs x5.2 102 [15] o0).bind fun p24 =>
        (daI L xs x5.2 p24 x18).bind fun x26 =>
        (dgR L xs x5.2 43 [15] o0).bind fun p33 =>
        (daI L xs x5.2 p33 x26).bind fun x35 =>
        if mx_f1 .ne x35 = true then
          (dgR L xs x5.2 51 [15] o0).bind fun p38 =>
          (daJ L xs x5.2 p38 x26).bind fun y40 =>
          b412_75 L xs zf D w o0 x18 x26 y40 o0 x5.2
        else
          (dgR L xs x5.2 4 [15] o0).bind fun p42 =>
          (daJ L xs x5.2 p42 2).bind fun y44 =>
          b412_75 L xs zf D w o0 x18 x26 y44 o0 x5.2
      else
        b412_26 L xs zf D w x5.2
theorem c412_0 {L : Nat} {xs : Nat → Int32} {zf : Value} {D : dD} {w k : Nat} (hD : dO L xs zf D k) (hz : zf.category = 1) : ∀ (o0 : Option Nat) (i1 : Int32) (i2 : Int32) (lv : rm_L) (h : rm_H) (r : dR), rm_get lv 0 = some (va_rf o0) → rm_get lv 1 = some (.int i1) → rm_get lv 2 = some (.int i2) → b412_0 L xs zf D w  o0 i1 i2 h = some r → dq L xs zf ah_M412 0 lv [] h (k + 1) r := by
  intro o0 i1 i2 lv h r G0 G1 G2 hh
  unfold b412_0 at hh
  refine dq_aln 0 1 (by decide +kernel) rfl G0 ?_
  obtain ⟨h1, q2, hh⟩ := db hh
  obtain ⟨a3, q4, q2⟩ := db q2
  rw [dq_xV q2] at q4
  refine dq_cvi hD 740 406 5 0 [15] o0 [] [] 4 [] (by decide +kernel) ap_406 ⟨⟨Nat.le_of_ble_eq_true rfl, by decide⟩, rfl, rfl⟩ (dq_ok8 [1] [] (dc_r dc_n) dc_n (by decide +kernel)) (by decide +kernel) rfl q4 rfl ?_
  refine dq_aln 0 5 (by decide +kernel) rfl G0 ?_
  refine dq_iln 1 6 (by decide +kernel) rfl G1 ?_
  obtain ⟨x5, q6, hh⟩ := db hh
  obtain ⟨a7, q8, q6⟩ := db q6
  rw [dq_xI q6] at q8
  refine dq_cvi hD 709 381 5 1 [15] o0 [.int i1] [] 9 [.int x5.1] (by decide +kernel) ap_381 ⟨⟨Nat.le_of_ble_eq_true rfl, by decide⟩, rfl, rfl⟩ (dq_ok8 [1, 1] [] (dc_r (dc_i dc_n)) dc_n (by decide +kernel)) (by decide +kernel) rfl q8 rfl ?_
  rcases di hh with ⟨q9, hh⟩ | ⟨q9, hh⟩
  · refine dq_1 .eq 17 true 26 q9 (by decide +kernel) ?_
    exact c412_26 hD hz  _ _ _  hh
  · refine dq_1 .eq 17 false 12 q9 (by decide +kernel) ?_
    refine dq_iln 2 13 (by decide +kernel) rfl G2 ?_
    rcases di hh with ⟨q10, hh⟩ | ⟨q10, hh⟩
    · refine dq_1 .lt 13 true 26 q10 (by decide +kernel) ?_
      exact c412_26 hD hz  _ _ _  hh
    · refine dq_1 .lt 13 false 16 q10 (by decide +kernel) ?_
      refine dq_iln 2 17 (by decide +kernel) rfl G2 ?_
      refine dq_aln 0 18 (by decide +kernel) rfl G0 ?_
      obtain ⟨p11, q12, hh⟩ := db hh
      refine dq_gR 190 93 [15] 21 (by decide +kernel) rfl q12 ?_
      refine dq_iln 1 22 (by decide +kernel) rfl G1 ?_
      obtain ⟨x13, q14, hh⟩ := db hh
      refine dq_aI 23 (by decide +kernel) rfl q14 ?_
      rcases di hh with ⟨q15, hh⟩ | ⟨q15, hh⟩
      · refine dq_2 .lt 5 true 28 q15 (by decide +kernel) ?_
        refine dq_aln 0 29 (by decide +kernel) rfl G0 ?_
        obtain ⟨p16, q17, hh⟩ := db hh
        refine dq_gR 215 101 [15] 32 (by decide +kernel) rfl q17 ?_
        refine dq_S (.bipush 6) 2 [] 34 _ [.int 6, va_rf p16] (by decide +kernel) rfl ?_
        refine dq_iln 1 35 (by decide +kernel) rfl G1 ?_
        refine dq_S (.imul) 1 [] 36 _ [.int (6 * i1), va_rf p16] (by decide +kernel) rfl ?_
        refine dq_iln 2 37 (by decide +kernel) rfl G2 ?_
        refine dq_S (.iadd) 1 [] 38 _ [.int ((6 * i1) + i2), va_rf p16] (by decide +kernel) rfl ?_
        obtain ⟨x18, q19, hh⟩ := db hh
        refine dq_aI 39 (by decide +kernel) rfl q19 ?_
        refine dq_isn 3 40 (by decide +kernel) (by decide +kernel) ?_
        have g20 := dg_ne (i := 3) (u := .int x18) (by decide) (Or.inl (by decide)) G0
        have g21 := dg_ne (i := 3) (u := .int x18) (by decide) (Or.inl (by decide)) G1
        have g22 := dg_ne (i := 3) (u := .int x18) (by decide) (Or.inr rfl) G2
        have g23 := dg_eq (lv) 3 (.int x18)
        refine dq_aln 0 41 (by decide +kernel) rfl g20 ?_
        obtain ⟨p24, q25, hh⟩ := db hh
        refine dq_gR 218 102 [15] 44 (by decide +kernel) rfl q25 ?_
        refine dq_iln 3 45 (by decide +kernel) rfl g23 ?_
        obtain ⟨x26, q27, hh⟩ := db hh
        refine dq_aI 46 (by decide +kernel) rfl q27 ?_
        refine dq_is 4 48 (by decide +kernel) (by decide +kernel) ?_
        have g28 := dg_ne (i := 4) (u := .int x26) (by decide) (Or.inl (by decide)) g20
        have g29 := dg_ne (i := 4) (u := .int x26) (by decide) (Or.inl (by decide)) g21
        have g30 := dg_ne (i := 4) (u := .int x26) (by decide) (Or.inl (by decide)) g22
        have g31 := dg_ne (i := 4) (u := .int x26) (by decide) (Or.inr rfl) g23
        have g32 := dg_eq (rm_set1 (lv) 3 (.int x18)) 4 (.int x26)
        refine dq_aln 0 49 (by decide +kernel) rfl g28 ?_
        refine dq_aln 0 50 (by decide +kernel) rfl g28 ?_
        obtain ⟨p33, q34, hh⟩ := db hh
        refine dq_gR 115 43 [15] 53 (by decide +kernel) rfl q34 ?_
        refine dq_il 4 55 (by decide +kernel) rfl g32 ?_
        obtain ⟨x35, q36, hh⟩ := db hh
        refine dq_aI 56 (by decide +kernel) rfl q36 ?_
        rcases di hh with ⟨q37, hh⟩ | ⟨q37, hh⟩
        · refine dq_1 .ne 12 true 68 q37 (by decide +kernel) ?_
          refine dq_aln 0 69 (by decide +kernel) rfl g28 ?_
          obtain ⟨p38, q39, hh⟩ := db hh
          refine dq_gR 139 51 [15] 72 (by decide +kernel) rfl q39 ?_
          refine dq_il 4 74 (by decide +kernel) rfl g32 ?_
          obtain ⟨y40, q41, hh⟩ := db hh
          refine dq_aJ 75 (by decide +kernel) rfl q41 ?_
          exact c412_75 hD hz _ _ _ _ _ _ _ _ g28 g31 g32 hh
        · refine dq_1 .ne 12 false 59 q37 (by decide +kernel) ?_
          refine dq_aln 0 60 (by decide +kernel) rfl g28 ?_
          obtain ⟨p42, q43, hh⟩ := db hh
          refine dq_gR 20 4 [15] 63 (by decide +kernel) rfl q43 ?_
          refine dq_S (.iconst 2) 1 [] 64 _ [.int 2, va_rf p42, va_rf o0] (by decide +kernel) rfl ?_
          obtain ⟨y44, q45, hh⟩ := db hh
          refine dq_aJ 65 (by decide +kernel) rfl q45 ?_
          refine dq_S (.goto 10) 3 [] 75 _ [.long y44, va_rf o0] (by decide +kernel) rfl ?_
          exact c412_75 hD hz _ _ _ _ _ _ _ _ g28 g31 g32 hh
      · refine dq_2 .lt 5 false 26 q15 (by decide +kernel) ?_
        exact c412_26 hD hz  _ _ _  hh
def f412 (L : Nat) (xs : Nat → Int32) (zf : Value) (D : dD) (w : Nat) (As : List Value) (h : rm_H) : Option dR := match As with
  | [v0, .int i1, .int i2] => (rm_rf v0).bind fun o0 => b412_0 L xs zf D w o0 i1 i2 h
  | _ => none
theorem d412 {L : Nat} {xs : Nat → Int32} {zf : Value} {D : dD} {w k : Nat} (hD : dO L xs zf D k) (hz : zf.category = 1) (As : List Value) (h : rm_H) (r : dR) (hh : f412 L xs zf D w As h = some r) : dq L xs zf ah_M412 0 (lv_args 0 As) [] h (k + 1) r := by
  unfold f412 at hh
  split at hh
  · obtain ⟨o0, e0, hb0⟩ := db hh
    have e0 := rm_rf_v _ _ e0
    subst e0
    refine c412_0 hD hz _ _ _ _ _ _ ?_ ?_ ?_ hb0
    all_goals (simp only [la_r, la_i, la_j]; rfl)
  · cases hh
def b413_29 (L : Nat) (xs : Nat → Int32) (zf : Value) (D : dD) (w : Nat) (s0 : Int32) (h : rm_H) : Option dR :=
  drI (some .int) s0 h
theorem c413_29 {L : Nat} {xs : Nat → Int32} {zf : Value} {D : dD} {w k : Nat} (hD : dO L xs zf D k) (hz : zf.category = 1) : ∀ (s0 : Int32) (lv : rm_L) (h : rm_H) (r : dR), b413_29 L xs zf D w  s0 h = some r → dq L xs zf ah_M413 29 lv [.int s0] h (k + 1) r := by
  intro s0 lv h r hh
  unfold b413_29 at hh
  exact dq_retI (some .int) (by decide +kernel) rfl hh
def b413_19 (L : Nat) (xs : Nat → Int32) (zf : Value) (D : dD) (w : Nat) (h : rm_H) : Option dR :=
  b413_29 L xs zf D w 0 h
theorem c413_19 {L : Nat} {xs : Nat → Int32} {zf : Value} {D : dD} {w k : Nat} (hD : dO L xs zf D k) (hz : zf.category = 1) : ∀ (lv : rm_L) (h : rm_H) (r : dR), b413_19 L xs zf D w  h = some r → dq L xs zf ah_M413 19 lv [] h (k + 1) r := by
  intro lv h r hh
  unfold b413_19 at hh
  refine dq_S (.iconst 0) 1 [] 20 _ [.int 0] (by decide +kernel) rfl ?_
  refine dq_S (.goto 9) 3 [] 29 _ [.int 0] (by decide +kernel) rfl ?_
  exact c413_29 hD hz _ _ _ _  hh
def b413_0 (L : Nat) (xs : Nat → Int32) (zf : Value) (D : dD) (w : Nat) (o0 : Option Nat) (i1 : Int32) (h : rm_H) : Option dR :=
  if mx_f1 .lt i1 = true then
    b413_19 L xs zf D w h
  else
    (dgI L xs h 111 [15] o0).bind fun x2 =>
    if mx_f2 .ge i1 x2 = true then
      b413_19 L xs zf D w h
    else
      if mx_f2 .lt i1 3000 = true then
        (dgR L xs h 110 [15] o0).bind fun p6 =>
        (daI L xs h p6 i1).bind fun x8 =>
        b413_29 L xs zf D w x8 h
      else
        b413_19 L xs zf D w h
theorem c413_0 {L : Nat} {xs : Nat → Int32} {zf : Value} {D : dD} {w k : Nat} (hD : dO L xs zf D k) (hz : zf.category = 1) : ∀ (o0 : Option Nat) (i1 : Int32) (lv : rm_L) (h : rm_H) (r : dR), rm_get lv 0 = some (va_rf o0) → rm_get lv 1 = some (.int i1) → b413_0 L xs zf D w  o0 i1 h = some r → dq L xs zf ah_M413 0 lv [] h (k + 1) r := by
  intro o0 i1 lv h r G0 G1 hh
  unfold b413_0 at hh
  refine dq_iln 1 1 (by decide +kernel) rfl G1 ?_
  rcases di hh with ⟨q1, hh⟩ | ⟨q1, hh⟩
  · refine dq_1 .lt 18 true 19 q1 (by decide +kernel) ?_
    exact c413_19 hD hz  _ _ _  hh
  · refine dq_1 .lt 18 false 4 q1 (by decide +kernel) ?_
    refine dq_iln 1 5 (by decide +kernel) rfl G1 ?_
    refine dq_aln 0 6 (by decide +kernel) rfl G0 ?_
    obtain ⟨x2, q3, hh⟩ := db hh
    refine dq_gI 572 111 [15] 9 (by decide +kernel) rfl q3 ?_
    rcases di hh with ⟨q4, hh⟩ | ⟨q4, hh⟩
    · refine dq_2 .ge 10 true 19 q4 (by decide +kernel) ?_
      exact c413_19 hD hz  _ _ _  hh
    · refine dq_2 .ge 10 false 12 q4 (by decide +kernel) ?_
      refine dq_iln 1 13 (by decide +kernel) rfl G1 ?_
      refine dq_S (.sipush 3000) 3 [] 16 _ [.int 3000, .int i1] (by decide +kernel) rfl ?_
      rcases di hh with ⟨q5, hh⟩ | ⟨q5, hh⟩
      · refine dq_2 .lt 7 true 23 q5 (by decide +kernel) ?_
        refine dq_aln 0 24 (by decide +kernel) rfl G0 ?_
        obtain ⟨p6, q7, hh⟩ := db hh
        refine dq_gR 242 110 [15] 27 (by decide +kernel) rfl q7 ?_
        refine dq_iln 1 28 (by decide +kernel) rfl G1 ?_
        obtain ⟨x8, q9, hh⟩ := db hh
        refine dq_aI 29 (by decide +kernel) rfl q9 ?_
        exact c413_29 hD hz _ _ _ _  hh
      · refine dq_2 .lt 7 false 19 q5 (by decide +kernel) ?_
        exact c413_19 hD hz  _ _ _  hh
def f413 (L : Nat) (xs : Nat → Int32) (zf : Value) (D : dD) (w : Nat) (As : List Value) (h : rm_H) : Option dR := match As with
  | [v0, .int i1] => (rm_rf v0).bind fun o0 => b413_0 L xs zf D w o0 i1 h
  | _ => none
theorem d413 {L : Nat} {xs : Nat → Int32} {zf : Value} {D : dD} {w k : Nat} (hD : dO L xs zf D k) (hz : zf.category = 1) (As : List Value) (h : rm_H) (r : dR) (hh : f413 L xs zf D w As h = some r) : dq L xs zf ah_M413 0 (lv_args 0 As) [] h (k + 1) r := by
  unfold f413 at hh
  split at hh
  · obtain ⟨o0, e0, hb0⟩ := db hh
    have e0 := rm_rf_v _ _ e0
    subst e0
    refine c413_0 hD hz _ _ _ _ _ ?_ ?_ hb0
    all_goals (simp only [la_r, la_i, la_j]; rfl)
  · cases hh
