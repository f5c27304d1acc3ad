/-! METHODS AS FUNCTIONS, printed by wip/whole/gen_fun.py -/
def b235_12 (L : Nat) (xs : Nat → Int32) (zf : Value) (D : dD) (w : Nat) (h : rm_H) : Option dR :=
  drI (some .int) (-1) h
theorem c235_12 {L : Nat} {xs : Nat → Int32} {zf : Value} {D : dD} {w k : Nat} (hD : dO L xs zf D k) (hz : zf.category = 1) : ∀ (lv : rm_L) (h : rm_H) (r : dR), b235_12 L xs zf D w  h = some r → dq L xs zf ah_M235 12 lv [] h (k + 1) r := by
  intro lv h r hh
  unfold b235_12 at hh
  refine dq_S (.iconst (-1)) 1 [] 13 _ [.int (-1)] (by decide +kernel) rfl ?_
  exact dq_retI (some .int) (by decide +kernel) rfl hh
def b235_55 (L : Nat) (xs : Nat → Int32) (zf : Value) (D : dD) (w : Nat) (i4 : Int32) (h : rm_H) : Option dR :=
  drI (some .int) i4 h
theorem c235_55 {L : Nat} {xs : Nat → Int32} {zf : Value} {D : dD} {w k : Nat} (hD : dO L xs zf D k) (hz : zf.category = 1) : ∀ (i4 : Int32) (lv : rm_L) (h : rm_H) (r : dR), rm_get lv 4 = some (.int i4) → b235_55 L xs zf D w  i4 h = some r → dq L xs zf ah_M235 55 lv [] h (k + 1) r := by
  intro i4 lv h r G4 hh
  unfold b235_55 at hh
  refine dq_il 4 57 (by decide +kernel) rfl G4 ?_
  exact dq_retI (some .int) (by decide +kernel) rfl hh
def b235_32 (L : Nat) (xs : Nat → Int32) (zf : Value) (D : dD) (w : Nat) : Nat → Option Nat → Int32 → Option Nat → Int32 → rm_H → Option dR
  | 0, _, _, _, _, _ => none
  | n + 1, o0, i2, o3, i4, h =>
    if mx_f2 .ge i4 i2 = true then
      b235_55 L xs zf D w i4 h
    else
      (dgR L xs h 1 [0] o0).bind fun p2 =>
      ((dcV L xs D 237 [2] p2 [va_rf o3] h).bind dxI).bind fun x4 =>
      if mx_f1 .eq x4.1 = true then
        b235_55 L xs zf D w i4 x4.2
      else
        b235_32 L xs zf D w n o0 i2 o3 (i4 + 1) x4.2
theorem c235_32 {L : Nat} {xs : Nat → Int32} {zf : Value} {D : dD} {w k : Nat} (hD : dO L xs zf D k) (hz : zf.category = 1) : ∀ (n : Nat) (o0 : Option Nat) (i2 : Int32) (o3 : Option Nat) (i4 : Int32) (lv : rm_L) (h : rm_H) (r : dR), rm_get lv 0 = some (va_rf o0) → rm_get lv 2 = some (.int i2) → rm_get lv 3 = some (va_rf o3) → rm_get lv 4 = some (.int i4) → b235_32 L xs zf D w n  o0 i2 o3 i4 h = some r → dq L xs zf ah_M235 32 lv [] h (k + 1) r := by
  intro n
  induction n with
  | zero =>
    intro o0 i2 o3 i4 lv h r G0 G2 G3 G4 hh
    cases hh
  | succ n ih =>
    intro o0 i2 o3 i4 lv h r G0 G2 G3 G4 hh
    rw [b235_32] at hh
    refine dq_il 4 34 (by decide +kernel) rfl G4 ?_
    refine dq_iln 2 35 (by decide +kernel) rfl G2 ?_
    rcases di hh with ⟨q1, hh⟩ | ⟨q1, hh⟩
    · refine dq_2 .ge 20 true 55 q1 (by decide +kernel) ?_
      exact c235_55 hD hz _ _ _ _ G4 hh
    · refine dq_2 .ge 20 false 38 q1 (by decide +kernel) ?_
      refine dq_aln 0 39 (by decide +kernel) rfl G0 ?_
      obtain ⟨p2, q3, hh⟩ := db hh
      refine dq_gR 19 1 [0] 42 (by decide +kernel) rfl q3 ?_
      refine dq_aln 3 43 (by decide +kernel) rfl G3 ?_
      obtain ⟨x4, q5, hh⟩ := db hh
      obtain ⟨a6, q7, q5⟩ := db q5
      rw [dq_xI q5] at q7
      refine dq_cvi hD 149 237 5 1 [2] p2 [va_rf o3] [] 46 [.int x4.1] (by decide +kernel) ap_237 ⟨⟨Nat.le_of_ble_eq_true rfl, by decide⟩, rfl, rfl⟩ (dq_ok8 [1, 1] [] (dc_r (dc_r dc_n)) dc_n (by decide +kernel)) (by decide +kernel) rfl q7 rfl ?_
      rcases di hh with ⟨q8, hh⟩ | ⟨q8, hh⟩
      · refine dq_1 .eq 9 true 55 q8 (by decide +kernel) ?_
        exact c235_55 hD hz _ _ _ _ G4 hh
      · refine dq_1 .eq 9 false 49 q8 (by decide +kernel) ?_
        refine dq_incy 4 1 1 52 (by decide +kernel) ⟨rfl, by decide +kernel, by decide +kernel⟩ G4 ?_
        have g9 := dg_ne (i := 4) (u := .int (i4 + 1)) (by decide) (Or.inl (by decide)) G0
        have g10 := dg_ne (i := 4) (u := .int (i4 + 1)) (by decide) (Or.inl (by decide)) G2
        have g11 := dg_ne (i := 4) (u := .int (i4 + 1)) (by decide) (Or.inr (drc _)) G3
        have g12 := dg_eq (lv) 4 (.int (i4 + 1))
        refine dq_S (.goto (-20)) 3 [] 32 _ [] (by decide +kernel) rfl ?_
        exact ih _ _ _ _ _ _ _ g9 g10 g11 g12 hh
def b235_0 (L : Nat) (xs : Nat → Int32) (zf : Value) (D : dD) (w : Nat) (o0 : Option Nat) (i1 : Int32) (i2 : Int32) (h : rm_H) : Option dR :=
  if mx_f2 .lt i2 1 = true then
    b235_12 L xs zf D w h
  else
    if mx_f2 .le i2 200 = true then
      (dgR L xs h 1 [0] o0).bind fun p3 =>
      ((dcV L xs D 236 [2] p3 [.int i1] h).bind dxR).bind fun p5 =>
      if dnl p5.1 = true then
        drI (some .int) (-1) p5.2
      else
        b235_32 L xs zf D w w o0 i2 p5.1 0 p5.2
    else
      b235_12 L xs zf D w h
theorem c235_0 {L : Nat} {xs : Nat → Int32} {zf : Value} {D : dD} {w k : Nat} (hD : dO L xs zf D k) (hz : zf.category = 1) : ∀ (o0 : Option Nat) (i1 : Int32) (i2 : Int32) (lv : rm_L) (h : rm_H) (r : dR), rm_get lv 0 = some (va_rf o0) → rm_get lv 1 = some (.int i1) → rm_get lv 2 = some (.int i2) → b235_0 L xs zf D w  o0 i1 i2 h = some r → dq L xs zf ah_M235 0 lv [] h (k + 1) r := by
  intro o0 i1 i2 lv h r G0 G1 G2 hh
  unfold b235_0 at hh
  refine dq_iln 2 1 (by decide +kernel) rfl G2 ?_
  refine dq_S (.iconst 1) 1 [] 2 _ [.int 1, .int i2] (by decide +kernel) rfl ?_
  rcases di hh with ⟨q1, hh⟩ | ⟨q1, hh⟩
  · refine dq_2 .lt 10 true 12 q1 (by decide +kernel) ?_
    exact c235_12 hD hz  _ _ _  hh
  · refine dq_2 .lt 10 false 5 q1 (by decide +kernel) ?_
    refine dq_iln 2 6 (by decide +kernel) rfl G2 ?_
    refine dq_S (.sipush 200) 3 [] 9 _ [.int 200, .int i2] (by decide +kernel) rfl ?_
    rcases di hh with ⟨q2, hh⟩ | ⟨q2, hh⟩
    · refine dq_2 .le 5 true 14 q2 (by decide +kernel) ?_
      refine dq_aln 0 15 (by decide +kernel) rfl G0 ?_
      obtain ⟨p3, q4, hh⟩ := db hh
      refine dq_gR 19 1 [0] 18 (by decide +kernel) rfl q4 ?_
      refine dq_iln 1 19 (by decide +kernel) rfl G1 ?_
      obtain ⟨p5, q6, hh⟩ := db hh
      obtain ⟨a7, q8, q6⟩ := db q6
      rw [dq_xR q6] at q8
      refine dq_cvi hD 145 236 5 1 [2] p3 [.int i1] [] 22 [va_rf p5.1] (by decide +kernel) ap_236 ⟨⟨Nat.le_of_ble_eq_true rfl, by decide⟩, rfl, rfl⟩ (dq_ok8 [1, 1] [] (dc_r (dc_i dc_n)) dc_n (by decide +kernel)) (by decide +kernel) rfl q8 rfl ?_
      refine dq_asn 3 23 (by decide +kernel) (by decide +kernel) ?_
      have g9 := dg_ne (i := 3) (u := va_rf p5.1) (by decide) (Or.inl (by decide)) G0
      have g10 := dg_ne (i := 3) (u := va_rf p5.1) (by decide) (Or.inl (by decide)) G1
      have g11 := dg_ne (i := 3) (u := va_rf p5.1) (by decide) (Or.inr rfl) G2
      have g12 := dg_eq (lv) 3 (va_rf p5.1)
      refine dq_aln 3 24 (by decide +kernel) rfl g12 ?_
      rcases di hh with ⟨q13, hh⟩ | ⟨q13, hh⟩
      · refine dq_nnull 5 false 27 q13 (by decide +kernel) (by decide +kernel) ?_
        refine dq_S (.iconst (-1)) 1 [] 28 _ [.int (-1)] (by decide +kernel) rfl ?_
        exact dq_retI (some .int) (by decide +kernel) rfl hh
      · refine dq_nnull 5 true 29 q13 (by decide +kernel) (by decide +kernel) ?_
        refine dq_S (.iconst 0) 1 [] 30 _ [.int 0] (by decide +kernel) rfl ?_
        refine dq_is 4 32 (by decide +kernel) (by decide +kernel) ?_
        have g14 := dg_ne (i := 4) (u := .int 0) (by decide) (Or.inl (by decide)) g9
        have g15 := dg_ne (i := 4) (u := .int 0) (by decide) (Or.inl (by decide)) g10
        have g16 := dg_ne (i := 4) (u := .int 0) (by decide) (Or.inl (by decide)) g11
        have g17 := dg_ne (i := 4) (u := .int 0) (by decide) (Or.inr (drc _)) g12
        have g18 := dg_eq (rm_set1 (lv) 3 (va_rf p5.1)) 4 (.int 0)
        exact c235_32 hD hz _ _ _ _ _ _ _ _ g14 g16 g17 g18 hh
    · refine dq_2 .le 5 false 12 q2 (by decide +kernel) ?_
      exact c235_12 hD hz  _ _ _  hh
def f235 (L : Nat) (xs : Nat → Int32) (zf : Value) (D : dD) (w : Nat) (As : List Value) (h : rm_H) : Option dR := match As with
  | [v0, .int i1, .int i2] => (rm_rf v0).bind fun o0 => b235_0 L xs zf D w o0 i1 i2 h
  | _ => none
theorem d235 {L : Nat} {xs : Nat → Int32} {zf : Value} {D : dD} {w k : Nat} (hD : dO L xs zf D k) (hz : zf.category = 1) (As : List Value) (h : rm_H) (r : dR) (hh : f235 L xs zf D w As h = some r) : dq L xs zf ah_M235 0 (lv_args 0 As) [] h (k + 1) r := by
  unfold f235 at hh
  split at hh
  · obtain ⟨o0, e0, hb0⟩ := db hh
    have e0 := rm_rf_v _ _ e0
    subst e0
    refine c235_0 hD hz _ _ _ _ _ _ ?_ ?_ ?_ hb0
    all_goals (simp only [la_r, la_i, la_j]; rfl)
  · cases hh
def b236_22 (L : Nat) (xs : Nat → Int32) (zf : Value) (D : dD) (w : Nat) (s0 : Option Nat) (h : rm_H) : Option dR :=
  some (some (va_rf s0), h)
theorem c236_22 {L : Nat} {xs : Nat → Int32} {zf : Value} {D : dD} {w k : Nat} (hD : dO L xs zf D k) (hz : zf.category = 1) : ∀ (s0 : Option Nat) (lv : rm_L) (h : rm_H) (r : dR), b236_22 L xs zf D w  s0 h = some r → dq L xs zf ah_M236 22 lv [va_rf s0] h (k + 1) r := by
  intro s0 lv h r hh
  unfold b236_22 at hh
  cases hh
  exact dq_retR (by decide +kernel) rfl
def b236_12 (L : Nat) (xs : Nat → Int32) (zf : Value) (D : dD) (w : Nat) (h : rm_H) : Option dR :=
  b236_22 L xs zf D w none h
theorem c236_12 {L : Nat} {xs : Nat → Int32} {zf : Value} {D : dD} {w k : Nat} (hD : dO L xs zf D k) (hz : zf.category = 1) : ∀ (lv : rm_L) (h : rm_H) (r : dR), b236_12 L xs zf D w  h = some r → dq L xs zf ah_M236 12 lv [] h (k + 1) r := by
  intro lv h r hh
  unfold b236_12 at hh
  refine dq_S (.aconst_null) 1 [] 13 _ [va_rf none] (by decide +kernel) rfl ?_
  refine dq_S (.goto 9) 3 [] 22 _ [va_rf none] (by decide +kernel) rfl ?_
  exact c236_22 hD hz _ _ _ _  hh
def b236_0 (L : Nat) (xs : Nat → Int32) (zf : Value) (D : dD) (w : Nat) (o0 : Option Nat) (i1 : Int32) (h : rm_H) : Option dR :=
  if mx_f1 .lt i1 = true then
    b236_12 L xs zf D w h
  else
    (dgI L xs h 8 [2] o0).bind fun x2 =>
    if mx_f2 .lt i1 x2 = true then
      (dgR L xs h 2 [2] o0).bind fun p5 =>
      (daR L xs h p5 i1).bind fun p7 =>
      b236_22 L xs zf D w p7 h
    else
      b236_12 L xs zf D w h
theorem c236_0 {L : Nat} {xs : Nat → Int32} {zf : Value} {D : dD} {w k : Nat} (hD : dO L xs zf D k) (hz : zf.category = 1) : ∀ (o0 : Option Nat) (i1 : Int32) (lv : rm_L) (h : rm_H) (r : dR), rm_get lv 0 = some (va_rf o0) → rm_get lv 1 = some (.int i1) → b236_0 L xs zf D w  o0 i1 h = some r → dq L xs zf ah_M236 0 lv [] h (k + 1) r := by
  intro o0 i1 lv h r G0 G1 hh
  unfold b236_0 at hh
  refine dq_iln 1 1 (by decide +kernel) rfl G1 ?_
  rcases di hh with ⟨q1, hh⟩ | ⟨q1, hh⟩
  · refine dq_1 .lt 11 true 12 q1 (by decide +kernel) ?_
    exact c236_12 hD hz  _ _ _  hh
  · refine dq_1 .lt 11 false 4 q1 (by decide +kernel) ?_
    refine dq_iln 1 5 (by decide +kernel) rfl G1 ?_
    refine dq_aln 0 6 (by decide +kernel) rfl G0 ?_
    obtain ⟨x2, q3, hh⟩ := db hh
    refine dq_gI 34 8 [2] 9 (by decide +kernel) rfl q3 ?_
    rcases di hh with ⟨q4, hh⟩ | ⟨q4, hh⟩
    · refine dq_2 .lt 7 true 16 q4 (by decide +kernel) ?_
      refine dq_aln 0 17 (by decide +kernel) rfl G0 ?_
      obtain ⟨p5, q6, hh⟩ := db hh
      refine dq_gR 20 2 [2] 20 (by decide +kernel) rfl q6 ?_
      refine dq_iln 1 21 (by decide +kernel) rfl G1 ?_
      obtain ⟨p7, q8, hh⟩ := db hh
      refine dq_aR 22 (by decide +kernel) rfl q8 ?_
      exact c236_22 hD hz _ _ _ _  hh
    · refine dq_2 .lt 7 false 12 q4 (by decide +kernel) ?_
      exact c236_12 hD hz  _ _ _  hh
def f236 (L : Nat) (xs : Nat → Int32) (zf : Value) (D : dD) (w : Nat) (As : List Value) (h : rm_H) : Option dR := match As with
  | [v0, .int i1] => (rm_rf v0).bind fun o0 => b236_0 L xs zf D w o0 i1 h
  | _ => none
theorem d236 {L : Nat} {xs : Nat → Int32} {zf : Value} {D : dD} {w k : Nat} (hD : dO L xs zf D k) (hz : zf.category = 1) (As : List Value) (h : rm_H) (r : dR) (hh : f236 L xs zf D w As h = some r) : dq L xs zf ah_M236 0 (lv_args 0 As) [] h (k + 1) r := by
  unfold f236 at hh
  split at hh
  · obtain ⟨o0, e0, hb0⟩ := db hh
    have e0 := rm_rf_v _ _ e0
    subst e0
    refine c236_0 hD hz _ _ _ _ _ ?_ ?_ hb0
    all_goals (simp only [la_r, la_i, la_j]; rfl)
  · cases hh
def b237_21 (L : Nat) (xs : Nat → Int32) (zf : Value) (D : dD) (w : Nat) (h : rm_H) : Option dR :=
  drI (some .boolean) 0 h
theorem c237_21 {L : Nat} {xs : Nat → Int32} {zf : Value} {D : dD} {w k : Nat} (hD : dO L xs zf D k) (hz : zf.category = 1) : ∀ (lv : rm_L) (h : rm_H) (r : dR), b237_21 L xs zf D w  h = some r → dq L xs zf ah_M237 21 lv [] h (k + 1) r := by
  intro lv h r hh
  unfold b237_21 at hh
  refine dq_S (.iconst 0) 1 [] 22 _ [.int 0] (by decide +kernel) rfl ?_
  exact dq_retI (some .boolean) (by decide +kernel) rfl hh
def b237_71 (L : Nat) (xs : Nat → Int32) (zf : Value) (D : dD) (w : Nat) (h : rm_H) : Option dR :=
  drI (some .boolean) 1 h
theorem c237_71 {L : Nat} {xs : Nat → Int32} {zf : Value} {D : dD} {w k : Nat} (hD : dO L xs zf D k) (hz : zf.category = 1) : ∀ (lv : rm_L) (h : rm_H) (r : dR), b237_71 L xs zf D w  h = some r → dq L xs zf ah_M237 71 lv [] h (k + 1) r := by
  intro lv h r hh
  unfold b237_71 at hh
  refine dq_S (.iconst 1) 1 [] 72 _ [.int 1] (by decide +kernel) rfl ?_
  exact dq_retI (some .boolean) (by decide +kernel) rfl hh
def b237_23 (L : Nat) (xs : Nat → Int32) (zf : Value) (D : dD) (w : Nat) (o0 : Option Nat) (o1 : Option Nat) (h : rm_H) : Option dR :=
  (dgI L xs h 11 [2] o0).bind fun x1 =>
  (dpF h 11 [2] o0 (.int (x1 + 1))).bind fun h3 =>
  (dgI L xs h3 5 [14] o1).bind fun x5 =>
  (dpF h3 5 [14] o1 (.int (x5 + 1))).bind fun h7 =>
  (dgI L xs h7 3 [14] o1).bind fun x9 =>
  if mx_f1 .ne x9 = true then
    (dgR L xs h7 7 [2] o0).bind fun p12 =>
    ((dcV L xs D 246 [14] o1 [] h7).bind dxI).bind fun x14 =>
    ((dcV L xs D 247 [4] p12 [.int x14.1] x14.2).bind dxI).bind fun x18 =>
    ((dcV L xs D 250 [14] o1 [.int (x18.1 + 1)] x18.2).bind dxV).bind fun h25 =>
    ((dcV L xs D 251 [2] o0 [va_rf o1, .int x18.1] h25).bind dxV).bind fun h29 =>
    drI (some .boolean) 1 h29
  else
    (dgR L xs h7 7 [2] o0).bind fun p33 =>
    ((dcV L xs D 238 [14] o1 [] h7).bind dxI).bind fun x35 =>
    ((dcV L xs D 240 [4] p33 [.int x35.1] x35.2).bind dxR).bind fun p39 =>
    if dnl p39.1 = true then
      b237_71 L xs zf D w p39.2
    else
      ((dcV L xs D 241 [14] o1 [va_rf p39.1] p39.2).bind dxV).bind fun h47 =>
      b237_71 L xs zf D w h47
theorem c237_23 {L : Nat} {xs : Nat → Int32} {zf : Value} {D : dD} {w k : Nat} (hD : dO L xs zf D k) (hz : zf.category = 1) : ∀ (o0 : Option Nat) (o1 : Option Nat) (lv : rm_L) (h : rm_H) (r : dR), rm_get lv 0 = some (va_rf o0) → rm_get lv 1 = some (va_rf o1) → b237_23 L xs zf D w  o0 o1 h = some r → dq L xs zf ah_M237 23 lv [] h (k + 1) r := by
  intro o0 o1 lv h r G0 G1 hh
  unfold b237_23 at hh
  refine dq_aln 0 24 (by decide +kernel) rfl G0 ?_
  refine dq_dup 25 (by decide +kernel) rfl ?_
  obtain ⟨x1, q2, hh⟩ := db hh
  refine dq_gI 44 11 [2] 28 (by decide +kernel) rfl q2 ?_
  refine dq_S (.iconst 1) 1 [] 29 _ [.int 1, .int x1, va_rf o0] (by decide +kernel) rfl ?_
  refine dq_S (.iadd) 1 [] 30 _ [.int (x1 + 1), va_rf o0] (by decide +kernel) rfl ?_
  obtain ⟨h3, q4, hh⟩ := db hh
  refine dq_put 44 11 [2] 33 (by decide +kernel) rfl q4 ?_
  refine dq_aln 1 34 (by decide +kernel) rfl G1 ?_
  refine dq_dup 35 (by decide +kernel) rfl ?_
  obtain ⟨x5, q6, hh⟩ := db hh
  refine dq_gI 98 5 [14] 38 (by decide +kernel) rfl q6 ?_
  refine dq_S (.iconst 1) 1 [] 39 _ [.int 1, .int x5, va_rf o1] (by decide +kernel) rfl ?_
  refine dq_S (.iadd) 1 [] 40 _ [.int (x5 + 1), va_rf o1] (by decide +kernel) rfl ?_
  obtain ⟨h7, q8, hh⟩ := db hh
  refine dq_put 98 5 [14] 43 (by decide +kernel) rfl q8 ?_
  refine dq_aln 1 44 (by decide +kernel) rfl G1 ?_
  obtain ⟨x9, q10, hh⟩ := db hh
  refine dq_gI 92 3 [14] 47 (by decide +kernel) rfl q10 ?_
  rcases di hh with ⟨q11, hh⟩ | ⟨q11, hh⟩
  · refine dq_1 .ne 26 true 73 q11 (by decide +kernel) ?_
    refine dq_aln 0 74 (by decide +kernel) rfl G0 ?_
    obtain ⟨p12, q13, hh⟩ := db hh
    refine dq_gR 30 7 [2] 77 (by decide +kernel) rfl q13 ?_
    refine dq_aln 1 78 (by decide +kernel) rfl G1 ?_
    obtain ⟨x14, q15, hh⟩ := db hh
    obtain ⟨a16, q17, q15⟩ := db q15
    rw [dq_xI q15] at q17
    refine dq_cvi hD 111 246 5 0 [14] o1 [] [va_rf p12] 81 [.int x14.1, va_rf p12] (by decide +kernel) ap_246 ⟨⟨Nat.le_of_ble_eq_true rfl, by decide⟩, rfl, rfl⟩ (dq_ok8 [1] [1] (dc_r dc_n) (dc_r dc_n) (by decide +kernel)) (by decide +kernel) rfl q17 rfl ?_
    obtain ⟨x18, q19, hh⟩ := db hh
    obtain ⟨a20, q21, q19⟩ := db q19
    rw [dq_xI q19] at q21
    refine dq_cvi hD 114 247 5 1 [4] p12 [.int x14.1] [] 84 [.int x18.1] (by decide +kernel) ap_247 ⟨⟨Nat.le_of_ble_eq_true rfl, by decide⟩, rfl, rfl⟩ (dq_ok8 [1, 1] [] (dc_r (dc_i dc_n)) dc_n (by decide +kernel)) (by decide +kernel) rfl q21 rfl ?_
    refine dq_isn 2 85 (by decide +kernel) (by decide +kernel) ?_
    have g22 := dg_ne (i := 2) (u := .int x18.1) (by decide) (Or.inl (by decide)) G0
    have g23 := dg_ne (i := 2) (u := .int x18.1) (by decide) (Or.inr (drc _)) G1
    have g24 := dg_eq (lv) 2 (.int x18.1)
    refine dq_aln 1 86 (by decide +kernel) rfl g23 ?_
    refine dq_iln 2 87 (by decide +kernel) rfl g24 ?_
    refine dq_S (.iconst 1) 1 [] 88 _ [.int 1, .int x18.1, va_rf o1] (by decide +kernel) rfl ?_
    refine dq_S (.iadd) 1 [] 89 _ [.int (x18.1 + 1), va_rf o1] (by decide +kernel) rfl ?_
    obtain ⟨h25, q26, hh⟩ := db hh
    obtain ⟨a27, q28, q26⟩ := db q26
    rw [dq_xV q26] at q28
    refine dq_cvi hD 118 250 5 1 [14] o1 [.int (x18.1 + 1)] [] 92 [] (by decide +kernel) ap_250 ⟨⟨Nat.le_of_ble_eq_true rfl, by decide⟩, rfl, rfl⟩ (dq_ok8 [1, 1] [] (dc_r (dc_i dc_n)) dc_n (by decide +kernel)) (by decide +kernel) rfl q28 rfl ?_
    refine dq_aln 0 93 (by decide +kernel) rfl g22 ?_
    refine dq_aln 1 94 (by decide +kernel) rfl g23 ?_
    refine dq_iln 2 95 (by decide +kernel) rfl g24 ?_
    obtain ⟨h29, q30, hh⟩ := db hh
    obtain ⟨a31, q32, q30⟩ := db q30
    rw [dq_xV q30] at q32
    refine dq_cvi hD 122 251 5 2 [2] o0 [va_rf o1, .int x18.1] [] 98 [] (by decide +kernel) ap_251 ⟨⟨Nat.le_of_ble_eq_true rfl, by decide⟩, rfl, rfl⟩ (dq_ok8 [1, 1, 1] [] (dc_r (dc_r (dc_i dc_n))) dc_n (by decide +kernel)) (by decide +kernel) rfl q32 rfl ?_
    refine dq_S (.iconst 1) 1 [] 99 _ [.int 1] (by decide +kernel) rfl ?_
    exact dq_retI (some .boolean) (by decide +kernel) rfl hh
  · refine dq_1 .ne 26 false 50 q11 (by decide +kernel) ?_
    refine dq_aln 0 51 (by decide +kernel) rfl G0 ?_
    obtain ⟨p33, q34, hh⟩ := db hh
    refine dq_gR 30 7 [2] 54 (by decide +kernel) rfl q34 ?_
    refine dq_aln 1 55 (by decide +kernel) rfl G1 ?_
    obtain ⟨x35, q36, hh⟩ := db hh
    obtain ⟨a37, q38, q36⟩ := db q36
    rw [dq_xI q36] at q38
    refine dq_cvi hD 99 238 5 0 [14] o1 [] [va_rf p33] 58 [.int x35.1, va_rf p33] (by decide +kernel) ap_238 ⟨⟨Nat.le_of_ble_eq_true rfl, by decide⟩, rfl, rfl⟩ (dq_ok8 [1] [1] (dc_r dc_n) (dc_r dc_n) (by decide +kernel)) (by decide +kernel) rfl q38 rfl ?_
    obtain ⟨p39, q40, hh⟩ := db hh
    obtain ⟨a41, q42, q40⟩ := db q40
    rw [dq_xR q40] at q42
    refine dq_cvi hD 103 240 5 1 [4] p33 [.int x35.1] [] 61 [va_rf p39.1] (by decide +kernel) ap_240 ⟨⟨Nat.le_of_ble_eq_true rfl, by decide⟩, rfl, rfl⟩ (dq_ok8 [1, 1] [] (dc_r (dc_i dc_n)) dc_n (by decide +kernel)) (by decide +kernel) rfl q42 rfl ?_
    refine dq_asn 2 62 (by decide +kernel) (by decide +kernel) ?_
    have g43 := dg_ne (i := 2) (u := va_rf p39.1) (by decide) (Or.inl (by decide)) G0
    have g44 := dg_ne (i := 2) (u := va_rf p39.1) (by decide) (Or.inr (drc _)) G1
    have g45 := dg_eq (lv) 2 (va_rf p39.1)
    refine dq_aln 2 63 (by decide +kernel) rfl g45 ?_
    rcases di hh with ⟨q46, hh⟩ | ⟨q46, hh⟩
    · refine dq_null 8 true 71 q46 (by decide +kernel) (by decide +kernel) ?_
      exact c237_71 hD hz  _ _ _  hh
    · refine dq_null 8 false 66 q46 (by decide +kernel) (by decide +kernel) ?_
      refine dq_aln 1 67 (by decide +kernel) rfl g44 ?_
      refine dq_aln 2 68 (by decide +kernel) rfl g45 ?_
      obtain ⟨h47, q48, hh⟩ := db hh
      obtain ⟨a49, q50, q48⟩ := db q48
      rw [dq_xV q48] at q50
      refine dq_cvi hD 107 241 5 1 [14] o1 [va_rf p39.1] [] 71 [] (by decide +kernel) ap_241 ⟨⟨Nat.le_of_ble_eq_true rfl, by decide⟩, rfl, rfl⟩ (dq_ok8 [1, 1] [] (dc_r (dc_r dc_n)) dc_n (by decide +kernel)) (by decide +kernel) rfl q50 rfl ?_
      exact c237_71 hD hz  _ _ _  hh
def b237_0 (L : Nat) (xs : Nat → Int32) (zf : Value) (D : dD) (w : Nat) (o0 : Option Nat) (o1 : Option Nat) (h : rm_H) : Option dR :=
  (dgR L xs h 7 [2] o0).bind fun p1 =>
  if dnl p1 = true then
    b237_21 L xs zf D w h
  else
    (dgI L xs h 3 [14] o1).bind fun x4 =>
    if mx_f1 .ne x4 = true then
      b237_23 L xs zf D w o0 o1 h
    else
      (dgI L xs h 4 [14] o1).bind fun x7 =>
      if mx_f1 .ne x7 = true then
        b237_23 L xs zf D w o0 o1 h
      else
        b237_21 L xs zf D w h
theorem c237_0 {L : Nat} {xs : Nat → Int32} {zf : Value} {D : dD} {w k : Nat} (hD : dO L xs zf D k) (hz : zf.category = 1) : ∀ (o0 : Option Nat) (o1 : Option Nat) (lv : rm_L) (h : rm_H) (r : dR), rm_get lv 0 = some (va_rf o0) → rm_get lv 1 = some (va_rf o1) → b237_0 L xs zf D w  o0 o1 h = some r → dq L xs zf ah_M237 0 lv [] h (k + 1) r := by
  intro o0 o1 lv h r G0 G1 hh
  unfold b237_0 at hh
  refine dq_aln 0 1 (by decide +kernel) rfl G0 ?_
  obtain ⟨p1, q2, hh⟩ := db hh
  refine dq_gR 30 7 [2] 4 (by decide +kernel) rfl q2 ?_
  rcases di hh with ⟨q3, hh⟩ | ⟨q3, hh⟩
  · refine dq_null 17 true 21 q3 (by decide +kernel) (by decide +kernel) ?_
    exact c237_21 hD hz  _ _ _  hh
  · refine dq_null 17 false 7 q3 (by decide +kernel) (by decide +kernel) ?_
    refine dq_aln 1 8 (by decide +kernel) rfl G1 ?_
    obtain ⟨x4, q5, hh⟩ := db hh
    refine dq_gI 92 3 [14] 11 (by decide +kernel) rfl q5 ?_
    rcases di hh with ⟨q6, hh⟩ | ⟨q6, hh⟩
    · refine dq_1 .ne 12 true 23 q6 (by decide +kernel) ?_
      exact c237_23 hD hz _ _ _ _ _ G0 G1 hh
    · refine dq_1 .ne 12 false 14 q6 (by decide +kernel) ?_
      refine dq_aln 1 15 (by decide +kernel) rfl G1 ?_
      obtain ⟨x7, q8, hh⟩ := db hh
      refine dq_gI 95 4 [14] 18 (by decide +kernel) rfl q8 ?_
      rcases di hh with ⟨q9, hh⟩ | ⟨q9, hh⟩
      · refine dq_1 .ne 5 true 23 q9 (by decide +kernel) ?_
        exact c237_23 hD hz _ _ _ _ _ G0 G1 hh
      · refine dq_1 .ne 5 false 21 q9 (by decide +kernel) ?_
        exact c237_21 hD hz  _ _ _  hh
def f237 (L : Nat) (xs : Nat → Int32) (zf : Value) (D : dD) (w : Nat) (As : List Value) (h : rm_H) : Option dR := match As with
  | [v0, v1] => (rm_rf v0).bind fun o0 => (rm_rf v1).bind fun o1 => b237_0 L xs zf D w o0 o1 h
  | _ => none
theorem d237 {L : Nat} {xs : Nat → Int32} {zf : Value} {D : dD} {w k : Nat} (hD : dO L xs zf D k) (hz : zf.category = 1) (As : List Value) (h : rm_H) (r : dR) (hh : f237 L xs zf D w As h = some r) : dq L xs zf ah_M237 0 (lv_args 0 As) [] h (k + 1) r := by
  unfold f237 at hh
  split at hh
  · obtain ⟨o0, e0, hb0⟩ := db hh
    have e0 := rm_rf_v _ _ e0
    obtain ⟨o1, e1, hb1⟩ := db hb0
    have e1 := rm_rf_v _ _ e1
    subst e0 e1
    refine c237_0 hD hz _ _ _ _ _ ?_ ?_ hb1
    all_goals (simp only [la_r, la_i, la_j]; rfl)
  · cases hh
def b238_0 (L : Nat) (xs : Nat → Int32) (zf : Value) (D : dD) (w : Nat) (o0 : Option Nat) (h : rm_H) : Option dR :=
  ((dcV L xs D 239 [14] o0 [.int 0] h).bind dxI).bind fun x1 =>
  drI (some .int) x1.1 x1.2
theorem c238_0 {L : Nat} {xs : Nat → Int32} {zf : Value} {D : dD} {w k : Nat} (hD : dO L xs zf D k) (hz : zf.category = 1) : ∀ (o0 : Option Nat) (lv : rm_L) (h : rm_H) (r : dR), rm_get lv 0 = some (va_rf o0) → b238_0 L xs zf D w  o0 h = some r → dq L xs zf ah_M238 0 lv [] h (k + 1) r := by
  intro o0 lv h r G0 hh
  unfold b238_0 at hh
  refine dq_aln 0 1 (by decide +kernel) rfl G0 ?_
  refine dq_S (.iconst 0) 1 [] 2 _ [.int 0, va_rf o0] (by decide +kernel) rfl ?_
  obtain ⟨x1, q2, hh⟩ := db hh
  obtain ⟨a3, q4, q2⟩ := db q2
  rw [dq_xI q2] at q4
  refine dq_cvi hD 107 239 5 1 [14] o0 [.int 0] [] 5 [.int x1.1] (by decide +kernel) ap_239 ⟨⟨Nat.le_of_ble_eq_true rfl, by decide⟩, rfl, rfl⟩ (dq_ok8 [1, 1] [] (dc_r (dc_i dc_n)) dc_n (by decide +kernel)) (by decide +kernel) rfl q4 rfl ?_
  exact dq_retI (some .int) (by decide +kernel) rfl hh
def f238 (L : Nat) (xs : Nat → Int32) (zf : Value) (D : dD) (w : Nat) (As : List Value) (h : rm_H) : Option dR := match As with
  | [v0] => (rm_rf v0).bind fun o0 => b238_0 L xs zf D w o0 h
  | _ => none
theorem d238 {L : Nat} {xs : Nat → Int32} {zf : Value} {D : dD} {w k : Nat} (hD : dO L xs zf D k) (hz : zf.category = 1) (As : List Value) (h : rm_H) (r : dR) (hh : f238 L xs zf D w As h = some r) : dq L xs zf ah_M238 0 (lv_args 0 As) [] h (k + 1) r := by
  unfold f238 at hh
  split at hh
  · obtain ⟨o0, e0, hb0⟩ := db hh
    have e0 := rm_rf_v _ _ e0
    subst e0
    refine c238_0 hD hz _ _ _ _ ?_ hb0
    all_goals (simp only [la_r, la_i, la_j]; rfl)
  · cases hh
def b239_0 (L : Nat) (xs : Nat → Int32) (zf : Value) (D : dD) (w : Nat) (o0 : Option Nat) (i1 : Int32) (h : rm_H) : Option dR :=
  (dgR L xs h 10 [14] o0).bind fun p1 =>
  ((dcV L xs D 232 [14] o0 [.int i1] h).bind dxI).bind fun x3 =>
  (daI L xs x3.2 p1 x3.1).bind fun x7 =>
  drI (some .int) x7 x3.2
theorem c239_0 {L : Nat} {xs : Nat → Int32} {zf : Value} {D : dD} {w k : Nat} (hD : dO L xs zf D k) (hz : zf.category = 1) : ∀ (o0 : Option Nat) (i1 : Int32) (lv : rm_L) (h : rm_H) (r : dR), rm_get lv 0 = some (va_rf o0) → rm_get lv 1 = some (.int i1) → b239_0 L xs zf D w  o0 i1 h = some r → dq L xs zf ah_M239 0 lv [] h (k + 1) r := by
  intro o0 i1 lv h r G0 G1 hh
  unfold b239_0 at hh
  refine dq_aln 0 1 (by decide +kernel) rfl G0 ?_
  obtain ⟨p1, q2, hh⟩ := db hh
  refine dq_gR 25 10 [14] 4 (by decide +kernel) rfl q2 ?_
  refine dq_aln 0 5 (by decide +kernel) rfl G0 ?_
  refine dq_iln 1 6 (by decide +kernel) rfl G1 ?_
  obtain ⟨x3, q4, hh⟩ := db hh
  obtain ⟨a5, q6, q4⟩ := db q4
  rw [dq_xI q4] at q6
  refine dq_cvi hD 99 232 5 1 [14] o0 [.int i1] [va_rf p1] 9 [.int x3.1, va_rf p1] (by decide +kernel) ap_232 ⟨⟨Nat.le_of_ble_eq_true rfl, by decide⟩, rfl, rfl⟩ (dq_ok8 [1, 1] [1] (dc_r (dc_i dc_n)) (dc_r dc_n) (by decide +kernel)) (by decide +kernel) rfl q6 rfl ?_
  obtain ⟨x7, q8, hh⟩ := db hh
  refine dq_aI 10 (by decide +kernel) rfl q8 ?_
  exact dq_retI (some .int) (by decide +kernel) rfl hh
def f239 (L : Nat) (xs : Nat → Int32) (zf : Value) (D : dD) (w : Nat) (As : List Value) (h : rm_H) : Option dR := match As with
  | [v0, .int i1] => (rm_rf v0).bind fun o0 => b239_0 L xs zf D w o0 i1 h
  | _ => none
theorem d239 {L : Nat} {xs : Nat → Int32} {zf : Value} {D : dD} {w k : Nat} (hD : dO L xs zf D k) (hz : zf.category = 1) (As : List Value) (h : rm_H) (r : dR) (hh : f239 L xs zf D w As h = some r) : dq L xs zf ah_M239 0 (lv_args 0 As) [] h (k + 1) r := by
  unfold f239 at hh
  split at hh
  · obtain ⟨o0, e0, hb0⟩ := db hh
    have e0 := rm_rf_v _ _ e0
    subst e0
    refine c239_0 hD hz _ _ _ _ _ ?_ ?_ hb0
    all_goals (simp only [la_r, la_i, la_j]; rfl)
  · cases hh
def b240_34 (L : Nat) (xs : Nat → Int32) (zf : Value) (D : dD) (w : Nat) (s0 : Option Nat) (h : rm_H) : Option dR :=
  some (some (va_rf s0), h)
theorem c240_34 {L : Nat} {xs : Nat → Int32} {zf : Value} {D : dD} {w k : Nat} (hD : dO L xs zf D k) (hz : zf.category = 1) : ∀ (s0 : Option Nat) (lv : rm_L) (h : rm_H) (r : dR), b240_34 L xs zf D w  s0 h = some r → dq L xs zf ah_M240 34 lv [va_rf s0] h (k + 1) r := by
  intro s0 lv h r hh
  unfold b240_34 at hh
  cases hh
  exact dq_retR (by decide +kernel) rfl
def b240_17 (L : Nat) (xs : Nat → Int32) (zf : Value) (D : dD) (w : Nat) (h : rm_H) : Option dR :=
  b240_34 L xs zf D w none h
theorem c240_17 {L : Nat} {xs : Nat → Int32} {zf : Value} {D : dD} {w k : Nat} (hD : dO L xs zf D k) (hz : zf.category = 1) : ∀ (lv : rm_L) (h : rm_H) (r : dR), b240_17 L xs zf D w  h = some r → dq L xs zf ah_M240 17 lv [] h (k + 1) r := by
  intro lv h r hh
  unfold b240_17 at hh
  refine dq_S (.aconst_null) 1 [] 18 _ [va_rf none] (by decide +kernel) rfl ?_
  refine dq_S (.goto 16) 3 [] 34 _ [va_rf none] (by decide +kernel) rfl ?_
  exact c240_34 hD hz _ _ _ _  hh
def b240_0 (L : Nat) (xs : Nat → Int32) (zf : Value) (D : dD) (w : Nat) (o0 : Option Nat) (i1 : Int32) (h : rm_H) : Option dR :=
  if mx_f1 .lt i1 = true then
    b240_17 L xs zf D w h
  else
    (dgR L xs h 2 [4] o0).bind fun p2 =>
    ((dcV L xs D 101 [5] p2 [] h).bind dxI).bind fun x4 =>
    if mx_f2 .lt i1 x4.1 = true then
      (dgR L xs x4.2 2 [4] o0).bind fun p9 =>
      ((dcV L xs D 146 [5] p9 [.int i1] x4.2).bind dxR).bind fun p11 =>
      if dcK L xs p11.2 [11] p11.1 = false then none else
      b240_34 L xs zf D w p11.1 p11.2
    else
      b240_17 L xs zf D w x4.2
theorem c240_0 {L : Nat} {xs : Nat → Int32} {zf : Value} {D : dD} {w k : Nat} (hD : dO L xs zf D k) (hz : zf.category = 1) : ∀ (o0 : Option Nat) (i1 : Int32) (lv : rm_L) (h : rm_H) (r : dR), rm_get lv 0 = some (va_rf o0) → rm_get lv 1 = some (.int i1) → b240_0 L xs zf D w  o0 i1 h = some r → dq L xs zf ah_M240 0 lv [] h (k + 1) r := by
  intro o0 i1 lv h r G0 G1 hh
  unfold b240_0 at hh
  refine dq_iln 1 1 (by decide +kernel) rfl G1 ?_
  rcases di hh with ⟨q1, hh⟩ | ⟨q1, hh⟩
  · refine dq_1 .lt 16 true 17 q1 (by decide +kernel) ?_
    exact c240_17 hD hz  _ _ _  hh
  · refine dq_1 .lt 16 false 4 q1 (by decide +kernel) ?_
    refine dq_iln 1 5 (by decide +kernel) rfl G1 ?_
    refine dq_aln 0 6 (by decide +kernel) rfl G0 ?_
    obtain ⟨p2, q3, hh⟩ := db hh
    refine dq_gR 22 2 [4] 9 (by decide +kernel) rfl q3 ?_
    obtain ⟨x4, q5, hh⟩ := db hh
    obtain ⟨a6, q7, q5⟩ := db q5
    rw [dq_xI q5] at q7
    refine dq_cif hD 54 1 101 7 0 [5] p2 [] [.int i1] 14 [.int x4.1, .int i1] (by decide +kernel) ap_101 ⟨⟨Nat.le_of_ble_eq_true rfl, by decide⟩, rfl, rfl⟩ (dq_ok8 [1] [1] (dc_r dc_n) (dc_i dc_n) (by decide +kernel)) (by decide +kernel) rfl q7 rfl ?_
    rcases di hh with ⟨q8, hh⟩ | ⟨q8, hh⟩
    · refine dq_2 .lt 7 true 21 q8 (by decide +kernel) ?_
      refine dq_aln 0 22 (by decide +kernel) rfl G0 ?_
      obtain ⟨p9, q10, hh⟩ := db hh
      refine dq_gR 22 2 [4] 25 (by decide +kernel) rfl q10 ?_
      refine dq_iln 1 26 (by decide +kernel) rfl G1 ?_
      obtain ⟨p11, q12, hh⟩ := db hh
      obtain ⟨a13, q14, q12⟩ := db q12
      rw [dq_xR q12] at q14
      refine dq_cif hD 59 2 146 7 1 [5] p9 [.int i1] [] 31 [va_rf p11.1] (by decide +kernel) ap_146 ⟨⟨Nat.le_of_ble_eq_true rfl, by decide⟩, rfl, rfl⟩ (dq_ok8 [1, 1] [] (dc_r (dc_i dc_n)) dc_n (by decide +kernel)) (by decide +kernel) rfl q14 rfl ?_
      rcases dp hh with ⟨_, hh⟩ | ⟨q15, hh⟩
      · cases hh
      refine dq_cast 68 [11] 34 (by decide +kernel) ⟨rfl, by decide⟩ (by rw [Bool.not_eq_false] at q15; exact q15) ?_
      exact c240_34 hD hz _ _ _ _  hh
    · refine dq_2 .lt 7 false 17 q8 (by decide +kernel) ?_
      exact c240_17 hD hz  _ _ _  hh
def f240 (L : Nat) (xs : Nat → Int32) (zf : Value) (D : dD) (w : Nat) (As : List Value) (h : rm_H) : Option dR := match As with
  | [v0, .int i1] => (rm_rf v0).bind fun o0 => b240_0 L xs zf D w o0 i1 h
  | _ => none
theorem d240 {L : Nat} {xs : Nat → Int32} {zf : Value} {D : dD} {w k : Nat} (hD : dO L xs zf D k) (hz : zf.category = 1) (As : List Value) (h : rm_H) (r : dR) (hh : f240 L xs zf D w As h = some r) : dq L xs zf ah_M240 0 (lv_args 0 As) [] h (k + 1) r := by
  unfold f240 at hh
  split at hh
  · obtain ⟨o0, e0, hb0⟩ := db hh
    have e0 := rm_rf_v _ _ e0
    subst e0
    refine c240_0 hD hz _ _ _ _ _ ?_ ?_ hb0
    all_goals (simp only [la_r, la_i, la_j]; rfl)
  · cases hh
def b241_2 (L : Nat) (xs : Nat → Int32) (zf : Value) (D : dD) (w : Nat) : Nat → Option Nat → Option Nat → Int32 → rm_H → Option dR
  | 0, _, _, _, _ => none
  | n + 1, o0, o1, i2, h =>
    (dgR L xs h 5 [11] o1).bind fun p1 =>
    ((dcV L xs D 101 [5] p1 [] h).bind dxI).bind fun x3 =>
    if mx_f2 .ge i2 x3.1 = true then
      (dgI L xs x3.2 0 [14] o0).bind fun x8 =>
      ((dcV L xs D 244 [14] o0 [va_rf o1, .int (x8 + 1)] x3.2).bind dxV).bind fun h10 =>
      (dgI L xs h10 11 [14] o0).bind fun x14 =>
      ((D 233 [.int (x14 + 1), .int 6] h10).bind dxI).bind fun x16 =>
      (dpF x16.2 11 [14] o0 (.int x16.1)).bind fun h20 =>
      (dgI L xs h20 4 [14] o0).bind fun x22 =>
      ((D 18 [.int 0, .int (x22 - 1)] h20).bind dxI).bind fun x24 =>
      (dpF x24.2 4 [14] o0 (.int x24.1)).bind fun h28 =>
      some (none, h28)
    else
      ((dcV L xs D 242 [14] o0 [.int 0, .int i2] x3.2).bind dxI).bind fun x30 =>
      ((dcV L xs D 243 [14] o0 [.int x30.1] x30.2).bind dxV).bind fun h34 =>
      b241_2 L xs zf D w n o0 o1 (i2 + 1) h34
theorem c241_2 {L : Nat} {xs : Nat → Int32} {zf : Value} {D : dD} {w k : Nat} (hD : dO L xs zf D k) (hz : zf.category = 1) : ∀ (n : Nat) (o0 : Option Nat) (o1 : Option Nat) (i2 : Int32) (lv : rm_L) (h : rm_H) (r : dR), rm_get lv 0 = some (va_rf o0) → rm_get lv 1 = some (va_rf o1) → rm_get lv 2 = some (.int i2) → b241_2 L xs zf D w n  o0 o1 i2 h = some r → dq L xs zf ah_M241 2 lv [] h (k + 1) r := by
  intro n
  induction n with
  | zero =>
    intro o0 o1 i2 lv h r G0 G1 G2 hh
    cases hh
  | succ n ih =>
    intro o0 o1 i2 lv h r G0 G1 G2 hh
    rw [b241_2] at hh
    refine dq_iln 2 3 (by decide +kernel) rfl G2 ?_
    refine dq_aln 1 4 (by decide +kernel) rfl G1 ?_
    obtain ⟨p1, q2, hh⟩ := db hh
    refine dq_gR 78 5 [11] 7 (by decide +kernel) rfl q2 ?_
    obtain ⟨x3, q4, hh⟩ := db hh
    obtain ⟨a5, q6, q4⟩ := db q4
    rw [dq_xI q4] at q6
    refine dq_cif hD 84 1 101 7 0 [5] p1 [] [.int i2] 12 [.int x3.1, .int i2] (by decide +kernel) ap_101 ⟨⟨Nat.le_of_ble_eq_true rfl, by decide⟩, rfl, rfl⟩ (dq_ok8 [1] [1] (dc_r dc_n) (dc_i dc_n) (by decide +kernel)) (by decide +kernel) rfl q6 rfl ?_
    rcases di hh with ⟨q7, hh⟩ | ⟨q7, hh⟩
    · refine dq_2 .ge 19 true 31 q7 (by decide +kernel) ?_
      refine dq_aln 0 32 (by decide +kernel) rfl G0 ?_
      refine dq_aln 1 33 (by decide +kernel) rfl G1 ?_
      refine dq_aln 0 34 (by decide +kernel) rfl G0 ?_
      obtain ⟨x8, q9, hh⟩ := db hh
      refine dq_gI 9 0 [14] 37 (by decide +kernel) rfl q9 ?_
      refine dq_S (.iconst 1) 1 [] 38 _ [.int 1, .int x8, va_rf o1, va_rf o0] (by decide +kernel) rfl ?_
      refine dq_S (.iadd) 1 [] 39 _ [.int (x8 + 1), va_rf o1, va_rf o0] (by decide +kernel) rfl ?_
      obtain ⟨h10, q11, hh⟩ := db hh
      obtain ⟨a12, q13, q11⟩ := db q11
      rw [dq_xV q11] at q13
      refine dq_cvi hD 116 244 5 2 [14] o0 [va_rf o1, .int (x8 + 1)] [] 42 [] (by decide +kernel) ap_244 ⟨⟨Nat.le_of_ble_eq_true rfl, by decide⟩, rfl, rfl⟩ (dq_ok8 [1, 1, 1] [] (dc_r (dc_r (dc_i dc_n))) dc_n (by decide +kernel)) (by decide +kernel) rfl q13 rfl ?_
      refine dq_aln 0 43 (by decide +kernel) rfl G0 ?_
      refine dq_aln 0 44 (by decide +kernel) rfl G0 ?_
      obtain ⟨x14, q15, hh⟩ := db hh
      refine dq_gI 47 11 [14] 47 (by decide +kernel) rfl q15 ?_
      refine dq_S (.iconst 1) 1 [] 48 _ [.int 1, .int x14, va_rf o0] (by decide +kernel) rfl ?_
      refine dq_S (.iadd) 1 [] 49 _ [.int (x14 + 1), va_rf o0] (by decide +kernel) rfl ?_
      refine dq_S (.bipush 6) 2 [] 51 _ [.int 6, .int (x14 + 1), va_rf o0] (by decide +kernel) rfl ?_
      obtain ⟨x16, q17, hh⟩ := db hh
      obtain ⟨a18, q19, q17⟩ := db q17
      rw [dq_xI q17] at q19
      refine dq_cst hD 110 233 0 2 [.int (x14 + 1), .int 6] [va_rf o0] 54 [.int x16.1, va_rf o0] (by decide +kernel) ap_233 ⟨⟨Nat.le_of_ble_eq_true rfl, by decide⟩, rfl, rfl⟩ (dq_ok8 [1, 1] [1] (dc_i (dc_i dc_n)) (dc_r dc_n) (by decide +kernel)) (by decide +kernel) rfl q19 rfl ?_
      obtain ⟨h20, q21, hh⟩ := db hh
      refine dq_put 47 11 [14] 57 (by decide +kernel) rfl q21 ?_
      refine dq_aln 0 58 (by decide +kernel) rfl G0 ?_
      refine dq_S (.iconst 0) 1 [] 59 _ [.int 0, va_rf o0] (by decide +kernel) rfl ?_
      refine dq_aln 0 60 (by decide +kernel) rfl G0 ?_
      obtain ⟨x22, q23, hh⟩ := db hh
      refine dq_gI 38 4 [14] 63 (by decide +kernel) rfl q23 ?_
      refine dq_S (.iconst 1) 1 [] 64 _ [.int 1, .int x22, .int 0, va_rf o0] (by decide +kernel) rfl ?_
      refine dq_S (.isub) 1 [] 65 _ [.int (x22 - 1), .int 0, va_rf o0] (by decide +kernel) rfl ?_
      obtain ⟨x24, q25, hh⟩ := db hh
      obtain ⟨a26, q27, q25⟩ := db q25
      rw [dq_xI q25] at q27
      refine dq_cst hD 71 18 0 2 [.int 0, .int (x22 - 1)] [va_rf o0] 68 [.int x24.1, va_rf o0] (by decide +kernel) ap_18 ⟨⟨Nat.le_of_ble_eq_true rfl, by decide⟩, rfl, rfl⟩ (dq_ok8 [1, 1] [1] (dc_i (dc_i dc_n)) (dc_r dc_n) (by decide +kernel)) (by decide +kernel) rfl q27 rfl ?_
      obtain ⟨h28, q29, hh⟩ := db hh
      refine dq_put 38 4 [14] 71 (by decide +kernel) rfl q29 ?_
      cases hh
      exact dq_ret0 (by decide +kernel) rfl
    · refine dq_2 .ge 19 false 15 q7 (by decide +kernel) ?_
      refine dq_aln 0 16 (by decide +kernel) rfl G0 ?_
      refine dq_aln 0 17 (by decide +kernel) rfl G0 ?_
      refine dq_S (.iconst 0) 1 [] 18 _ [.int 0, va_rf o0, va_rf o0] (by decide +kernel) rfl ?_
      refine dq_iln 2 19 (by decide +kernel) rfl G2 ?_
      obtain ⟨x30, q31, hh⟩ := db hh
      obtain ⟨a32, q33, q31⟩ := db q31
      rw [dq_xI q31] at q33
      refine dq_cvi hD 113 242 5 2 [14] o0 [.int 0, .int i2] [va_rf o0] 22 [.int x30.1, va_rf o0] (by decide +kernel) ap_242 ⟨⟨Nat.le_of_ble_eq_true rfl, by decide⟩, rfl, rfl⟩ (dq_ok8 [1, 1, 1] [1] (dc_r (dc_i (dc_i dc_n))) (dc_r dc_n) (by decide +kernel)) (by decide +kernel) rfl q33 rfl ?_
      obtain ⟨h34, q35, hh⟩ := db hh
      obtain ⟨a36, q37, q35⟩ := db q35
      rw [dq_xV q35] at q37
      refine dq_cvi hD 92 243 5 1 [14] o0 [.int x30.1] [] 25 [] (by decide +kernel) ap_243 ⟨⟨Nat.le_of_ble_eq_true rfl, by decide⟩, rfl, rfl⟩ (dq_ok8 [1, 1] [] (dc_r (dc_i dc_n)) dc_n (by decide +kernel)) (by decide +kernel) rfl q37 rfl ?_
      refine dq_incy 2 1 1 28 (by decide +kernel) ⟨rfl, by decide +kernel, by decide +kernel⟩ G2 ?_
      have g38 := dg_ne (i := 2) (u := .int (i2 + 1)) (by decide) (Or.inl (by decide)) G0
      have g39 := dg_ne (i := 2) (u := .int (i2 + 1)) (by decide) (Or.inr (drc _)) G1
      have g40 := dg_eq (lv) 2 (.int (i2 + 1))
      refine dq_S (.goto (-26)) 3 [] 2 _ [] (by decide +kernel) rfl ?_
      exact ih _ _ _ _ _ _ g38 g39 g40 hh
def b241_0 (L : Nat) (xs : Nat → Int32) (zf : Value) (D : dD) (w : Nat) (o0 : Option Nat) (o1 : Option Nat) (h : rm_H) : Option dR :=
  b241_2 L xs zf D w w o0 o1 0 h
theorem c241_0 {L : Nat} {xs : Nat → Int32} {zf : Value} {D : dD} {w k : Nat} (hD : dO L xs zf D k) (hz : zf.category = 1) : ∀ (o0 : Option Nat) (o1 : Option Nat) (lv : rm_L) (h : rm_H) (r : dR), rm_get lv 0 = some (va_rf o0) → rm_get lv 1 = some (va_rf o1) → b241_0 L xs zf D w  o0 o1 h = some r → dq L xs zf ah_M241 0 lv [] h (k + 1) r := by
  intro o0 o1 lv h r G0 G1 hh
  unfold b241_0 at hh
  refine dq_S (.iconst 0) 1 [] 1 _ [.int 0] (by decide +kernel) rfl ?_
  refine dq_isn 2 2 (by decide +kernel) (by decide +kernel) ?_
  have g1 := dg_ne (i := 2) (u := .int 0) (by decide) (Or.inl (by decide)) G0
  have g2 := dg_ne (i := 2) (u := .int 0) (by decide) (Or.inr (drc _)) G1
  have g3 := dg_eq (lv) 2 (.int 0)
  exact c241_2 hD hz _ _ _ _ _ _ _ g1 g2 g3 hh
def f241 (L : Nat) (xs : Nat → Int32) (zf : Value) (D : dD) (w : Nat) (As : List Value) (h : rm_H) : Option dR := match As with
  | [v0, v1] => (rm_rf v0).bind fun o0 => (rm_rf v1).bind fun o1 => b241_0 L xs zf D w o0 o1 h
  | _ => none
theorem d241 {L : Nat} {xs : Nat → Int32} {zf : Value} {D : dD} {w k : Nat} (hD : dO L xs zf D k) (hz : zf.category = 1) (As : List Value) (h : rm_H) (r : dR) (hh : f241 L xs zf D w As h = some r) : dq L xs zf ah_M241 0 (lv_args 0 As) [] h (k + 1) r := by
  unfold f241 at hh
  split at hh
  · obtain ⟨o0, e0, hb0⟩ := db hh
    have e0 := rm_rf_v _ _ e0
    obtain ⟨o1, e1, hb1⟩ := db hb0
    have e1 := rm_rf_v _ _ e1
    subst e0 e1
    refine c241_0 hD hz _ _ _ _ _ ?_ ?_ hb1
    all_goals (simp only [la_r, la_i, la_j]; rfl)
  · cases hh
def b242_28 (L : Nat) (xs : Nat → Int32) (zf : Value) (D : dD) (w : Nat) (s0 : Int32) (h : rm_H) : Option dR :=
  drI (some .int) s0 h
theorem c242_28 {L : Nat} {xs : Nat → Int32} {zf : Value} {D : dD} {w k : Nat} (hD : dO L xs zf D k) (hz : zf.category = 1) : ∀ (s0 : Int32) (lv : rm_L) (h : rm_H) (r : dR), b242_28 L xs zf D w  s0 h = some r → dq L xs zf ah_M242 28 lv [.int s0] h (k + 1) r := by
  intro s0 lv h r hh
  unfold b242_28 at hh
  exact dq_retI (some .int) (by decide +kernel) rfl hh
def b242_10 (L : Nat) (xs : Nat → Int32) (zf : Value) (D : dD) (w : Nat) (h : rm_H) : Option dR :=
  b242_28 L xs zf D w 0 h
theorem c242_10 {L : Nat} {xs : Nat → Int32} {zf : Value} {D : dD} {w k : Nat} (hD : dO L xs zf D k) (hz : zf.category = 1) : ∀ (lv : rm_L) (h : rm_H) (r : dR), b242_10 L xs zf D w  h = some r → dq L xs zf ah_M242 10 lv [] h (k + 1) r := by
  intro lv h r hh
  unfold b242_10 at hh
  refine dq_S (.iconst 0) 1 [] 11 _ [.int 0] (by decide +kernel) rfl ?_
  refine dq_S (.goto 17) 3 [] 28 _ [.int 0] (by decide +kernel) rfl ?_
  exact c242_28 hD hz _ _ _ _  hh
def b242_0 (L : Nat) (xs : Nat → Int32) (zf : Value) (D : dD) (w : Nat) (o0 : Option Nat) (i1 : Int32) (i2 : Int32) (h : rm_H) : Option dR :=
  if mx_f1 .lt i2 = true then
    b242_10 L xs zf D w h
  else
    if mx_f2 .lt i2 6 = true then
      (dgR L xs h 10 [14] o0).bind fun p3 =>
      ((dcV L xs D 232 [14] o0 [.int i1] h).bind dxI).bind fun x5 =>
      (daI L xs x5.2 p3 ((x5.1 + 1) + i2)).bind fun x9 =>
      b242_28 L xs zf D w x9 x5.2
    else
      b242_10 L xs zf D w h
theorem c242_0 {L : Nat} {xs : Nat → Int32} {zf : Value} {D : dD} {w k : Nat} (hD : dO L xs zf D k) (hz : zf.category = 1) : ∀ (o0 : Option Nat) (i1 : Int32) (i2 : Int32) (lv : rm_L) (h : rm_H) (r : dR), rm_get lv 0 = some (va_rf o0) → rm_get lv 1 = some (.int i1) → rm_get lv 2 = some (.int i2) → b242_0 L xs zf D w  o0 i1 i2 h = some r → dq L xs zf ah_M242 0 lv [] h (k + 1) r := by
  intro o0 i1 i2 lv h r G0 G1 G2 hh
  unfold b242_0 at hh
  refine dq_iln 2 1 (by decide +kernel) rfl G2 ?_
  rcases di hh with ⟨q1, hh⟩ | ⟨q1, hh⟩
  · refine dq_1 .lt 9 true 10 q1 (by decide +kernel) ?_
    exact c242_10 hD hz  _ _ _  hh
  · refine dq_1 .lt 9 false 4 q1 (by decide +kernel) ?_
    refine dq_iln 2 5 (by decide +kernel) rfl G2 ?_
    refine dq_S (.bipush 6) 2 [] 7 _ [.int 6, .int i2] (by decide +kernel) rfl ?_
    rcases di hh with ⟨q2, hh⟩ | ⟨q2, hh⟩
    · refine dq_2 .lt 7 true 14 q2 (by decide +kernel) ?_
      refine dq_aln 0 15 (by decide +kernel) rfl G0 ?_
      obtain ⟨p3, q4, hh⟩ := db hh
      refine dq_gR 25 10 [14] 18 (by decide +kernel) rfl q4 ?_
      refine dq_aln 0 19 (by decide +kernel) rfl G0 ?_
      refine dq_iln 1 20 (by decide +kernel) rfl G1 ?_
      obtain ⟨x5, q6, hh⟩ := db hh
      obtain ⟨a7, q8, q6⟩ := db q6
      rw [dq_xI q6] at q8
      refine dq_cvi hD 99 232 5 1 [14] o0 [.int i1] [va_rf p3] 23 [.int x5.1, va_rf p3] (by decide +kernel) ap_232 ⟨⟨Nat.le_of_ble_eq_true rfl, by decide⟩, rfl, rfl⟩ (dq_ok8 [1, 1] [1] (dc_r (dc_i dc_n)) (dc_r dc_n) (by decide +kernel)) (by decide +kernel) rfl q8 rfl ?_
      refine dq_S (.iconst 1) 1 [] 24 _ [.int 1, .int x5.1, va_rf p3] (by decide +kernel) rfl ?_
      refine dq_S (.iadd) 1 [] 25 _ [.int (x5.1 + 1), va_rf p3] (by decide +kernel) rfl ?_
      refine dq_iln 2 26 (by decide +kernel) rfl G2 ?_
      refine dq_S (.iadd) 1 [] 27 _ [.int ((x5.1 + 1) + i2), va_rf p3] (by decide +kernel) rfl ?_
      obtain ⟨x9, q10, hh⟩ := db hh
      refine dq_aI 28 (by decide +kernel) rfl q10 ?_
      exact c242_28 hD hz _ _ _ _  hh
    · refine dq_2 .lt 7 false 10 q2 (by decide +kernel) ?_
      exact c242_10 hD hz  _ _ _  hh
def f242 (L : Nat) (xs : Nat → Int32) (zf : Value) (D : dD) (w : Nat) (As : List Value) (h : rm_H) : Option dR := match As with
  | [v0, .int i1, .int i2] => (rm_rf v0).bind fun o0 => b242_0 L xs zf D w o0 i1 i2 h
  | _ => none
theorem d242 {L : Nat} {xs : Nat → Int32} {zf : Value} {D : dD} {w k : Nat} (hD : dO L xs zf D k) (hz : zf.category = 1) (As : List Value) (h : rm_H) (r : dR) (hh : f242 L xs zf D w As h = some r) : dq L xs zf ah_M242 0 (lv_args 0 As) [] h (k + 1) r := by
  unfold f242 at hh
  split at hh
  · obtain ⟨o0, e0, hb0⟩ := db hh
    have e0 := rm_rf_v _ _ e0
    subst e0
    refine c242_0 hD hz _ _ _ _ _ _ ?_ ?_ ?_ hb0
    all_goals (simp only [la_r, la_i, la_j]; rfl)
  · cases hh
def b243_30 (L : Nat) (xs : Nat → Int32) (zf : Value) (D : dD) (w : Nat) (o0 : Option Nat) (i1 : Int32) (h : rm_H) : Option dR :=
  (dgR L xs h 12 [14] o0).bind fun p1 =>
  (dgI L xs h 13 [14] o0).bind fun x3 =>
  (dsI h p1 x3 i1).bind fun h5 =>
  (dgI L xs h5 13 [14] o0).bind fun x7 =>
  (dpF h5 13 [14] o0 (.int (x7 + 1))).bind fun h9 =>
  some (none, h9)
theorem c243_30 {L : Nat} {xs : Nat → Int32} {zf : Value} {D : dD} {w k : Nat} (hD : dO L xs zf D k) (hz : zf.category = 1) : ∀ (o0 : Option Nat) (i1 : Int32) (lv : rm_L) (h : rm_H) (r : dR), rm_get lv 0 = some (va_rf o0) → rm_get lv 1 = some (.int i1) → b243_30 L xs zf D w  o0 i1 h = some r → dq L xs zf ah_M243 30 lv [] h (k + 1) r := by
  intro o0 i1 lv h r G0 G1 hh
  unfold b243_30 at hh
  refine dq_aln 0 31 (by decide +kernel) rfl G0 ?_
  obtain ⟨p1, q2, hh⟩ := db hh
  refine dq_gR 28 12 [14] 34 (by decide +kernel) rfl q2 ?_
  refine dq_aln 0 35 (by decide +kernel) rfl G0 ?_
  obtain ⟨x3, q4, hh⟩ := db hh
  refine dq_gI 56 13 [14] 38 (by decide +kernel) rfl q4 ?_
  refine dq_iln 1 39 (by decide +kernel) rfl G1 ?_
  obtain ⟨h5, q6, hh⟩ := db hh
  refine dq_sI 40 (by decide +kernel) rfl q6 ?_
  refine dq_aln 0 41 (by decide +kernel) rfl G0 ?_
  refine dq_dup 42 (by decide +kernel) rfl ?_
  obtain ⟨x7, q8, hh⟩ := db hh
  refine dq_gI 56 13 [14] 45 (by decide +kernel) rfl q8 ?_
  refine dq_S (.iconst 1) 1 [] 46 _ [.int 1, .int x7, va_rf o0] (by decide +kernel) rfl ?_
  refine dq_S (.iadd) 1 [] 47 _ [.int (x7 + 1), va_rf o0] (by decide +kernel) rfl ?_
  obtain ⟨h9, q10, hh⟩ := db hh
  refine dq_put 56 13 [14] 50 (by decide +kernel) rfl q10 ?_
  cases hh
  exact dq_ret0 (by decide +kernel) rfl
def b243_0 (L : Nat) (xs : Nat → Int32) (zf : Value) (D : dD) (w : Nat) (o0 : Option Nat) (i1 : Int32) (h : rm_H) : Option dR :=
  (dgI L xs h 13 [14] o0).bind fun x1 =>
  (dgR L xs h 12 [14] o0).bind fun p3 =>
  (daN L xs h p3).bind fun x5 =>
  if mx_f2 .lt x1 x5 = true then
    b243_30 L xs zf D w o0 i1 h
  else
    (dgR L xs h 12 [14] o0).bind fun p8 =>
    (dgR L xs h 12 [14] o0).bind fun p10 =>
    (daN L xs h p10).bind fun x12 =>
    ((D 176 [va_rf p8, .int (x12 * 2)] h).bind dxR).bind fun p14 =>
    (dpF p14.2 12 [14] o0 (va_rf p14.1)).bind fun h18 =>
    b243_30 L xs zf D w o0 i1 h18
theorem c243_0 {L : Nat} {xs : Nat → Int32} {zf : Value} {D : dD} {w k : Nat} (hD : dO L xs zf D k) (hz : zf.category = 1) : ∀ (o0 : Option Nat) (i1 : Int32) (lv : rm_L) (h : rm_H) (r : dR), rm_get lv 0 = some (va_rf o0) → rm_get lv 1 = some (.int i1) → b243_0 L xs zf D w  o0 i1 h = some r → dq L xs zf ah_M243 0 lv [] h (k + 1) r := by
  intro o0 i1 lv h r G0 G1 hh
  unfold b243_0 at hh
  refine dq_aln 0 1 (by decide +kernel) rfl G0 ?_
  obtain ⟨x1, q2, hh⟩ := db hh
  refine dq_gI 56 13 [14] 4 (by decide +kernel) rfl q2 ?_
  refine dq_aln 0 5 (by decide +kernel) rfl G0 ?_
  obtain ⟨p3, q4, hh⟩ := db hh
  refine dq_gR 28 12 [14] 8 (by decide +kernel) rfl q4 ?_
  obtain ⟨x5, q6, hh⟩ := db hh
  refine dq_aN 9 (by decide +kernel) rfl q6 ?_
  rcases di hh with ⟨q7, hh⟩ | ⟨q7, hh⟩
  · refine dq_2 .lt 21 true 30 q7 (by decide +kernel) ?_
    exact c243_30 hD hz _ _ _ _ _ G0 G1 hh
  · refine dq_2 .lt 21 false 12 q7 (by decide +kernel) ?_
    refine dq_aln 0 13 (by decide +kernel) rfl G0 ?_
    refine dq_aln 0 14 (by decide +kernel) rfl G0 ?_
    obtain ⟨p8, q9, hh⟩ := db hh
    refine dq_gR 28 12 [14] 17 (by decide +kernel) rfl q9 ?_
    refine dq_aln 0 18 (by decide +kernel) rfl G0 ?_
    obtain ⟨p10, q11, hh⟩ := db hh
    refine dq_gR 28 12 [14] 21 (by decide +kernel) rfl q11 ?_
    obtain ⟨x12, q13, hh⟩ := db hh
    refine dq_aN 22 (by decide +kernel) rfl q13 ?_
    refine dq_S (.iconst 2) 1 [] 23 _ [.int 2, .int x12, va_rf p8, va_rf o0] (by decide +kernel) rfl ?_
    refine dq_S (.imul) 1 [] 24 _ [.int (x12 * 2), va_rf p8, va_rf o0] (by decide +kernel) rfl ?_
    obtain ⟨p14, q15, hh⟩ := db hh
    obtain ⟨a16, q17, q15⟩ := db q15
    rw [dq_xR q15] at q17
    refine dq_cst hD 59 176 0 2 [va_rf p8, .int (x12 * 2)] [va_rf o0] 27 [va_rf p14.1, va_rf o0] (by decide +kernel) ap_176 ⟨⟨Nat.le_of_ble_eq_true rfl, by decide⟩, rfl, rfl⟩ (dq_ok8 [1, 1] [1] (dc_r (dc_i dc_n)) (dc_r dc_n) (by decide +kernel)) (by decide +kernel) rfl q17 rfl ?_
    obtain ⟨h18, q19, hh⟩ := db hh
    refine dq_put 28 12 [14] 30 (by decide +kernel) rfl q19 ?_
    exact c243_30 hD hz _ _ _ _ _ G0 G1 hh
def f243 (L : Nat) (xs : Nat → Int32) (zf : Value) (D : dD) (w : Nat) (As : List Value) (h : rm_H) : Option dR := match As with
  | [v0, .int i1] => (rm_rf v0).bind fun o0 => b243_0 L xs zf D w o0 i1 h
  | _ => none
theorem d243 {L : Nat} {xs : Nat → Int32} {zf : Value} {D : dD} {w k : Nat} (hD : dO L xs zf D k) (hz : zf.category = 1) (As : List Value) (h : rm_H) (r : dR) (hh : f243 L xs zf D w As h = some r) : dq L xs zf ah_M243 0 (lv_args 0 As) [] h (k + 1) r := by
  unfold f243 at hh
  split at hh
  · obtain ⟨o0, e0, hb0⟩ := db hh
    have e0 := rm_rf_v _ _ e0
    subst e0
    refine c243_0 hD hz _ _ _ _ _ ?_ ?_ hb0
    all_goals (simp only [la_r, la_i, la_j]; rfl)
  · cases hh
def b244_40 (L : Nat) (xs : Nat → Int32) (zf : Value) (D : dD) (w : Nat) : Nat → Option Nat → Option Nat → Int32 → Int32 → Int32 → rm_H → Option dR
  | 0, _, _, _, _, _, _ => none
  | n + 1, o0, o1, i2, i3, i4, h =>
    (dgI L xs h 10 [11] o1).bind fun x1 =>
    if mx_f2 .ge i4 x1 = true then
      (dgI L xs h 3 [14] o0).bind fun x4 =>
      (dpF h 3 [14] o0 (.int (x4 + 1))).bind fun h6 =>
      (dgR L xs h6 7 [14] o0).bind fun p8 =>
      ((dcV L xs D 245 [14] o0 [] h6).bind dxI).bind fun x10 =>
      (dgI L xs x10.2 11 [11] o1).bind fun x14 =>
      (dsI x10.2 p8 x10.1 x14).bind fun h16 =>
      (dgR L xs h16 8 [14] o0).bind fun p18 =>
      ((dcV L xs D 245 [14] o0 [] h16).bind dxI).bind fun x20 =>
      (dsI x20.2 p18 x20.1 i3).bind fun h24 =>
      (dgR L xs h24 9 [14] o0).bind fun p26 =>
      ((dcV L xs D 245 [14] o0 [] h24).bind dxI).bind fun x28 =>
      (dsI x28.2 p26 x28.1 i2).bind fun h32 =>
      some (none, h32)
    else
      ((dcV L xs D 243 [14] o0 [.int 0] h).bind dxV).bind fun h34 =>
      b244_40 L xs zf D w n o0 o1 i2 i3 (i4 + 1) h34
theorem c244_40 {L : Nat} {xs : Nat → Int32} {zf : Value} {D : dD} {w k : Nat} (hD : dO L xs zf D k) (hz : zf.category = 1) : ∀ (n : Nat) (o0 : Option Nat) (o1 : Option Nat) (i2 : Int32) (i3 : Int32) (i4 : Int32) (lv : rm_L) (h : rm_H) (r : dR), rm_get lv 0 = some (va_rf o0) → rm_get lv 1 = some (va_rf o1) → rm_get lv 2 = some (.int i2) → rm_get lv 3 = some (.int i3) → rm_get lv 4 = some (.int i4) → b244_40 L xs zf D w n  o0 o1 i2 i3 i4 h = some r → dq L xs zf ah_M244 40 lv [] h (k + 1) r := by
  intro n
  induction n with
  | zero =>
    intro o0 o1 i2 i3 i4 lv h r G0 G1 G2 G3 G4 hh
    cases hh
  | succ n ih =>
    intro o0 o1 i2 i3 i4 lv h r G0 G1 G2 G3 G4 hh
    rw [b244_40] at hh
    refine dq_il 4 42 (by decide +kernel) rfl G4 ?_
    refine dq_aln 1 43 (by decide +kernel) rfl G1 ?_
    obtain ⟨x1, q2, hh⟩ := db hh
    refine dq_gI 89 10 [11] 46 (by decide +kernel) rfl q2 ?_
    rcases di hh with ⟨q3, hh⟩ | ⟨q3, hh⟩
    · refine dq_2 .ge 14 true 60 q3 (by decide +kernel) ?_
      refine dq_aln 0 61 (by decide +kernel) rfl G0 ?_
      refine dq_dup 62 (by decide +kernel) rfl ?_
      obtain ⟨x4, q5, hh⟩ := db hh
      refine dq_gI 53 3 [14] 65 (by decide +kernel) rfl q5 ?_
      refine dq_S (.iconst 1) 1 [] 66 _ [.int 1, .int x4, va_rf o0] (by decide +kernel) rfl ?_
      refine dq_S (.iadd) 1 [] 67 _ [.int (x4 + 1), va_rf o0] (by decide +kernel) rfl ?_
      obtain ⟨h6, q7, hh⟩ := db hh
      refine dq_put 53 3 [14] 70 (by decide +kernel) rfl q7 ?_
      refine dq_aln 0 71 (by decide +kernel) rfl G0 ?_
      obtain ⟨p8, q9, hh⟩ := db hh
      refine dq_gR 15 7 [14] 74 (by decide +kernel) rfl q9 ?_
      refine dq_aln 0 75 (by decide +kernel) rfl G0 ?_
      obtain ⟨x10, q11, hh⟩ := db hh
      obtain ⟨a12, q13, q11⟩ := db q11
      rw [dq_xI q11] at q13
      refine dq_cvi hD 74 245 5 0 [14] o0 [] [va_rf p8] 78 [.int x10.1, va_rf p8] (by decide +kernel) ap_245 ⟨⟨Nat.le_of_ble_eq_true rfl, by decide⟩, rfl, rfl⟩ (dq_ok8 [1] [1] (dc_r dc_n) (dc_r dc_n) (by decide +kernel)) (by decide +kernel) rfl q13 rfl ?_
      refine dq_aln 1 79 (by decide +kernel) rfl G1 ?_
      obtain ⟨x14, q15, hh⟩ := db hh
      refine dq_gI 96 11 [11] 82 (by decide +kernel) rfl q15 ?_
      obtain ⟨h16, q17, hh⟩ := db hh
      refine dq_sI 83 (by decide +kernel) rfl q17 ?_
      refine dq_aln 0 84 (by decide +kernel) rfl G0 ?_
      obtain ⟨p18, q19, hh⟩ := db hh
      refine dq_gR 19 8 [14] 87 (by decide +kernel) rfl q19 ?_
      refine dq_aln 0 88 (by decide +kernel) rfl G0 ?_
      obtain ⟨x20, q21, hh⟩ := db hh
      obtain ⟨a22, q23, q21⟩ := db q21
      rw [dq_xI q21] at q23
      refine dq_cvi hD 74 245 5 0 [14] o0 [] [va_rf p18] 91 [.int x20.1, va_rf p18] (by decide +kernel) ap_245 ⟨⟨Nat.le_of_ble_eq_true rfl, by decide⟩, rfl, rfl⟩ (dq_ok8 [1] [1] (dc_r dc_n) (dc_r dc_n) (by decide +kernel)) (by decide +kernel) rfl q23 rfl ?_
      refine dq_iln 3 92 (by decide +kernel) rfl G3 ?_
      obtain ⟨h24, q25, hh⟩ := db hh
      refine dq_sI 93 (by decide +kernel) rfl q25 ?_
      refine dq_aln 0 94 (by decide +kernel) rfl G0 ?_
      obtain ⟨p26, q27, hh⟩ := db hh
      refine dq_gR 22 9 [14] 97 (by decide +kernel) rfl q27 ?_
      refine dq_aln 0 98 (by decide +kernel) rfl G0 ?_
      obtain ⟨x28, q29, hh⟩ := db hh
      obtain ⟨a30, q31, q29⟩ := db q29
      rw [dq_xI q29] at q31
      refine dq_cvi hD 74 245 5 0 [14] o0 [] [va_rf p26] 101 [.int x28.1, va_rf p26] (by decide +kernel) ap_245 ⟨⟨Nat.le_of_ble_eq_true rfl, by decide⟩, rfl, rfl⟩ (dq_ok8 [1] [1] (dc_r dc_n) (dc_r dc_n) (by decide +kernel)) (by decide +kernel) rfl q31 rfl ?_
      refine dq_iln 2 102 (by decide +kernel) rfl G2 ?_
      obtain ⟨h32, q33, hh⟩ := db hh
      refine dq_sI 103 (by decide +kernel) rfl q33 ?_
      cases hh
      exact dq_ret0 (by decide +kernel) rfl
    · refine dq_2 .ge 14 false 49 q3 (by decide +kernel) ?_
      refine dq_aln 0 50 (by decide +kernel) rfl G0 ?_
      refine dq_S (.iconst 0) 1 [] 51 _ [.int 0, va_rf o0] (by decide +kernel) rfl ?_
      obtain ⟨h34, q35, hh⟩ := db hh
      obtain ⟨a36, q37, q35⟩ := db q35
      rw [dq_xV q35] at q37
      refine dq_cvi hD 92 243 5 1 [14] o0 [.int 0] [] 54 [] (by decide +kernel) ap_243 ⟨⟨Nat.le_of_ble_eq_true rfl, by decide⟩, rfl, rfl⟩ (dq_ok8 [1, 1] [] (dc_r (dc_i dc_n)) dc_n (by decide +kernel)) (by decide +kernel) rfl q37 rfl ?_
      refine dq_incy 4 1 1 57 (by decide +kernel) ⟨rfl, by decide +kernel, by decide +kernel⟩ G4 ?_
      have g38 := dg_ne (i := 4) (u := .int (i4 + 1)) (by decide) (Or.inl (by decide)) G0
      have g39 := dg_ne (i := 4) (u := .int (i4 + 1)) (by decide) (Or.inl (by decide)) G1
      have g40 := dg_ne (i := 4) (u := .int (i4 + 1)) (by decide) (Or.inl (by decide)) G2
      have g41 := dg_ne (i := 4) (u := .int (i4 + 1)) (by decide) (Or.inr rfl) G3
      have g42 := dg_eq (lv) 4 (.int (i4 + 1))
      refine dq_S (.goto (-17)) 3 [] 40 _ [] (by decide +kernel) rfl ?_
      exact ih _ _ _ _ _ _ _ _ g38 g39 g40 g41 g42 hh
def b244_0 (L : Nat) (xs : Nat → Int32) (zf : Value) (D : dD) (w : Nat) (o0 : Option Nat) (o1 : Option Nat) (i2 : Int32) (h : rm_H) : Option dR :=
  (dgI L xs h 3 [14] o0).bind fun x1 =>
  if mx_f2 .lt x1 10 = true then
    (dgI L xs h 13 [14] o0).bind fun x4 =>
    (dgR L xs h 5 [11] o1).bind fun p6 =>
    ((dcV L xs D 101 [5] p6 [] h).bind dxI).bind fun x8 =>
    ((D 18 [.int 0, .int (x4 - x8.1)] x8.2).bind dxI).bind fun x12 =>
    (dgR L xs x12.2 5 [11] o1).bind fun p20 =>
    ((dcV L xs D 101 [5] p20 [] x12.2).bind dxI).bind fun x22 =>
    b244_40 L xs zf D w w o0 o1 i2 x12.1 x22.1 x22.2
  else
    some (none, h)
theorem c244_0 {L : Nat} {xs : Nat → Int32} {zf : Value} {D : dD} {w k : Nat} (hD : dO L xs zf D k) (hz : zf.category = 1) : ∀ (o0 : Option Nat) (o1 : Option Nat) (i2 : Int32) (lv : rm_L) (h : rm_H) (r : dR), rm_get lv 0 = some (va_rf o0) → rm_get lv 1 = some (va_rf o1) → rm_get lv 2 = some (.int i2) → b244_0 L xs zf D w  o0 o1 i2 h = some r → dq L xs zf ah_M244 0 lv [] h (k + 1) r := by
  intro o0 o1 i2 lv h r G0 G1 G2 hh
  unfold b244_0 at hh
  refine dq_aln 0 1 (by decide +kernel) rfl G0 ?_
  obtain ⟨x1, q2, hh⟩ := db hh
  refine dq_gI 53 3 [14] 4 (by decide +kernel) rfl q2 ?_
  refine dq_S (.bipush 10) 2 [] 6 _ [.int 10, .int x1] (by decide +kernel) rfl ?_
  rcases di hh with ⟨q3, hh⟩ | ⟨q3, hh⟩
  · refine dq_2 .lt 4 true 10 q3 (by decide +kernel) ?_
    refine dq_S (.iconst 0) 1 [] 11 _ [.int 0] (by decide +kernel) rfl ?_
    refine dq_aln 0 12 (by decide +kernel) rfl G0 ?_
    obtain ⟨x4, q5, hh⟩ := db hh
    refine dq_gI 56 13 [14] 15 (by decide +kernel) rfl q5 ?_
    refine dq_aln 1 16 (by decide +kernel) rfl G1 ?_
    obtain ⟨p6, q7, hh⟩ := db hh
    refine dq_gR 78 5 [11] 19 (by decide +kernel) rfl q7 ?_
    obtain ⟨x8, q9, hh⟩ := db hh
    obtain ⟨a10, q11, q9⟩ := db q9
    rw [dq_xI q9] at q11
    refine dq_cif hD 84 1 101 7 0 [5] p6 [] [.int x4, .int 0] 24 [.int x8.1, .int x4, .int 0] (by decide +kernel) ap_101 ⟨⟨Nat.le_of_ble_eq_true rfl, by decide⟩, rfl, rfl⟩ (dq_ok8 [1] [1, 1] (dc_r dc_n) (dc_i (dc_i dc_n)) (by decide +kernel)) (by decide +kernel) rfl q11 rfl ?_
    refine dq_S (.isub) 1 [] 25 _ [.int (x4 - x8.1), .int 0] (by decide +kernel) rfl ?_
    obtain ⟨x12, q13, hh⟩ := db hh
    obtain ⟨a14, q15, q13⟩ := db q13
    rw [dq_xI q13] at q15
    refine dq_cst hD 71 18 0 2 [.int 0, .int (x4 - x8.1)] [] 28 [.int x12.1] (by decide +kernel) ap_18 ⟨⟨Nat.le_of_ble_eq_true rfl, by decide⟩, rfl, rfl⟩ (dq_ok8 [1, 1] [] (dc_i (dc_i dc_n)) dc_n (by decide +kernel)) (by decide +kernel) rfl q15 rfl ?_
    refine dq_isn 3 29 (by decide +kernel) (by decide +kernel) ?_
    have g16 := dg_ne (i := 3) (u := .int x12.1) (by decide) (Or.inl (by decide)) G0
    have g17 := dg_ne (i := 3) (u := .int x12.1) (by decide) (Or.inl (by decide)) G1
    have g18 := dg_ne (i := 3) (u := .int x12.1) (by decide) (Or.inr rfl) G2
    have g19 := dg_eq (lv) 3 (.int x12.1)
    refine dq_aln 1 30 (by decide +kernel) rfl g17 ?_
    obtain ⟨p20, q21, hh⟩ := db hh
    refine dq_gR 78 5 [11] 33 (by decide +kernel) rfl q21 ?_
    obtain ⟨x22, q23, hh⟩ := db hh
    obtain ⟨a24, q25, q23⟩ := db q23
    rw [dq_xI q23] at q25
    refine dq_cif hD 84 1 101 7 0 [5] p20 [] [] 38 [.int x22.1] (by decide +kernel) ap_101 ⟨⟨Nat.le_of_ble_eq_true rfl, by decide⟩, rfl, rfl⟩ (dq_ok8 [1] [] (dc_r dc_n) dc_n (by decide +kernel)) (by decide +kernel) rfl q25 rfl ?_
    refine dq_is 4 40 (by decide +kernel) (by decide +kernel) ?_
    have g26 := dg_ne (i := 4) (u := .int x22.1) (by decide) (Or.inl (by decide)) g16
    have g27 := dg_ne (i := 4) (u := .int x22.1) (by decide) (Or.inl (by decide)) g17
    have g28 := dg_ne (i := 4) (u := .int x22.1) (by decide) (Or.inl (by decide)) g18
    have g29 := dg_ne (i := 4) (u := .int x22.1) (by decide) (Or.inr rfl) g19
    have g30 := dg_eq (rm_set1 (lv) 3 (.int x12.1)) 4 (.int x22.1)
    exact c244_40 hD hz _ _ _ _ _ _ _ _ _ g26 g27 g28 g29 g30 hh
  · refine dq_2 .lt 4 false 9 q3 (by decide +kernel) ?_
    cases hh
    exact dq_ret0 (by decide +kernel) rfl
def f244 (L : Nat) (xs : Nat → Int32) (zf : Value) (D : dD) (w : Nat) (As : List Value) (h : rm_H) : Option dR := match As with
  | [v0, v1, .int i2] => (rm_rf v0).bind fun o0 => (rm_rf v1).bind fun o1 => b244_0 L xs zf D w o0 o1 i2 h
  | _ => none
theorem d244 {L : Nat} {xs : Nat → Int32} {zf : Value} {D : dD} {w k : Nat} (hD : dO L xs zf D k) (hz : zf.category = 1) (As : List Value) (h : rm_H) (r : dR) (hh : f244 L xs zf D w As h = some r) : dq L xs zf ah_M244 0 (lv_args 0 As) [] h (k + 1) r := by
  unfold f244 at hh
  split at hh
  · obtain ⟨o0, e0, hb0⟩ := db hh
    have e0 := rm_rf_v _ _ e0
    obtain ⟨o1, e1, hb1⟩ := db hb0
    have e1 := rm_rf_v _ _ e1
    subst e0 e1
    refine c244_0 hD hz _ _ _ _ _ _ ?_ ?_ ?_ hb1
    all_goals (simp only [la_r, la_i, la_j]; rfl)
  · cases hh
def b245_0 (L : Nat) (xs : Nat → Int32) (zf : Value) (D : dD) (w : Nat) (o0 : Option Nat) (h : rm_H) : Option dR :=
  (dgI L xs h 3 [14] o0).bind fun x1 =>
  ((D 21 [.int x1, .int 10] h).bind dxI).bind fun x3 =>
  ((D 18 [.int 0, .int (x3.1 - 1)] x3.2).bind dxI).bind fun x7 =>
  drI (some .int) x7.1 x7.2
theorem c245_0 {L : Nat} {xs : Nat → Int32} {zf : Value} {D : dD} {w k : Nat} (hD : dO L xs zf D k) (hz : zf.category = 1) : ∀ (o0 : Option Nat) (lv : rm_L) (h : rm_H) (r : dR), rm_get lv 0 = some (va_rf o0) → b245_0 L xs zf D w  o0 h = some r → dq L xs zf ah_M245 0 lv [] h (k + 1) r := by
  intro o0 lv h r G0 hh
  unfold b245_0 at hh
  refine dq_S (.iconst 0) 1 [] 1 _ [.int 0] (by decide +kernel) rfl ?_
  refine dq_aln 0 2 (by decide +kernel) rfl G0 ?_
  obtain ⟨x1, q2, hh⟩ := db hh
  refine dq_gI 53 3 [14] 5 (by decide +kernel) rfl q2 ?_
  refine dq_S (.bipush 10) 2 [] 7 _ [.int 10, .int x1, .int 0] (by decide +kernel) rfl ?_
  obtain ⟨x3, q4, hh⟩ := db hh
  obtain ⟨a5, q6, q4⟩ := db q4
  rw [dq_xI q4] at q6
  refine dq_cst hD 65 21 0 2 [.int x1, .int 10] [.int 0] 10 [.int x3.1, .int 0] (by decide +kernel) ap_21 ⟨⟨Nat.le_of_ble_eq_true rfl, by decide⟩, rfl, rfl⟩ (dq_ok8 [1, 1] [1] (dc_i (dc_i dc_n)) (dc_i dc_n) (by decide +kernel)) (by decide +kernel) rfl q6 rfl ?_
  refine dq_S (.iconst 1) 1 [] 11 _ [.int 1, .int x3.1, .int 0] (by decide +kernel) rfl ?_
  refine dq_S (.isub) 1 [] 12 _ [.int (x3.1 - 1), .int 0] (by decide +kernel) rfl ?_
  obtain ⟨x7, q8, hh⟩ := db hh
  obtain ⟨a9, q10, q8⟩ := db q8
  rw [dq_xI q8] at q10
  refine dq_cst hD 71 18 0 2 [.int 0, .int (x3.1 - 1)] [] 15 [.int x7.1] (by decide +kernel) ap_18 ⟨⟨Nat.le_of_ble_eq_true rfl, by decide⟩, rfl, rfl⟩ (dq_ok8 [1, 1] [] (dc_i (dc_i dc_n)) dc_n (by decide +kernel)) (by decide +kernel) rfl q10 rfl ?_
  exact dq_retI (some .int) (by decide +kernel) rfl hh
def f245 (L : Nat) (xs : Nat → Int32) (zf : Value) (D : dD) (w : Nat) (As : List Value) (h : rm_H) : Option dR := match As with
  | [v0] => (rm_rf v0).bind fun o0 => b245_0 L xs zf D w o0 h
  | _ => none
theorem d245 {L : Nat} {xs : Nat → Int32} {zf : Value} {D : dD} {w k : Nat} (hD : dO L xs zf D k) (hz : zf.category = 1) (As : List Value) (h : rm_H) (r : dR) (hh : f245 L xs zf D w As h = some r) : dq L xs zf ah_M245 0 (lv_args 0 As) [] h (k + 1) r := by
  unfold f245 at hh
  split at hh
  · obtain ⟨o0, e0, hb0⟩ := db hh
    have e0 := rm_rf_v _ _ e0
    subst e0
    refine c245_0 hD hz _ _ _ _ ?_ hb0
    all_goals (simp only [la_r, la_i, la_j]; rfl)
  · cases hh
def b246_0 (L : Nat) (xs : Nat → Int32) (zf : Value) (D : dD) (w : Nat) (o0 : Option Nat) (h : rm_H) : Option dR :=
  (dgR L xs h 7 [14] o0).bind fun p1 =>
  ((dcV L xs D 245 [14] o0 [] h).bind dxI).bind fun x3 =>
  (daI L xs x3.2 p1 x3.1).bind fun x7 =>
  drI (some .int) x7 x3.2
theorem c246_0 {L : Nat} {xs : Nat → Int32} {zf : Value} {D : dD} {w k : Nat} (hD : dO L xs zf D k) (hz : zf.category = 1) : ∀ (o0 : Option Nat) (lv : rm_L) (h : rm_H) (r : dR), rm_get lv 0 = some (va_rf o0) → b246_0 L xs zf D w  o0 h = some r → dq L xs zf ah_M246 0 lv [] h (k + 1) r := by
  intro o0 lv h r G0 hh
  unfold b246_0 at hh
  refine dq_aln 0 1 (by decide +kernel) rfl G0 ?_
  obtain ⟨p1, q2, hh⟩ := db hh
  refine dq_gR 15 7 [14] 4 (by decide +kernel) rfl q2 ?_
  refine dq_aln 0 5 (by decide +kernel) rfl G0 ?_
  obtain ⟨x3, q4, hh⟩ := db hh
  obtain ⟨a5, q6, q4⟩ := db q4
  rw [dq_xI q4] at q6
  refine dq_cvi hD 74 245 5 0 [14] o0 [] [va_rf p1] 8 [.int x3.1, va_rf p1] (by decide +kernel) ap_245 ⟨⟨Nat.le_of_ble_eq_true rfl, by decide⟩, rfl, rfl⟩ (dq_ok8 [1] [1] (dc_r dc_n) (dc_r dc_n) (by decide +kernel)) (by decide +kernel) rfl q6 rfl ?_
  obtain ⟨x7, q8, hh⟩ := db hh
  refine dq_aI 9 (by decide +kernel) rfl q8 ?_
  exact dq_retI (some .int) (by decide +kernel) rfl hh
def f246 (L : Nat) (xs : Nat → Int32) (zf : Value) (D : dD) (w : Nat) (As : List Value) (h : rm_H) : Option dR := match As with
  | [v0] => (rm_rf v0).bind fun o0 => b246_0 L xs zf D w o0 h
  | _ => none
theorem d246 {L : Nat} {xs : Nat → Int32} {zf : Value} {D : dD} {w k : Nat} (hD : dO L xs zf D k) (hz : zf.category = 1) (As : List Value) (h : rm_H) (r : dR) (hh : f246 L xs zf D w As h = some r) : dq L xs zf ah_M246 0 (lv_args 0 As) [] h (k + 1) r := by
  unfold f246 at hh
  split at hh
  · obtain ⟨o0, e0, hb0⟩ := db hh
    have e0 := rm_rf_v _ _ e0
    subst e0
    refine c246_0 hD hz _ _ _ _ ?_ hb0
    all_goals (simp only [la_r, la_i, la_j]; rfl)
  · cases hh
def b247_34 (L : Nat) (xs : Nat → Int32) (zf : Value) (D : dD) (w : Nat) (i2 : Int32) (h : rm_H) : Option dR :=
  drI (some .int) i2 h
theorem c247_34 {L : Nat} {xs : Nat → Int32} {zf : Value} {D : dD} {w k : Nat} (hD : dO L xs zf D k) (hz : zf.category = 1) : ∀ (i2 : Int32) (lv : rm_L) (h : rm_H) (r : dR), rm_get lv 2 = some (.int i2) → b247_34 L xs zf D w  i2 h = some r → dq L xs zf ah_M247 34 lv [] h (k + 1) r := by
  intro i2 lv h r G2 hh
  unfold b247_34 at hh
  refine dq_iln 2 35 (by decide +kernel) rfl G2 ?_
  exact dq_retI (some .int) (by decide +kernel) rfl hh
def b247_4 (L : Nat) (xs : Nat → Int32) (zf : Value) (D : dD) (w : Nat) : Nat → Option Nat → Int32 → Int32 → rm_H → Option dR
  | 0, _, _, _, _ => none
  | n + 1, o0, i2, i3, h =>
    (dgI L xs h 11 [4] o0).bind fun x1 =>
    if mx_f2 .ge i3 x1 = true then
      b247_34 L xs zf D w i2 h
    else
      ((dcV L xs D 248 [4] o0 [.int i2] h).bind dxI).bind fun x4 =>
      if mx_f2 .ne x4.1 20 = true then
        b247_34 L xs zf D w i2 x4.2
      else
        ((dcV L xs D 249 [4] o0 [.int i2] x4.2).bind dxI).bind fun x9 =>
        b247_4 L xs zf D w n o0 x9.1 (i3 + 1) x9.2
theorem c247_4 {L : Nat} {xs : Nat → Int32} {zf : Value} {D : dD} {w k : Nat} (hD : dO L xs zf D k) (hz : zf.category = 1) : ∀ (n : Nat) (o0 : Option Nat) (i2 : Int32) (i3 : Int32) (lv : rm_L) (h : rm_H) (r : dR), rm_get lv 0 = some (va_rf o0) → rm_get lv 2 = some (.int i2) → rm_get lv 3 = some (.int i3) → b247_4 L xs zf D w n  o0 i2 i3 h = some r → dq L xs zf ah_M247 4 lv [] h (k + 1) r := by
  intro n
  induction n with
  | zero =>
    intro o0 i2 i3 lv h r G0 G2 G3 hh
    cases hh
  | succ n ih =>
    intro o0 i2 i3 lv h r G0 G2 G3 hh
    rw [b247_4] at hh
    refine dq_iln 3 5 (by decide +kernel) rfl G3 ?_
    refine dq_aln 0 6 (by decide +kernel) rfl G0 ?_
    obtain ⟨x1, q2, hh⟩ := db hh
    refine dq_gI 51 11 [4] 9 (by decide +kernel) rfl q2 ?_
    rcases di hh with ⟨q3, hh⟩ | ⟨q3, hh⟩
    · refine dq_2 .ge 25 true 34 q3 (by decide +kernel) ?_
      exact c247_34 hD hz _ _ _ _ G2 hh
    · refine dq_2 .ge 25 false 12 q3 (by decide +kernel) ?_
      refine dq_aln 0 13 (by decide +kernel) rfl G0 ?_
      refine dq_iln 2 14 (by decide +kernel) rfl G2 ?_
      obtain ⟨x4, q5, hh⟩ := db hh
      obtain ⟨a6, q7, q5⟩ := db q5
      rw [dq_xI q5] at q7
      refine dq_cvi hD 190 248 5 1 [4] o0 [.int i2] [] 17 [.int x4.1] (by decide +kernel) ap_248 ⟨⟨Nat.le_of_ble_eq_true rfl, by decide⟩, rfl, rfl⟩ (dq_ok8 [1, 1] [] (dc_r (dc_i dc_n)) dc_n (by decide +kernel)) (by decide +kernel) rfl q7 rfl ?_
      refine dq_S (.bipush 20) 2 [] 19 _ [.int 20, .int x4.1] (by decide +kernel) rfl ?_
      rcases di hh with ⟨q8, hh⟩ | ⟨q8, hh⟩
      · refine dq_2 .ne 15 true 34 q8 (by decide +kernel) ?_
        exact c247_34 hD hz _ _ _ _ G2 hh
      · refine dq_2 .ne 15 false 22 q8 (by decide +kernel) ?_
        refine dq_aln 0 23 (by decide +kernel) rfl G0 ?_
        refine dq_iln 2 24 (by decide +kernel) rfl G2 ?_
        obtain ⟨x9, q10, hh⟩ := db hh
        obtain ⟨a11, q12, q10⟩ := db q10
        rw [dq_xI q10] at q12
        refine dq_cvi hD 194 249 5 1 [4] o0 [.int i2] [] 27 [.int x9.1] (by decide +kernel) ap_249 ⟨⟨Nat.le_of_ble_eq_true rfl, by decide⟩, rfl, rfl⟩ (dq_ok8 [1, 1] [] (dc_r (dc_i dc_n)) dc_n (by decide +kernel)) (by decide +kernel) rfl q12 rfl ?_
        refine dq_isn 2 28 (by decide +kernel) (by decide +kernel) ?_
        have g13 := dg_ne (i := 2) (u := .int x9.1) (by decide) (Or.inl (by decide)) G0
        have g14 := dg_ne (i := 2) (u := .int x9.1) (by decide) (Or.inl (by decide)) G3
        have g15 := dg_eq (lv) 2 (.int x9.1)
        refine dq_incy 3 1 1 31 (by decide +kernel) ⟨rfl, by decide +kernel, by decide +kernel⟩ g14 ?_
        have g16 := dg_ne (i := 3) (u := .int (i3 + 1)) (by decide) (Or.inl (by decide)) g13
        have g17 := dg_ne (i := 3) (u := .int (i3 + 1)) (by decide) (Or.inr rfl) g15
        have g18 := dg_eq (rm_set1 (lv) 2 (.int x9.1)) 3 (.int (i3 + 1))
        refine dq_S (.goto (-27)) 3 [] 4 _ [] (by decide +kernel) rfl ?_
        exact ih _ _ _ _ _ _ g16 g17 g18 hh
def b247_0 (L : Nat) (xs : Nat → Int32) (zf : Value) (D : dD) (w : Nat) (o0 : Option Nat) (i1 : Int32) (h : rm_H) : Option dR :=
  b247_4 L xs zf D w w o0 i1 0 h
theorem c247_0 {L : Nat} {xs : Nat → Int32} {zf : Value} {D : dD} {w k : Nat} (hD : dO L xs zf D k) (hz : zf.category = 1) : ∀ (o0 : Option Nat) (i1 : Int32) (lv : rm_L) (h : rm_H) (r : dR), rm_get lv 0 = some (va_rf o0) → rm_get lv 1 = some (.int i1) → b247_0 L xs zf D w  o0 i1 h = some r → dq L xs zf ah_M247 0 lv [] h (k + 1) r := by
  intro o0 i1 lv h r G0 G1 hh
  unfold b247_0 at hh
  refine dq_iln 1 1 (by decide +kernel) rfl G1 ?_
  refine dq_isn 2 2 (by decide +kernel) (by decide +kernel) ?_
  have g1 := dg_ne (i := 2) (u := .int i1) (by decide) (Or.inl (by decide)) G0
  have g2 := dg_ne (i := 2) (u := .int i1) (by decide) (Or.inr rfl) G1
  have g3 := dg_eq (lv) 2 (.int i1)
  refine dq_S (.iconst 0) 1 [] 3 _ [.int 0] (by decide +kernel) rfl ?_
  refine dq_isn 3 4 (by decide +kernel) (by decide +kernel) ?_
  have g4 := dg_ne (i := 3) (u := .int 0) (by decide) (Or.inl (by decide)) g1
  have g5 := dg_ne (i := 3) (u := .int 0) (by decide) (Or.inl (by decide)) g2
  have g6 := dg_ne (i := 3) (u := .int 0) (by decide) (Or.inr rfl) g3
  have g7 := dg_eq (rm_set1 (lv) 2 (.int i1)) 3 (.int 0)
  exact c247_4 hD hz _ _ _ _ _ _ _ g4 g6 g7 hh
def f247 (L : Nat) (xs : Nat → Int32) (zf : Value) (D : dD) (w : Nat) (As : List Value) (h : rm_H) : Option dR := match As with
  | [v0, .int i1] => (rm_rf v0).bind fun o0 => b247_0 L xs zf D w o0 i1 h
  | _ => none
theorem d247 {L : Nat} {xs : Nat → Int32} {zf : Value} {D : dD} {w k : Nat} (hD : dO L xs zf D k) (hz : zf.category = 1) (As : List Value) (h : rm_H) (r : dR) (hh : f247 L xs zf D w As h = some r) : dq L xs zf ah_M247 0 (lv_args 0 As) [] h (k + 1) r := by
  unfold f247 at hh
  split at hh
  · obtain ⟨o0, e0, hb0⟩ := db hh
    have e0 := rm_rf_v _ _ e0
    subst e0
    refine c247_0 hD hz _ _ _ _ _ ?_ ?_ hb0
    all_goals (simp only [la_r, la_i, la_j]; rfl)
  · cases hh
def b248_23 (L : Nat) (xs : Nat → Int32) (zf : Value) (D : dD) (w : Nat) (s0 : Int32) (h : rm_H) : Option dR :=
  drI (some .int) s0 h
theorem c248_23 {L : Nat} {xs : Nat → Int32} {zf : Value} {D : dD} {w k : Nat} (hD : dO L xs zf D k) (hz : zf.category = 1) : ∀ (s0 : Int32) (lv : rm_L) (h : rm_H) (r : dR), b248_23 L xs zf D w  s0 h = some r → dq L xs zf ah_M248 23 lv [.int s0] h (k + 1) r := by
  intro s0 lv h r hh
  unfold b248_23 at hh
  exact dq_retI (some .int) (by decide +kernel) rfl hh
def b248_12 (L : Nat) (xs : Nat → Int32) (zf : Value) (D : dD) (w : Nat) (h : rm_H) : Option dR :=
  b248_23 L xs zf D w 19 h
theorem c248_12 {L : Nat} {xs : Nat → Int32} {zf : Value} {D : dD} {w k : Nat} (hD : dO L xs zf D k) (hz : zf.category = 1) : ∀ (lv : rm_L) (h : rm_H) (r : dR), b248_12 L xs zf D w  h = some r → dq L xs zf ah_M248 12 lv [] h (k + 1) r := by
  intro lv h r hh
  unfold b248_12 at hh
  refine dq_S (.bipush 19) 2 [] 14 _ [.int 19] (by decide +kernel) rfl ?_
  refine dq_S (.goto 9) 3 [] 23 _ [.int 19] (by decide +kernel) rfl ?_
  exact c248_23 hD hz _ _ _ _  hh
def b248_0 (L : Nat) (xs : Nat → Int32) (zf : Value) (D : dD) (w : Nat) (o0 : Option Nat) (i1 : Int32) (h : rm_H) : Option dR :=
  if mx_f1 .lt i1 = true then
    b248_12 L xs zf D w h
  else
    (dgI L xs h 11 [4] o0).bind fun x2 =>
    if mx_f2 .lt i1 x2 = true then
      (dgR L xs h 9 [4] o0).bind fun p5 =>
      (daI L xs h p5 i1).bind fun x7 =>
      b248_23 L xs zf D w x7 h
    else
      b248_12 L xs zf D w h
theorem c248_0 {L : Nat} {xs : Nat → Int32} {zf : Value} {D : dD} {w k : Nat} (hD : dO L xs zf D k) (hz : zf.category = 1) : ∀ (o0 : Option Nat) (i1 : Int32) (lv : rm_L) (h : rm_H) (r : dR), rm_get lv 0 = some (va_rf o0) → rm_get lv 1 = some (.int i1) → b248_0 L xs zf D w  o0 i1 h = some r → dq L xs zf ah_M248 0 lv [] h (k + 1) r := by
  intro o0 i1 lv h r G0 G1 hh
  unfold b248_0 at hh
  refine dq_iln 1 1 (by decide +kernel) rfl G1 ?_
  rcases di hh with ⟨q1, hh⟩ | ⟨q1, hh⟩
  · refine dq_1 .lt 11 true 12 q1 (by decide +kernel) ?_
    exact c248_12 hD hz  _ _ _  hh
  · refine dq_1 .lt 11 false 4 q1 (by decide +kernel) ?_
    refine dq_iln 1 5 (by decide +kernel) rfl G1 ?_
    refine dq_aln 0 6 (by decide +kernel) rfl G0 ?_
    obtain ⟨x2, q3, hh⟩ := db hh
    refine dq_gI 51 11 [4] 9 (by decide +kernel) rfl q3 ?_
    rcases di hh with ⟨q4, hh⟩ | ⟨q4, hh⟩
    · refine dq_2 .lt 8 true 17 q4 (by decide +kernel) ?_
      refine dq_aln 0 18 (by decide +kernel) rfl G0 ?_
      obtain ⟨p5, q6, hh⟩ := db hh
      refine dq_gR 44 9 [4] 21 (by decide +kernel) rfl q6 ?_
      refine dq_iln 1 22 (by decide +kernel) rfl G1 ?_
      obtain ⟨x7, q8, hh⟩ := db hh
      refine dq_aI 23 (by decide +kernel) rfl q8 ?_
      exact c248_23 hD hz _ _ _ _  hh
    · refine dq_2 .lt 8 false 12 q4 (by decide +kernel) ?_
      exact c248_12 hD hz  _ _ _  hh
def f248 (L : Nat) (xs : Nat → Int32) (zf : Value) (D : dD) (w : Nat) (As : List Value) (h : rm_H) : Option dR := match As with
  | [v0, .int i1] => (rm_rf v0).bind fun o0 => b248_0 L xs zf D w o0 i1 h
  | _ => none
theorem d248 {L : Nat} {xs : Nat → Int32} {zf : Value} {D : dD} {w k : Nat} (hD : dO L xs zf D k) (hz : zf.category = 1) (As : List Value) (h : rm_H) (r : dR) (hh : f248 L xs zf D w As h = some r) : dq L xs zf ah_M248 0 (lv_args 0 As) [] h (k + 1) r := by
  unfold f248 at hh
  split at hh
  · obtain ⟨o0, e0, hb0⟩ := db hh
    have e0 := rm_rf_v _ _ e0
    subst e0
    refine c248_0 hD hz _ _ _ _ _ ?_ ?_ hb0
    all_goals (simp only [la_r, la_i, la_j]; rfl)
  · cases hh
def b249_22 (L : Nat) (xs : Nat → Int32) (zf : Value) (D : dD) (w : Nat) (s0 : Int32) (h : rm_H) : Option dR :=
  drI (some .int) s0 h
theorem c249_22 {L : Nat} {xs : Nat → Int32} {zf : Value} {D : dD} {w k : Nat} (hD : dO L xs zf D k) (hz : zf.category = 1) : ∀ (s0 : Int32) (lv : rm_L) (h : rm_H) (r : dR), b249_22 L xs zf D w  s0 h = some r → dq L xs zf ah_M249 22 lv [.int s0] h (k + 1) r := by
  intro s0 lv h r hh
  unfold b249_22 at hh
  exact dq_retI (some .int) (by decide +kernel) rfl hh
def b249_12 (L : Nat) (xs : Nat → Int32) (zf : Value) (D : dD) (w : Nat) (h : rm_H) : Option dR :=
  b249_22 L xs zf D w 0 h
theorem c249_12 {L : Nat} {xs : Nat → Int32} {zf : Value} {D : dD} {w k : Nat} (hD : dO L xs zf D k) (hz : zf.category = 1) : ∀ (lv : rm_L) (h : rm_H) (r : dR), b249_12 L xs zf D w  h = some r → dq L xs zf ah_M249 12 lv [] h (k + 1) r := by
  intro lv h r hh
  unfold b249_12 at hh
  refine dq_S (.iconst 0) 1 [] 13 _ [.int 0] (by decide +kernel) rfl ?_
  refine dq_S (.goto 9) 3 [] 22 _ [.int 0] (by decide +kernel) rfl ?_
  exact c249_22 hD hz _ _ _ _  hh
def b249_0 (L : Nat) (xs : Nat → Int32) (zf : Value) (D : dD) (w : Nat) (o0 : Option Nat) (i1 : Int32) (h : rm_H) : Option dR :=
  if mx_f1 .lt i1 = true then
    b249_12 L xs zf D w h
  else
    (dgI L xs h 11 [4] o0).bind fun x2 =>
    if mx_f2 .lt i1 x2 = true then
      (dgR L xs h 10 [4] o0).bind fun p5 =>
      (daI L xs h p5 i1).bind fun x7 =>
      b249_22 L xs zf D w x7 h
    else
      b249_12 L xs zf D w h
theorem c249_0 {L : Nat} {xs : Nat → Int32} {zf : Value} {D : dD} {w k : Nat} (hD : dO L xs zf D k) (hz : zf.category = 1) : ∀ (o0 : Option Nat) (i1 : Int32) (lv : rm_L) (h : rm_H) (r : dR), rm_get lv 0 = some (va_rf o0) → rm_get lv 1 = some (.int i1) → b249_0 L xs zf D w  o0 i1 h = some r → dq L xs zf ah_M249 0 lv [] h (k + 1) r := by
  intro o0 i1 lv h r G0 G1 hh
  unfold b249_0 at hh
  refine dq_iln 1 1 (by decide +kernel) rfl G1 ?_
  rcases di hh with ⟨q1, hh⟩ | ⟨q1, hh⟩
  · refine dq_1 .lt 11 true 12 q1 (by decide +kernel) ?_
    exact c249_12 hD hz  _ _ _  hh
  · refine dq_1 .lt 11 false 4 q1 (by decide +kernel) ?_
    refine dq_iln 1 5 (by decide +kernel) rfl G1 ?_
    refine dq_aln 0 6 (by decide +kernel) rfl G0 ?_
    obtain ⟨x2, q3, hh⟩ := db hh
    refine dq_gI 51 11 [4] 9 (by decide +kernel) rfl q3 ?_
    rcases di hh with ⟨q4, hh⟩ | ⟨q4, hh⟩
    · refine dq_2 .lt 7 true 16 q4 (by decide +kernel) ?_
      refine dq_aln 0 17 (by decide +kernel) rfl G0 ?_
      obtain ⟨p5, q6, hh⟩ := db hh
      refine dq_gR 48 10 [4] 20 (by decide +kernel) rfl q6 ?_
      refine dq_iln 1 21 (by decide +kernel) rfl G1 ?_
      obtain ⟨x7, q8, hh⟩ := db hh
      refine dq_aI 22 (by decide +kernel) rfl q8 ?_
      exact c249_22 hD hz _ _ _ _  hh
    · refine dq_2 .lt 7 false 12 q4 (by decide +kernel) ?_
      exact c249_12 hD hz  _ _ _  hh
def f249 (L : Nat) (xs : Nat → Int32) (zf : Value) (D : dD) (w : Nat) (As : List Value) (h : rm_H) : Option dR := match As with
  | [v0, .int i1] => (rm_rf v0).bind fun o0 => b249_0 L xs zf D w o0 i1 h
  | _ => none
theorem d249 {L : Nat} {xs : Nat → Int32} {zf : Value} {D : dD} {w k : Nat} (hD : dO L xs zf D k) (hz : zf.category = 1) (As : List Value) (h : rm_H) (r : dR) (hh : f249 L xs zf D w As h = some r) : dq L xs zf ah_M249 0 (lv_args 0 As) [] h (k + 1) r := by
  unfold f249 at hh
  split at hh
  · obtain ⟨o0, e0, hb0⟩ := db hh
    have e0 := rm_rf_v _ _ e0
    subst e0
    refine c249_0 hD hz _ _ _ _ _ ?_ ?_ hb0
    all_goals (simp only [la_r, la_i, la_j]; rfl)
  · cases hh
def b250_0 (L : Nat) (xs : Nat → Int32) (zf : Value) (D : dD) (w : Nat) (o0 : Option Nat) (i1 : Int32) (h : rm_H) : Option dR :=
  (dgR L xs h 7 [14] o0).bind fun p1 =>
  ((dcV L xs D 245 [14] o0 [] h).bind dxI).bind fun x3 =>
  (dsI x3.2 p1 x3.1 i1).bind fun h7 =>
  some (none, h7)
theorem c250_0 {L : Nat} {xs : Nat → Int32} {zf : Value} {D : dD} {w k : Nat} (hD : dO L xs zf D k) (hz : zf.category = 1) : ∀ (o0 : Option Nat) (i1 : Int32) (lv : rm_L) (h : rm_H) (r : dR), rm_get lv 0 = some (va_rf o0) → rm_get lv 1 = some (.int i1) → b250_0 L xs zf D w  o0 i1 h = some r → dq L xs zf ah_M250 0 lv [] h (k + 1) r := by
  intro o0 i1 lv h r G0 G1 hh
  unfold b250_0 at hh
  refine dq_aln 0 1 (by decide +kernel) rfl G0 ?_
  obtain ⟨p1, q2, hh⟩ := db hh
  refine dq_gR 15 7 [14] 4 (by decide +kernel) rfl q2 ?_
  refine dq_aln 0 5 (by decide +kernel) rfl G0 ?_
  obtain ⟨x3, q4, hh⟩ := db hh
  obtain ⟨a5, q6, q4⟩ := db q4
  rw [dq_xI q4] at q6
  refine dq_cvi hD 74 245 5 0 [14] o0 [] [va_rf p1] 8 [.int x3.1, va_rf p1] (by decide +kernel) ap_245 ⟨⟨Nat.le_of_ble_eq_true rfl, by decide⟩, rfl, rfl⟩ (dq_ok8 [1] [1] (dc_r dc_n) (dc_r dc_n) (by decide +kernel)) (by decide +kernel) rfl q6 rfl ?_
  refine dq_iln 1 9 (by decide +kernel) rfl G1 ?_
  obtain ⟨h7, q8, hh⟩ := db hh
  refine dq_sI 10 (by decide +kernel) rfl q8 ?_
  cases hh
  exact dq_ret0 (by decide +kernel) rfl
def f250 (L : Nat) (xs : Nat → Int32) (zf : Value) (D : dD) (w : Nat) (As : List Value) (h : rm_H) : Option dR := match As with
  | [v0, .int i1] => (rm_rf v0).bind fun o0 => b250_0 L xs zf D w o0 i1 h
  | _ => none
theorem d250 {L : Nat} {xs : Nat → Int32} {zf : Value} {D : dD} {w k : Nat} (hD : dO L xs zf D k) (hz : zf.category = 1) (As : List Value) (h : rm_H) (r : dR) (hh : f250 L xs zf D w As h = some r) : dq L xs zf ah_M250 0 (lv_args 0 As) [] h (k + 1) r := by
  unfold f250 at hh
  split at hh
  · obtain ⟨o0, e0, hb0⟩ := db hh
    have e0 := rm_rf_v _ _ e0
    subst e0
    refine c250_0 hD hz _ _ _ _ _ ?_ ?_ hb0
    all_goals (simp only [la_r, la_i, la_j]; rfl)
  · cases hh
def b251_330 (L : Nat) (xs : Nat → Int32) (zf : Value) (D : dD) (w : Nat) (h : rm_H) : Option dR :=
  some (none, h)
theorem c251_330 {L : Nat} {xs : Nat → Int32} {zf : Value} {D : dD} {w k : Nat} (hD : dO L xs zf D k) (hz : zf.category = 1) : ∀ (lv : rm_L) (h : rm_H) (r : dR), b251_330 L xs zf D w  h = some r → dq L xs zf ah_M251 330 lv [] h (k + 1) r := by
  intro lv h r hh
  unfold b251_330 at hh
  cases hh
  exact dq_ret0 (by decide +kernel) rfl
def b251_156 (L : Nat) (xs : Nat → Int32) (zf : Value) (D : dD) (w : Nat) (s0 : Int32) (s1 : Option Nat) (h : rm_H) : Option dR :=
  ((dcV L xs D 243 [14] s1 [.int s0] h).bind dxV).bind fun h1 =>
  b251_330 L xs zf D w h1
theorem c251_156 {L : Nat} {xs : Nat → Int32} {zf : Value} {D : dD} {w k : Nat} (hD : dO L xs zf D k) (hz : zf.category = 1) : ∀ (s0 : Int32) (s1 : Option Nat) (lv : rm_L) (h : rm_H) (r : dR), b251_156 L xs zf D w  s0 s1 h = some r → dq L xs zf ah_M251 156 lv [.int s0, va_rf s1] h (k + 1) r := by
  intro s0 s1 lv h r hh
  unfold b251_156 at hh
  obtain ⟨h1, q2, hh⟩ := db hh
  obtain ⟨a3, q4, q2⟩ := db q2
  rw [dq_xV q2] at q4
  refine dq_cvi hD 131 243 5 1 [14] s1 [.int s0] [] 159 [] (by decide +kernel) ap_243 ⟨⟨Nat.le_of_ble_eq_true rfl, by decide⟩, rfl, rfl⟩ (dq_ok8 [1, 1] [] (dc_r (dc_i dc_n)) dc_n (by decide +kernel)) (by decide +kernel) rfl q4 rfl ?_
  refine dq_S (.goto 171) 3 [] 330 _ [] (by decide +kernel) rfl ?_
  exact c251_330 hD hz  _ _ _  hh
def b251_245 (L : Nat) (xs : Nat → Int32) (zf : Value) (D : dD) (w : Nat) (s0 : Int32) (s1 : Option Nat) (h : rm_H) : Option dR :=
  ((dcV L xs D 259 [14] s1 [.int s0] h).bind dxV).bind fun h1 =>
  b251_330 L xs zf D w h1
theorem c251_245 {L : Nat} {xs : Nat → Int32} {zf : Value} {D : dD} {w k : Nat} (hD : dO L xs zf D k) (hz : zf.category = 1) : ∀ (s0 : Int32) (s1 : Option Nat) (lv : rm_L) (h : rm_H) (r : dR), b251_245 L xs zf D w  s0 s1 h = some r → dq L xs zf ah_M251 245 lv [.int s0, va_rf s1] h (k + 1) r := by
  intro s0 s1 lv h r hh
  unfold b251_245 at hh
  obtain ⟨h1, q2, hh⟩ := db hh
  obtain ⟨a3, q4, q2⟩ := db q2
  rw [dq_xV q2] at q4
  refine dq_cvi hD 160 259 5 1 [14] s1 [.int s0] [] 248 [] (by decide +kernel) ap_259 ⟨⟨Nat.le_of_ble_eq_true rfl, by decide⟩, rfl, rfl⟩ (dq_ok8 [1, 1] [] (dc_r (dc_i dc_n)) dc_n (by decide +kernel)) (by decide +kernel) rfl q4 rfl ?_
  refine dq_S (.goto 82) 3 [] 330 _ [] (by decide +kernel) rfl ?_
  exact c251_330 hD hz  _ _ _  hh
def b251_0 (L : Nat) (xs : Nat → Int32) (zf : Value) (D : dD) (w : Nat) (o0 : Option Nat) (o1 : Option Nat) (i2 : Int32) (h : rm_H) : Option dR :=
  (dgR L xs h 7 [2] o0).bind fun p1 =>
  ((dcV L xs D 249 [4] p1 [.int i2] h).bind dxI).bind fun x3 =>
  (dgR L xs x3.2 7 [2] o0).bind fun p11 =>
  ((dcV L xs D 248 [4] p11 [.int i2] x3.2).bind dxI).bind fun x13 =>
  if dsw 0 19 x13.1 = true then
    (dgR L xs x13.2 7 [2] o0).bind fun p18 =>
    ((dcV L xs D 248 [4] p18 [.int i2] x13.2).bind dxI).bind fun x20 =>
    ((dcV L xs D 265 [2] o0 [va_rf o1, .int x20.1, .int x3.1] x20.2).bind dxV).bind fun h24 =>
    b251_330 L xs zf D w h24
  else if x13.1 = 0 then
    ((dcV L xs D 243 [14] o1 [.int x3.1] x13.2).bind dxV).bind fun h29 =>
    b251_330 L xs zf D w h29
  else if x13.1 = 1 then
    ((dcV L xs D 252 [14] o1 [] x13.2).bind dxI).bind fun x34 =>
    ((dcV L xs D 243 [14] o1 [.int x34.1] x34.2).bind dxV).bind fun h38 =>
    b251_330 L xs zf D w h38
  else if x13.1 = 2 then
    ((dcV L xs D 253 [14] o1 [.int x3.1] x13.2).bind dxI).bind fun x43 =>
    ((dcV L xs D 243 [14] o1 [.int x43.1] x43.2).bind dxV).bind fun h47 =>
    b251_330 L xs zf D w h47
  else if x13.1 = 3 then
    (dgR L xs x13.2 7 [2] o0).bind fun p52 =>
    ((dcV L xs D 248 [4] p52 [.int i2] x13.2).bind dxI).bind fun x54 =>
    ((dcV L xs D 265 [2] o0 [va_rf o1, .int x54.1, .int x3.1] x54.2).bind dxV).bind fun h58 =>
    b251_330 L xs zf D w h58
  else if x13.1 = 4 then
    (dgR L xs x13.2 7 [2] o0).bind fun p63 =>
    ((dcV L xs D 240 [4] p63 [.int x3.1] x13.2).bind dxR).bind fun p65 =>
    ((dcV L xs D 262 [2] o0 [va_rf o1, va_rf p65.1] p65.2).bind dxV).bind fun h69 =>
    b251_330 L xs zf D w h69
  else if x13.1 = 5 then
    (dgR L xs x13.2 7 [2] o0).bind fun p74 =>
    ((dcV L xs D 240 [4] p74 [.int x3.1] x13.2).bind dxR).bind fun p76 =>
    ((dcV L xs D 260 [2] o0 [va_rf o1, va_rf p76.1, .int i2] p76.2).bind dxV).bind fun h80 =>
    b251_330 L xs zf D w h80
  else if x13.1 = 6 then
    (dgR L xs x13.2 7 [2] o0).bind fun p85 =>
    ((dcV L xs D 240 [4] p85 [.int x3.1] x13.2).bind dxR).bind fun p87 =>
    ((dcV L xs D 263 [2] o0 [va_rf o1, va_rf p87.1] p87.2).bind dxV).bind fun h91 =>
    b251_330 L xs zf D w h91
  else if x13.1 = 7 then
    (dgR L xs x13.2 7 [2] o0).bind fun p96 =>
    ((dcV L xs D 240 [4] p96 [.int x3.1] x13.2).bind dxR).bind fun p98 =>
    ((dcV L xs D 264 [2] o0 [va_rf o1, va_rf p98.1] p98.2).bind dxV).bind fun h102 =>
    b251_330 L xs zf D w h102
  else if x13.1 = 8 then
    ((dcV L xs D 234 [14] o1 [] x13.2).bind dxI).bind fun x107 =>
    if mx_f1 .ne x107.1 = true then
      b251_156 L xs zf D w 1 o1 x107.2
    else
      b251_156 L xs zf D w 0 o1 x107.2
  else if x13.1 = 9 then
    ((dcV L xs D 255 [2] o0 [va_rf o1, .int x3.1] x13.2).bind dxV).bind fun h113 =>
    b251_330 L xs zf D w h113
  else if x13.1 = 10 then
    (dgR L xs x13.2 7 [2] o0).bind fun p118 =>
    ((dcV L xs D 248 [4] p118 [.int i2] x13.2).bind dxI).bind fun x120 =>
    ((dcV L xs D 265 [2] o0 [va_rf o1, .int x120.1, .int x3.1] x120.2).bind dxV).bind fun h124 =>
    b251_330 L xs zf D w h124
  else if x13.1 = 11 then
    ((dcV L xs D 234 [14] o1 [] x13.2).bind dxI).bind fun x129 =>
    ((dcV L xs D 254 [14] o1 [.int x3.1, .int x129.1] x129.2).bind dxV).bind fun h133 =>
    b251_330 L xs zf D w h133
  else if x13.1 = 12 then
    (dgR L xs x13.2 7 [2] o0).bind fun p138 =>
    ((dcV L xs D 248 [4] p138 [.int i2] x13.2).bind dxI).bind fun x140 =>
    ((dcV L xs D 265 [2] o0 [va_rf o1, .int x140.1, .int x3.1] x140.2).bind dxV).bind fun h144 =>
    b251_330 L xs zf D w h144
  else if x13.1 = 13 then
    ((dcV L xs D 256 [2] o0 [va_rf o1, .int x3.1] x13.2).bind dxV).bind fun h149 =>
    b251_330 L xs zf D w h149
  else if x13.1 = 14 then
    ((dcV L xs D 257 [2] o0 [va_rf o1] x13.2).bind dxV).bind fun h154 =>
    b251_330 L xs zf D w h154
  else if x13.1 = 15 then
    ((dcV L xs D 234 [14] o1 [] x13.2).bind dxI).bind fun x159 =>
    ((dcV L xs D 259 [14] o1 [.int x159.1] x159.2).bind dxV).bind fun h163 =>
    b251_330 L xs zf D w h163
  else if x13.1 = 16 then
    b251_330 L xs zf D w x13.2
  else if x13.1 = 17 then
    ((dcV L xs D 234 [14] o1 [] x13.2).bind dxI).bind fun x169 =>
    b251_330 L xs zf D w x169.2
  else if x13.1 = 18 then
    ((dcV L xs D 258 [2] o0 [va_rf o1, .int x3.1] x13.2).bind dxV).bind fun h174 =>
    b251_330 L xs zf D w h174
  else if x13.1 = 19 then
    if mx_f2 .ne x3.1 1 = true then
      b251_245 L xs zf D w 0 o1 x13.2
    else
      ((dcV L xs D 252 [14] o1 [] x13.2).bind dxI).bind fun x180 =>
      b251_245 L xs zf D w x180.1 o1 x180.2
  else none
theorem c251_0 {L : Nat} {xs : Nat → Int32} {zf : Value} {D : dD} {w k : Nat} (hD : dO L xs zf D k) (hz : zf.category = 1) : ∀ (o0 : Option Nat) (o1 : Option Nat) (i2 : Int32) (lv : rm_L) (h : rm_H) (r : dR), rm_get lv 0 = some (va_rf o0) → rm_get lv 1 = some (va_rf o1) → rm_get lv 2 = some (.int i2) → b251_0 L xs zf D w  o0 o1 i2 h = some r → dq L xs zf ah_M251 0 lv [] h (k + 1) r := by
  intro o0 o1 i2 lv h r G0 G1 G2 hh
  unfold b251_0 at hh
  refine dq_aln 0 1 (by decide +kernel) rfl G0 ?_
  obtain ⟨p1, q2, hh⟩ := db hh
  refine dq_gR 30 7 [2] 4 (by decide +kernel) rfl q2 ?_
  refine dq_iln 2 5 (by decide +kernel) rfl G2 ?_
  obtain ⟨x3, q4, hh⟩ := db hh
  obtain ⟨a5, q6, q4⟩ := db q4
  rw [dq_xI q4] at q6
  refine dq_cvi hD 126 249 5 1 [4] p1 [.int i2] [] 8 [.int x3.1] (by decide +kernel) ap_249 ⟨⟨Nat.le_of_ble_eq_true rfl, by decide⟩, rfl, rfl⟩ (dq_ok8 [1, 1] [] (dc_r (dc_i dc_n)) dc_n (by decide +kernel)) (by decide +kernel) rfl q6 rfl ?_
  refine dq_isn 3 9 (by decide +kernel) (by decide +kernel) ?_
  have g7 := dg_ne (i := 3) (u := .int x3.1) (by decide) (Or.inl (by decide)) G0
  have g8 := dg_ne (i := 3) (u := .int x3.1) (by decide) (Or.inl (by decide)) G1
  have g9 := dg_ne (i := 3) (u := .int x3.1) (by decide) (Or.inr rfl) G2
  have g10 := dg_eq (lv) 3 (.int x3.1)
  refine dq_aln 0 10 (by decide +kernel) rfl g7 ?_
  obtain ⟨p11, q12, hh⟩ := db hh
  refine dq_gR 30 7 [2] 13 (by decide +kernel) rfl q12 ?_
  refine dq_iln 2 14 (by decide +kernel) rfl g9 ?_
  obtain ⟨x13, q14, hh⟩ := db hh
  obtain ⟨a15, q16, q14⟩ := db q14
  rw [dq_xI q14] at q16
  refine dq_cvi hD 129 248 5 1 [4] p11 [.int i2] [] 17 [.int x13.1] (by decide +kernel) ap_248 ⟨⟨Nat.le_of_ble_eq_true rfl, by decide⟩, rfl, rfl⟩ (dq_ok8 [1, 1] [] (dc_r (dc_i dc_n)) dc_n (by decide +kernel)) (by decide +kernel) rfl q16 rfl ?_
  rcases di hh with ⟨q17, hh⟩ | ⟨_, hh⟩
  · refine dq_sd 299 0 19 #[95, 103, 114, 299, 251, 234, 267, 283, 126, 157, 299, 145, 299, 166, 175, 203, 183, 186, 194, 214] 95 316 (by decide +kernel) (by decide +kernel) q17 ?_
    refine dq_aln 0 317 (by decide +kernel) rfl g7 ?_
    refine dq_aln 1 318 (by decide +kernel) rfl g8 ?_
    refine dq_aln 0 319 (by decide +kernel) rfl g7 ?_
    obtain ⟨p18, q19, hh⟩ := db hh
    refine dq_gR 30 7 [2] 322 (by decide +kernel) rfl q19 ?_
    refine dq_iln 2 323 (by decide +kernel) rfl g9 ?_
    obtain ⟨x20, q21, hh⟩ := db hh
    obtain ⟨a22, q23, q21⟩ := db q21
    rw [dq_xI q21] at q23
    refine dq_cvi hD 129 248 5 1 [4] p18 [.int i2] [va_rf o1, va_rf o0] 326 [.int x20.1, va_rf o1, va_rf o0] (by decide +kernel) ap_248 ⟨⟨Nat.le_of_ble_eq_true rfl, by decide⟩, rfl, rfl⟩ (dq_ok8 [1, 1] [1, 1] (dc_r (dc_i dc_n)) (dc_r (dc_r dc_n)) (by decide +kernel)) (by decide +kernel) rfl q23 rfl ?_
    refine dq_iln 3 327 (by decide +kernel) rfl g10 ?_
    obtain ⟨h24, q25, hh⟩ := db hh
    obtain ⟨a26, q27, q25⟩ := db q25
    rw [dq_xV q25] at q27
    refine dq_cvi hD 177 265 5 3 [2] o0 [va_rf o1, .int x20.1, .int x3.1] [] 330 [] (by decide +kernel) ap_265 ⟨⟨Nat.le_of_ble_eq_true rfl, by decide⟩, rfl, rfl⟩ (dq_ok8 [1, 1, 1, 1] [] (dc_r (dc_r (dc_i (dc_i dc_n)))) dc_n (by decide +kernel)) (by decide +kernel) rfl q27 rfl ?_
    exact c251_330 hD hz  _ _ _  hh
  rcases dp hh with ⟨q28, hh⟩ | ⟨_, hh⟩
  · refine dq_eq 0 q28 ?_
    refine dq_S (.tableswitch 299 0 19 #[95, 103, 114, 299, 251, 234, 267, 283, 126, 157, 299, 145, 299, 166, 175, 203, 183, 186, 194, 214]) 95 [] 112 _ [] (by decide +kernel) rfl ?_
    refine dq_aln 1 113 (by decide +kernel) rfl g8 ?_
    refine dq_iln 3 114 (by decide +kernel) rfl g10 ?_
    obtain ⟨h29, q30, hh⟩ := db hh
    obtain ⟨a31, q32, q30⟩ := db q30
    rw [dq_xV q30] at q32
    refine dq_cvi hD 131 243 5 1 [14] o1 [.int x3.1] [] 117 [] (by decide +kernel) ap_243 ⟨⟨Nat.le_of_ble_eq_true rfl, by decide⟩, rfl, rfl⟩ (dq_ok8 [1, 1] [] (dc_r (dc_i dc_n)) dc_n (by decide +kernel)) (by decide +kernel) rfl q32 rfl ?_
    refine dq_S (.goto 213) 3 [] 330 _ [] (by decide +kernel) rfl ?_
    exact c251_330 hD hz  _ _ _  hh
  rcases dp hh with ⟨q33, hh⟩ | ⟨_, hh⟩
  · refine dq_eq 1 q33 ?_
    refine dq_S (.tableswitch 299 0 19 #[95, 103, 114, 299, 251, 234, 267, 283, 126, 157, 299, 145, 299, 166, 175, 203, 183, 186, 194, 214]) 95 [] 120 _ [] (by decide +kernel) rfl ?_
    refine dq_aln 1 121 (by decide +kernel) rfl g8 ?_
    refine dq_aln 1 122 (by decide +kernel) rfl g8 ?_
    obtain ⟨x34, q35, hh⟩ := db hh
    obtain ⟨a36, q37, q35⟩ := db q35
    rw [dq_xI q35] at q37
    refine dq_cvi hD 134 252 5 0 [14] o1 [] [va_rf o1] 125 [.int x34.1, va_rf o1] (by decide +kernel) ap_252 ⟨⟨Nat.le_of_ble_eq_true rfl, by decide⟩, rfl, rfl⟩ (dq_ok8 [1] [1] (dc_r dc_n) (dc_r dc_n) (by decide +kernel)) (by decide +kernel) rfl q37 rfl ?_
    obtain ⟨h38, q39, hh⟩ := db hh
    obtain ⟨a40, q41, q39⟩ := db q39
    rw [dq_xV q39] at q41
    refine dq_cvi hD 131 243 5 1 [14] o1 [.int x34.1] [] 128 [] (by decide +kernel) ap_243 ⟨⟨Nat.le_of_ble_eq_true rfl, by decide⟩, rfl, rfl⟩ (dq_ok8 [1, 1] [] (dc_r (dc_i dc_n)) dc_n (by decide +kernel)) (by decide +kernel) rfl q41 rfl ?_
    refine dq_S (.goto 202) 3 [] 330 _ [] (by decide +kernel) rfl ?_
    exact c251_330 hD hz  _ _ _  hh
  rcases dp hh with ⟨q42, hh⟩ | ⟨_, hh⟩
  · refine dq_eq 2 q42 ?_
    refine dq_S (.tableswitch 299 0 19 #[95, 103, 114, 299, 251, 234, 267, 283, 126, 157, 299, 145, 299, 166, 175, 203, 183, 186, 194, 214]) 95 [] 131 _ [] (by decide +kernel) rfl ?_
    refine dq_aln 1 132 (by decide +kernel) rfl g8 ?_
    refine dq_aln 1 133 (by decide +kernel) rfl g8 ?_
    refine dq_iln 3 134 (by decide +kernel) rfl g10 ?_
    obtain ⟨x43, q44, hh⟩ := db hh
    obtain ⟨a45, q46, q44⟩ := db q44
    rw [dq_xI q44] at q46
    refine dq_cvi hD 137 253 5 1 [14] o1 [.int x3.1] [va_rf o1] 137 [.int x43.1, va_rf o1] (by decide +kernel) ap_253 ⟨⟨Nat.le_of_ble_eq_true rfl, by decide⟩, rfl, rfl⟩ (dq_ok8 [1, 1] [1] (dc_r (dc_i dc_n)) (dc_r dc_n) (by decide +kernel)) (by decide +kernel) rfl q46 rfl ?_
    obtain ⟨h47, q48, hh⟩ := db hh
    obtain ⟨a49, q50, q48⟩ := db q48
    rw [dq_xV q48] at q50
    refine dq_cvi hD 131 243 5 1 [14] o1 [.int x43.1] [] 140 [] (by decide +kernel) ap_243 ⟨⟨Nat.le_of_ble_eq_true rfl, by decide⟩, rfl, rfl⟩ (dq_ok8 [1, 1] [] (dc_r (dc_i dc_n)) dc_n (by decide +kernel)) (by decide +kernel) rfl q50 rfl ?_
    refine dq_S (.goto 190) 3 [] 330 _ [] (by decide +kernel) rfl ?_
    exact c251_330 hD hz  _ _ _  hh
  rcases dp hh with ⟨q51, hh⟩ | ⟨_, hh⟩
  · refine dq_eq 3 q51 ?_
    refine dq_S (.tableswitch 299 0 19 #[95, 103, 114, 299, 251, 234, 267, 283, 126, 157, 299, 145, 299, 166, 175, 203, 183, 186, 194, 214]) 95 [] 316 _ [] (by decide +kernel) rfl ?_
    refine dq_aln 0 317 (by decide +kernel) rfl g7 ?_
    refine dq_aln 1 318 (by decide +kernel) rfl g8 ?_
    refine dq_aln 0 319 (by decide +kernel) rfl g7 ?_
    obtain ⟨p52, q53, hh⟩ := db hh
    refine dq_gR 30 7 [2] 322 (by decide +kernel) rfl q53 ?_
    refine dq_iln 2 323 (by decide +kernel) rfl g9 ?_
    obtain ⟨x54, q55, hh⟩ := db hh
    obtain ⟨a56, q57, q55⟩ := db q55
    rw [dq_xI q55] at q57
    refine dq_cvi hD 129 248 5 1 [4] p52 [.int i2] [va_rf o1, va_rf o0] 326 [.int x54.1, va_rf o1, va_rf o0] (by decide +kernel) ap_248 ⟨⟨Nat.le_of_ble_eq_true rfl, by decide⟩, rfl, rfl⟩ (dq_ok8 [1, 1] [1, 1] (dc_r (dc_i dc_n)) (dc_r (dc_r dc_n)) (by decide +kernel)) (by decide +kernel) rfl q57 rfl ?_
    refine dq_iln 3 327 (by decide +kernel) rfl g10 ?_
    obtain ⟨h58, q59, hh⟩ := db hh
    obtain ⟨a60, q61, q59⟩ := db q59
    rw [dq_xV q59] at q61
    refine dq_cvi hD 177 265 5 3 [2] o0 [va_rf o1, .int x54.1, .int x3.1] [] 330 [] (by decide +kernel) ap_265 ⟨⟨Nat.le_of_ble_eq_true rfl, by decide⟩, rfl, rfl⟩ (dq_ok8 [1, 1, 1, 1] [] (dc_r (dc_r (dc_i (dc_i dc_n)))) dc_n (by decide +kernel)) (by decide +kernel) rfl q61 rfl ?_
    exact c251_330 hD hz  _ _ _  hh
  rcases dp hh with ⟨q62, hh⟩ | ⟨_, hh⟩
  · refine dq_eq 4 q62 ?_
    refine dq_S (.tableswitch 299 0 19 #[95, 103, 114, 299, 251, 234, 267, 283, 126, 157, 299, 145, 299, 166, 175, 203, 183, 186, 194, 214]) 95 [] 268 _ [] (by decide +kernel) rfl ?_
    refine dq_aln 0 269 (by decide +kernel) rfl g7 ?_
    refine dq_aln 1 270 (by decide +kernel) rfl g8 ?_
    refine dq_aln 0 271 (by decide +kernel) rfl g7 ?_
    obtain ⟨p63, q64, hh⟩ := db hh
    refine dq_gR 30 7 [2] 274 (by decide +kernel) rfl q64 ?_
    refine dq_iln 3 275 (by decide +kernel) rfl g10 ?_
    obtain ⟨p65, q66, hh⟩ := db hh
    obtain ⟨a67, q68, q66⟩ := db q66
    rw [dq_xR q66] at q68
    refine dq_cvi hD 103 240 5 1 [4] p63 [.int x3.1] [va_rf o1, va_rf o0] 278 [va_rf p65.1, va_rf o1, va_rf o0] (by decide +kernel) ap_240 ⟨⟨Nat.le_of_ble_eq_true rfl, by decide⟩, rfl, rfl⟩ (dq_ok8 [1, 1] [1, 1] (dc_r (dc_i dc_n)) (dc_r (dc_r dc_n)) (by decide +kernel)) (by decide +kernel) rfl q68 rfl ?_
    obtain ⟨h69, q70, hh⟩ := db hh
    obtain ⟨a71, q72, q70⟩ := db q70
    rw [dq_xV q70] at q72
    refine dq_cvi hD 167 262 5 2 [2] o0 [va_rf o1, va_rf p65.1] [] 281 [] (by decide +kernel) ap_262 ⟨⟨Nat.le_of_ble_eq_true rfl, by decide⟩, rfl, rfl⟩ (dq_ok8 [1, 1, 1] [] (dc_r (dc_r (dc_r dc_n))) dc_n (by decide +kernel)) (by decide +kernel) rfl q72 rfl ?_
    refine dq_S (.goto 49) 3 [] 330 _ [] (by decide +kernel) rfl ?_
    exact c251_330 hD hz  _ _ _  hh
  rcases dp hh with ⟨q73, hh⟩ | ⟨_, hh⟩
  · refine dq_eq 5 q73 ?_
    refine dq_S (.tableswitch 299 0 19 #[95, 103, 114, 299, 251, 234, 267, 283, 126, 157, 299, 145, 299, 166, 175, 203, 183, 186, 194, 214]) 95 [] 251 _ [] (by decide +kernel) rfl ?_
    refine dq_aln 0 252 (by decide +kernel) rfl g7 ?_
    refine dq_aln 1 253 (by decide +kernel) rfl g8 ?_
    refine dq_aln 0 254 (by decide +kernel) rfl g7 ?_
    obtain ⟨p74, q75, hh⟩ := db hh
    refine dq_gR 30 7 [2] 257 (by decide +kernel) rfl q75 ?_
    refine dq_iln 3 258 (by decide +kernel) rfl g10 ?_
    obtain ⟨p76, q77, hh⟩ := db hh
    obtain ⟨a78, q79, q77⟩ := db q77
    rw [dq_xR q77] at q79
    refine dq_cvi hD 103 240 5 1 [4] p74 [.int x3.1] [va_rf o1, va_rf o0] 261 [va_rf p76.1, va_rf o1, va_rf o0] (by decide +kernel) ap_240 ⟨⟨Nat.le_of_ble_eq_true rfl, by decide⟩, rfl, rfl⟩ (dq_ok8 [1, 1] [1, 1] (dc_r (dc_i dc_n)) (dc_r (dc_r dc_n)) (by decide +kernel)) (by decide +kernel) rfl q79 rfl ?_
    refine dq_iln 2 262 (by decide +kernel) rfl g9 ?_
    obtain ⟨h80, q81, hh⟩ := db hh
    obtain ⟨a82, q83, q81⟩ := db q81
    rw [dq_xV q81] at q83
    refine dq_cvi hD 163 260 5 3 [2] o0 [va_rf o1, va_rf p76.1, .int i2] [] 265 [] (by decide +kernel) ap_260 ⟨⟨Nat.le_of_ble_eq_true rfl, by decide⟩, rfl, rfl⟩ (dq_ok8 [1, 1, 1, 1] [] (dc_r (dc_r (dc_r (dc_i dc_n)))) dc_n (by decide +kernel)) (by decide +kernel) rfl q83 rfl ?_
    refine dq_S (.goto 65) 3 [] 330 _ [] (by decide +kernel) rfl ?_
    exact c251_330 hD hz  _ _ _  hh
  rcases dp hh with ⟨q84, hh⟩ | ⟨_, hh⟩
  · refine dq_eq 6 q84 ?_
    refine dq_S (.tableswitch 299 0 19 #[95, 103, 114, 299, 251, 234, 267, 283, 126, 157, 299, 145, 299, 166, 175, 203, 183, 186, 194, 214]) 95 [] 284 _ [] (by decide +kernel) rfl ?_
    refine dq_aln 0 285 (by decide +kernel) rfl g7 ?_
    refine dq_aln 1 286 (by decide +kernel) rfl g8 ?_
    refine dq_aln 0 287 (by decide +kernel) rfl g7 ?_
    obtain ⟨p85, q86, hh⟩ := db hh
    refine dq_gR 30 7 [2] 290 (by decide +kernel) rfl q86 ?_
    refine dq_iln 3 291 (by decide +kernel) rfl g10 ?_
    obtain ⟨p87, q88, hh⟩ := db hh
    obtain ⟨a89, q90, q88⟩ := db q88
    rw [dq_xR q88] at q90
    refine dq_cvi hD 103 240 5 1 [4] p85 [.int x3.1] [va_rf o1, va_rf o0] 294 [va_rf p87.1, va_rf o1, va_rf o0] (by decide +kernel) ap_240 ⟨⟨Nat.le_of_ble_eq_true rfl, by decide⟩, rfl, rfl⟩ (dq_ok8 [1, 1] [1, 1] (dc_r (dc_i dc_n)) (dc_r (dc_r dc_n)) (by decide +kernel)) (by decide +kernel) rfl q90 rfl ?_
    obtain ⟨h91, q92, hh⟩ := db hh
    obtain ⟨a93, q94, q92⟩ := db q92
    rw [dq_xV q92] at q94
    refine dq_cvi hD 171 263 5 2 [2] o0 [va_rf o1, va_rf p87.1] [] 297 [] (by decide +kernel) ap_263 ⟨⟨Nat.le_of_ble_eq_true rfl, by decide⟩, rfl, rfl⟩ (dq_ok8 [1, 1, 1] [] (dc_r (dc_r (dc_r dc_n))) dc_n (by decide +kernel)) (by decide +kernel) rfl q94 rfl ?_
    refine dq_S (.goto 33) 3 [] 330 _ [] (by decide +kernel) rfl ?_
    exact c251_330 hD hz  _ _ _  hh
  rcases dp hh with ⟨q95, hh⟩ | ⟨_, hh⟩
  · refine dq_eq 7 q95 ?_
    refine dq_S (.tableswitch 299 0 19 #[95, 103, 114, 299, 251, 234, 267, 283, 126, 157, 299, 145, 299, 166, 175, 203, 183, 186, 194, 214]) 95 [] 300 _ [] (by decide +kernel) rfl ?_
    refine dq_aln 0 301 (by decide +kernel) rfl g7 ?_
    refine dq_aln 1 302 (by decide +kernel) rfl g8 ?_
    refine dq_aln 0 303 (by decide +kernel) rfl g7 ?_
    obtain ⟨p96, q97, hh⟩ := db hh
    refine dq_gR 30 7 [2] 306 (by decide +kernel) rfl q97 ?_
    refine dq_iln 3 307 (by decide +kernel) rfl g10 ?_
    obtain ⟨p98, q99, hh⟩ := db hh
    obtain ⟨a100, q101, q99⟩ := db q99
    rw [dq_xR q99] at q101
    refine dq_cvi hD 103 240 5 1 [4] p96 [.int x3.1] [va_rf o1, va_rf o0] 310 [va_rf p98.1, va_rf o1, va_rf o0] (by decide +kernel) ap_240 ⟨⟨Nat.le_of_ble_eq_true rfl, by decide⟩, rfl, rfl⟩ (dq_ok8 [1, 1] [1, 1] (dc_r (dc_i dc_n)) (dc_r (dc_r dc_n)) (by decide +kernel)) (by decide +kernel) rfl q101 rfl ?_
    obtain ⟨h102, q103, hh⟩ := db hh
    obtain ⟨a104, q105, q103⟩ := db q103
    rw [dq_xV q103] at q105
    refine dq_cvi hD 174 264 5 2 [2] o0 [va_rf o1, va_rf p98.1] [] 313 [] (by decide +kernel) ap_264 ⟨⟨Nat.le_of_ble_eq_true rfl, by decide⟩, rfl, rfl⟩ (dq_ok8 [1, 1, 1] [] (dc_r (dc_r (dc_r dc_n))) dc_n (by decide +kernel)) (by decide +kernel) rfl q105 rfl ?_
    refine dq_S (.goto 17) 3 [] 330 _ [] (by decide +kernel) rfl ?_
    exact c251_330 hD hz  _ _ _  hh
  rcases dp hh with ⟨q106, hh⟩ | ⟨_, hh⟩
  · refine dq_eq 8 q106 ?_
    refine dq_S (.tableswitch 299 0 19 #[95, 103, 114, 299, 251, 234, 267, 283, 126, 157, 299, 145, 299, 166, 175, 203, 183, 186, 194, 214]) 95 [] 143 _ [] (by decide +kernel) rfl ?_
    refine dq_aln 1 144 (by decide +kernel) rfl g8 ?_
    refine dq_aln 1 145 (by decide +kernel) rfl g8 ?_
    obtain ⟨x107, q108, hh⟩ := db hh
    obtain ⟨a109, q110, q108⟩ := db q108
    rw [dq_xI q108] at q110
    refine dq_cvi hD 140 234 5 0 [14] o1 [] [va_rf o1] 148 [.int x107.1, va_rf o1] (by decide +kernel) ap_234 ⟨⟨Nat.le_of_ble_eq_true rfl, by decide⟩, rfl, rfl⟩ (dq_ok8 [1] [1] (dc_r dc_n) (dc_r dc_n) (by decide +kernel)) (by decide +kernel) rfl q110 rfl ?_
    rcases di hh with ⟨q111, hh⟩ | ⟨q111, hh⟩
    · refine dq_1 .ne 7 true 155 q111 (by decide +kernel) ?_
      refine dq_S (.iconst 1) 1 [] 156 _ [.int 1, va_rf o1] (by decide +kernel) rfl ?_
      exact c251_156 hD hz _ _ _ _ _  hh
    · refine dq_1 .ne 7 false 151 q111 (by decide +kernel) ?_
      refine dq_S (.iconst 0) 1 [] 152 _ [.int 0, va_rf o1] (by decide +kernel) rfl ?_
      refine dq_S (.goto 4) 3 [] 156 _ [.int 0, va_rf o1] (by decide +kernel) rfl ?_
      exact c251_156 hD hz _ _ _ _ _  hh
  rcases dp hh with ⟨q112, hh⟩ | ⟨_, hh⟩
  · refine dq_eq 9 q112 ?_
    refine dq_S (.tableswitch 299 0 19 #[95, 103, 114, 299, 251, 234, 267, 283, 126, 157, 299, 145, 299, 166, 175, 203, 183, 186, 194, 214]) 95 [] 174 _ [] (by decide +kernel) rfl ?_
    refine dq_aln 0 175 (by decide +kernel) rfl g7 ?_
    refine dq_aln 1 176 (by decide +kernel) rfl g8 ?_
    refine dq_iln 3 177 (by decide +kernel) rfl g10 ?_
    obtain ⟨h113, q114, hh⟩ := db hh
    obtain ⟨a115, q116, q114⟩ := db q114
    rw [dq_xV q114] at q116
    refine dq_cvi hD 147 255 5 2 [2] o0 [va_rf o1, .int x3.1] [] 180 [] (by decide +kernel) ap_255 ⟨⟨Nat.le_of_ble_eq_true rfl, by decide⟩, rfl, rfl⟩ (dq_ok8 [1, 1, 1] [] (dc_r (dc_r (dc_i dc_n))) dc_n (by decide +kernel)) (by decide +kernel) rfl q116 rfl ?_
    refine dq_S (.goto 150) 3 [] 330 _ [] (by decide +kernel) rfl ?_
    exact c251_330 hD hz  _ _ _  hh
  rcases dp hh with ⟨q117, hh⟩ | ⟨_, hh⟩
  · refine dq_eq 10 q117 ?_
    refine dq_S (.tableswitch 299 0 19 #[95, 103, 114, 299, 251, 234, 267, 283, 126, 157, 299, 145, 299, 166, 175, 203, 183, 186, 194, 214]) 95 [] 316 _ [] (by decide +kernel) rfl ?_
    refine dq_aln 0 317 (by decide +kernel) rfl g7 ?_
    refine dq_aln 1 318 (by decide +kernel) rfl g8 ?_
    refine dq_aln 0 319 (by decide +kernel) rfl g7 ?_
    obtain ⟨p118, q119, hh⟩ := db hh
    refine dq_gR 30 7 [2] 322 (by decide +kernel) rfl q119 ?_
    refine dq_iln 2 323 (by decide +kernel) rfl g9 ?_
    obtain ⟨x120, q121, hh⟩ := db hh
    obtain ⟨a122, q123, q121⟩ := db q121
    rw [dq_xI q121] at q123
    refine dq_cvi hD 129 248 5 1 [4] p118 [.int i2] [va_rf o1, va_rf o0] 326 [.int x120.1, va_rf o1, va_rf o0] (by decide +kernel) ap_248 ⟨⟨Nat.le_of_ble_eq_true rfl, by decide⟩, rfl, rfl⟩ (dq_ok8 [1, 1] [1, 1] (dc_r (dc_i dc_n)) (dc_r (dc_r dc_n)) (by decide +kernel)) (by decide +kernel) rfl q123 rfl ?_
    refine dq_iln 3 327 (by decide +kernel) rfl g10 ?_
    obtain ⟨h124, q125, hh⟩ := db hh
    obtain ⟨a126, q127, q125⟩ := db q125
    rw [dq_xV q125] at q127
    refine dq_cvi hD 177 265 5 3 [2] o0 [va_rf o1, .int x120.1, .int x3.1] [] 330 [] (by decide +kernel) ap_265 ⟨⟨Nat.le_of_ble_eq_true rfl, by decide⟩, rfl, rfl⟩ (dq_ok8 [1, 1, 1, 1] [] (dc_r (dc_r (dc_i (dc_i dc_n)))) dc_n (by decide +kernel)) (by decide +kernel) rfl q127 rfl ?_
    exact c251_330 hD hz  _ _ _  hh
  rcases dp hh with ⟨q128, hh⟩ | ⟨_, hh⟩
  · refine dq_eq 11 q128 ?_
    refine dq_S (.tableswitch 299 0 19 #[95, 103, 114, 299, 251, 234, 267, 283, 126, 157, 299, 145, 299, 166, 175, 203, 183, 186, 194, 214]) 95 [] 162 _ [] (by decide +kernel) rfl ?_
    refine dq_aln 1 163 (by decide +kernel) rfl g8 ?_
    refine dq_iln 3 164 (by decide +kernel) rfl g10 ?_
    refine dq_aln 1 165 (by decide +kernel) rfl g8 ?_
    obtain ⟨x129, q130, hh⟩ := db hh
    obtain ⟨a131, q132, q130⟩ := db q130
    rw [dq_xI q130] at q132
    refine dq_cvi hD 140 234 5 0 [14] o1 [] [.int x3.1, va_rf o1] 168 [.int x129.1, .int x3.1, va_rf o1] (by decide +kernel) ap_234 ⟨⟨Nat.le_of_ble_eq_true rfl, by decide⟩, rfl, rfl⟩ (dq_ok8 [1] [1, 1] (dc_r dc_n) (dc_i (dc_r dc_n)) (by decide +kernel)) (by decide +kernel) rfl q132 rfl ?_
    obtain ⟨h133, q134, hh⟩ := db hh
    obtain ⟨a135, q136, q134⟩ := db q134
    rw [dq_xV q134] at q136
    refine dq_cvi hD 143 254 5 2 [14] o1 [.int x3.1, .int x129.1] [] 171 [] (by decide +kernel) ap_254 ⟨⟨Nat.le_of_ble_eq_true rfl, by decide⟩, rfl, rfl⟩ (dq_ok8 [1, 1, 1] [] (dc_r (dc_i (dc_i dc_n))) dc_n (by decide +kernel)) (by decide +kernel) rfl q136 rfl ?_
    refine dq_S (.goto 159) 3 [] 330 _ [] (by decide +kernel) rfl ?_
    exact c251_330 hD hz  _ _ _  hh
  rcases dp hh with ⟨q137, hh⟩ | ⟨_, hh⟩
  · refine dq_eq 12 q137 ?_
    refine dq_S (.tableswitch 299 0 19 #[95, 103, 114, 299, 251, 234, 267, 283, 126, 157, 299, 145, 299, 166, 175, 203, 183, 186, 194, 214]) 95 [] 316 _ [] (by decide +kernel) rfl ?_
    refine dq_aln 0 317 (by decide +kernel) rfl g7 ?_
    refine dq_aln 1 318 (by decide +kernel) rfl g8 ?_
    refine dq_aln 0 319 (by decide +kernel) rfl g7 ?_
    obtain ⟨p138, q139, hh⟩ := db hh
    refine dq_gR 30 7 [2] 322 (by decide +kernel) rfl q139 ?_
    refine dq_iln 2 323 (by decide +kernel) rfl g9 ?_
    obtain ⟨x140, q141, hh⟩ := db hh
    obtain ⟨a142, q143, q141⟩ := db q141
    rw [dq_xI q141] at q143
    refine dq_cvi hD 129 248 5 1 [4] p138 [.int i2] [va_rf o1, va_rf o0] 326 [.int x140.1, va_rf o1, va_rf o0] (by decide +kernel) ap_248 ⟨⟨Nat.le_of_ble_eq_true rfl, by decide⟩, rfl, rfl⟩ (dq_ok8 [1, 1] [1, 1] (dc_r (dc_i dc_n)) (dc_r (dc_r dc_n)) (by decide +kernel)) (by decide +kernel) rfl q143 rfl ?_
    refine dq_iln 3 327 (by decide +kernel) rfl g10 ?_
    obtain ⟨h144, q145, hh⟩ := db hh
    obtain ⟨a146, q147, q145⟩ := db q145
    rw [dq_xV q145] at q147
    refine dq_cvi hD 177 265 5 3 [2] o0 [va_rf o1, .int x140.1, .int x3.1] [] 330 [] (by decide +kernel) ap_265 ⟨⟨Nat.le_of_ble_eq_true rfl, by decide⟩, rfl, rfl⟩ (dq_ok8 [1, 1, 1, 1] [] (dc_r (dc_r (dc_i (dc_i dc_n)))) dc_n (by decide +kernel)) (by decide +kernel) rfl q147 rfl ?_
    exact c251_330 hD hz  _ _ _  hh
  rcases dp hh with ⟨q148, hh⟩ | ⟨_, hh⟩
  · refine dq_eq 13 q148 ?_
    refine dq_S (.tableswitch 299 0 19 #[95, 103, 114, 299, 251, 234, 267, 283, 126, 157, 299, 145, 299, 166, 175, 203, 183, 186, 194, 214]) 95 [] 183 _ [] (by decide +kernel) rfl ?_
    refine dq_aln 0 184 (by decide +kernel) rfl g7 ?_
    refine dq_aln 1 185 (by decide +kernel) rfl g8 ?_
    refine dq_iln 3 186 (by decide +kernel) rfl g10 ?_
    obtain ⟨h149, q150, hh⟩ := db hh
    obtain ⟨a151, q152, q150⟩ := db q150
    rw [dq_xV q150] at q152
    refine dq_cvi hD 150 256 5 2 [2] o0 [va_rf o1, .int x3.1] [] 189 [] (by decide +kernel) ap_256 ⟨⟨Nat.le_of_ble_eq_true rfl, by decide⟩, rfl, rfl⟩ (dq_ok8 [1, 1, 1] [] (dc_r (dc_r (dc_i dc_n))) dc_n (by decide +kernel)) (by decide +kernel) rfl q152 rfl ?_
    refine dq_S (.goto 141) 3 [] 330 _ [] (by decide +kernel) rfl ?_
    exact c251_330 hD hz  _ _ _  hh
  rcases dp hh with ⟨q153, hh⟩ | ⟨_, hh⟩
  · refine dq_eq 14 q153 ?_
    refine dq_S (.tableswitch 299 0 19 #[95, 103, 114, 299, 251, 234, 267, 283, 126, 157, 299, 145, 299, 166, 175, 203, 183, 186, 194, 214]) 95 [] 192 _ [] (by decide +kernel) rfl ?_
    refine dq_aln 0 193 (by decide +kernel) rfl g7 ?_
    refine dq_aln 1 194 (by decide +kernel) rfl g8 ?_
    obtain ⟨h154, q155, hh⟩ := db hh
    obtain ⟨a156, q157, q155⟩ := db q155
    rw [dq_xV q155] at q157
    refine dq_cvi hD 153 257 5 1 [2] o0 [va_rf o1] [] 197 [] (by decide +kernel) ap_257 ⟨⟨Nat.le_of_ble_eq_true rfl, by decide⟩, rfl, rfl⟩ (dq_ok8 [1, 1] [] (dc_r (dc_r dc_n)) dc_n (by decide +kernel)) (by decide +kernel) rfl q157 rfl ?_
    refine dq_S (.goto 133) 3 [] 330 _ [] (by decide +kernel) rfl ?_
    exact c251_330 hD hz  _ _ _  hh
  rcases dp hh with ⟨q158, hh⟩ | ⟨_, hh⟩
  · refine dq_eq 15 q158 ?_
    refine dq_S (.tableswitch 299 0 19 #[95, 103, 114, 299, 251, 234, 267, 283, 126, 157, 299, 145, 299, 166, 175, 203, 183, 186, 194, 214]) 95 [] 220 _ [] (by decide +kernel) rfl ?_
    refine dq_aln 1 221 (by decide +kernel) rfl g8 ?_
    refine dq_aln 1 222 (by decide +kernel) rfl g8 ?_
    obtain ⟨x159, q160, hh⟩ := db hh
    obtain ⟨a161, q162, q160⟩ := db q160
    rw [dq_xI q160] at q162
    refine dq_cvi hD 140 234 5 0 [14] o1 [] [va_rf o1] 225 [.int x159.1, va_rf o1] (by decide +kernel) ap_234 ⟨⟨Nat.le_of_ble_eq_true rfl, by decide⟩, rfl, rfl⟩ (dq_ok8 [1] [1] (dc_r dc_n) (dc_r dc_n) (by decide +kernel)) (by decide +kernel) rfl q162 rfl ?_
    obtain ⟨h163, q164, hh⟩ := db hh
    obtain ⟨a165, q166, q164⟩ := db q164
    rw [dq_xV q164] at q166
    refine dq_cvi hD 160 259 5 1 [14] o1 [.int x159.1] [] 228 [] (by decide +kernel) ap_259 ⟨⟨Nat.le_of_ble_eq_true rfl, by decide⟩, rfl, rfl⟩ (dq_ok8 [1, 1] [] (dc_r (dc_i dc_n)) dc_n (by decide +kernel)) (by decide +kernel) rfl q166 rfl ?_
    refine dq_S (.goto 102) 3 [] 330 _ [] (by decide +kernel) rfl ?_
    exact c251_330 hD hz  _ _ _  hh
  rcases dp hh with ⟨q167, hh⟩ | ⟨_, hh⟩
  · refine dq_eq 16 q167 ?_
    refine dq_S (.tableswitch 299 0 19 #[95, 103, 114, 299, 251, 234, 267, 283, 126, 157, 299, 145, 299, 166, 175, 203, 183, 186, 194, 214]) 95 [] 200 _ [] (by decide +kernel) rfl ?_
    refine dq_S (.goto 130) 3 [] 330 _ [] (by decide +kernel) rfl ?_
    exact c251_330 hD hz  _ _ _  hh
  rcases dp hh with ⟨q168, hh⟩ | ⟨_, hh⟩
  · refine dq_eq 17 q168 ?_
    refine dq_S (.tableswitch 299 0 19 #[95, 103, 114, 299, 251, 234, 267, 283, 126, 157, 299, 145, 299, 166, 175, 203, 183, 186, 194, 214]) 95 [] 203 _ [] (by decide +kernel) rfl ?_
    refine dq_aln 1 204 (by decide +kernel) rfl g8 ?_
    obtain ⟨x169, q170, hh⟩ := db hh
    obtain ⟨a171, q172, q170⟩ := db q170
    rw [dq_xI q170] at q172
    refine dq_cvi hD 140 234 5 0 [14] o1 [] [] 207 [.int x169.1] (by decide +kernel) ap_234 ⟨⟨Nat.le_of_ble_eq_true rfl, by decide⟩, rfl, rfl⟩ (dq_ok8 [1] [] (dc_r dc_n) dc_n (by decide +kernel)) (by decide +kernel) rfl q172 rfl ?_
    refine dq_S (.pop) 1 [] 208 _ [] (by decide +kernel) rfl ?_
    refine dq_S (.goto 122) 3 [] 330 _ [] (by decide +kernel) rfl ?_
    exact c251_330 hD hz  _ _ _  hh
  rcases dp hh with ⟨q173, hh⟩ | ⟨_, hh⟩
  · refine dq_eq 18 q173 ?_
    refine dq_S (.tableswitch 299 0 19 #[95, 103, 114, 299, 251, 234, 267, 283, 126, 157, 299, 145, 299, 166, 175, 203, 183, 186, 194, 214]) 95 [] 211 _ [] (by decide +kernel) rfl ?_
    refine dq_aln 0 212 (by decide +kernel) rfl g7 ?_
    refine dq_aln 1 213 (by decide +kernel) rfl g8 ?_
    refine dq_iln 3 214 (by decide +kernel) rfl g10 ?_
    obtain ⟨h174, q175, hh⟩ := db hh
    obtain ⟨a176, q177, q175⟩ := db q175
    rw [dq_xV q175] at q177
    refine dq_cvi hD 157 258 5 2 [2] o0 [va_rf o1, .int x3.1] [] 217 [] (by decide +kernel) ap_258 ⟨⟨Nat.le_of_ble_eq_true rfl, by decide⟩, rfl, rfl⟩ (dq_ok8 [1, 1, 1] [] (dc_r (dc_r (dc_i dc_n))) dc_n (by decide +kernel)) (by decide +kernel) rfl q177 rfl ?_
    refine dq_S (.goto 113) 3 [] 330 _ [] (by decide +kernel) rfl ?_
    exact c251_330 hD hz  _ _ _  hh
  rcases dp hh with ⟨q178, hh⟩ | ⟨_, hh⟩
  · refine dq_eq 19 q178 ?_
    refine dq_S (.tableswitch 299 0 19 #[95, 103, 114, 299, 251, 234, 267, 283, 126, 157, 299, 145, 299, 166, 175, 203, 183, 186, 194, 214]) 95 [] 231 _ [] (by decide +kernel) rfl ?_
    refine dq_aln 1 232 (by decide +kernel) rfl g8 ?_
    refine dq_iln 3 233 (by decide +kernel) rfl g10 ?_
    refine dq_S (.iconst 1) 1 [] 234 _ [.int 1, .int x3.1, va_rf o1] (by decide +kernel) rfl ?_
    rcases di hh with ⟨q179, hh⟩ | ⟨q179, hh⟩
    · refine dq_2 .ne 10 true 244 q179 (by decide +kernel) ?_
      refine dq_S (.iconst 0) 1 [] 245 _ [.int 0, va_rf o1] (by decide +kernel) rfl ?_
      exact c251_245 hD hz _ _ _ _ _  hh
    · refine dq_2 .ne 10 false 237 q179 (by decide +kernel) ?_
      refine dq_aln 1 238 (by decide +kernel) rfl g8 ?_
      obtain ⟨x180, q181, hh⟩ := db hh
      obtain ⟨a182, q183, q181⟩ := db q181
      rw [dq_xI q181] at q183
      refine dq_cvi hD 134 252 5 0 [14] o1 [] [va_rf o1] 241 [.int x180.1, va_rf o1] (by decide +kernel) ap_252 ⟨⟨Nat.le_of_ble_eq_true rfl, by decide⟩, rfl, rfl⟩ (dq_ok8 [1] [1] (dc_r dc_n) (dc_r dc_n) (by decide +kernel)) (by decide +kernel) rfl q183 rfl ?_
      refine dq_S (.goto 4) 3 [] 245 _ [.int x180.1, va_rf o1] (by decide +kernel) rfl ?_
      exact c251_245 hD hz _ _ _ _ _  hh
  cases hh
def f251 (L : Nat) (xs : Nat → Int32) (zf : Value) (D : dD) (w : Nat) (As : List Value) (h : rm_H) : Option dR := match As with
  | [v0, v1, .int i2] => (rm_rf v0).bind fun o0 => (rm_rf v1).bind fun o1 => b251_0 L xs zf D w o0 o1 i2 h
  | _ => none
theorem d251 {L : Nat} {xs : Nat → Int32} {zf : Value} {D : dD} {w k : Nat} (hD : dO L xs zf D k) (hz : zf.category = 1) (As : List Value) (h : rm_H) (r : dR) (hh : f251 L xs zf D w As h = some r) : dq L xs zf ah_M251 0 (lv_args 0 As) [] h (k + 1) r := by
  unfold f251 at hh
  split at hh
  · obtain ⟨o0, e0, hb0⟩ := db hh
    have e0 := rm_rf_v _ _ e0
    obtain ⟨o1, e1, hb1⟩ := db hb0
    have e1 := rm_rf_v _ _ e1
    subst e0 e1
    refine c251_0 hD hz _ _ _ _ _ _ ?_ ?_ ?_ hb1
    all_goals (simp only [la_r, la_i, la_j]; rfl)
  · cases hh
def b252_0 (L : Nat) (xs : Nat → Int32) (zf : Value) (D : dD) (w : Nat) (o0 : Option Nat) (h : rm_H) : Option dR :=
  (dgR L xs h 9 [14] o0).bind fun p1 =>
  ((dcV L xs D 245 [14] o0 [] h).bind dxI).bind fun x3 =>
  (daI L xs x3.2 p1 x3.1).bind fun x7 =>
  drI (some .int) x7 x3.2
theorem c252_0 {L : Nat} {xs : Nat → Int32} {zf : Value} {D : dD} {w k : Nat} (hD : dO L xs zf D k) (hz : zf.category = 1) : ∀ (o0 : Option Nat) (lv : rm_L) (h : rm_H) (r : dR), rm_get lv 0 = some (va_rf o0) → b252_0 L xs zf D w  o0 h = some r → dq L xs zf ah_M252 0 lv [] h (k + 1) r := by
  intro o0 lv h r G0 hh
  unfold b252_0 at hh
  refine dq_aln 0 1 (by decide +kernel) rfl G0 ?_
  obtain ⟨p1, q2, hh⟩ := db hh
  refine dq_gR 22 9 [14] 4 (by decide +kernel) rfl q2 ?_
  refine dq_aln 0 5 (by decide +kernel) rfl G0 ?_
  obtain ⟨x3, q4, hh⟩ := db hh
  obtain ⟨a5, q6, q4⟩ := db q4
  rw [dq_xI q4] at q6
  refine dq_cvi hD 74 245 5 0 [14] o0 [] [va_rf p1] 8 [.int x3.1, va_rf p1] (by decide +kernel) ap_245 ⟨⟨Nat.le_of_ble_eq_true rfl, by decide⟩, rfl, rfl⟩ (dq_ok8 [1] [1] (dc_r dc_n) (dc_r dc_n) (by decide +kernel)) (by decide +kernel) rfl q6 rfl ?_
  obtain ⟨x7, q8, hh⟩ := db hh
  refine dq_aI 9 (by decide +kernel) rfl q8 ?_
  exact dq_retI (some .int) (by decide +kernel) rfl hh
def f252 (L : Nat) (xs : Nat → Int32) (zf : Value) (D : dD) (w : Nat) (As : List Value) (h : rm_H) : Option dR := match As with
  | [v0] => (rm_rf v0).bind fun o0 => b252_0 L xs zf D w o0 h
  | _ => none
theorem d252 {L : Nat} {xs : Nat → Int32} {zf : Value} {D : dD} {w k : Nat} (hD : dO L xs zf D k) (hz : zf.category = 1) (As : List Value) (h : rm_H) (r : dR) (hh : f252 L xs zf D w As h = some r) : dq L xs zf ah_M252 0 (lv_args 0 As) [] h (k + 1) r := by
  unfold f252 at hh
  split at hh
  · obtain ⟨o0, e0, hb0⟩ := db hh
    have e0 := rm_rf_v _ _ e0
    subst e0
    refine c252_0 hD hz _ _ _ _ ?_ hb0
    all_goals (simp only [la_r, la_i, la_j]; rfl)
  · cases hh
def b253_35 (L : Nat) (xs : Nat → Int32) (zf : Value) (D : dD) (w : Nat) (s0 : Int32) (h : rm_H) : Option dR :=
  drI (some .int) s0 h
theorem c253_35 {L : Nat} {xs : Nat → Int32} {zf : Value} {D : dD} {w k : Nat} (hD : dO L xs zf D k) (hz : zf.category = 1) : ∀ (s0 : Int32) (lv : rm_L) (h : rm_H) (r : dR), b253_35 L xs zf D w  s0 h = some r → dq L xs zf ah_M253 35 lv [.int s0] h (k + 1) r := by
  intro s0 lv h r hh
  unfold b253_35 at hh
  exact dq_retI (some .int) (by decide +kernel) rfl hh
def b253_25 (L : Nat) (xs : Nat → Int32) (zf : Value) (D : dD) (w : Nat) (h : rm_H) : Option dR :=
  b253_35 L xs zf D w 0 h
theorem c253_25 {L : Nat} {xs : Nat → Int32} {zf : Value} {D : dD} {w k : Nat} (hD : dO L xs zf D k) (hz : zf.category = 1) : ∀ (lv : rm_L) (h : rm_H) (r : dR), b253_25 L xs zf D w  h = some r → dq L xs zf ah_M253 25 lv [] h (k + 1) r := by
  intro lv h r hh
  unfold b253_25 at hh
  refine dq_S (.iconst 0) 1 [] 26 _ [.int 0] (by decide +kernel) rfl ?_
  refine dq_S (.goto 9) 3 [] 35 _ [.int 0] (by decide +kernel) rfl ?_
  exact c253_35 hD hz _ _ _ _  hh
def b253_0 (L : Nat) (xs : Nat → Int32) (zf : Value) (D : dD) (w : Nat) (o0 : Option Nat) (i1 : Int32) (h : rm_H) : Option dR :=
  (dgR L xs h 8 [14] o0).bind fun p1 =>
  ((dcV L xs D 245 [14] o0 [] h).bind dxI).bind fun x3 =>
  (daI L xs x3.2 p1 x3.1).bind fun x7 =>
  if mx_f1 .lt (x7 + i1) = true then
    b253_25 L xs zf D w x3.2
  else
    (dgR L xs x3.2 12 [14] o0).bind fun p13 =>
    (daN L xs x3.2 p13).bind fun x15 =>
    if mx_f2 .lt (x7 + i1) x15 = true then
      (dgR L xs x3.2 12 [14] o0).bind fun p18 =>
      (daI L xs x3.2 p18 (x7 + i1)).bind fun x20 =>
      b253_35 L xs zf D w x20 x3.2
    else
      b253_25 L xs zf D w x3.2
theorem c253_0 {L : Nat} {xs : Nat → Int32} {zf : Value} {D : dD} {w k : Nat} (hD : dO L xs zf D k) (hz : zf.category = 1) : ∀ (o0 : Option Nat) (i1 : Int32) (lv : rm_L) (h : rm_H) (r : dR), rm_get lv 0 = some (va_rf o0) → rm_get lv 1 = some (.int i1) → b253_0 L xs zf D w  o0 i1 h = some r → dq L xs zf ah_M253 0 lv [] h (k + 1) r := by
  intro o0 i1 lv h r G0 G1 hh
  unfold b253_0 at hh
  refine dq_aln 0 1 (by decide +kernel) rfl G0 ?_
  obtain ⟨p1, q2, hh⟩ := db hh
  refine dq_gR 19 8 [14] 4 (by decide +kernel) rfl q2 ?_
  refine dq_aln 0 5 (by decide +kernel) rfl G0 ?_
  obtain ⟨x3, q4, hh⟩ := db hh
  obtain ⟨a5, q6, q4⟩ := db q4
  rw [dq_xI q4] at q6
  refine dq_cvi hD 74 245 5 0 [14] o0 [] [va_rf p1] 8 [.int x3.1, va_rf p1] (by decide +kernel) ap_245 ⟨⟨Nat.le_of_ble_eq_true rfl, by decide⟩, rfl, rfl⟩ (dq_ok8 [1] [1] (dc_r dc_n) (dc_r dc_n) (by decide +kernel)) (by decide +kernel) rfl q6 rfl ?_
  obtain ⟨x7, q8, hh⟩ := db hh
  refine dq_aI 9 (by decide +kernel) rfl q8 ?_
  refine dq_iln 1 10 (by decide +kernel) rfl G1 ?_
  refine dq_S (.iadd) 1 [] 11 _ [.int (x7 + i1)] (by decide +kernel) rfl ?_
  refine dq_isn 2 12 (by decide +kernel) (by decide +kernel) ?_
  have g9 := dg_ne (i := 2) (u := .int (x7 + i1)) (by decide) (Or.inl (by decide)) G0
  have g10 := dg_ne (i := 2) (u := .int (x7 + i1)) (by decide) (Or.inr rfl) G1
  have g11 := dg_eq (lv) 2 (.int (x7 + i1))
  refine dq_iln 2 13 (by decide +kernel) rfl g11 ?_
  rcases di hh with ⟨q12, hh⟩ | ⟨q12, hh⟩
  · refine dq_1 .lt 12 true 25 q12 (by decide +kernel) ?_
    exact c253_25 hD hz  _ _ _  hh
  · refine dq_1 .lt 12 false 16 q12 (by decide +kernel) ?_
    refine dq_iln 2 17 (by decide +kernel) rfl g11 ?_
    refine dq_aln 0 18 (by decide +kernel) rfl g9 ?_
    obtain ⟨p13, q14, hh⟩ := db hh
    refine dq_gR 28 12 [14] 21 (by decide +kernel) rfl q14 ?_
    obtain ⟨x15, q16, hh⟩ := db hh
    refine dq_aN 22 (by decide +kernel) rfl q16 ?_
    rcases di hh with ⟨q17, hh⟩ | ⟨q17, hh⟩
    · refine dq_2 .lt 7 true 29 q17 (by decide +kernel) ?_
      refine dq_aln 0 30 (by decide +kernel) rfl g9 ?_
      obtain ⟨p18, q19, hh⟩ := db hh
      refine dq_gR 28 12 [14] 33 (by decide +kernel) rfl q19 ?_
      refine dq_iln 2 34 (by decide +kernel) rfl g11 ?_
      obtain ⟨x20, q21, hh⟩ := db hh
      refine dq_aI 35 (by decide +kernel) rfl q21 ?_
      exact c253_35 hD hz _ _ _ _  hh
    · refine dq_2 .lt 7 false 25 q17 (by decide +kernel) ?_
      exact c253_25 hD hz  _ _ _  hh
def f253 (L : Nat) (xs : Nat → Int32) (zf : Value) (D : dD) (w : Nat) (As : List Value) (h : rm_H) : Option dR := match As with
  | [v0, .int i1] => (rm_rf v0).bind fun o0 => b253_0 L xs zf D w o0 i1 h
  | _ => none
theorem d253 {L : Nat} {xs : Nat → Int32} {zf : Value} {D : dD} {w k : Nat} (hD : dO L xs zf D k) (hz : zf.category = 1) (As : List Value) (h : rm_H) (r : dR) (hh : f253 L xs zf D w As h = some r) : dq L xs zf ah_M253 0 (lv_args 0 As) [] h (k + 1) r := by
  unfold f253 at hh
  split at hh
  · obtain ⟨o0, e0, hb0⟩ := db hh
    have e0 := rm_rf_v _ _ e0
    subst e0
    refine c253_0 hD hz _ _ _ _ _ ?_ ?_ hb0
    all_goals (simp only [la_r, la_i, la_j]; rfl)
  · cases hh
def b254_32 (L : Nat) (xs : Nat → Int32) (zf : Value) (D : dD) (w : Nat) (h : rm_H) : Option dR :=
  some (none, h)
theorem c254_32 {L : Nat} {xs : Nat → Int32} {zf : Value} {D : dD} {w k : Nat} (hD : dO L xs zf D k) (hz : zf.category = 1) : ∀ (lv : rm_L) (h : rm_H) (r : dR), b254_32 L xs zf D w  h = some r → dq L xs zf ah_M254 32 lv [] h (k + 1) r := by
  intro lv h r hh
  unfold b254_32 at hh
  cases hh
  exact dq_ret0 (by decide +kernel) rfl
def b254_0 (L : Nat) (xs : Nat → Int32) (zf : Value) (D : dD) (w : Nat) (o0 : Option Nat) (i1 : Int32) (i2 : Int32) (h : rm_H) : Option dR :=
  (dgR L xs h 8 [14] o0).bind fun p1 =>
  ((dcV L xs D 245 [14] o0 [] h).bind dxI).bind fun x3 =>
  (daI L xs x3.2 p1 x3.1).bind fun x7 =>
  if mx_f1 .lt (x7 + i1) = true then
    b254_32 L xs zf D w x3.2
  else
    (dgR L xs x3.2 12 [14] o0).bind fun p14 =>
    (daN L xs x3.2 p14).bind fun x16 =>
    if mx_f2 .ge (x7 + i1) x16 = true then
      b254_32 L xs zf D w x3.2
    else
      (dgR L xs x3.2 12 [14] o0).bind fun p19 =>
      (dsI x3.2 p19 (x7 + i1) i2).bind fun h21 =>
      b254_32 L xs zf D w h21
theorem c254_0 {L : Nat} {xs : Nat → Int32} {zf : Value} {D : dD} {w k : Nat} (hD : dO L xs zf D k) (hz : zf.category = 1) : ∀ (o0 : Option Nat) (i1 : Int32) (i2 : Int32) (lv : rm_L) (h : rm_H) (r : dR), rm_get lv 0 = some (va_rf o0) → rm_get lv 1 = some (.int i1) → rm_get lv 2 = some (.int i2) → b254_0 L xs zf D w  o0 i1 i2 h = some r → dq L xs zf ah_M254 0 lv [] h (k + 1) r := by
  intro o0 i1 i2 lv h r G0 G1 G2 hh
  unfold b254_0 at hh
  refine dq_aln 0 1 (by decide +kernel) rfl G0 ?_
  obtain ⟨p1, q2, hh⟩ := db hh
  refine dq_gR 19 8 [14] 4 (by decide +kernel) rfl q2 ?_
  refine dq_aln 0 5 (by decide +kernel) rfl G0 ?_
  obtain ⟨x3, q4, hh⟩ := db hh
  obtain ⟨a5, q6, q4⟩ := db q4
  rw [dq_xI q4] at q6
  refine dq_cvi hD 74 245 5 0 [14] o0 [] [va_rf p1] 8 [.int x3.1, va_rf p1] (by decide +kernel) ap_245 ⟨⟨Nat.le_of_ble_eq_true rfl, by decide⟩, rfl, rfl⟩ (dq_ok8 [1] [1] (dc_r dc_n) (dc_r dc_n) (by decide +kernel)) (by decide +kernel) rfl q6 rfl ?_
  obtain ⟨x7, q8, hh⟩ := db hh
  refine dq_aI 9 (by decide +kernel) rfl q8 ?_
  refine dq_iln 1 10 (by decide +kernel) rfl G1 ?_
  refine dq_S (.iadd) 1 [] 11 _ [.int (x7 + i1)] (by decide +kernel) rfl ?_
  refine dq_isn 3 12 (by decide +kernel) (by decide +kernel) ?_
  have g9 := dg_ne (i := 3) (u := .int (x7 + i1)) (by decide) (Or.inl (by decide)) G0
  have g10 := dg_ne (i := 3) (u := .int (x7 + i1)) (by decide) (Or.inl (by decide)) G1
  have g11 := dg_ne (i := 3) (u := .int (x7 + i1)) (by decide) (Or.inr rfl) G2
  have g12 := dg_eq (lv) 3 (.int (x7 + i1))
  refine dq_iln 3 13 (by decide +kernel) rfl g12 ?_
  rcases di hh with ⟨q13, hh⟩ | ⟨q13, hh⟩
  · refine dq_1 .lt 19 true 32 q13 (by decide +kernel) ?_
    exact c254_32 hD hz  _ _ _  hh
  · refine dq_1 .lt 19 false 16 q13 (by decide +kernel) ?_
    refine dq_iln 3 17 (by decide +kernel) rfl g12 ?_
    refine dq_aln 0 18 (by decide +kernel) rfl g9 ?_
    obtain ⟨p14, q15, hh⟩ := db hh
    refine dq_gR 28 12 [14] 21 (by decide +kernel) rfl q15 ?_
    obtain ⟨x16, q17, hh⟩ := db hh
    refine dq_aN 22 (by decide +kernel) rfl q17 ?_
    rcases di hh with ⟨q18, hh⟩ | ⟨q18, hh⟩
    · refine dq_2 .ge 10 true 32 q18 (by decide +kernel) ?_
      exact c254_32 hD hz  _ _ _  hh
    · refine dq_2 .ge 10 false 25 q18 (by decide +kernel) ?_
      refine dq_aln 0 26 (by decide +kernel) rfl g9 ?_
      obtain ⟨p19, q20, hh⟩ := db hh
      refine dq_gR 28 12 [14] 29 (by decide +kernel) rfl q20 ?_
      refine dq_iln 3 30 (by decide +kernel) rfl g12 ?_
      refine dq_iln 2 31 (by decide +kernel) rfl g11 ?_
      obtain ⟨h21, q22, hh⟩ := db hh
      refine dq_sI 32 (by decide +kernel) rfl q22 ?_
      exact c254_32 hD hz  _ _ _  hh
def f254 (L : Nat) (xs : Nat → Int32) (zf : Value) (D : dD) (w : Nat) (As : List Value) (h : rm_H) : Option dR := match As with
  | [v0, .int i1, .int i2] => (rm_rf v0).bind fun o0 => b254_0 L xs zf D w o0 i1 i2 h
  | _ => none
theorem d254 {L : Nat} {xs : Nat → Int32} {zf : Value} {D : dD} {w k : Nat} (hD : dO L xs zf D k) (hz : zf.category = 1) (As : List Value) (h : rm_H) (r : dR) (hh : f254 L xs zf D w As h = some r) : dq L xs zf ah_M254 0 (lv_args 0 As) [] h (k + 1) r := by
  unfold f254 at hh
  split at hh
  · obtain ⟨o0, e0, hb0⟩ := db hh
    have e0 := rm_rf_v _ _ e0
    subst e0
    refine c254_0 hD hz _ _ _ _ _ _ ?_ ?_ ?_ hb0
    all_goals (simp only [la_r, la_i, la_j]; rfl)
  · cases hh
def b255_0 (L : Nat) (xs : Nat → Int32) (zf : Value) (D : dD) (w : Nat) (o1 : Option Nat) (i2 : Int32) (h : rm_H) : Option dR :=
  ((dcV L xs D 253 [14] o1 [.int i2] h).bind dxI).bind fun x1 =>
  ((dcV L xs D 234 [14] o1 [] x1.2).bind dxI).bind fun x8 =>
  ((dcV L xs D 254 [14] o1 [.int i2, .int x8.1] x8.2).bind dxV).bind fun h12 =>
  ((dcV L xs D 243 [14] o1 [.int x1.1] h12).bind dxV).bind fun h16 =>
  some (none, h16)
theorem c255_0 {L : Nat} {xs : Nat → Int32} {zf : Value} {D : dD} {w k : Nat} (hD : dO L xs zf D k) (hz : zf.category = 1) : ∀ (o1 : Option Nat) (i2 : Int32) (lv : rm_L) (h : rm_H) (r : dR), rm_get lv 1 = some (va_rf o1) → rm_get lv 2 = some (.int i2) → b255_0 L xs zf D w  o1 i2 h = some r → dq L xs zf ah_M255 0 lv [] h (k + 1) r := by
  intro o1 i2 lv h r G1 G2 hh
  unfold b255_0 at hh
  refine dq_aln 1 1 (by decide +kernel) rfl G1 ?_
  refine dq_iln 2 2 (by decide +kernel) rfl G2 ?_
  obtain ⟨x1, q2, hh⟩ := db hh
  obtain ⟨a3, q4, q2⟩ := db q2
  rw [dq_xI q2] at q4
  refine dq_cvi hD 137 253 5 1 [14] o1 [.int i2] [] 5 [.int x1.1] (by decide +kernel) ap_253 ⟨⟨Nat.le_of_ble_eq_true rfl, by decide⟩, rfl, rfl⟩ (dq_ok8 [1, 1] [] (dc_r (dc_i dc_n)) dc_n (by decide +kernel)) (by decide +kernel) rfl q4 rfl ?_
  refine dq_isn 3 6 (by decide +kernel) (by decide +kernel) ?_
  have g5 := dg_ne (i := 3) (u := .int x1.1) (by decide) (Or.inl (by decide)) G1
  have g6 := dg_ne (i := 3) (u := .int x1.1) (by decide) (Or.inr rfl) G2
  have g7 := dg_eq (lv) 3 (.int x1.1)
  refine dq_aln 1 7 (by decide +kernel) rfl g5 ?_
  refine dq_iln 2 8 (by decide +kernel) rfl g6 ?_
  refine dq_aln 1 9 (by decide +kernel) rfl g5 ?_
  obtain ⟨x8, q9, hh⟩ := db hh
  obtain ⟨a10, q11, q9⟩ := db q9
  rw [dq_xI q9] at q11
  refine dq_cvi hD 140 234 5 0 [14] o1 [] [.int i2, va_rf o1] 12 [.int x8.1, .int i2, va_rf o1] (by decide +kernel) ap_234 ⟨⟨Nat.le_of_ble_eq_true rfl, by decide⟩, rfl, rfl⟩ (dq_ok8 [1] [1, 1] (dc_r dc_n) (dc_i (dc_r dc_n)) (by decide +kernel)) (by decide +kernel) rfl q11 rfl ?_
  obtain ⟨h12, q13, hh⟩ := db hh
  obtain ⟨a14, q15, q13⟩ := db q13
  rw [dq_xV q13] at q15
  refine dq_cvi hD 143 254 5 2 [14] o1 [.int i2, .int x8.1] [] 15 [] (by decide +kernel) ap_254 ⟨⟨Nat.le_of_ble_eq_true rfl, by decide⟩, rfl, rfl⟩ (dq_ok8 [1, 1, 1] [] (dc_r (dc_i (dc_i dc_n))) dc_n (by decide +kernel)) (by decide +kernel) rfl q15 rfl ?_
  refine dq_aln 1 16 (by decide +kernel) rfl g5 ?_
  refine dq_iln 3 17 (by decide +kernel) rfl g7 ?_
  obtain ⟨h16, q17, hh⟩ := db hh
  obtain ⟨a18, q19, q17⟩ := db q17
  rw [dq_xV q17] at q19
  refine dq_cvi hD 131 243 5 1 [14] o1 [.int x1.1] [] 20 [] (by decide +kernel) ap_243 ⟨⟨Nat.le_of_ble_eq_true rfl, by decide⟩, rfl, rfl⟩ (dq_ok8 [1, 1] [] (dc_r (dc_i dc_n)) dc_n (by decide +kernel)) (by decide +kernel) rfl q19 rfl ?_
  cases hh
  exact dq_ret0 (by decide +kernel) rfl
def f255 (L : Nat) (xs : Nat → Int32) (zf : Value) (D : dD) (w : Nat) (As : List Value) (h : rm_H) : Option dR := match As with
  | [v0, v1, .int i2] => (rm_rf v0).bind fun u0 => (rm_rf v1).bind fun o1 => b255_0 L xs zf D w o1 i2 h
  | _ => none
theorem d255 {L : Nat} {xs : Nat → Int32} {zf : Value} {D : dD} {w k : Nat} (hD : dO L xs zf D k) (hz : zf.category = 1) (As : List Value) (h : rm_H) (r : dR) (hh : f255 L xs zf D w As h = some r) : dq L xs zf ah_M255 0 (lv_args 0 As) [] h (k + 1) r := by
  unfold f255 at hh
  split at hh
  · obtain ⟨u0, e0, hb0⟩ := db hh
    have e0 := rm_rf_v _ _ e0
    obtain ⟨o1, e1, hb1⟩ := db hb0
    have e1 := rm_rf_v _ _ e1
    subst e0 e1
    refine c255_0 hD hz _ _ _ _ _ ?_ ?_ hb1
    all_goals (simp only [la_r, la_i, la_j]; rfl)
  · cases hh
def b256_110 (L : Nat) (xs : Nat → Int32) (zf : Value) (D : dD) (w : Nat) (h : rm_H) : Option dR :=
  some (none, h)
theorem c256_110 {L : Nat} {xs : Nat → Int32} {zf : Value} {D : dD} {w k : Nat} (hD : dO L xs zf D k) (hz : zf.category = 1) : ∀ (lv : rm_L) (h : rm_H) (r : dR), b256_110 L xs zf D w  h = some r → dq L xs zf ah_M256 110 lv [] h (k + 1) r := by
  intro lv h r hh
  unfold b256_110 at hh
  cases hh
  exact dq_ret0 (by decide +kernel) rfl
def b256_89 (L : Nat) (xs : Nat → Int32) (zf : Value) (D : dD) (w : Nat) (s0 : Int32) (s1 : Option Nat) (h : rm_H) : Option dR :=
  ((dcV L xs D 243 [14] s1 [.int s0] h).bind dxV).bind fun h1 =>
  b256_110 L xs zf D w h1
theorem c256_89 {L : Nat} {xs : Nat → Int32} {zf : Value} {D : dD} {w k : Nat} (hD : dO L xs zf D k) (hz : zf.category = 1) : ∀ (s0 : Int32) (s1 : Option Nat) (lv : rm_L) (h : rm_H) (r : dR), b256_89 L xs zf D w  s0 s1 h = some r → dq L xs zf ah_M256 89 lv [.int s0, va_rf s1] h (k + 1) r := by
  intro s0 s1 lv h r hh
  unfold b256_89 at hh
  obtain ⟨h1, q2, hh⟩ := db hh
  obtain ⟨a3, q4, q2⟩ := db q2
  rw [dq_xV q2] at q4
  refine dq_cvi hD 131 243 5 1 [14] s1 [.int s0] [] 92 [] (by decide +kernel) ap_243 ⟨⟨Nat.le_of_ble_eq_true rfl, by decide⟩, rfl, rfl⟩ (dq_ok8 [1, 1] [] (dc_r (dc_i dc_n)) dc_n (by decide +kernel)) (by decide +kernel) rfl q4 rfl ?_
  refine dq_S (.goto 18) 3 [] 110 _ [] (by decide +kernel) rfl ?_
  exact c256_110 hD hz  _ _ _  hh
def b256_107 (L : Nat) (xs : Nat → Int32) (zf : Value) (D : dD) (w : Nat) (s0 : Int32) (s1 : Option Nat) (h : rm_H) : Option dR :=
  ((dcV L xs D 243 [14] s1 [.int s0] h).bind dxV).bind fun h1 =>
  b256_110 L xs zf D w h1
theorem c256_107 {L : Nat} {xs : Nat → Int32} {zf : Value} {D : dD} {w k : Nat} (hD : dO L xs zf D k) (hz : zf.category = 1) : ∀ (s0 : Int32) (s1 : Option Nat) (lv : rm_L) (h : rm_H) (r : dR), b256_107 L xs zf D w  s0 s1 h = some r → dq L xs zf ah_M256 107 lv [.int s0, va_rf s1] h (k + 1) r := by
  intro s0 s1 lv h r hh
  unfold b256_107 at hh
  obtain ⟨h1, q2, hh⟩ := db hh
  obtain ⟨a3, q4, q2⟩ := db q2
  rw [dq_xV q2] at q4
  refine dq_cvi hD 131 243 5 1 [14] s1 [.int s0] [] 110 [] (by decide +kernel) ap_243 ⟨⟨Nat.le_of_ble_eq_true rfl, by decide⟩, rfl, rfl⟩ (dq_ok8 [1, 1] [] (dc_r (dc_i dc_n)) dc_n (by decide +kernel)) (by decide +kernel) rfl q4 rfl ?_
  exact c256_110 hD hz  _ _ _  hh
def b256_0 (L : Nat) (xs : Nat → Int32) (zf : Value) (D : dD) (w : Nat) (o1 : Option Nat) (i2 : Int32) (h : rm_H) : Option dR :=
  ((dcV L xs D 234 [14] o1 [] h).bind dxI).bind fun x1 =>
  ((dcV L xs D 234 [14] o1 [] x1.2).bind dxI).bind fun x8 =>
  if dsw 16 19 i2 = true then
    if mx_f2 .ge x8.1 x1.1 = true then
      b256_107 L xs zf D w 0 o1 x8.2
    else
      b256_107 L xs zf D w 1 o1 x8.2
  else if i2 = 16 then
    ((dcV L xs D 243 [14] o1 [.int (x8.1 + x1.1)] x8.2).bind dxV).bind fun h19 =>
    b256_110 L xs zf D w h19
  else if i2 = 17 then
    ((dcV L xs D 243 [14] o1 [.int (x8.1 - x1.1)] x8.2).bind dxV).bind fun h24 =>
    b256_110 L xs zf D w h24
  else if i2 = 18 then
    ((dcV L xs D 243 [14] o1 [.int (x8.1 * x1.1)] x8.2).bind dxV).bind fun h29 =>
    b256_110 L xs zf D w h29
  else if i2 = 19 then
    if mx_f2 .ne x8.1 x1.1 = true then
      b256_89 L xs zf D w 0 o1 x8.2
    else
      b256_89 L xs zf D w 1 o1 x8.2
  else none
theorem c256_0 {L : Nat} {xs : Nat → Int32} {zf : Value} {D : dD} {w k : Nat} (hD : dO L xs zf D k) (hz : zf.category = 1) : ∀ (o1 : Option Nat) (i2 : Int32) (lv : rm_L) (h : rm_H) (r : dR), rm_get lv 1 = some (va_rf o1) → rm_get lv 2 = some (.int i2) → b256_0 L xs zf D w  o1 i2 h = some r → dq L xs zf ah_M256 0 lv [] h (k + 1) r := by
  intro o1 i2 lv h r G1 G2 hh
  unfold b256_0 at hh
  refine dq_aln 1 1 (by decide +kernel) rfl G1 ?_
  obtain ⟨x1, q2, hh⟩ := db hh
  obtain ⟨a3, q4, q2⟩ := db q2
  rw [dq_xI q2] at q4
  refine dq_cvi hD 140 234 5 0 [14] o1 [] [] 4 [.int x1.1] (by decide +kernel) ap_234 ⟨⟨Nat.le_of_ble_eq_true rfl, by decide⟩, rfl, rfl⟩ (dq_ok8 [1] [] (dc_r dc_n) dc_n (by decide +kernel)) (by decide +kernel) rfl q4 rfl ?_
  refine dq_isn 3 5 (by decide +kernel) (by decide +kernel) ?_
  have g5 := dg_ne (i := 3) (u := .int x1.1) (by decide) (Or.inl (by decide)) G1
  have g6 := dg_ne (i := 3) (u := .int x1.1) (by decide) (Or.inr rfl) G2
  have g7 := dg_eq (lv) 3 (.int x1.1)
  refine dq_aln 1 6 (by decide +kernel) rfl g5 ?_
  obtain ⟨x8, q9, hh⟩ := db hh
  obtain ⟨a10, q11, q9⟩ := db q9
  rw [dq_xI q9] at q11
  refine dq_cvi hD 140 234 5 0 [14] o1 [] [] 9 [.int x8.1] (by decide +kernel) ap_234 ⟨⟨Nat.le_of_ble_eq_true rfl, by decide⟩, rfl, rfl⟩ (dq_ok8 [1] [] (dc_r dc_n) dc_n (by decide +kernel)) (by decide +kernel) rfl q11 rfl ?_
  refine dq_is 4 11 (by decide +kernel) (by decide +kernel) ?_
  have g12 := dg_ne (i := 4) (u := .int x8.1) (by decide) (Or.inl (by decide)) g5
  have g13 := dg_ne (i := 4) (u := .int x8.1) (by decide) (Or.inl (by decide)) g6
  have g14 := dg_ne (i := 4) (u := .int x8.1) (by decide) (Or.inr rfl) g7
  have g15 := dg_eq (rm_set1 (lv) 3 (.int x1.1)) 4 (.int x8.1)
  refine dq_iln 2 12 (by decide +kernel) rfl g13 ?_
  rcases di hh with ⟨q16, hh⟩ | ⟨_, hh⟩
  · refine dq_sd 83 16 19 #[32, 43, 54, 65] 32 95 (by decide +kernel) (by decide +kernel) q16 ?_
    refine dq_aln 1 96 (by decide +kernel) rfl g12 ?_
    refine dq_il 4 98 (by decide +kernel) rfl g15 ?_
    refine dq_iln 3 99 (by decide +kernel) rfl g14 ?_
    rcases di hh with ⟨q17, hh⟩ | ⟨q17, hh⟩
    · refine dq_2 .ge 7 true 106 q17 (by decide +kernel) ?_
      refine dq_S (.iconst 0) 1 [] 107 _ [.int 0, va_rf o1] (by decide +kernel) rfl ?_
      exact c256_107 hD hz _ _ _ _ _  hh
    · refine dq_2 .ge 7 false 102 q17 (by decide +kernel) ?_
      refine dq_S (.iconst 1) 1 [] 103 _ [.int 1, va_rf o1] (by decide +kernel) rfl ?_
      refine dq_S (.goto 4) 3 [] 107 _ [.int 1, va_rf o1] (by decide +kernel) rfl ?_
      exact c256_107 hD hz _ _ _ _ _  hh
  rcases dp hh with ⟨q18, hh⟩ | ⟨_, hh⟩
  · refine dq_eq 16 q18 ?_
    refine dq_S (.tableswitch 83 16 19 #[32, 43, 54, 65]) 32 [] 44 _ [] (by decide +kernel) rfl ?_
    refine dq_aln 1 45 (by decide +kernel) rfl g12 ?_
    refine dq_il 4 47 (by decide +kernel) rfl g15 ?_
    refine dq_iln 3 48 (by decide +kernel) rfl g14 ?_
    refine dq_S (.iadd) 1 [] 49 _ [.int (x8.1 + x1.1), va_rf o1] (by decide +kernel) rfl ?_
    obtain ⟨h19, q20, hh⟩ := db hh
    obtain ⟨a21, q22, q20⟩ := db q20
    rw [dq_xV q20] at q22
    refine dq_cvi hD 131 243 5 1 [14] o1 [.int (x8.1 + x1.1)] [] 52 [] (by decide +kernel) ap_243 ⟨⟨Nat.le_of_ble_eq_true rfl, by decide⟩, rfl, rfl⟩ (dq_ok8 [1, 1] [] (dc_r (dc_i dc_n)) dc_n (by decide +kernel)) (by decide +kernel) rfl q22 rfl ?_
    refine dq_S (.goto 58) 3 [] 110 _ [] (by decide +kernel) rfl ?_
    exact c256_110 hD hz  _ _ _  hh
  rcases dp hh with ⟨q23, hh⟩ | ⟨_, hh⟩
  · refine dq_eq 17 q23 ?_
    refine dq_S (.tableswitch 83 16 19 #[32, 43, 54, 65]) 32 [] 55 _ [] (by decide +kernel) rfl ?_
    refine dq_aln 1 56 (by decide +kernel) rfl g12 ?_
    refine dq_il 4 58 (by decide +kernel) rfl g15 ?_
    refine dq_iln 3 59 (by decide +kernel) rfl g14 ?_
    refine dq_S (.isub) 1 [] 60 _ [.int (x8.1 - x1.1), va_rf o1] (by decide +kernel) rfl ?_
    obtain ⟨h24, q25, hh⟩ := db hh
    obtain ⟨a26, q27, q25⟩ := db q25
    rw [dq_xV q25] at q27
    refine dq_cvi hD 131 243 5 1 [14] o1 [.int (x8.1 - x1.1)] [] 63 [] (by decide +kernel) ap_243 ⟨⟨Nat.le_of_ble_eq_true rfl, by decide⟩, rfl, rfl⟩ (dq_ok8 [1, 1] [] (dc_r (dc_i dc_n)) dc_n (by decide +kernel)) (by decide +kernel) rfl q27 rfl ?_
    refine dq_S (.goto 47) 3 [] 110 _ [] (by decide +kernel) rfl ?_
    exact c256_110 hD hz  _ _ _  hh
  rcases dp hh with ⟨q28, hh⟩ | ⟨_, hh⟩
  · refine dq_eq 18 q28 ?_
    refine dq_S (.tableswitch 83 16 19 #[32, 43, 54, 65]) 32 [] 66 _ [] (by decide +kernel) rfl ?_
    refine dq_aln 1 67 (by decide +kernel) rfl g12 ?_
    refine dq_il 4 69 (by decide +kernel) rfl g15 ?_
    refine dq_iln 3 70 (by decide +kernel) rfl g14 ?_
    refine dq_S (.imul) 1 [] 71 _ [.int (x8.1 * x1.1), va_rf o1] (by decide +kernel) rfl ?_
    obtain ⟨h29, q30, hh⟩ := db hh
    obtain ⟨a31, q32, q30⟩ := db q30
    rw [dq_xV q30] at q32
    refine dq_cvi hD 131 243 5 1 [14] o1 [.int (x8.1 * x1.1)] [] 74 [] (by decide +kernel) ap_243 ⟨⟨Nat.le_of_ble_eq_true rfl, by decide⟩, rfl, rfl⟩ (dq_ok8 [1, 1] [] (dc_r (dc_i dc_n)) dc_n (by decide +kernel)) (by decide +kernel) rfl q32 rfl ?_
    refine dq_S (.goto 36) 3 [] 110 _ [] (by decide +kernel) rfl ?_
    exact c256_110 hD hz  _ _ _  hh
  rcases dp hh with ⟨q33, hh⟩ | ⟨_, hh⟩
  · refine dq_eq 19 q33 ?_
    refine dq_S (.tableswitch 83 16 19 #[32, 43, 54, 65]) 32 [] 77 _ [] (by decide +kernel) rfl ?_
    refine dq_aln 1 78 (by decide +kernel) rfl g12 ?_
    refine dq_il 4 80 (by decide +kernel) rfl g15 ?_
    refine dq_iln 3 81 (by decide +kernel) rfl g14 ?_
    rcases di hh with ⟨q34, hh⟩ | ⟨q34, hh⟩
    · refine dq_2 .ne 7 true 88 q34 (by decide +kernel) ?_
      refine dq_S (.iconst 0) 1 [] 89 _ [.int 0, va_rf o1] (by decide +kernel) rfl ?_
      exact c256_89 hD hz _ _ _ _ _  hh
    · refine dq_2 .ne 7 false 84 q34 (by decide +kernel) ?_
      refine dq_S (.iconst 1) 1 [] 85 _ [.int 1, va_rf o1] (by decide +kernel) rfl ?_
      refine dq_S (.goto 4) 3 [] 89 _ [.int 1, va_rf o1] (by decide +kernel) rfl ?_
      exact c256_89 hD hz _ _ _ _ _  hh
  cases hh
def f256 (L : Nat) (xs : Nat → Int32) (zf : Value) (D : dD) (w : Nat) (As : List Value) (h : rm_H) : Option dR := match As with
  | [v0, v1, .int i2] => (rm_rf v0).bind fun u0 => (rm_rf v1).bind fun o1 => b256_0 L xs zf D w o1 i2 h
  | _ => none
theorem d256 {L : Nat} {xs : Nat → Int32} {zf : Value} {D : dD} {w k : Nat} (hD : dO L xs zf D k) (hz : zf.category = 1) (As : List Value) (h : rm_H) (r : dR) (hh : f256 L xs zf D w As h = some r) : dq L xs zf ah_M256 0 (lv_args 0 As) [] h (k + 1) r := by
  unfold f256 at hh
  split at hh
  · obtain ⟨u0, e0, hb0⟩ := db hh
    have e0 := rm_rf_v _ _ e0
    obtain ⟨o1, e1, hb1⟩ := db hb0
    have e1 := rm_rf_v _ _ e1
    subst e0 e1
    refine c256_0 hD hz _ _ _ _ _ ?_ ?_ hb1
    all_goals (simp only [la_r, la_i, la_j]; rfl)
  · cases hh
def b257_38 (L : Nat) (xs : Nat → Int32) (zf : Value) (D : dD) (w : Nat) (o0 : Option Nat) (h : rm_H) : Option dR :=
  (dgI L xs h 12 [2] o0).bind fun x1 =>
  (dpF h 12 [2] o0 (.int (x1 + 1))).bind fun h3 =>
  some (none, h3)
theorem c257_38 {L : Nat} {xs : Nat → Int32} {zf : Value} {D : dD} {w k : Nat} (hD : dO L xs zf D k) (hz : zf.category = 1) : ∀ (o0 : Option Nat) (lv : rm_L) (h : rm_H) (r : dR), rm_get lv 0 = some (va_rf o0) → b257_38 L xs zf D w  o0 h = some r → dq L xs zf ah_M257 38 lv [] h (k + 1) r := by
  intro o0 lv h r G0 hh
  unfold b257_38 at hh
  refine dq_aln 0 39 (by decide +kernel) rfl G0 ?_
  refine dq_dup 40 (by decide +kernel) rfl ?_
  obtain ⟨x1, q2, hh⟩ := db hh
  refine dq_gI 47 12 [2] 43 (by decide +kernel) rfl q2 ?_
  refine dq_S (.iconst 1) 1 [] 44 _ [.int 1, .int x1, va_rf o0] (by decide +kernel) rfl ?_
  refine dq_S (.iadd) 1 [] 45 _ [.int (x1 + 1), va_rf o0] (by decide +kernel) rfl ?_
  obtain ⟨h3, q4, hh⟩ := db hh
  refine dq_put 47 12 [2] 48 (by decide +kernel) rfl q4 ?_
  cases hh
  exact dq_ret0 (by decide +kernel) rfl
def b257_0 (L : Nat) (xs : Nat → Int32) (zf : Value) (D : dD) (w : Nat) (o0 : Option Nat) (o1 : Option Nat) (h : rm_H) : Option dR :=
  ((dcV L xs D 234 [14] o1 [] h).bind dxI).bind fun x1 =>
  (dgI L xs x1.2 12 [2] o0).bind fun x8 =>
  if mx_f2 .ge x8 200 = true then
    b257_38 L xs zf D w o0 x1.2
  else
    (dgR L xs x1.2 3 [2] o0).bind fun p11 =>
    (dgI L xs x1.2 12 [2] o0).bind fun x13 =>
    (dsI x1.2 p11 x13 x1.1).bind fun h15 =>
    (dgR L xs h15 4 [2] o0).bind fun p17 =>
    (dgI L xs h15 12 [2] o0).bind fun x19 =>
    (dgI L xs h15 0 [14] o1).bind fun x21 =>
    (dsI h15 p17 x19 x21).bind fun h23 =>
    b257_38 L xs zf D w o0 h23
theorem c257_0 {L : Nat} {xs : Nat → Int32} {zf : Value} {D : dD} {w k : Nat} (hD : dO L xs zf D k) (hz : zf.category = 1) : ∀ (o0 : Option Nat) (o1 : Option Nat) (lv : rm_L) (h : rm_H) (r : dR), rm_get lv 0 = some (va_rf o0) → rm_get lv 1 = some (va_rf o1) → b257_0 L xs zf D w  o0 o1 h = some r → dq L xs zf ah_M257 0 lv [] h (k + 1) r := by
  intro o0 o1 lv h r G0 G1 hh
  unfold b257_0 at hh
  refine dq_aln 1 1 (by decide +kernel) rfl G1 ?_
  obtain ⟨x1, q2, hh⟩ := db hh
  obtain ⟨a3, q4, q2⟩ := db q2
  rw [dq_xI q2] at q4
  refine dq_cvi hD 140 234 5 0 [14] o1 [] [] 4 [.int x1.1] (by decide +kernel) ap_234 ⟨⟨Nat.le_of_ble_eq_true rfl, by decide⟩, rfl, rfl⟩ (dq_ok8 [1] [] (dc_r dc_n) dc_n (by decide +kernel)) (by decide +kernel) rfl q4 rfl ?_
  refine dq_isn 2 5 (by decide +kernel) (by decide +kernel) ?_
  have g5 := dg_ne (i := 2) (u := .int x1.1) (by decide) (Or.inl (by decide)) G0
  have g6 := dg_ne (i := 2) (u := .int x1.1) (by decide) (Or.inr (drc _)) G1
  have g7 := dg_eq (lv) 2 (.int x1.1)
  refine dq_aln 0 6 (by decide +kernel) rfl g5 ?_
  obtain ⟨x8, q9, hh⟩ := db hh
  refine dq_gI 47 12 [2] 9 (by decide +kernel) rfl q9 ?_
  refine dq_S (.sipush 200) 3 [] 12 _ [.int 200, .int x8] (by decide +kernel) rfl ?_
  rcases di hh with ⟨q10, hh⟩ | ⟨q10, hh⟩
  · refine dq_2 .ge 26 true 38 q10 (by decide +kernel) ?_
    exact c257_38 hD hz _ _ _ _ g5 hh
  · refine dq_2 .ge 26 false 15 q10 (by decide +kernel) ?_
    refine dq_aln 0 16 (by decide +kernel) rfl g5 ?_
    obtain ⟨p11, q12, hh⟩ := db hh
    refine dq_gR 24 3 [2] 19 (by decide +kernel) rfl q12 ?_
    refine dq_aln 0 20 (by decide +kernel) rfl g5 ?_
    obtain ⟨x13, q14, hh⟩ := db hh
    refine dq_gI 47 12 [2] 23 (by decide +kernel) rfl q14 ?_
    refine dq_iln 2 24 (by decide +kernel) rfl g7 ?_
    obtain ⟨h15, q16, hh⟩ := db hh
    refine dq_sI 25 (by decide +kernel) rfl q16 ?_
    refine dq_aln 0 26 (by decide +kernel) rfl g5 ?_
    obtain ⟨p17, q18, hh⟩ := db hh
    refine dq_gR 27 4 [2] 29 (by decide +kernel) rfl q18 ?_
    refine dq_aln 0 30 (by decide +kernel) rfl g5 ?_
    obtain ⟨x19, q20, hh⟩ := db hh
    refine dq_gI 47 12 [2] 33 (by decide +kernel) rfl q20 ?_
    refine dq_aln 1 34 (by decide +kernel) rfl g6 ?_
    obtain ⟨x21, q22, hh⟩ := db hh
    refine dq_gI 187 0 [14] 37 (by decide +kernel) rfl q22 ?_
    obtain ⟨h23, q24, hh⟩ := db hh
    refine dq_sI 38 (by decide +kernel) rfl q24 ?_
    exact c257_38 hD hz _ _ _ _ g5 hh
def f257 (L : Nat) (xs : Nat → Int32) (zf : Value) (D : dD) (w : Nat) (As : List Value) (h : rm_H) : Option dR := match As with
  | [v0, v1] => (rm_rf v0).bind fun o0 => (rm_rf v1).bind fun o1 => b257_0 L xs zf D w o0 o1 h
  | _ => none
theorem d257 {L : Nat} {xs : Nat → Int32} {zf : Value} {D : dD} {w k : Nat} (hD : dO L xs zf D k) (hz : zf.category = 1) (As : List Value) (h : rm_H) (r : dR) (hh : f257 L xs zf D w As h = some r) : dq L xs zf ah_M257 0 (lv_args 0 As) [] h (k + 1) r := by
  unfold f257 at hh
  split at hh
  · obtain ⟨o0, e0, hb0⟩ := db hh
    have e0 := rm_rf_v _ _ e0
    obtain ⟨o1, e1, hb1⟩ := db hb0
    have e1 := rm_rf_v _ _ e1
    subst e0 e1
    refine c257_0 hD hz _ _ _ _ _ ?_ ?_ hb1
    all_goals (simp only [la_r, la_i, la_j]; rfl)
  · cases hh
def b258_12 (L : Nat) (xs : Nat → Int32) (zf : Value) (D : dD) (w : Nat) (h : rm_H) : Option dR :=
  some (none, h)
theorem c258_12 {L : Nat} {xs : Nat → Int32} {zf : Value} {D : dD} {w k : Nat} (hD : dO L xs zf D k) (hz : zf.category = 1) : ∀ (lv : rm_L) (h : rm_H) (r : dR), b258_12 L xs zf D w  h = some r → dq L xs zf ah_M258 12 lv [] h (k + 1) r := by
  intro lv h r hh
  unfold b258_12 at hh
  cases hh
  exact dq_ret0 (by decide +kernel) rfl
def b258_0 (L : Nat) (xs : Nat → Int32) (zf : Value) (D : dD) (w : Nat) (o1 : Option Nat) (i2 : Int32) (h : rm_H) : Option dR :=
  ((dcV L xs D 234 [14] o1 [] h).bind dxI).bind fun x1 =>
  if mx_f1 .ne x1.1 = true then
    b258_12 L xs zf D w x1.2
  else
    ((dcV L xs D 250 [14] o1 [.int i2] x1.2).bind dxV).bind fun h6 =>
    b258_12 L xs zf D w h6
theorem c258_0 {L : Nat} {xs : Nat → Int32} {zf : Value} {D : dD} {w k : Nat} (hD : dO L xs zf D k) (hz : zf.category = 1) : ∀ (o1 : Option Nat) (i2 : Int32) (lv : rm_L) (h : rm_H) (r : dR), rm_get lv 1 = some (va_rf o1) → rm_get lv 2 = some (.int i2) → b258_0 L xs zf D w  o1 i2 h = some r → dq L xs zf ah_M258 0 lv [] h (k + 1) r := by
  intro o1 i2 lv h r G1 G2 hh
  unfold b258_0 at hh
  refine dq_aln 1 1 (by decide +kernel) rfl G1 ?_
  obtain ⟨x1, q2, hh⟩ := db hh
  obtain ⟨a3, q4, q2⟩ := db q2
  rw [dq_xI q2] at q4
  refine dq_cvi hD 140 234 5 0 [14] o1 [] [] 4 [.int x1.1] (by decide +kernel) ap_234 ⟨⟨Nat.le_of_ble_eq_true rfl, by decide⟩, rfl, rfl⟩ (dq_ok8 [1] [] (dc_r dc_n) dc_n (by decide +kernel)) (by decide +kernel) rfl q4 rfl ?_
  rcases di hh with ⟨q5, hh⟩ | ⟨q5, hh⟩
  · refine dq_1 .ne 8 true 12 q5 (by decide +kernel) ?_
    exact c258_12 hD hz  _ _ _  hh
  · refine dq_1 .ne 8 false 7 q5 (by decide +kernel) ?_
    refine dq_aln 1 8 (by decide +kernel) rfl G1 ?_
    refine dq_iln 2 9 (by decide +kernel) rfl G2 ?_
    obtain ⟨h6, q7, hh⟩ := db hh
    obtain ⟨a8, q9, q7⟩ := db q7
    rw [dq_xV q7] at q9
    refine dq_cvi hD 118 250 5 1 [14] o1 [.int i2] [] 12 [] (by decide +kernel) ap_250 ⟨⟨Nat.le_of_ble_eq_true rfl, by decide⟩, rfl, rfl⟩ (dq_ok8 [1, 1] [] (dc_r (dc_i dc_n)) dc_n (by decide +kernel)) (by decide +kernel) rfl q9 rfl ?_
    exact c258_12 hD hz  _ _ _  hh
def f258 (L : Nat) (xs : Nat → Int32) (zf : Value) (D : dD) (w : Nat) (As : List Value) (h : rm_H) : Option dR := match As with
  | [v0, v1, .int i2] => (rm_rf v0).bind fun u0 => (rm_rf v1).bind fun o1 => b258_0 L xs zf D w o1 i2 h
  | _ => none
theorem d258 {L : Nat} {xs : Nat → Int32} {zf : Value} {D : dD} {w k : Nat} (hD : dO L xs zf D k) (hz : zf.category = 1) (As : List Value) (h : rm_H) (r : dR) (hh : f258 L xs zf D w As h = some r) : dq L xs zf ah_M258 0 (lv_args 0 As) [] h (k + 1) r := by
  unfold f258 at hh
  split at hh
  · obtain ⟨u0, e0, hb0⟩ := db hh
    have e0 := rm_rf_v _ _ e0
    obtain ⟨o1, e1, hb1⟩ := db hb0
    have e1 := rm_rf_v _ _ e1
    subst e0 e1
    refine c258_0 hD hz _ _ _ _ _ ?_ ?_ hb1
    all_goals (simp only [la_r, la_i, la_j]; rfl)
  · cases hh
def b259_47 (L : Nat) (xs : Nat → Int32) (zf : Value) (D : dD) (w : Nat) (h : rm_H) : Option dR :=
  some (none, h)
theorem c259_47 {L : Nat} {xs : Nat → Int32} {zf : Value} {D : dD} {w k : Nat} (hD : dO L xs zf D k) (hz : zf.category = 1) : ∀ (lv : rm_L) (h : rm_H) (r : dR), b259_47 L xs zf D w  h = some r → dq L xs zf ah_M259 47 lv [] h (k + 1) r := by
  intro lv h r hh
  unfold b259_47 at hh
  cases hh
  exact dq_ret0 (by decide +kernel) rfl
def b259_0 (L : Nat) (xs : Nat → Int32) (zf : Value) (D : dD) (w : Nat) (o0 : Option Nat) (i1 : Int32) (h : rm_H) : Option dR :=
  (dgR L xs h 8 [14] o0).bind fun p1 =>
  ((dcV L xs D 245 [14] o0 [] h).bind dxI).bind fun x3 =>
  (daI L xs x3.2 p1 x3.1).bind fun x7 =>
  (dpF x3.2 13 [14] o0 (.int x7)).bind fun h9 =>
  (dgI L xs h9 3 [14] o0).bind fun x11 =>
  ((D 18 [.int 0, .int (x11 - 1)] h9).bind dxI).bind fun x13 =>
  (dpF x13.2 3 [14] o0 (.int x13.1)).bind fun h17 =>
  (dgI L xs h17 3 [14] o0).bind fun x19 =>
  if mx_f1 .ne x19 = true then
    ((dcV L xs D 243 [14] o0 [.int i1] h17).bind dxV).bind fun h22 =>
    b259_47 L xs zf D w h22
  else
    (dpF h17 13 [14] o0 (.int 0)).bind fun h26 =>
    b259_47 L xs zf D w h26
theorem c259_0 {L : Nat} {xs : Nat → Int32} {zf : Value} {D : dD} {w k : Nat} (hD : dO L xs zf D k) (hz : zf.category = 1) : ∀ (o0 : Option Nat) (i1 : Int32) (lv : rm_L) (h : rm_H) (r : dR), rm_get lv 0 = some (va_rf o0) → rm_get lv 1 = some (.int i1) → b259_0 L xs zf D w  o0 i1 h = some r → dq L xs zf ah_M259 0 lv [] h (k + 1) r := by
  intro o0 i1 lv h r G0 G1 hh
  unfold b259_0 at hh
  refine dq_aln 0 1 (by decide +kernel) rfl G0 ?_
  refine dq_aln 0 2 (by decide +kernel) rfl G0 ?_
  obtain ⟨p1, q2, hh⟩ := db hh
  refine dq_gR 19 8 [14] 5 (by decide +kernel) rfl q2 ?_
  refine dq_aln 0 6 (by decide +kernel) rfl G0 ?_
  obtain ⟨x3, q4, hh⟩ := db hh
  obtain ⟨a5, q6, q4⟩ := db q4
  rw [dq_xI q4] at q6
  refine dq_cvi hD 74 245 5 0 [14] o0 [] [va_rf p1, va_rf o0] 9 [.int x3.1, va_rf p1, va_rf o0] (by decide +kernel) ap_245 ⟨⟨Nat.le_of_ble_eq_true rfl, by decide⟩, rfl, rfl⟩ (dq_ok8 [1] [1, 1] (dc_r dc_n) (dc_r (dc_r dc_n)) (by decide +kernel)) (by decide +kernel) rfl q6 rfl ?_
  obtain ⟨x7, q8, hh⟩ := db hh
  refine dq_aI 10 (by decide +kernel) rfl q8 ?_
  obtain ⟨h9, q10, hh⟩ := db hh
  refine dq_put 56 13 [14] 13 (by decide +kernel) rfl q10 ?_
  refine dq_aln 0 14 (by decide +kernel) rfl G0 ?_
  refine dq_S (.iconst 0) 1 [] 15 _ [.int 0, va_rf o0] (by decide +kernel) rfl ?_
  refine dq_aln 0 16 (by decide +kernel) rfl G0 ?_
  obtain ⟨x11, q12, hh⟩ := db hh
  refine dq_gI 53 3 [14] 19 (by decide +kernel) rfl q12 ?_
  refine dq_S (.iconst 1) 1 [] 20 _ [.int 1, .int x11, .int 0, va_rf o0] (by decide +kernel) rfl ?_
  refine dq_S (.isub) 1 [] 21 _ [.int (x11 - 1), .int 0, va_rf o0] (by decide +kernel) rfl ?_
  obtain ⟨x13, q14, hh⟩ := db hh
  obtain ⟨a15, q16, q14⟩ := db q14
  rw [dq_xI q14] at q16
  refine dq_cst hD 71 18 0 2 [.int 0, .int (x11 - 1)] [va_rf o0] 24 [.int x13.1, va_rf o0] (by decide +kernel) ap_18 ⟨⟨Nat.le_of_ble_eq_true rfl, by decide⟩, rfl, rfl⟩ (dq_ok8 [1, 1] [1] (dc_i (dc_i dc_n)) (dc_r dc_n) (by decide +kernel)) (by decide +kernel) rfl q16 rfl ?_
  obtain ⟨h17, q18, hh⟩ := db hh
  refine dq_put 53 3 [14] 27 (by decide +kernel) rfl q18 ?_
  refine dq_aln 0 28 (by decide +kernel) rfl G0 ?_
  obtain ⟨x19, q20, hh⟩ := db hh
  refine dq_gI 53 3 [14] 31 (by decide +kernel) rfl q20 ?_
  rcases di hh with ⟨q21, hh⟩ | ⟨q21, hh⟩
  · refine dq_1 .ne 11 true 42 q21 (by decide +kernel) ?_
    refine dq_aln 0 43 (by decide +kernel) rfl G0 ?_
    refine dq_iln 1 44 (by decide +kernel) rfl G1 ?_
    obtain ⟨h22, q23, hh⟩ := db hh
    obtain ⟨a24, q25, q23⟩ := db q23
    rw [dq_xV q23] at q25
    refine dq_cvi hD 92 243 5 1 [14] o0 [.int i1] [] 47 [] (by decide +kernel) ap_243 ⟨⟨Nat.le_of_ble_eq_true rfl, by decide⟩, rfl, rfl⟩ (dq_ok8 [1, 1] [] (dc_r (dc_i dc_n)) dc_n (by decide +kernel)) (by decide +kernel) rfl q25 rfl ?_
    exact c259_47 hD hz  _ _ _  hh
  · refine dq_1 .ne 11 false 34 q21 (by decide +kernel) ?_
    refine dq_aln 0 35 (by decide +kernel) rfl G0 ?_
    refine dq_S (.iconst 0) 1 [] 36 _ [.int 0, va_rf o0] (by decide +kernel) rfl ?_
    obtain ⟨h26, q27, hh⟩ := db hh
    refine dq_put 56 13 [14] 39 (by decide +kernel) rfl q27 ?_
    refine dq_S (.goto 8) 3 [] 47 _ [] (by decide +kernel) rfl ?_
    exact c259_47 hD hz  _ _ _  hh
def f259 (L : Nat) (xs : Nat → Int32) (zf : Value) (D : dD) (w : Nat) (As : List Value) (h : rm_H) : Option dR := match As with
  | [v0, .int i1] => (rm_rf v0).bind fun o0 => b259_0 L xs zf D w o0 i1 h
  | _ => none
theorem d259 {L : Nat} {xs : Nat → Int32} {zf : Value} {D : dD} {w k : Nat} (hD : dO L xs zf D k) (hz : zf.category = 1) (As : List Value) (h : rm_H) (r : dR) (hh : f259 L xs zf D w As h = some r) : dq L xs zf ah_M259 0 (lv_args 0 As) [] h (k + 1) r := by
  unfold f259 at hh
  split at hh
  · obtain ⟨o0, e0, hb0⟩ := db hh
    have e0 := rm_rf_v _ _ e0
    subst e0
    refine c259_0 hD hz _ _ _ _ _ ?_ ?_ hb0
    all_goals (simp only [la_r, la_i, la_j]; rfl)
  · cases hh
def b260_37 (L : Nat) (xs : Nat → Int32) (zf : Value) (D : dD) (w : Nat) (h : rm_H) : Option dR :=
  some (none, h)
theorem c260_37 {L : Nat} {xs : Nat → Int32} {zf : Value} {D : dD} {w k : Nat} (hD : dO L xs zf D k) (hz : zf.category = 1) : ∀ (lv : rm_L) (h : rm_H) (r : dR), b260_37 L xs zf D w  h = some r → dq L xs zf ah_M260 37 lv [] h (k + 1) r := by
  intro lv h r hh
  unfold b260_37 at hh
  cases hh
  exact dq_ret0 (by decide +kernel) rfl
def b260_0 (L : Nat) (xs : Nat → Int32) (zf : Value) (D : dD) (w : Nat) (o0 : Option Nat) (o1 : Option Nat) (o2 : Option Nat) (i3 : Int32) (h : rm_H) : Option dR :=
  ((dcV L xs D 234 [14] o1 [] h).bind dxI).bind fun x1 =>
  if mx_f1 .ne x1.1 = true then
    ((dcV L xs D 236 [2] o0 [.int (x1.1 - 1)] x1.2).bind dxR).bind fun p11 =>
    if dnl p11.1 = true then
      b260_37 L xs zf D w p11.2
    else
      if dnl o2 = true then
        b260_37 L xs zf D w p11.2
      else
        (dgI L xs p11.2 4 [14] p11.1).bind fun x23 =>
        (dgI L xs p11.2 6 [2] o0).bind fun x25 =>
        if mx_f2 .lt x23 x25 = true then
          ((dcV L xs D 230 [2] o0 [va_rf p11.1, va_rf o2, va_rf o1] p11.2).bind dxV).bind fun h28 =>
          ((dcV L xs D 243 [14] o1 [.int 0] h28).bind dxV).bind fun h32 =>
          some (none, h32)
        else
          (dgI L xs p11.2 14 [2] o0).bind fun x36 =>
          (dpF p11.2 14 [2] o0 (.int (x36 + 1))).bind fun h38 =>
          ((dcV L xs D 243 [14] o1 [.int x1.1] h38).bind dxV).bind fun h40 =>
          ((dcV L xs D 250 [14] o1 [.int i3] h40).bind dxV).bind fun h44 =>
          some (none, h44)
  else
    ((dcV L xs D 261 [2] o0 [va_rf o1, .int 1] x1.2).bind dxV).bind fun h48 =>
    some (none, h48)
theorem c260_0 {L : Nat} {xs : Nat → Int32} {zf : Value} {D : dD} {w k : Nat} (hD : dO L xs zf D k) (hz : zf.category = 1) : ∀ (o0 : Option Nat) (o1 : Option Nat) (o2 : Option Nat) (i3 : Int32) (lv : rm_L) (h : rm_H) (r : dR), rm_get lv 0 = some (va_rf o0) → rm_get lv 1 = some (va_rf o1) → rm_get lv 2 = some (va_rf o2) → rm_get lv 3 = some (.int i3) → b260_0 L xs zf D w  o0 o1 o2 i3 h = some r → dq L xs zf ah_M260 0 lv [] h (k + 1) r := by
  intro o0 o1 o2 i3 lv h r G0 G1 G2 G3 hh
  unfold b260_0 at hh
  refine dq_aln 1 1 (by decide +kernel) rfl G1 ?_
  obtain ⟨x1, q2, hh⟩ := db hh
  obtain ⟨a3, q4, q2⟩ := db q2
  rw [dq_xI q2] at q4
  refine dq_cvi hD 140 234 5 0 [14] o1 [] [] 4 [.int x1.1] (by decide +kernel) ap_234 ⟨⟨Nat.le_of_ble_eq_true rfl, by decide⟩, rfl, rfl⟩ (dq_ok8 [1] [] (dc_r dc_n) dc_n (by decide +kernel)) (by decide +kernel) rfl q4 rfl ?_
  refine dq_is 4 6 (by decide +kernel) (by decide +kernel) ?_
  have g5 := dg_ne (i := 4) (u := .int x1.1) (by decide) (Or.inl (by decide)) G0
  have g6 := dg_ne (i := 4) (u := .int x1.1) (by decide) (Or.inl (by decide)) G1
  have g7 := dg_ne (i := 4) (u := .int x1.1) (by decide) (Or.inl (by decide)) G2
  have g8 := dg_ne (i := 4) (u := .int x1.1) (by decide) (Or.inr rfl) G3
  have g9 := dg_eq (lv) 4 (.int x1.1)
  refine dq_il 4 8 (by decide +kernel) rfl g9 ?_
  rcases di hh with ⟨q10, hh⟩ | ⟨q10, hh⟩
  · refine dq_1 .ne 10 true 18 q10 (by decide +kernel) ?_
    refine dq_aln 0 19 (by decide +kernel) rfl g5 ?_
    refine dq_il 4 21 (by decide +kernel) rfl g9 ?_
    refine dq_S (.iconst 1) 1 [] 22 _ [.int 1, .int x1.1, va_rf o0] (by decide +kernel) rfl ?_
    refine dq_S (.isub) 1 [] 23 _ [.int (x1.1 - 1), va_rf o0] (by decide +kernel) rfl ?_
    obtain ⟨p11, q12, hh⟩ := db hh
    obtain ⟨a13, q14, q12⟩ := db q12
    rw [dq_xR q12] at q14
    refine dq_cvi hD 203 236 5 1 [2] o0 [.int (x1.1 - 1)] [] 26 [va_rf p11.1] (by decide +kernel) ap_236 ⟨⟨Nat.le_of_ble_eq_true rfl, by decide⟩, rfl, rfl⟩ (dq_ok8 [1, 1] [] (dc_r (dc_i dc_n)) dc_n (by decide +kernel)) (by decide +kernel) rfl q14 rfl ?_
    refine dq_as 5 28 (by decide +kernel) (by decide +kernel) ?_
    have g15 := dg_ne (i := 5) (u := va_rf p11.1) (by decide) (Or.inl (by decide)) g5
    have g16 := dg_ne (i := 5) (u := va_rf p11.1) (by decide) (Or.inl (by decide)) g6
    have g17 := dg_ne (i := 5) (u := va_rf p11.1) (by decide) (Or.inl (by decide)) g7
    have g18 := dg_ne (i := 5) (u := va_rf p11.1) (by decide) (Or.inl (by decide)) g8
    have g19 := dg_ne (i := 5) (u := va_rf p11.1) (by decide) (Or.inr rfl) g9
    have g20 := dg_eq (rm_set1 (lv) 4 (.int x1.1)) 5 (va_rf p11.1)
    refine dq_al 5 30 (by decide +kernel) rfl g20 ?_
    rcases di hh with ⟨q21, hh⟩ | ⟨q21, hh⟩
    · refine dq_null 7 true 37 q21 (by decide +kernel) (by decide +kernel) ?_
      exact c260_37 hD hz  _ _ _  hh
    · refine dq_null 7 false 33 q21 (by decide +kernel) (by decide +kernel) ?_
      refine dq_aln 2 34 (by decide +kernel) rfl g17 ?_
      rcases di hh with ⟨q22, hh⟩ | ⟨q22, hh⟩
      · refine dq_nnull 4 false 37 q22 (by decide +kernel) (by decide +kernel) ?_
        exact c260_37 hD hz  _ _ _  hh
      · refine dq_nnull 4 true 38 q22 (by decide +kernel) (by decide +kernel) ?_
        refine dq_al 5 40 (by decide +kernel) rfl g20 ?_
        obtain ⟨x23, q24, hh⟩ := db hh
        refine dq_gI 95 4 [14] 43 (by decide +kernel) rfl q24 ?_
        refine dq_aln 0 44 (by decide +kernel) rfl g15 ?_
        obtain ⟨x25, q26, hh⟩ := db hh
        refine dq_gI 65 6 [2] 47 (by decide +kernel) rfl q26 ?_
        rcases di hh with ⟨q27, hh⟩ | ⟨q27, hh⟩
        · refine dq_2 .lt 25 true 72 q27 (by decide +kernel) ?_
          refine dq_aln 0 73 (by decide +kernel) rfl g15 ?_
          refine dq_al 5 75 (by decide +kernel) rfl g20 ?_
          refine dq_aln 2 76 (by decide +kernel) rfl g17 ?_
          refine dq_aln 1 77 (by decide +kernel) rfl g16 ?_
          obtain ⟨h28, q29, hh⟩ := db hh
          obtain ⟨a30, q31, q29⟩ := db q29
          rw [dq_xV q29] at q31
          refine dq_cvi hD 88 230 5 3 [2] o0 [va_rf p11.1, va_rf o2, va_rf o1] [] 80 [] (by decide +kernel) ap_230 ⟨⟨Nat.le_of_ble_eq_true rfl, by decide⟩, rfl, rfl⟩ (dq_ok8 [1, 1, 1, 1] [] (dc_r (dc_r (dc_r (dc_r dc_n)))) dc_n (by decide +kernel)) (by decide +kernel) rfl q31 rfl ?_
          refine dq_aln 1 81 (by decide +kernel) rfl g16 ?_
          refine dq_S (.iconst 0) 1 [] 82 _ [.int 0, va_rf o1] (by decide +kernel) rfl ?_
          obtain ⟨h32, q33, hh⟩ := db hh
          obtain ⟨a34, q35, q33⟩ := db q33
          rw [dq_xV q33] at q35
          refine dq_cvi hD 131 243 5 1 [14] o1 [.int 0] [] 85 [] (by decide +kernel) ap_243 ⟨⟨Nat.le_of_ble_eq_true rfl, by decide⟩, rfl, rfl⟩ (dq_ok8 [1, 1] [] (dc_r (dc_i dc_n)) dc_n (by decide +kernel)) (by decide +kernel) rfl q35 rfl ?_
          cases hh
          exact dq_ret0 (by decide +kernel) rfl
        · refine dq_2 .lt 25 false 50 q27 (by decide +kernel) ?_
          refine dq_aln 0 51 (by decide +kernel) rfl g15 ?_
          refine dq_dup 52 (by decide +kernel) rfl ?_
          obtain ⟨x36, q37, hh⟩ := db hh
          refine dq_gI 53 14 [2] 55 (by decide +kernel) rfl q37 ?_
          refine dq_S (.iconst 1) 1 [] 56 _ [.int 1, .int x36, va_rf o0] (by decide +kernel) rfl ?_
          refine dq_S (.iadd) 1 [] 57 _ [.int (x36 + 1), va_rf o0] (by decide +kernel) rfl ?_
          obtain ⟨h38, q39, hh⟩ := db hh
          refine dq_put 53 14 [2] 60 (by decide +kernel) rfl q39 ?_
          refine dq_aln 1 61 (by decide +kernel) rfl g16 ?_
          refine dq_il 4 63 (by decide +kernel) rfl g19 ?_
          obtain ⟨h40, q41, hh⟩ := db hh
          obtain ⟨a42, q43, q41⟩ := db q41
          rw [dq_xV q41] at q43
          refine dq_cvi hD 131 243 5 1 [14] o1 [.int x1.1] [] 66 [] (by decide +kernel) ap_243 ⟨⟨Nat.le_of_ble_eq_true rfl, by decide⟩, rfl, rfl⟩ (dq_ok8 [1, 1] [] (dc_r (dc_i dc_n)) dc_n (by decide +kernel)) (by decide +kernel) rfl q43 rfl ?_
          refine dq_aln 1 67 (by decide +kernel) rfl g16 ?_
          refine dq_iln 3 68 (by decide +kernel) rfl g18 ?_
          obtain ⟨h44, q45, hh⟩ := db hh
          obtain ⟨a46, q47, q45⟩ := db q45
          rw [dq_xV q45] at q47
          refine dq_cvi hD 118 250 5 1 [14] o1 [.int i3] [] 71 [] (by decide +kernel) ap_250 ⟨⟨Nat.le_of_ble_eq_true rfl, by decide⟩, rfl, rfl⟩ (dq_ok8 [1, 1] [] (dc_r (dc_i dc_n)) dc_n (by decide +kernel)) (by decide +kernel) rfl q47 rfl ?_
          cases hh
          exact dq_ret0 (by decide +kernel) rfl
  · refine dq_1 .ne 10 false 11 q10 (by decide +kernel) ?_
    refine dq_aln 0 12 (by decide +kernel) rfl g5 ?_
    refine dq_aln 1 13 (by decide +kernel) rfl g6 ?_
    refine dq_S (.iconst 1) 1 [] 14 _ [.int 1, va_rf o1, va_rf o0] (by decide +kernel) rfl ?_
    obtain ⟨h48, q49, hh⟩ := db hh
    obtain ⟨a50, q51, q49⟩ := db q49
    rw [dq_xV q49] at q51
    refine dq_cvi hD 190 261 5 2 [2] o0 [va_rf o1, .int 1] [] 17 [] (by decide +kernel) ap_261 ⟨⟨Nat.le_of_ble_eq_true rfl, by decide⟩, rfl, rfl⟩ (dq_ok8 [1, 1, 1] [] (dc_r (dc_r (dc_i dc_n))) dc_n (by decide +kernel)) (by decide +kernel) rfl q51 rfl ?_
    cases hh
    exact dq_ret0 (by decide +kernel) rfl
def f260 (L : Nat) (xs : Nat → Int32) (zf : Value) (D : dD) (w : Nat) (As : List Value) (h : rm_H) : Option dR := match As with
  | [v0, v1, v2, .int i3] => (rm_rf v0).bind fun o0 => (rm_rf v1).bind fun o1 => (rm_rf v2).bind fun o2 => b260_0 L xs zf D w o0 o1 o2 i3 h
  | _ => none
theorem d260 {L : Nat} {xs : Nat → Int32} {zf : Value} {D : dD} {w k : Nat} (hD : dO L xs zf D k) (hz : zf.category = 1) (As : List Value) (h : rm_H) (r : dR) (hh : f260 L xs zf D w As h = some r) : dq L xs zf ah_M260 0 (lv_args 0 As) [] h (k + 1) r := by
  unfold f260 at hh
  split at hh
  · obtain ⟨o0, e0, hb0⟩ := db hh
    have e0 := rm_rf_v _ _ e0
    obtain ⟨o1, e1, hb1⟩ := db hb0
    have e1 := rm_rf_v _ _ e1
    obtain ⟨o2, e2, hb2⟩ := db hb1
    have e2 := rm_rf_v _ _ e2
    subst e0 e1 e2
    refine c260_0 hD hz _ _ _ _ _ _ _ ?_ ?_ ?_ ?_ hb2
    all_goals (simp only [la_r, la_i, la_j]; rfl)
  · cases hh
def b261_0 (L : Nat) (xs : Nat → Int32) (zf : Value) (D : dD) (w : Nat) (o0 : Option Nat) (o1 : Option Nat) (i2 : Int32) (h : rm_H) : Option dR :=
  (dgI L xs h 15 [2] o0).bind fun x1 =>
  (dpF h 15 [2] o0 (.int (x1 + 1))).bind fun h3 =>
  (dpF h3 6 [14] o1 (.int i2)).bind fun h5 =>
  ((dcV L xs D 229 [14] o1 [] h5).bind dxV).bind fun h7 =>
  some (none, h7)
theorem c261_0 {L : Nat} {xs : Nat → Int32} {zf : Value} {D : dD} {w k : Nat} (hD : dO L xs zf D k) (hz : zf.category = 1) : ∀ (o0 : Option Nat) (o1 : Option Nat) (i2 : Int32) (lv : rm_L) (h : rm_H) (r : dR), rm_get lv 0 = some (va_rf o0) → rm_get lv 1 = some (va_rf o1) → rm_get lv 2 = some (.int i2) → b261_0 L xs zf D w  o0 o1 i2 h = some r → dq L xs zf ah_M261 0 lv [] h (k + 1) r := by
  intro o0 o1 i2 lv h r G0 G1 G2 hh
  unfold b261_0 at hh
  refine dq_aln 0 1 (by decide +kernel) rfl G0 ?_
  refine dq_dup 2 (by decide +kernel) rfl ?_
  obtain ⟨x1, q2, hh⟩ := db hh
  refine dq_gI 56 15 [2] 5 (by decide +kernel) rfl q2 ?_
  refine dq_S (.iconst 1) 1 [] 6 _ [.int 1, .int x1, va_rf o0] (by decide +kernel) rfl ?_
  refine dq_S (.iadd) 1 [] 7 _ [.int (x1 + 1), va_rf o0] (by decide +kernel) rfl ?_
  obtain ⟨h3, q4, hh⟩ := db hh
  refine dq_put 56 15 [2] 10 (by decide +kernel) rfl q4 ?_
  refine dq_aln 1 11 (by decide +kernel) rfl G1 ?_
  refine dq_iln 2 12 (by decide +kernel) rfl G2 ?_
  obtain ⟨h5, q6, hh⟩ := db hh
  refine dq_put 181 6 [14] 15 (by decide +kernel) rfl q6 ?_
  refine dq_aln 1 16 (by decide +kernel) rfl G1 ?_
  obtain ⟨h7, q8, hh⟩ := db hh
  obtain ⟨a9, q10, q8⟩ := db q8
  rw [dq_xV q8] at q10
  refine dq_cvi hD 184 229 5 0 [14] o1 [] [] 19 [] (by decide +kernel) ap_229 ⟨⟨Nat.le_of_ble_eq_true rfl, by decide⟩, rfl, rfl⟩ (dq_ok8 [1] [] (dc_r dc_n) dc_n (by decide +kernel)) (by decide +kernel) rfl q10 rfl ?_
  cases hh
  exact dq_ret0 (by decide +kernel) rfl
def f261 (L : Nat) (xs : Nat → Int32) (zf : Value) (D : dD) (w : Nat) (As : List Value) (h : rm_H) : Option dR := match As with
  | [v0, v1, .int i2] => (rm_rf v0).bind fun o0 => (rm_rf v1).bind fun o1 => b261_0 L xs zf D w o0 o1 i2 h
  | _ => none
theorem d261 {L : Nat} {xs : Nat → Int32} {zf : Value} {D : dD} {w k : Nat} (hD : dO L xs zf D k) (hz : zf.category = 1) (As : List Value) (h : rm_H) (r : dR) (hh : f261 L xs zf D w As h = some r) : dq L xs zf ah_M261 0 (lv_args 0 As) [] h (k + 1) r := by
  unfold f261 at hh
  split at hh
  · obtain ⟨o0, e0, hb0⟩ := db hh
    have e0 := rm_rf_v _ _ e0
    obtain ⟨o1, e1, hb1⟩ := db hb0
    have e1 := rm_rf_v _ _ e1
    subst e0 e1
    refine c261_0 hD hz _ _ _ _ _ _ ?_ ?_ ?_ hb1
    all_goals (simp only [la_r, la_i, la_j]; rfl)
  · cases hh
def b262_46 (L : Nat) (xs : Nat → Int32) (zf : Value) (D : dD) (w : Nat) (h : rm_H) : Option dR :=
  some (none, h)
theorem c262_46 {L : Nat} {xs : Nat → Int32} {zf : Value} {D : dD} {w k : Nat} (hD : dO L xs zf D k) (hz : zf.category = 1) : ∀ (lv : rm_L) (h : rm_H) (r : dR), b262_46 L xs zf D w  h = some r → dq L xs zf ah_M262 46 lv [] h (k + 1) r := by
  intro lv h r hh
  unfold b262_46 at hh
  cases hh
  exact dq_ret0 (by decide +kernel) rfl
def b262_0 (L : Nat) (xs : Nat → Int32) (zf : Value) (D : dD) (w : Nat) (o0 : Option Nat) (o1 : Option Nat) (o2 : Option Nat) (h : rm_H) : Option dR :=
  ((dcV L xs D 234 [14] o1 [] h).bind dxI).bind fun x1 =>
  if mx_f1 .ne x1.1 = true then
    (dgI L xs x1.2 3 [14] o1).bind fun x10 =>
    if mx_f2 .lt x10 10 = true then
      if dnl o2 = true then
        b262_46 L xs zf D w x1.2
      else
        ((dcV L xs D 244 [14] o1 [va_rf o2, .int x1.1] x1.2).bind dxV).bind fun h14 =>
        b262_46 L xs zf D w h14
    else
      ((dcV L xs D 261 [2] o0 [va_rf o1, .int 3] x1.2).bind dxV).bind fun h18 =>
      b262_46 L xs zf D w h18
  else
    ((dcV L xs D 261 [2] o0 [va_rf o1, .int 1] x1.2).bind dxV).bind fun h22 =>
    b262_46 L xs zf D w h22
theorem c262_0 {L : Nat} {xs : Nat → Int32} {zf : Value} {D : dD} {w k : Nat} (hD : dO L xs zf D k) (hz : zf.category = 1) : ∀ (o0 : Option Nat) (o1 : Option Nat) (o2 : Option Nat) (lv : rm_L) (h : rm_H) (r : dR), rm_get lv 0 = some (va_rf o0) → rm_get lv 1 = some (va_rf o1) → rm_get lv 2 = some (va_rf o2) → b262_0 L xs zf D w  o0 o1 o2 h = some r → dq L xs zf ah_M262 0 lv [] h (k + 1) r := by
  intro o0 o1 o2 lv h r G0 G1 G2 hh
  unfold b262_0 at hh
  refine dq_aln 1 1 (by decide +kernel) rfl G1 ?_
  obtain ⟨x1, q2, hh⟩ := db hh
  obtain ⟨a3, q4, q2⟩ := db q2
  rw [dq_xI q2] at q4
  refine dq_cvi hD 140 234 5 0 [14] o1 [] [] 4 [.int x1.1] (by decide +kernel) ap_234 ⟨⟨Nat.le_of_ble_eq_true rfl, by decide⟩, rfl, rfl⟩ (dq_ok8 [1] [] (dc_r dc_n) dc_n (by decide +kernel)) (by decide +kernel) rfl q4 rfl ?_
  refine dq_isn 3 5 (by decide +kernel) (by decide +kernel) ?_
  have g5 := dg_ne (i := 3) (u := .int x1.1) (by decide) (Or.inl (by decide)) G0
  have g6 := dg_ne (i := 3) (u := .int x1.1) (by decide) (Or.inl (by decide)) G1
  have g7 := dg_ne (i := 3) (u := .int x1.1) (by decide) (Or.inr (drc _)) G2
  have g8 := dg_eq (lv) 3 (.int x1.1)
  refine dq_iln 3 6 (by decide +kernel) rfl g8 ?_
  rcases di hh with ⟨q9, hh⟩ | ⟨q9, hh⟩
  · refine dq_1 .ne 12 true 18 q9 (by decide +kernel) ?_
    refine dq_aln 1 19 (by decide +kernel) rfl g6 ?_
    obtain ⟨x10, q11, hh⟩ := db hh
    refine dq_gI 92 3 [14] 22 (by decide +kernel) rfl q11 ?_
    refine dq_S (.bipush 10) 2 [] 24 _ [.int 10, .int x10] (by decide +kernel) rfl ?_
    rcases di hh with ⟨q12, hh⟩ | ⟨q12, hh⟩
    · refine dq_2 .lt 12 true 36 q12 (by decide +kernel) ?_
      refine dq_aln 2 37 (by decide +kernel) rfl g7 ?_
      rcases di hh with ⟨q13, hh⟩ | ⟨q13, hh⟩
      · refine dq_null 9 true 46 q13 (by decide +kernel) (by decide +kernel) ?_
        exact c262_46 hD hz  _ _ _  hh
      · refine dq_null 9 false 40 q13 (by decide +kernel) (by decide +kernel) ?_
        refine dq_aln 1 41 (by decide +kernel) rfl g6 ?_
        refine dq_aln 2 42 (by decide +kernel) rfl g7 ?_
        refine dq_iln 3 43 (by decide +kernel) rfl g8 ?_
        obtain ⟨h14, q15, hh⟩ := db hh
        obtain ⟨a16, q17, q15⟩ := db q15
        rw [dq_xV q15] at q17
        refine dq_cvi hD 199 244 5 2 [14] o1 [va_rf o2, .int x1.1] [] 46 [] (by decide +kernel) ap_244 ⟨⟨Nat.le_of_ble_eq_true rfl, by decide⟩, rfl, rfl⟩ (dq_ok8 [1, 1, 1] [] (dc_r (dc_r (dc_i dc_n))) dc_n (by decide +kernel)) (by decide +kernel) rfl q17 rfl ?_
        exact c262_46 hD hz  _ _ _  hh
    · refine dq_2 .lt 12 false 27 q12 (by decide +kernel) ?_
      refine dq_aln 0 28 (by decide +kernel) rfl g5 ?_
      refine dq_aln 1 29 (by decide +kernel) rfl g6 ?_
      refine dq_S (.iconst 3) 1 [] 30 _ [.int 3, va_rf o1, va_rf o0] (by decide +kernel) rfl ?_
      obtain ⟨h18, q19, hh⟩ := db hh
      obtain ⟨a20, q21, q19⟩ := db q19
      rw [dq_xV q19] at q21
      refine dq_cvi hD 190 261 5 2 [2] o0 [va_rf o1, .int 3] [] 33 [] (by decide +kernel) ap_261 ⟨⟨Nat.le_of_ble_eq_true rfl, by decide⟩, rfl, rfl⟩ (dq_ok8 [1, 1, 1] [] (dc_r (dc_r (dc_i dc_n))) dc_n (by decide +kernel)) (by decide +kernel) rfl q21 rfl ?_
      refine dq_S (.goto 13) 3 [] 46 _ [] (by decide +kernel) rfl ?_
      exact c262_46 hD hz  _ _ _  hh
  · refine dq_1 .ne 12 false 9 q9 (by decide +kernel) ?_
    refine dq_aln 0 10 (by decide +kernel) rfl g5 ?_
    refine dq_aln 1 11 (by decide +kernel) rfl g6 ?_
    refine dq_S (.iconst 1) 1 [] 12 _ [.int 1, va_rf o1, va_rf o0] (by decide +kernel) rfl ?_
    obtain ⟨h22, q23, hh⟩ := db hh
    obtain ⟨a24, q25, q23⟩ := db q23
    rw [dq_xV q23] at q25
    refine dq_cvi hD 190 261 5 2 [2] o0 [va_rf o1, .int 1] [] 15 [] (by decide +kernel) ap_261 ⟨⟨Nat.le_of_ble_eq_true rfl, by decide⟩, rfl, rfl⟩ (dq_ok8 [1, 1, 1] [] (dc_r (dc_r (dc_i dc_n))) dc_n (by decide +kernel)) (by decide +kernel) rfl q25 rfl ?_
    refine dq_S (.goto 31) 3 [] 46 _ [] (by decide +kernel) rfl ?_
    exact c262_46 hD hz  _ _ _  hh
def f262 (L : Nat) (xs : Nat → Int32) (zf : Value) (D : dD) (w : Nat) (As : List Value) (h : rm_H) : Option dR := match As with
  | [v0, v1, v2] => (rm_rf v0).bind fun o0 => (rm_rf v1).bind fun o1 => (rm_rf v2).bind fun o2 => b262_0 L xs zf D w o0 o1 o2 h
  | _ => none
theorem d262 {L : Nat} {xs : Nat → Int32} {zf : Value} {D : dD} {w k : Nat} (hD : dO L xs zf D k) (hz : zf.category = 1) (As : List Value) (h : rm_H) (r : dR) (hh : f262 L xs zf D w As h = some r) : dq L xs zf ah_M262 0 (lv_args 0 As) [] h (k + 1) r := by
  unfold f262 at hh
  split at hh
  · obtain ⟨o0, e0, hb0⟩ := db hh
    have e0 := rm_rf_v _ _ e0
    obtain ⟨o1, e1, hb1⟩ := db hb0
    have e1 := rm_rf_v _ _ e1
    obtain ⟨o2, e2, hb2⟩ := db hb1
    have e2 := rm_rf_v _ _ e2
    subst e0 e1 e2
    refine c262_0 hD hz _ _ _ _ _ _ ?_ ?_ ?_ hb2
    all_goals (simp only [la_r, la_i, la_j]; rfl)
  · cases hh
def b263_52 (L : Nat) (xs : Nat → Int32) (zf : Value) (D : dD) (w : Nat) (o0 : Option Nat) (o1 : Option Nat) (h : rm_H) : Option dR :=
  ((dcV L xs D 261 [2] o0 [va_rf o1, .int 2] h).bind dxV).bind fun h1 =>
  some (none, h1)
theorem c263_52 {L : Nat} {xs : Nat → Int32} {zf : Value} {D : dD} {w k : Nat} (hD : dO L xs zf D k) (hz : zf.category = 1) : ∀ (o0 : Option Nat) (o1 : Option Nat) (lv : rm_L) (h : rm_H) (r : dR), rm_get lv 0 = some (va_rf o0) → rm_get lv 1 = some (va_rf o1) → b263_52 L xs zf D w  o0 o1 h = some r → dq L xs zf ah_M263 52 lv [] h (k + 1) r := by
  intro o0 o1 lv h r G0 G1 hh
  unfold b263_52 at hh
  refine dq_aln 0 53 (by decide +kernel) rfl G0 ?_
  refine dq_aln 1 54 (by decide +kernel) rfl G1 ?_
  refine dq_S (.iconst 2) 1 [] 55 _ [.int 2, va_rf o1, va_rf o0] (by decide +kernel) rfl ?_
  obtain ⟨h1, q2, hh⟩ := db hh
  obtain ⟨a3, q4, q2⟩ := db q2
  rw [dq_xV q2] at q4
  refine dq_cvi hD 190 261 5 2 [2] o0 [va_rf o1, .int 2] [] 58 [] (by decide +kernel) ap_261 ⟨⟨Nat.le_of_ble_eq_true rfl, by decide⟩, rfl, rfl⟩ (dq_ok8 [1, 1, 1] [] (dc_r (dc_r (dc_i dc_n))) dc_n (by decide +kernel)) (by decide +kernel) rfl q4 rfl ?_
  cases hh
  exact dq_ret0 (by decide +kernel) rfl
def b263_32 (L : Nat) (xs : Nat → Int32) (zf : Value) (D : dD) (w : Nat) (o0 : Option Nat) (o1 : Option Nat) (o2 : Option Nat) (s0 : Int32) (h : rm_H) : Option dR :=
  if mx_f2 .eq s0 (-1) = true then
    b263_52 L xs zf D w o0 o1 h
  else
    (dgI L xs h 9 [2] o0).bind fun x6 =>
    (dgR L xs h 1 [2] o0).bind fun p8 =>
    (daN L xs h p8).bind fun x10 =>
    if mx_f2 .lt (x6 + 1) x10 = true then
      (dgI L xs h 9 [2] o0).bind fun x13 =>
      (dpF h 9 [2] o0 (.int (x13 + 1))).bind fun h15 =>
      (dgR L xs h15 1 [2] o0).bind fun p17 =>
      (dgI L xs h15 9 [2] o0).bind fun x19 =>
      (dsI h15 p17 x19 s0).bind fun h21 =>
      (dgI L xs h21 9 [2] o0).bind fun x23 =>
      ((dcV L xs D 244 [14] o1 [va_rf o2, .int x23] h21).bind dxV).bind fun h25 =>
      some (none, h25)
    else
      b263_52 L xs zf D w o0 o1 h
theorem c263_32 {L : Nat} {xs : Nat → Int32} {zf : Value} {D : dD} {w k : Nat} (hD : dO L xs zf D k) (hz : zf.category = 1) : ∀ (o0 : Option Nat) (o1 : Option Nat) (o2 : Option Nat) (s0 : Int32) (lv : rm_L) (h : rm_H) (r : dR), rm_get lv 0 = some (va_rf o0) → rm_get lv 1 = some (va_rf o1) → rm_get lv 2 = some (va_rf o2) → b263_32 L xs zf D w  o0 o1 o2 s0 h = some r → dq L xs zf ah_M263 32 lv [.int s0] h (k + 1) r := by
  intro o0 o1 o2 s0 lv h r G0 G1 G2 hh
  unfold b263_32 at hh
  refine dq_isn 3 33 (by decide +kernel) (by decide +kernel) ?_
  have g1 := dg_ne (i := 3) (u := .int s0) (by decide) (Or.inl (by decide)) G0
  have g2 := dg_ne (i := 3) (u := .int s0) (by decide) (Or.inl (by decide)) G1
  have g3 := dg_ne (i := 3) (u := .int s0) (by decide) (Or.inr (drc _)) G2
  have g4 := dg_eq (lv) 3 (.int s0)
  refine dq_iln 3 34 (by decide +kernel) rfl g4 ?_
  refine dq_S (.iconst (-1)) 1 [] 35 _ [.int (-1), .int s0] (by decide +kernel) rfl ?_
  rcases di hh with ⟨q5, hh⟩ | ⟨q5, hh⟩
  · refine dq_2 .eq 17 true 52 q5 (by decide +kernel) ?_
    exact c263_52 hD hz _ _ _ _ _ g1 g2 hh
  · refine dq_2 .eq 17 false 38 q5 (by decide +kernel) ?_
    refine dq_aln 0 39 (by decide +kernel) rfl g1 ?_
    obtain ⟨x6, q7, hh⟩ := db hh
    refine dq_gI 38 9 [2] 42 (by decide +kernel) rfl q7 ?_
    refine dq_S (.iconst 1) 1 [] 43 _ [.int 1, .int x6] (by decide +kernel) rfl ?_
    refine dq_S (.iadd) 1 [] 44 _ [.int (x6 + 1)] (by decide +kernel) rfl ?_
    refine dq_aln 0 45 (by decide +kernel) rfl g1 ?_
    obtain ⟨p8, q9, hh⟩ := db hh
    refine dq_gR 15 1 [2] 48 (by decide +kernel) rfl q9 ?_
    obtain ⟨x10, q11, hh⟩ := db hh
    refine dq_aN 49 (by decide +kernel) rfl q11 ?_
    rcases di hh with ⟨q12, hh⟩ | ⟨q12, hh⟩
    · refine dq_2 .lt 10 true 59 q12 (by decide +kernel) ?_
      refine dq_aln 0 60 (by decide +kernel) rfl g1 ?_
      refine dq_dup 61 (by decide +kernel) rfl ?_
      obtain ⟨x13, q14, hh⟩ := db hh
      refine dq_gI 38 9 [2] 64 (by decide +kernel) rfl q14 ?_
      refine dq_S (.iconst 1) 1 [] 65 _ [.int 1, .int x13, va_rf o0] (by decide +kernel) rfl ?_
      refine dq_S (.iadd) 1 [] 66 _ [.int (x13 + 1), va_rf o0] (by decide +kernel) rfl ?_
      obtain ⟨h15, q16, hh⟩ := db hh
      refine dq_put 38 9 [2] 69 (by decide +kernel) rfl q16 ?_
      refine dq_aln 0 70 (by decide +kernel) rfl g1 ?_
      obtain ⟨p17, q18, hh⟩ := db hh
      refine dq_gR 15 1 [2] 73 (by decide +kernel) rfl q18 ?_
      refine dq_aln 0 74 (by decide +kernel) rfl g1 ?_
      obtain ⟨x19, q20, hh⟩ := db hh
      refine dq_gI 38 9 [2] 77 (by decide +kernel) rfl q20 ?_
      refine dq_iln 3 78 (by decide +kernel) rfl g4 ?_
      obtain ⟨h21, q22, hh⟩ := db hh
      refine dq_sI 79 (by decide +kernel) rfl q22 ?_
      refine dq_aln 1 80 (by decide +kernel) rfl g2 ?_
      refine dq_aln 2 81 (by decide +kernel) rfl g3 ?_
      refine dq_aln 0 82 (by decide +kernel) rfl g1 ?_
      obtain ⟨x23, q24, hh⟩ := db hh
      refine dq_gI 38 9 [2] 85 (by decide +kernel) rfl q24 ?_
      obtain ⟨h25, q26, hh⟩ := db hh
      obtain ⟨a27, q28, q26⟩ := db q26
      rw [dq_xV q26] at q28
      refine dq_cvi hD 199 244 5 2 [14] o1 [va_rf o2, .int x23] [] 88 [] (by decide +kernel) ap_244 ⟨⟨Nat.le_of_ble_eq_true rfl, by decide⟩, rfl, rfl⟩ (dq_ok8 [1, 1, 1] [] (dc_r (dc_r (dc_i dc_n))) dc_n (by decide +kernel)) (by decide +kernel) rfl q28 rfl ?_
      cases hh
      exact dq_ret0 (by decide +kernel) rfl
    · refine dq_2 .lt 10 false 52 q12 (by decide +kernel) ?_
      exact c263_52 hD hz _ _ _ _ _ g1 g2 hh
def b263_0 (L : Nat) (xs : Nat → Int32) (zf : Value) (D : dD) (w : Nat) (o0 : Option Nat) (o1 : Option Nat) (o2 : Option Nat) (h : rm_H) : Option dR :=
  (dgI L xs h 3 [14] o1).bind fun x1 =>
  if mx_f2 .lt x1 10 = true then
    if dnl o2 = true then
      b263_32 L xs zf D w o0 o1 o2 (-1) h
    else
      (dgR L xs h 1 [11] o2).bind fun p5 =>
      ((dcV L xs D 225 [2] o0 [va_rf p5] h).bind dxI).bind fun x7 =>
      b263_32 L xs zf D w o0 o1 o2 x7.1 x7.2
  else
    ((dcV L xs D 261 [2] o0 [va_rf o1, .int 3] h).bind dxV).bind fun h11 =>
    some (none, h11)
theorem c263_0 {L : Nat} {xs : Nat → Int32} {zf : Value} {D : dD} {w k : Nat} (hD : dO L xs zf D k) (hz : zf.category = 1) : ∀ (o0 : Option Nat) (o1 : Option Nat) (o2 : Option Nat) (lv : rm_L) (h : rm_H) (r : dR), rm_get lv 0 = some (va_rf o0) → rm_get lv 1 = some (va_rf o1) → rm_get lv 2 = some (va_rf o2) → b263_0 L xs zf D w  o0 o1 o2 h = some r → dq L xs zf ah_M263 0 lv [] h (k + 1) r := by
  intro o0 o1 o2 lv h r G0 G1 G2 hh
  unfold b263_0 at hh
  refine dq_aln 1 1 (by decide +kernel) rfl G1 ?_
  obtain ⟨x1, q2, hh⟩ := db hh
  refine dq_gI 92 3 [14] 4 (by decide +kernel) rfl q2 ?_
  refine dq_S (.bipush 10) 2 [] 6 _ [.int 10, .int x1] (by decide +kernel) rfl ?_
  rcases di hh with ⟨q3, hh⟩ | ⟨q3, hh⟩
  · refine dq_2 .lt 10 true 16 q3 (by decide +kernel) ?_
    refine dq_aln 2 17 (by decide +kernel) rfl G2 ?_
    rcases di hh with ⟨q4, hh⟩ | ⟨q4, hh⟩
    · refine dq_nnull 7 false 20 q4 (by decide +kernel) (by decide +kernel) ?_
      refine dq_S (.iconst (-1)) 1 [] 21 _ [.int (-1)] (by decide +kernel) rfl ?_
      refine dq_S (.goto 11) 3 [] 32 _ [.int (-1)] (by decide +kernel) rfl ?_
      exact c263_32 hD hz _ _ _ _ _ _ _ G0 G1 G2 hh
    · refine dq_nnull 7 true 24 q4 (by decide +kernel) (by decide +kernel) ?_
      refine dq_aln 0 25 (by decide +kernel) rfl G0 ?_
      refine dq_aln 2 26 (by decide +kernel) rfl G2 ?_
      obtain ⟨p5, q6, hh⟩ := db hh
      refine dq_gR 211 1 [11] 29 (by decide +kernel) rfl q6 ?_
      obtain ⟨x7, q8, hh⟩ := db hh
      obtain ⟨a9, q10, q8⟩ := db q8
      rw [dq_xI q8] at q10
      refine dq_cvi hD 74 225 5 1 [2] o0 [va_rf p5] [] 32 [.int x7.1] (by decide +kernel) ap_225 ⟨⟨Nat.le_of_ble_eq_true rfl, by decide⟩, rfl, rfl⟩ (dq_ok8 [1, 1] [] (dc_r (dc_r dc_n)) dc_n (by decide +kernel)) (by decide +kernel) rfl q10 rfl ?_
      exact c263_32 hD hz _ _ _ _ _ _ _ G0 G1 G2 hh
  · refine dq_2 .lt 10 false 9 q3 (by decide +kernel) ?_
    refine dq_aln 0 10 (by decide +kernel) rfl G0 ?_
    refine dq_aln 1 11 (by decide +kernel) rfl G1 ?_
    refine dq_S (.iconst 3) 1 [] 12 _ [.int 3, va_rf o1, va_rf o0] (by decide +kernel) rfl ?_
    obtain ⟨h11, q12, hh⟩ := db hh
    obtain ⟨a13, q14, q12⟩ := db q12
    rw [dq_xV q12] at q14
    refine dq_cvi hD 190 261 5 2 [2] o0 [va_rf o1, .int 3] [] 15 [] (by decide +kernel) ap_261 ⟨⟨Nat.le_of_ble_eq_true rfl, by decide⟩, rfl, rfl⟩ (dq_ok8 [1, 1, 1] [] (dc_r (dc_r (dc_i dc_n))) dc_n (by decide +kernel)) (by decide +kernel) rfl q14 rfl ?_
    cases hh
    exact dq_ret0 (by decide +kernel) rfl
def f263 (L : Nat) (xs : Nat → Int32) (zf : Value) (D : dD) (w : Nat) (As : List Value) (h : rm_H) : Option dR := match As with
  | [v0, v1, v2] => (rm_rf v0).bind fun o0 => (rm_rf v1).bind fun o1 => (rm_rf v2).bind fun o2 => b263_0 L xs zf D w o0 o1 o2 h
  | _ => none
theorem d263 {L : Nat} {xs : Nat → Int32} {zf : Value} {D : dD} {w k : Nat} (hD : dO L xs zf D k) (hz : zf.category = 1) (As : List Value) (h : rm_H) (r : dR) (hh : f263 L xs zf D w As h = some r) : dq L xs zf ah_M263 0 (lv_args 0 As) [] h (k + 1) r := by
  unfold f263 at hh
  split at hh
  · obtain ⟨o0, e0, hb0⟩ := db hh
    have e0 := rm_rf_v _ _ e0
    obtain ⟨o1, e1, hb1⟩ := db hb0
    have e1 := rm_rf_v _ _ e1
    obtain ⟨o2, e2, hb2⟩ := db hb1
    have e2 := rm_rf_v _ _ e2
    subst e0 e1 e2
    refine c263_0 hD hz _ _ _ _ _ _ ?_ ?_ ?_ hb2
    all_goals (simp only [la_r, la_i, la_j]; rfl)
  · cases hh
def b264_32 (L : Nat) (xs : Nat → Int32) (zf : Value) (D : dD) (w : Nat) (o0 : Option Nat) (o1 : Option Nat) (o2 : Option Nat) (s0 : Int32) (h : rm_H) : Option dR :=
  if mx_f2 .ne s0 (-1) = true then
    (dgR L xs h 1 [11] o2).bind fun p6 =>
    ((dcV L xs D 226 [2] o0 [va_rf p6, .int s0] h).bind dxR).bind fun p8 =>
    ((dcV L xs D 230 [2] o0 [va_rf p8.1, va_rf o2, va_rf o1] p8.2).bind dxV).bind fun h17 =>
    (dgI L xs h17 0 [14] p8.1).bind fun x21 =>
    ((dcV L xs D 243 [14] o1 [.int (x21 + 1)] h17).bind dxV).bind fun h23 =>
    some (none, h23)
  else
    ((dcV L xs D 261 [2] o0 [va_rf o1, .int 2] h).bind dxV).bind fun h27 =>
    some (none, h27)
theorem c264_32 {L : Nat} {xs : Nat → Int32} {zf : Value} {D : dD} {w k : Nat} (hD : dO L xs zf D k) (hz : zf.category = 1) : ∀ (o0 : Option Nat) (o1 : Option Nat) (o2 : Option Nat) (s0 : Int32) (lv : rm_L) (h : rm_H) (r : dR), rm_get lv 0 = some (va_rf o0) → rm_get lv 1 = some (va_rf o1) → rm_get lv 2 = some (va_rf o2) → b264_32 L xs zf D w  o0 o1 o2 s0 h = some r → dq L xs zf ah_M264 32 lv [.int s0] h (k + 1) r := by
  intro o0 o1 o2 s0 lv h r G0 G1 G2 hh
  unfold b264_32 at hh
  refine dq_isn 3 33 (by decide +kernel) (by decide +kernel) ?_
  have g1 := dg_ne (i := 3) (u := .int s0) (by decide) (Or.inl (by decide)) G0
  have g2 := dg_ne (i := 3) (u := .int s0) (by decide) (Or.inl (by decide)) G1
  have g3 := dg_ne (i := 3) (u := .int s0) (by decide) (Or.inr (drc _)) G2
  have g4 := dg_eq (lv) 3 (.int s0)
  refine dq_iln 3 34 (by decide +kernel) rfl g4 ?_
  refine dq_S (.iconst (-1)) 1 [] 35 _ [.int (-1), .int s0] (by decide +kernel) rfl ?_
  rcases di hh with ⟨q5, hh⟩ | ⟨q5, hh⟩
  · refine dq_2 .ne 10 true 45 q5 (by decide +kernel) ?_
    refine dq_aln 0 46 (by decide +kernel) rfl g1 ?_
    refine dq_aln 2 47 (by decide +kernel) rfl g3 ?_
    obtain ⟨p6, q7, hh⟩ := db hh
    refine dq_gR 211 1 [11] 50 (by decide +kernel) rfl q7 ?_
    refine dq_iln 3 51 (by decide +kernel) rfl g4 ?_
    obtain ⟨p8, q9, hh⟩ := db hh
    obtain ⟨a10, q11, q9⟩ := db q9
    rw [dq_xR q9] at q11
    refine dq_cvi hD 78 226 5 2 [2] o0 [va_rf p6, .int s0] [] 54 [va_rf p8.1] (by decide +kernel) ap_226 ⟨⟨Nat.le_of_ble_eq_true rfl, by decide⟩, rfl, rfl⟩ (dq_ok8 [1, 1, 1] [] (dc_r (dc_r (dc_i dc_n))) dc_n (by decide +kernel)) (by decide +kernel) rfl q11 rfl ?_
    refine dq_as 4 56 (by decide +kernel) (by decide +kernel) ?_
    have g12 := dg_ne (i := 4) (u := va_rf p8.1) (by decide) (Or.inl (by decide)) g1
    have g13 := dg_ne (i := 4) (u := va_rf p8.1) (by decide) (Or.inl (by decide)) g2
    have g14 := dg_ne (i := 4) (u := va_rf p8.1) (by decide) (Or.inl (by decide)) g3
    have g15 := dg_ne (i := 4) (u := va_rf p8.1) (by decide) (Or.inr rfl) g4
    have g16 := dg_eq (rm_set1 (lv) 3 (.int s0)) 4 (va_rf p8.1)
    refine dq_aln 0 57 (by decide +kernel) rfl g12 ?_
    refine dq_al 4 59 (by decide +kernel) rfl g16 ?_
    refine dq_aln 2 60 (by decide +kernel) rfl g14 ?_
    refine dq_aln 1 61 (by decide +kernel) rfl g13 ?_
    obtain ⟨h17, q18, hh⟩ := db hh
    obtain ⟨a19, q20, q18⟩ := db q18
    rw [dq_xV q18] at q20
    refine dq_cvi hD 88 230 5 3 [2] o0 [va_rf p8.1, va_rf o2, va_rf o1] [] 64 [] (by decide +kernel) ap_230 ⟨⟨Nat.le_of_ble_eq_true rfl, by decide⟩, rfl, rfl⟩ (dq_ok8 [1, 1, 1, 1] [] (dc_r (dc_r (dc_r (dc_r dc_n)))) dc_n (by decide +kernel)) (by decide +kernel) rfl q20 rfl ?_
    refine dq_aln 1 65 (by decide +kernel) rfl g13 ?_
    refine dq_al 4 67 (by decide +kernel) rfl g16 ?_
    obtain ⟨x21, q22, hh⟩ := db hh
    refine dq_gI 187 0 [14] 70 (by decide +kernel) rfl q22 ?_
    refine dq_S (.iconst 1) 1 [] 71 _ [.int 1, .int x21, va_rf o1] (by decide +kernel) rfl ?_
    refine dq_S (.iadd) 1 [] 72 _ [.int (x21 + 1), va_rf o1] (by decide +kernel) rfl ?_
    obtain ⟨h23, q24, hh⟩ := db hh
    obtain ⟨a25, q26, q24⟩ := db q24
    rw [dq_xV q24] at q26
    refine dq_cvi hD 131 243 5 1 [14] o1 [.int (x21 + 1)] [] 75 [] (by decide +kernel) ap_243 ⟨⟨Nat.le_of_ble_eq_true rfl, by decide⟩, rfl, rfl⟩ (dq_ok8 [1, 1] [] (dc_r (dc_i dc_n)) dc_n (by decide +kernel)) (by decide +kernel) rfl q26 rfl ?_
    cases hh
    exact dq_ret0 (by decide +kernel) rfl
  · refine dq_2 .ne 10 false 38 q5 (by decide +kernel) ?_
    refine dq_aln 0 39 (by decide +kernel) rfl g1 ?_
    refine dq_aln 1 40 (by decide +kernel) rfl g2 ?_
    refine dq_S (.iconst 2) 1 [] 41 _ [.int 2, va_rf o1, va_rf o0] (by decide +kernel) rfl ?_
    obtain ⟨h27, q28, hh⟩ := db hh
    obtain ⟨a29, q30, q28⟩ := db q28
    rw [dq_xV q28] at q30
    refine dq_cvi hD 190 261 5 2 [2] o0 [va_rf o1, .int 2] [] 44 [] (by decide +kernel) ap_261 ⟨⟨Nat.le_of_ble_eq_true rfl, by decide⟩, rfl, rfl⟩ (dq_ok8 [1, 1, 1] [] (dc_r (dc_r (dc_i dc_n))) dc_n (by decide +kernel)) (by decide +kernel) rfl q30 rfl ?_
    cases hh
    exact dq_ret0 (by decide +kernel) rfl
def b264_0 (L : Nat) (xs : Nat → Int32) (zf : Value) (D : dD) (w : Nat) (o0 : Option Nat) (o1 : Option Nat) (o2 : Option Nat) (h : rm_H) : Option dR :=
  (dgI L xs h 8 [2] o0).bind fun x1 =>
  if mx_f2 .lt x1 12 = true then
    if dnl o2 = true then
      b264_32 L xs zf D w o0 o1 o2 (-1) h
    else
      (dgR L xs h 1 [11] o2).bind fun p5 =>
      ((dcV L xs D 225 [2] o0 [va_rf p5] h).bind dxI).bind fun x7 =>
      b264_32 L xs zf D w o0 o1 o2 x7.1 x7.2
  else
    ((dcV L xs D 261 [2] o0 [va_rf o1, .int 4] h).bind dxV).bind fun h11 =>
    some (none, h11)
theorem c264_0 {L : Nat} {xs : Nat → Int32} {zf : Value} {D : dD} {w k : Nat} (hD : dO L xs zf D k) (hz : zf.category = 1) : ∀ (o0 : Option Nat) (o1 : Option Nat) (o2 : Option Nat) (lv : rm_L) (h : rm_H) (r : dR), rm_get lv 0 = some (va_rf o0) → rm_get lv 1 = some (va_rf o1) → rm_get lv 2 = some (va_rf o2) → b264_0 L xs zf D w  o0 o1 o2 h = some r → dq L xs zf ah_M264 0 lv [] h (k + 1) r := by
  intro o0 o1 o2 lv h r G0 G1 G2 hh
  unfold b264_0 at hh
  refine dq_aln 0 1 (by decide +kernel) rfl G0 ?_
  obtain ⟨x1, q2, hh⟩ := db hh
  refine dq_gI 34 8 [2] 4 (by decide +kernel) rfl q2 ?_
  refine dq_S (.bipush 12) 2 [] 6 _ [.int 12, .int x1] (by decide +kernel) rfl ?_
  rcases di hh with ⟨q3, hh⟩ | ⟨q3, hh⟩
  · refine dq_2 .lt 10 true 16 q3 (by decide +kernel) ?_
    refine dq_aln 2 17 (by decide +kernel) rfl G2 ?_
    rcases di hh with ⟨q4, hh⟩ | ⟨q4, hh⟩
    · refine dq_nnull 7 false 20 q4 (by decide +kernel) (by decide +kernel) ?_
      refine dq_S (.iconst (-1)) 1 [] 21 _ [.int (-1)] (by decide +kernel) rfl ?_
      refine dq_S (.goto 11) 3 [] 32 _ [.int (-1)] (by decide +kernel) rfl ?_
      exact c264_32 hD hz _ _ _ _ _ _ _ G0 G1 G2 hh
    · refine dq_nnull 7 true 24 q4 (by decide +kernel) (by decide +kernel) ?_
      refine dq_aln 0 25 (by decide +kernel) rfl G0 ?_
      refine dq_aln 2 26 (by decide +kernel) rfl G2 ?_
      obtain ⟨p5, q6, hh⟩ := db hh
      refine dq_gR 211 1 [11] 29 (by decide +kernel) rfl q6 ?_
      obtain ⟨x7, q8, hh⟩ := db hh
      obtain ⟨a9, q10, q8⟩ := db q8
      rw [dq_xI q8] at q10
      refine dq_cvi hD 74 225 5 1 [2] o0 [va_rf p5] [] 32 [.int x7.1] (by decide +kernel) ap_225 ⟨⟨Nat.le_of_ble_eq_true rfl, by decide⟩, rfl, rfl⟩ (dq_ok8 [1, 1] [] (dc_r (dc_r dc_n)) dc_n (by decide +kernel)) (by decide +kernel) rfl q10 rfl ?_
      exact c264_32 hD hz _ _ _ _ _ _ _ G0 G1 G2 hh
  · refine dq_2 .lt 10 false 9 q3 (by decide +kernel) ?_
    refine dq_aln 0 10 (by decide +kernel) rfl G0 ?_
    refine dq_aln 1 11 (by decide +kernel) rfl G1 ?_
    refine dq_S (.iconst 4) 1 [] 12 _ [.int 4, va_rf o1, va_rf o0] (by decide +kernel) rfl ?_
    obtain ⟨h11, q12, hh⟩ := db hh
    obtain ⟨a13, q14, q12⟩ := db q12
    rw [dq_xV q12] at q14
    refine dq_cvi hD 190 261 5 2 [2] o0 [va_rf o1, .int 4] [] 15 [] (by decide +kernel) ap_261 ⟨⟨Nat.le_of_ble_eq_true rfl, by decide⟩, rfl, rfl⟩ (dq_ok8 [1, 1, 1] [] (dc_r (dc_r (dc_i dc_n))) dc_n (by decide +kernel)) (by decide +kernel) rfl q14 rfl ?_
    cases hh
    exact dq_ret0 (by decide +kernel) rfl
def f264 (L : Nat) (xs : Nat → Int32) (zf : Value) (D : dD) (w : Nat) (As : List Value) (h : rm_H) : Option dR := match As with
  | [v0, v1, v2] => (rm_rf v0).bind fun o0 => (rm_rf v1).bind fun o1 => (rm_rf v2).bind fun o2 => b264_0 L xs zf D w o0 o1 o2 h
  | _ => none
theorem d264 {L : Nat} {xs : Nat → Int32} {zf : Value} {D : dD} {w k : Nat} (hD : dO L xs zf D k) (hz : zf.category = 1) (As : List Value) (h : rm_H) (r : dR) (hh : f264 L xs zf D w As h = some r) : dq L xs zf ah_M264 0 (lv_args 0 As) [] h (k + 1) r := by
  unfold f264 at hh
  split at hh
  · obtain ⟨o0, e0, hb0⟩ := db hh
    have e0 := rm_rf_v _ _ e0
    obtain ⟨o1, e1, hb1⟩ := db hb0
    have e1 := rm_rf_v _ _ e1
    obtain ⟨o2, e2, hb2⟩ := db hb1
    have e2 := rm_rf_v _ _ e2
    subst e0 e1 e2
    refine c264_0 hD hz _ _ _ _ _ _ ?_ ?_ ?_ hb2
    all_goals (simp only [la_r, la_i, la_j]; rfl)
  · cases hh
def b265_73 (L : Nat) (xs : Nat → Int32) (zf : Value) (D : dD) (w : Nat) (h : rm_H) : Option dR :=
  some (none, h)
theorem c265_73 {L : Nat} {xs : Nat → Int32} {zf : Value} {D : dD} {w k : Nat} (hD : dO L xs zf D k) (hz : zf.category = 1) : ∀ (lv : rm_L) (h : rm_H) (r : dR), b265_73 L xs zf D w  h = some r → dq L xs zf ah_M265 73 lv [] h (k + 1) r := by
  intro lv h r hh
  unfold b265_73 at hh
  cases hh
  exact dq_ret0 (by decide +kernel) rfl
def b265_123 (L : Nat) (xs : Nat → Int32) (zf : Value) (D : dD) (w : Nat) (h : rm_H) : Option dR :=
  some (none, h)
theorem c265_123 {L : Nat} {xs : Nat → Int32} {zf : Value} {D : dD} {w k : Nat} (hD : dO L xs zf D k) (hz : zf.category = 1) : ∀ (lv : rm_L) (h : rm_H) (r : dR), b265_123 L xs zf D w  h = some r → dq L xs zf ah_M265 123 lv [] h (k + 1) r := by
  intro lv h r hh
  unfold b265_123 at hh
  cases hh
  exact dq_ret0 (by decide +kernel) rfl
def b265_52 (L : Nat) (xs : Nat → Int32) (zf : Value) (D : dD) (w : Nat) (o0 : Option Nat) (o1 : Option Nat) (i2 : Int32) (i3 : Int32) (s0 : Int32) (h : rm_H) : Option dR :=
  if mx_f1 .lt (s0 + (i3 >>> ((1 : Int32) &&& 31))) = true then
    b265_73 L xs zf D w h
  else
    (dgR L xs h 0 [2] o0).bind fun p7 =>
    (daN L xs h p7).bind fun x9 =>
    if mx_f2 .lt (s0 + (i3 >>> ((1 : Int32) &&& 31))) x9 = true then
      if mx_f2 .ne i2 3 = true then
        (dgR L xs h 0 [2] o0).bind fun p13 =>
        (daI L xs h p13 (s0 + (i3 >>> ((1 : Int32) &&& 31)))).bind fun x15 =>
        (dgR L xs h 0 [2] o0).bind fun p23 =>
        ((dcV L xs D 234 [14] o1 [] h).bind dxI).bind fun x25 =>
        (dsI x25.2 p23 (s0 + (i3 >>> ((1 : Int32) &&& 31))) x25.1).bind fun h29 =>
        if mx_f2 .ne i2 10 = true then
          b265_123 L xs zf D w h29
        else
          ((dcV L xs D 243 [14] o1 [.int x15] h29).bind dxV).bind fun h32 =>
          b265_123 L xs zf D w h32
      else
        (dgR L xs h 0 [2] o0).bind fun p36 =>
        (daI L xs h p36 (s0 + (i3 >>> ((1 : Int32) &&& 31)))).bind fun x38 =>
        ((dcV L xs D 243 [14] o1 [.int x38] h).bind dxV).bind fun h40 =>
        some (none, h40)
    else
      b265_73 L xs zf D w h
theorem c265_52 {L : Nat} {xs : Nat → Int32} {zf : Value} {D : dD} {w k : Nat} (hD : dO L xs zf D k) (hz : zf.category = 1) : ∀ (o0 : Option Nat) (o1 : Option Nat) (i2 : Int32) (i3 : Int32) (s0 : Int32) (lv : rm_L) (h : rm_H) (r : dR), rm_get lv 0 = some (va_rf o0) → rm_get lv 1 = some (va_rf o1) → rm_get lv 2 = some (.int i2) → rm_get lv 3 = some (.int i3) → b265_52 L xs zf D w  o0 o1 i2 i3 s0 h = some r → dq L xs zf ah_M265 52 lv [.int s0] h (k + 1) r := by
  intro o0 o1 i2 i3 s0 lv h r G0 G1 G2 G3 hh
  unfold b265_52 at hh
  refine dq_iln 3 53 (by decide +kernel) rfl G3 ?_
  refine dq_S (.iconst 1) 1 [] 54 _ [.int 1, .int i3, .int s0] (by decide +kernel) rfl ?_
  refine dq_S (.ishr) 1 [] 55 _ [.int (i3 >>> ((1 : Int32) &&& 31)), .int s0] (by decide +kernel) rfl ?_
  refine dq_S (.iadd) 1 [] 56 _ [.int (s0 + (i3 >>> ((1 : Int32) &&& 31)))] (by decide +kernel) rfl ?_
  refine dq_is 6 58 (by decide +kernel) (by decide +kernel) ?_
  have g1 := dg_ne (i := 6) (u := .int (s0 + (i3 >>> ((1 : Int32) &&& 31)))) (by decide) (Or.inl (by decide)) G0
  have g2 := dg_ne (i := 6) (u := .int (s0 + (i3 >>> ((1 : Int32) &&& 31)))) (by decide) (Or.inl (by decide)) G1
  have g3 := dg_ne (i := 6) (u := .int (s0 + (i3 >>> ((1 : Int32) &&& 31)))) (by decide) (Or.inl (by decide)) G2
  have g4 := dg_ne (i := 6) (u := .int (s0 + (i3 >>> ((1 : Int32) &&& 31)))) (by decide) (Or.inl (by decide)) G3
  have g5 := dg_eq (lv) 6 (.int (s0 + (i3 >>> ((1 : Int32) &&& 31))))
  refine dq_il 6 60 (by decide +kernel) rfl g5 ?_
  rcases di hh with ⟨q6, hh⟩ | ⟨q6, hh⟩
  · refine dq_1 .lt 13 true 73 q6 (by decide +kernel) ?_
    exact c265_73 hD hz  _ _ _  hh
  · refine dq_1 .lt 13 false 63 q6 (by decide +kernel) ?_
    refine dq_il 6 65 (by decide +kernel) rfl g5 ?_
    refine dq_aln 0 66 (by decide +kernel) rfl g1 ?_
    obtain ⟨p7, q8, hh⟩ := db hh
    refine dq_gR 9 0 [2] 69 (by decide +kernel) rfl q8 ?_
    obtain ⟨x9, q10, hh⟩ := db hh
    refine dq_aN 70 (by decide +kernel) rfl q10 ?_
    rcases di hh with ⟨q11, hh⟩ | ⟨q11, hh⟩
    · refine dq_2 .lt 4 true 74 q11 (by decide +kernel) ?_
      refine dq_iln 2 75 (by decide +kernel) rfl g3 ?_
      refine dq_S (.iconst 3) 1 [] 76 _ [.int 3, .int i2] (by decide +kernel) rfl ?_
      rcases di hh with ⟨q12, hh⟩ | ⟨q12, hh⟩
      · refine dq_2 .ne 15 true 91 q12 (by decide +kernel) ?_
        refine dq_aln 0 92 (by decide +kernel) rfl g1 ?_
        obtain ⟨p13, q14, hh⟩ := db hh
        refine dq_gR 9 0 [2] 95 (by decide +kernel) rfl q14 ?_
        refine dq_il 6 97 (by decide +kernel) rfl g5 ?_
        obtain ⟨x15, q16, hh⟩ := db hh
        refine dq_aI 98 (by decide +kernel) rfl q16 ?_
        refine dq_is 7 100 (by decide +kernel) (by decide +kernel) ?_
        have g17 := dg_ne (i := 7) (u := .int x15) (by decide) (Or.inl (by decide)) g1
        have g18 := dg_ne (i := 7) (u := .int x15) (by decide) (Or.inl (by decide)) g2
        have g19 := dg_ne (i := 7) (u := .int x15) (by decide) (Or.inl (by decide)) g3
        have g20 := dg_ne (i := 7) (u := .int x15) (by decide) (Or.inl (by decide)) g4
        have g21 := dg_ne (i := 7) (u := .int x15) (by decide) (Or.inr rfl) g5
        have g22 := dg_eq (rm_set1 (lv) 6 (.int (s0 + (i3 >>> ((1 : Int32) &&& 31))))) 7 (.int x15)
        refine dq_aln 0 101 (by decide +kernel) rfl g17 ?_
        obtain ⟨p23, q24, hh⟩ := db hh
        refine dq_gR 9 0 [2] 104 (by decide +kernel) rfl q24 ?_
        refine dq_il 6 106 (by decide +kernel) rfl g21 ?_
        refine dq_aln 1 107 (by decide +kernel) rfl g18 ?_
        obtain ⟨x25, q26, hh⟩ := db hh
        obtain ⟨a27, q28, q26⟩ := db q26
        rw [dq_xI q26] at q28
        refine dq_cvi hD 140 234 5 0 [14] o1 [] [.int (s0 + (i3 >>> ((1 : Int32) &&& 31))), va_rf p23] 110 [.int x25.1, .int (s0 + (i3 >>> ((1 : Int32) &&& 31))), va_rf p23] (by decide +kernel) ap_234 ⟨⟨Nat.le_of_ble_eq_true rfl, by decide⟩, rfl, rfl⟩ (dq_ok8 [1] [1, 1] (dc_r dc_n) (dc_i (dc_r dc_n)) (by decide +kernel)) (by decide +kernel) rfl q28 rfl ?_
        obtain ⟨h29, q30, hh⟩ := db hh
        refine dq_sI 111 (by decide +kernel) rfl q30 ?_
        refine dq_iln 2 112 (by decide +kernel) rfl g19 ?_
        refine dq_S (.bipush 10) 2 [] 114 _ [.int 10, .int i2] (by decide +kernel) rfl ?_
        rcases di hh with ⟨q31, hh⟩ | ⟨q31, hh⟩
        · refine dq_2 .ne 9 true 123 q31 (by decide +kernel) ?_
          exact c265_123 hD hz  _ _ _  hh
        · refine dq_2 .ne 9 false 117 q31 (by decide +kernel) ?_
          refine dq_aln 1 118 (by decide +kernel) rfl g18 ?_
          refine dq_il 7 120 (by decide +kernel) rfl g22 ?_
          obtain ⟨h32, q33, hh⟩ := db hh
          obtain ⟨a34, q35, q33⟩ := db q33
          rw [dq_xV q33] at q35
          refine dq_cvi hD 131 243 5 1 [14] o1 [.int x15] [] 123 [] (by decide +kernel) ap_243 ⟨⟨Nat.le_of_ble_eq_true rfl, by decide⟩, rfl, rfl⟩ (dq_ok8 [1, 1] [] (dc_r (dc_i dc_n)) dc_n (by decide +kernel)) (by decide +kernel) rfl q35 rfl ?_
          exact c265_123 hD hz  _ _ _  hh
      · refine dq_2 .ne 15 false 79 q12 (by decide +kernel) ?_
        refine dq_aln 1 80 (by decide +kernel) rfl g2 ?_
        refine dq_aln 0 81 (by decide +kernel) rfl g1 ?_
        obtain ⟨p36, q37, hh⟩ := db hh
        refine dq_gR 9 0 [2] 84 (by decide +kernel) rfl q37 ?_
        refine dq_il 6 86 (by decide +kernel) rfl g5 ?_
        obtain ⟨x38, q39, hh⟩ := db hh
        refine dq_aI 87 (by decide +kernel) rfl q39 ?_
        obtain ⟨h40, q41, hh⟩ := db hh
        obtain ⟨a42, q43, q41⟩ := db q41
        rw [dq_xV q41] at q43
        refine dq_cvi hD 131 243 5 1 [14] o1 [.int x38] [] 90 [] (by decide +kernel) ap_243 ⟨⟨Nat.le_of_ble_eq_true rfl, by decide⟩, rfl, rfl⟩ (dq_ok8 [1, 1] [] (dc_r (dc_i dc_n)) dc_n (by decide +kernel)) (by decide +kernel) rfl q43 rfl ?_
        cases hh
        exact dq_ret0 (by decide +kernel) rfl
    · refine dq_2 .lt 4 false 73 q11 (by decide +kernel) ?_
      exact c265_73 hD hz  _ _ _  hh
def b265_12 (L : Nat) (xs : Nat → Int32) (zf : Value) (D : dD) (w : Nat) (o0 : Option Nat) (o1 : Option Nat) (i2 : Int32) (i3 : Int32) (s0 : Int32) (h : rm_H) : Option dR :=
  ((dcV L xs D 234 [14] o1 [] h).bind dxI).bind fun x6 =>
  if mx_f1 .ne x6.1 = true then
    if mx_f1 .eq s0 = true then
      ((dcV L xs D 266 [2] o0 [.int x6.1] x6.2).bind dxI).bind fun x18 =>
      b265_52 L xs zf D w o0 o1 i2 i3 x18.1 x18.2
    else
      (dgI L xs x6.2 2 [14] o1).bind fun x22 =>
      b265_52 L xs zf D w o0 o1 i2 i3 (x22 + 1) x6.2
  else
    ((dcV L xs D 261 [2] o0 [va_rf o1, .int 1] x6.2).bind dxV).bind fun h24 =>
    some (none, h24)
theorem c265_12 {L : Nat} {xs : Nat → Int32} {zf : Value} {D : dD} {w k : Nat} (hD : dO L xs zf D k) (hz : zf.category = 1) : ∀ (o0 : Option Nat) (o1 : Option Nat) (i2 : Int32) (i3 : Int32) (s0 : Int32) (lv : rm_L) (h : rm_H) (r : dR), rm_get lv 0 = some (va_rf o0) → rm_get lv 1 = some (va_rf o1) → rm_get lv 2 = some (.int i2) → rm_get lv 3 = some (.int i3) → b265_12 L xs zf D w  o0 o1 i2 i3 s0 h = some r → dq L xs zf ah_M265 12 lv [.int s0] h (k + 1) r := by
  intro o0 o1 i2 i3 s0 lv h r G0 G1 G2 G3 hh
  unfold b265_12 at hh
  refine dq_is 4 14 (by decide +kernel) (by decide +kernel) ?_
  have g1 := dg_ne (i := 4) (u := .int s0) (by decide) (Or.inl (by decide)) G0
  have g2 := dg_ne (i := 4) (u := .int s0) (by decide) (Or.inl (by decide)) G1
  have g3 := dg_ne (i := 4) (u := .int s0) (by decide) (Or.inl (by decide)) G2
  have g4 := dg_ne (i := 4) (u := .int s0) (by decide) (Or.inr rfl) G3
  have g5 := dg_eq (lv) 4 (.int s0)
  refine dq_aln 1 15 (by decide +kernel) rfl g2 ?_
  obtain ⟨x6, q7, hh⟩ := db hh
  obtain ⟨a8, q9, q7⟩ := db q7
  rw [dq_xI q7] at q9
  refine dq_cvi hD 140 234 5 0 [14] o1 [] [] 18 [.int x6.1] (by decide +kernel) ap_234 ⟨⟨Nat.le_of_ble_eq_true rfl, by decide⟩, rfl, rfl⟩ (dq_ok8 [1] [] (dc_r dc_n) dc_n (by decide +kernel)) (by decide +kernel) rfl q9 rfl ?_
  refine dq_is 5 20 (by decide +kernel) (by decide +kernel) ?_
  have g10 := dg_ne (i := 5) (u := .int x6.1) (by decide) (Or.inl (by decide)) g1
  have g11 := dg_ne (i := 5) (u := .int x6.1) (by decide) (Or.inl (by decide)) g2
  have g12 := dg_ne (i := 5) (u := .int x6.1) (by decide) (Or.inl (by decide)) g3
  have g13 := dg_ne (i := 5) (u := .int x6.1) (by decide) (Or.inl (by decide)) g4
  have g14 := dg_ne (i := 5) (u := .int x6.1) (by decide) (Or.inr rfl) g5
  have g15 := dg_eq (rm_set1 (lv) 4 (.int s0)) 5 (.int x6.1)
  refine dq_il 5 22 (by decide +kernel) rfl g15 ?_
  rcases di hh with ⟨q16, hh⟩ | ⟨q16, hh⟩
  · refine dq_1 .ne 10 true 32 q16 (by decide +kernel) ?_
    refine dq_il 4 34 (by decide +kernel) rfl g14 ?_
    rcases di hh with ⟨q17, hh⟩ | ⟨q17, hh⟩
    · refine dq_1 .eq 12 true 46 q17 (by decide +kernel) ?_
      refine dq_aln 0 47 (by decide +kernel) rfl g10 ?_
      refine dq_il 5 49 (by decide +kernel) rfl g15 ?_
      obtain ⟨x18, q19, hh⟩ := db hh
      obtain ⟨a20, q21, q19⟩ := db q19
      rw [dq_xI q19] at q21
      refine dq_cvi hD 196 266 5 1 [2] o0 [.int x6.1] [] 52 [.int x18.1] (by decide +kernel) ap_266 ⟨⟨Nat.le_of_ble_eq_true rfl, by decide⟩, rfl, rfl⟩ (dq_ok8 [1, 1] [] (dc_r (dc_i dc_n)) dc_n (by decide +kernel)) (by decide +kernel) rfl q21 rfl ?_
      exact c265_52 hD hz _ _ _ _ _ _ _ _ g10 g11 g12 g13 hh
    · refine dq_1 .eq 12 false 37 q17 (by decide +kernel) ?_
      refine dq_aln 1 38 (by decide +kernel) rfl g11 ?_
      obtain ⟨x22, q23, hh⟩ := db hh
      refine dq_gI 193 2 [14] 41 (by decide +kernel) rfl q23 ?_
      refine dq_S (.iconst 1) 1 [] 42 _ [.int 1, .int x22] (by decide +kernel) rfl ?_
      refine dq_S (.iadd) 1 [] 43 _ [.int (x22 + 1)] (by decide +kernel) rfl ?_
      refine dq_S (.goto 9) 3 [] 52 _ [.int (x22 + 1)] (by decide +kernel) rfl ?_
      exact c265_52 hD hz _ _ _ _ _ _ _ _ g10 g11 g12 g13 hh
  · refine dq_1 .ne 10 false 25 q16 (by decide +kernel) ?_
    refine dq_aln 0 26 (by decide +kernel) rfl g10 ?_
    refine dq_aln 1 27 (by decide +kernel) rfl g11 ?_
    refine dq_S (.iconst 1) 1 [] 28 _ [.int 1, va_rf o1, va_rf o0] (by decide +kernel) rfl ?_
    obtain ⟨h24, q25, hh⟩ := db hh
    obtain ⟨a26, q27, q25⟩ := db q25
    rw [dq_xV q25] at q27
    refine dq_cvi hD 190 261 5 2 [2] o0 [va_rf o1, .int 1] [] 31 [] (by decide +kernel) ap_261 ⟨⟨Nat.le_of_ble_eq_true rfl, by decide⟩, rfl, rfl⟩ (dq_ok8 [1, 1, 1] [] (dc_r (dc_r (dc_i dc_n))) dc_n (by decide +kernel)) (by decide +kernel) rfl q27 rfl ?_
    cases hh
    exact dq_ret0 (by decide +kernel) rfl
def b265_0 (L : Nat) (xs : Nat → Int32) (zf : Value) (D : dD) (w : Nat) (o0 : Option Nat) (o1 : Option Nat) (i2 : Int32) (i3 : Int32) (h : rm_H) : Option dR :=
  if mx_f2 .ne (i3 &&& 1) 1 = true then
    b265_12 L xs zf D w o0 o1 i2 i3 0 h
  else
    b265_12 L xs zf D w o0 o1 i2 i3 1 h
theorem c265_0 {L : Nat} {xs : Nat → Int32} {zf : Value} {D : dD} {w k : Nat} (hD : dO L xs zf D k) (hz : zf.category = 1) : ∀ (o0 : Option Nat) (o1 : Option Nat) (i2 : Int32) (i3 : Int32) (lv : rm_L) (h : rm_H) (r : dR), rm_get lv 0 = some (va_rf o0) → rm_get lv 1 = some (va_rf o1) → rm_get lv 2 = some (.int i2) → rm_get lv 3 = some (.int i3) → b265_0 L xs zf D w  o0 o1 i2 i3 h = some r → dq L xs zf ah_M265 0 lv [] h (k + 1) r := by
  intro o0 o1 i2 i3 lv h r G0 G1 G2 G3 hh
  unfold b265_0 at hh
  refine dq_iln 3 1 (by decide +kernel) rfl G3 ?_
  refine dq_S (.iconst 1) 1 [] 2 _ [.int 1, .int i3] (by decide +kernel) rfl ?_
  refine dq_S (.iand) 1 [] 3 _ [.int (i3 &&& 1)] (by decide +kernel) rfl ?_
  refine dq_S (.iconst 1) 1 [] 4 _ [.int 1, .int (i3 &&& 1)] (by decide +kernel) rfl ?_
  rcases di hh with ⟨q1, hh⟩ | ⟨q1, hh⟩
  · refine dq_2 .ne 7 true 11 q1 (by decide +kernel) ?_
    refine dq_S (.iconst 0) 1 [] 12 _ [.int 0] (by decide +kernel) rfl ?_
    exact c265_12 hD hz _ _ _ _ _ _ _ _ G0 G1 G2 G3 hh
  · refine dq_2 .ne 7 false 7 q1 (by decide +kernel) ?_
    refine dq_S (.iconst 1) 1 [] 8 _ [.int 1] (by decide +kernel) rfl ?_
    refine dq_S (.goto 4) 3 [] 12 _ [.int 1] (by decide +kernel) rfl ?_
    exact c265_12 hD hz _ _ _ _ _ _ _ _ G0 G1 G2 G3 hh
def f265 (L : Nat) (xs : Nat → Int32) (zf : Value) (D : dD) (w : Nat) (As : List Value) (h : rm_H) : Option dR := match As with
  | [v0, v1, .int i2, .int i3] => (rm_rf v0).bind fun o0 => (rm_rf v1).bind fun o1 => b265_0 L xs zf D w o0 o1 i2 i3 h
  | _ => none
theorem d265 {L : Nat} {xs : Nat → Int32} {zf : Value} {D : dD} {w k : Nat} (hD : dO L xs zf D k) (hz : zf.category = 1) (As : List Value) (h : rm_H) (r : dR) (hh : f265 L xs zf D w As h = some r) : dq L xs zf ah_M265 0 (lv_args 0 As) [] h (k + 1) r := by
  unfold f265 at hh
  split at hh
  · obtain ⟨o0, e0, hb0⟩ := db hh
    have e0 := rm_rf_v _ _ e0
    obtain ⟨o1, e1, hb1⟩ := db hb0
    have e1 := rm_rf_v _ _ e1
    subst e0 e1
    refine c265_0 hD hz _ _ _ _ _ _ _ ?_ ?_ ?_ ?_ hb1
    all_goals (simp only [la_r, la_i, la_j]; rfl)
  · cases hh
