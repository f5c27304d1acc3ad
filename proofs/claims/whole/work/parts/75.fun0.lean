def b218_22 (L : Nat) (xs : Nat → Int32) (zf : Value) (D : dD) (w : Nat) (s0 : Int32) (h : rm_H) : Option dR :=
  drI (some .int) s0 h
theorem c218_22 {L : Nat} {xs : Nat → Int32} {zf : Value} {D : dD} {w k : Nat} (hD : dO L xs zf D k) (hz : zf.category = 1) : ∀ (s0 : Int32) (lv : rm_L) (h : rm_H) (r : dR), b218_22 L xs zf D w  s0 h = some r → dq L xs zf ah_M218 22 lv [.int s0] h (k + 1) r := by
  intro s0 lv h r hh
  unfold b218_22 at hh
  exact dq_retI (some .int) (by decide +kernel) rfl hh
def b218_0 (L : Nat) (xs : Nat → Int32) (zf : Value) (D : dD) (w : Nat) (o0 : Option Nat) (i1 : Int32) (h : rm_H) : Option dR :=
  if mx_f1 .ne i1 = true then
    if mx_f2 .ne i1 1 = true then
      b218_22 L xs zf D w (-1) h
    else
      (dgI L xs h 5 [0] o0).bind fun x3 =>
      b218_22 L xs zf D w x3 h
  else
    (dgI L xs h 4 [0] o0).bind fun x5 =>
    drI (some .int) x5 h
theorem c218_0 {L : Nat} {xs : Nat → Int32} {zf : Value} {D : dD} {w k : Nat} (hD : dO L xs zf D k) (hz : zf.category = 1) : ∀ (o0 : Option Nat) (i1 : Int32) (lv : rm_L) (h : rm_H) (r : dR), rm_get lv 0 = some (va_rf o0) → rm_get lv 1 = some (.int i1) → b218_0 L xs zf D w  o0 i1 h = some r → dq L xs zf ah_M218 0 lv [] h (k + 1) r := by
  intro o0 i1 lv h r G0 G1 hh
  unfold b218_0 at hh
  refine dq_iln 1 1 (by decide +kernel) rfl G1 ?_
  rcases di hh with ⟨q1, hh⟩ | ⟨q1, hh⟩
  · refine dq_1 .ne 8 true 9 q1 (by decide +kernel) ?_
    refine dq_iln 1 10 (by decide +kernel) rfl G1 ?_
    refine dq_S (.iconst 1) 1 [] 11 _ [.int 1, .int i1] (by decide +kernel) rfl ?_
    rcases di hh with ⟨q2, hh⟩ | ⟨q2, hh⟩
    · refine dq_2 .ne 10 true 21 q2 (by decide +kernel) ?_
      refine dq_S (.iconst (-1)) 1 [] 22 _ [.int (-1)] (by decide +kernel) rfl ?_
      exact c218_22 hD hz _ _ _ _  hh
    · refine dq_2 .ne 10 false 14 q2 (by decide +kernel) ?_
      refine dq_aln 0 15 (by decide +kernel) rfl G0 ?_
      obtain ⟨x3, q4, hh⟩ := db hh
      refine dq_gI 38 5 [0] 18 (by decide +kernel) rfl q4 ?_
      refine dq_S (.goto 4) 3 [] 22 _ [.int x3] (by decide +kernel) rfl ?_
      exact c218_22 hD hz _ _ _ _  hh
  · refine dq_1 .ne 8 false 4 q1 (by decide +kernel) ?_
    refine dq_aln 0 5 (by decide +kernel) rfl G0 ?_
    obtain ⟨x5, q6, hh⟩ := db hh
    refine dq_gI 34 4 [0] 8 (by decide +kernel) rfl q6 ?_
    exact dq_retI (some .int) (by decide +kernel) rfl hh
def f218 (L : Nat) (xs : Nat → Int32) (zf : Value) (D : dD) (w : Nat) (As : List Value) (h : rm_H) : Option dR := match As with
  | [v0, .int i1] => (rm_rf v0).bind fun o0 => b218_0 L xs zf D w o0 i1 h
  | _ => none
theorem d218 {L : Nat} {xs : Nat → Int32} {zf : Value} {D : dD} {w k : Nat} (hD : dO L xs zf D k) (hz : zf.category = 1) (As : List Value) (h : rm_H) (r : dR) (hh : f218 L xs zf D w As h = some r) : dq L xs zf ah_M218 0 (lv_args 0 As) [] h (k + 1) r := by
  unfold f218 at hh
  split at hh
  · obtain ⟨o0, e0, hb0⟩ := db hh
    have e0 := rm_rf_v _ _ e0
    subst e0
    refine c218_0 hD hz _ _ _ _ _ ?_ ?_ hb0
    all_goals (simp only [la_r, la_i, la_j]; rfl)
  · cases hh
def b236_22 (L : Nat) (xs : Nat → Int32) (zf : Value) (D : dD) (w : Nat) (s0 : Option Nat) (h : rm_H) : Option dR :=
  some (some (va_rf s0), h)
theorem c236_22 {L : Nat} {xs : Nat → Int32} {zf : Value} {D : dD} {w k : Nat} (hD : dO L xs zf D k) (hz : zf.category = 1) : ∀ (s0 : Option Nat) (lv : rm_L) (h : rm_H) (r : dR), b236_22 L xs zf D w  s0 h = some r → dq L xs zf ah_M236 22 lv [va_rf s0] h (k + 1) r := by
  intro s0 lv h r hh
  unfold b236_22 at hh
  cases hh
  exact dq_retR (by decide +kernel) rfl
def b236_12 (L : Nat) (xs : Nat → Int32) (zf : Value) (D : dD) (w : Nat) (h : rm_H) : Option dR :=
  b236_22 L xs zf D w none h
theorem c236_12 {L : Nat} {xs : Nat → Int32} {zf : Value} {D : dD} {w k : Nat} (hD : dO L xs zf D k) (hz : zf.category = 1) : ∀ (lv : rm_L) (h : rm_H) (r : dR), b236_12 L xs zf D w  h = some r → dq L xs zf ah_M236 12 lv [] h (k + 1) r := by
  intro lv h r hh
  unfold b236_12 at hh
  refine dq_S (.aconst_null) 1 [] 13 _ [va_rf none] (by decide +kernel) rfl ?_
  refine dq_S (.goto 9) 3 [] 22 _ [va_rf none] (by decide +kernel) rfl ?_
  exact c236_22 hD hz _ _ _ _  hh
def b236_0 (L : Nat) (xs : Nat → Int32) (zf : Value) (D : dD) (w : Nat) (o0 : Option Nat) (i1 : Int32) (h : rm_H) : Option dR :=
  if mx_f1 .lt i1 = true then
    b236_12 L xs zf D w h
  else
    (dgI L xs h 8 [2] o0).bind fun x2 =>
    if mx_f2 .lt i1 x2 = true then
      (dgR L xs h 2 [2] o0).bind fun p5 =>
      (daR L xs h p5 i1).bind fun p7 =>
      b236_22 L xs zf D w p7 h
    else
      b236_12 L xs zf D w h
theorem c236_0 {L : Nat} {xs : Nat → Int32} {zf : Value} {D : dD} {w k : Nat} (hD : dO L xs zf D k) (hz : zf.category = 1) : ∀ (o0 : Option Nat) (i1 : Int32) (lv : rm_L) (h : rm_H) (r : dR), rm_get lv 0 = some (va_rf o0) → rm_get lv 1 = some (.int i1) → b236_0 L xs zf D w  o0 i1 h = some r → dq L xs zf ah_M236 0 lv [] h (k + 1) r := by
  intro o0 i1 lv h r G0 G1 hh
  unfold b236_0 at hh
  refine dq_iln 1 1 (by decide +kernel) rfl G1 ?_
  rcases di hh with ⟨q1, hh⟩ | ⟨q1, hh⟩
  · refine dq_1 .lt 11 true 12 q1 (by decide +kernel) ?_
    exact c236_12 hD hz  _ _ _  hh
  · refine dq_1 .lt 11 false 4 q1 (by decide +kernel) ?_
    refine dq_iln 1 5 (by decide +kernel) rfl G1 ?_
    refine dq_aln 0 6 (by decide +kernel) rfl G0 ?_
    obtain ⟨x2, q3, hh⟩ := db hh
    refine dq_gI 34 8 [2] 9 (by decide +kernel) rfl q3 ?_
    rcases di hh with ⟨q4, hh⟩ | ⟨q4, hh⟩
    · refine dq_2 .lt 7 true 16 q4 (by decide +kernel) ?_
      refine dq_aln 0 17 (by decide +kernel) rfl G0 ?_
      obtain ⟨p5, q6, hh⟩ := db hh
      refine dq_gR 20 2 [2] 20 (by decide +kernel) rfl q6 ?_
      refine dq_iln 1 21 (by decide +kernel) rfl G1 ?_
      obtain ⟨p7, q8, hh⟩ := db hh
      refine dq_aR 22 (by decide +kernel) rfl q8 ?_
      exact c236_22 hD hz _ _ _ _  hh
    · refine dq_2 .lt 7 false 12 q4 (by decide +kernel) ?_
      exact c236_12 hD hz  _ _ _  hh
def f236 (L : Nat) (xs : Nat → Int32) (zf : Value) (D : dD) (w : Nat) (As : List Value) (h : rm_H) : Option dR := match As with
  | [v0, .int i1] => (rm_rf v0).bind fun o0 => b236_0 L xs zf D w o0 i1 h
  | _ => none
theorem d236 {L : Nat} {xs : Nat → Int32} {zf : Value} {D : dD} {w k : Nat} (hD : dO L xs zf D k) (hz : zf.category = 1) (As : List Value) (h : rm_H) (r : dR) (hh : f236 L xs zf D w As h = some r) : dq L xs zf ah_M236 0 (lv_args 0 As) [] h (k + 1) r := by
  unfold f236 at hh
  split at hh
  · obtain ⟨o0, e0, hb0⟩ := db hh
    have e0 := rm_rf_v _ _ e0
    subst e0
    refine c236_0 hD hz _ _ _ _ _ ?_ ?_ hb0
    all_goals (simp only [la_r, la_i, la_j]; rfl)
  · cases hh
def b60_0 (L : Nat) (xs : Nat → Int32) (zf : Value) (D : dD) (w : Nat) (o0 : Option Nat) (h : rm_H) : Option dR :=
  (dgR L xs h 0 [7, 16] o0).bind fun p1 =>
  (daN L xs h p1).bind fun x3 =>
  ((dcV L xs D 61 [7, 16] o0 [] h).bind dxI).bind fun x5 =>
  drI (some .int) (x3 >>> (x5.1 &&& 31)) x5.2
theorem c60_0 {L : Nat} {xs : Nat → Int32} {zf : Value} {D : dD} {w k : Nat} (hD : dO L xs zf D k) (hz : zf.category = 1) : ∀ (o0 : Option Nat) (lv : rm_L) (h : rm_H) (r : dR), rm_get lv 0 = some (va_rf o0) → b60_0 L xs zf D w  o0 h = some r → dq L xs zf ah_M60 0 lv [] h (k + 1) r := by
  intro o0 lv h r G0 hh
  unfold b60_0 at hh
  refine dq_aln 0 1 (by decide +kernel) rfl G0 ?_
  obtain ⟨p1, q2, hh⟩ := db hh
  refine dq_gR 9 0 [7, 16] 4 (by decide +kernel) rfl q2 ?_
  obtain ⟨x3, q4, hh⟩ := db hh
  refine dq_aN 5 (by decide +kernel) rfl q4 ?_
  refine dq_aln 0 6 (by decide +kernel) rfl G0 ?_
  obtain ⟨x5, q6, hh⟩ := db hh
  obtain ⟨a7, q8, q6⟩ := db q6
  rw [dq_xI q6] at q8
  refine dq_cvi hD 335 61 5 0 [7, 16] o0 [] [.int x3] 9 [.int x5.1, .int x3] (by decide +kernel) ap_61 ⟨⟨Nat.le_of_ble_eq_true rfl, by decide⟩, rfl, rfl⟩ (dq_ok8 [1] [1] (dc_r dc_n) (dc_i dc_n) (by decide +kernel)) (by decide +kernel) rfl q8 rfl ?_
  refine dq_S (.ishr) 1 [] 10 _ [.int (x3 >>> (x5.1 &&& 31))] (by decide +kernel) rfl ?_
  exact dq_retI (some .int) (by decide +kernel) rfl hh
def f60 (L : Nat) (xs : Nat → Int32) (zf : Value) (D : dD) (w : Nat) (As : List Value) (h : rm_H) : Option dR := match As with
  | [v0] => (rm_rf v0).bind fun o0 => b60_0 L xs zf D w o0 h
  | _ => none
theorem d60 {L : Nat} {xs : Nat → Int32} {zf : Value} {D : dD} {w k : Nat} (hD : dO L xs zf D k) (hz : zf.category = 1) (As : List Value) (h : rm_H) (r : dR) (hh : f60 L xs zf D w As h = some r) : dq L xs zf ah_M60 0 (lv_args 0 As) [] h (k + 1) r := by
  unfold f60 at hh
  split at hh
  · obtain ⟨o0, e0, hb0⟩ := db hh
    have e0 := rm_rf_v _ _ e0
    subst e0
    refine c60_0 hD hz _ _ _ _ ?_ hb0
    all_goals (simp only [la_r, la_i, la_j]; rfl)
  · cases hh
def b67_100 (L : Nat) (xs : Nat → Int32) (zf : Value) (D : dD) (w : Nat) (s0 : Int32) (h : rm_H) : Option dR :=
  drI (some .int) s0 h
theorem c67_100 {L : Nat} {xs : Nat → Int32} {zf : Value} {D : dD} {w k : Nat} (hD : dO L xs zf D k) (hz : zf.category = 1) : ∀ (s0 : Int32) (lv : rm_L) (h : rm_H) (r : dR), b67_100 L xs zf D w  s0 h = some r → dq L xs zf ah_M67 100 lv [.int s0] h (k + 1) r := by
  intro s0 lv h r hh
  unfold b67_100 at hh
  exact dq_retI (some .int) (by decide +kernel) rfl hh
def b67_86 (L : Nat) (xs : Nat → Int32) (zf : Value) (D : dD) (w : Nat) (i2 : Int32) (s0 : Int32) (h : rm_H) : Option dR :=
  if mx_f1 .eq s0 = true then
    b67_100 L xs zf D w (i2 + 1) h
  else
    b67_100 L xs zf D w (i2 + 2) h
theorem c67_86 {L : Nat} {xs : Nat → Int32} {zf : Value} {D : dD} {w k : Nat} (hD : dO L xs zf D k) (hz : zf.category = 1) : ∀ (i2 : Int32) (s0 : Int32) (lv : rm_L) (h : rm_H) (r : dR), rm_get lv 2 = some (.int i2) → b67_86 L xs zf D w  i2 s0 h = some r → dq L xs zf ah_M67 86 lv [.int s0] h (k + 1) r := by
  intro i2 s0 lv h r G2 hh
  unfold b67_86 at hh
  refine dq_isn 3 87 (by decide +kernel) (by decide +kernel) ?_
  have g1 := dg_ne (i := 3) (u := .int s0) (by decide) (Or.inr rfl) G2
  have g2 := dg_eq (lv) 3 (.int s0)
  refine dq_iln 3 88 (by decide +kernel) rfl g2 ?_
  rcases di hh with ⟨q3, hh⟩ | ⟨q3, hh⟩
  · refine dq_1 .eq 9 true 97 q3 (by decide +kernel) ?_
    refine dq_iln 2 98 (by decide +kernel) rfl g1 ?_
    refine dq_S (.iconst 1) 1 [] 99 _ [.int 1, .int i2] (by decide +kernel) rfl ?_
    refine dq_S (.iadd) 1 [] 100 _ [.int (i2 + 1)] (by decide +kernel) rfl ?_
    exact c67_100 hD hz _ _ _ _  hh
  · refine dq_1 .eq 9 false 91 q3 (by decide +kernel) ?_
    refine dq_iln 2 92 (by decide +kernel) rfl g1 ?_
    refine dq_S (.iconst 2) 1 [] 93 _ [.int 2, .int i2] (by decide +kernel) rfl ?_
    refine dq_S (.iadd) 1 [] 94 _ [.int (i2 + 2)] (by decide +kernel) rfl ?_
    refine dq_S (.goto 6) 3 [] 100 _ [.int (i2 + 2)] (by decide +kernel) rfl ?_
    exact c67_100 hD hz _ _ _ _  hh
def b67_85 (L : Nat) (xs : Nat → Int32) (zf : Value) (D : dD) (w : Nat) (i2 : Int32) (h : rm_H) : Option dR :=
  b67_86 L xs zf D w i2 0 h
theorem c67_85 {L : Nat} {xs : Nat → Int32} {zf : Value} {D : dD} {w k : Nat} (hD : dO L xs zf D k) (hz : zf.category = 1) : ∀ (i2 : Int32) (lv : rm_L) (h : rm_H) (r : dR), rm_get lv 2 = some (.int i2) → b67_85 L xs zf D w  i2 h = some r → dq L xs zf ah_M67 85 lv [] h (k + 1) r := by
  intro i2 lv h r G2 hh
  unfold b67_85 at hh
  refine dq_S (.iconst 0) 1 [] 86 _ [.int 0] (by decide +kernel) rfl ?_
  exact c67_86 hD hz _ _ _ _ _ G2 hh
def b67_33 (L : Nat) (xs : Nat → Int32) (zf : Value) (D : dD) (w : Nat) (o0 : Option Nat) (i1 : Int32) (i2 : Int32) (h : rm_H) : Option dR :=
  if mx_f2 .le i2 i1 = true then
    (dgR L xs h 0 [6] o0).bind fun p2 =>
    ((dcV L xs D 63 [7, 16] p2 [.int i2] h).bind dxI).bind fun x4 =>
    if mx_f2 .ne x4.1 61 = true then
      b67_85 L xs zf D w i2 x4.2
    else
      (dgR L xs x4.2 0 [6] o0).bind fun p9 =>
      ((dcV L xs D 60 [7, 16] p9 [] x4.2).bind dxI).bind fun x11 =>
      if mx_f2 .ge (i2 + 1) x11.1 = true then
        b67_85 L xs zf D w i2 x11.2
      else
        (dgR L xs x11.2 0 [6] o0).bind fun p16 =>
        ((dcV L xs D 63 [7, 16] p16 [.int (i2 + 1)] x11.2).bind dxI).bind fun x18 =>
        if mx_f2 .ne x18.1 61 = true then
          b67_85 L xs zf D w i2 x18.2
        else
          b67_86 L xs zf D w i2 1 x18.2
  else
    drI (some .int) i2 h
theorem c67_33 {L : Nat} {xs : Nat → Int32} {zf : Value} {D : dD} {w k : Nat} (hD : dO L xs zf D k) (hz : zf.category = 1) : ∀ (o0 : Option Nat) (i1 : Int32) (i2 : Int32) (lv : rm_L) (h : rm_H) (r : dR), rm_get lv 0 = some (va_rf o0) → rm_get lv 1 = some (.int i1) → rm_get lv 2 = some (.int i2) → b67_33 L xs zf D w  o0 i1 i2 h = some r → dq L xs zf ah_M67 33 lv [] h (k + 1) r := by
  intro o0 i1 i2 lv h r G0 G1 G2 hh
  unfold b67_33 at hh
  refine dq_iln 2 34 (by decide +kernel) rfl G2 ?_
  refine dq_iln 1 35 (by decide +kernel) rfl G1 ?_
  rcases di hh with ⟨q1, hh⟩ | ⟨q1, hh⟩
  · refine dq_2 .le 5 true 40 q1 (by decide +kernel) ?_
    refine dq_aln 0 41 (by decide +kernel) rfl G0 ?_
    obtain ⟨p2, q3, hh⟩ := db hh
    refine dq_gR 9 0 [6] 44 (by decide +kernel) rfl q3 ?_
    refine dq_iln 2 45 (by decide +kernel) rfl G2 ?_
    obtain ⟨x4, q5, hh⟩ := db hh
    obtain ⟨a6, q7, q5⟩ := db q5
    rw [dq_xI q5] at q7
    refine dq_cvi hD 47 63 5 1 [7, 16] p2 [.int i2] [] 48 [.int x4.1] (by decide +kernel) ap_63 ⟨⟨Nat.le_of_ble_eq_true rfl, by decide⟩, rfl, rfl⟩ (dq_ok8 [1, 1] [] (dc_r (dc_i dc_n)) dc_n (by decide +kernel)) (by decide +kernel) rfl q7 rfl ?_
    refine dq_S (.bipush 61) 2 [] 50 _ [.int 61, .int x4.1] (by decide +kernel) rfl ?_
    rcases di hh with ⟨q8, hh⟩ | ⟨q8, hh⟩
    · refine dq_2 .ne 35 true 85 q8 (by decide +kernel) ?_
      exact c67_85 hD hz _ _ _ _ G2 hh
    · refine dq_2 .ne 35 false 53 q8 (by decide +kernel) ?_
      refine dq_iln 2 54 (by decide +kernel) rfl G2 ?_
      refine dq_S (.iconst 1) 1 [] 55 _ [.int 1, .int i2] (by decide +kernel) rfl ?_
      refine dq_S (.iadd) 1 [] 56 _ [.int (i2 + 1)] (by decide +kernel) rfl ?_
      refine dq_aln 0 57 (by decide +kernel) rfl G0 ?_
      obtain ⟨p9, q10, hh⟩ := db hh
      refine dq_gR 9 0 [6] 60 (by decide +kernel) rfl q10 ?_
      obtain ⟨x11, q12, hh⟩ := db hh
      obtain ⟨a13, q14, q12⟩ := db q12
      rw [dq_xI q12] at q14
      refine dq_cvi hD 15 60 5 0 [7, 16] p9 [] [.int (i2 + 1)] 63 [.int x11.1, .int (i2 + 1)] (by decide +kernel) ap_60 ⟨⟨Nat.le_of_ble_eq_true rfl, by decide⟩, rfl, rfl⟩ (dq_ok8 [1] [1] (dc_r dc_n) (dc_i dc_n) (by decide +kernel)) (by decide +kernel) rfl q14 rfl ?_
      rcases di hh with ⟨q15, hh⟩ | ⟨q15, hh⟩
      · refine dq_2 .ge 22 true 85 q15 (by decide +kernel) ?_
        exact c67_85 hD hz _ _ _ _ G2 hh
      · refine dq_2 .ge 22 false 66 q15 (by decide +kernel) ?_
        refine dq_aln 0 67 (by decide +kernel) rfl G0 ?_
        obtain ⟨p16, q17, hh⟩ := db hh
        refine dq_gR 9 0 [6] 70 (by decide +kernel) rfl q17 ?_
        refine dq_iln 2 71 (by decide +kernel) rfl G2 ?_
        refine dq_S (.iconst 1) 1 [] 72 _ [.int 1, .int i2, va_rf p16] (by decide +kernel) rfl ?_
        refine dq_S (.iadd) 1 [] 73 _ [.int (i2 + 1), va_rf p16] (by decide +kernel) rfl ?_
        obtain ⟨x18, q19, hh⟩ := db hh
        obtain ⟨a20, q21, q19⟩ := db q19
        rw [dq_xI q19] at q21
        refine dq_cvi hD 47 63 5 1 [7, 16] p16 [.int (i2 + 1)] [] 76 [.int x18.1] (by decide +kernel) ap_63 ⟨⟨Nat.le_of_ble_eq_true rfl, by decide⟩, rfl, rfl⟩ (dq_ok8 [1, 1] [] (dc_r (dc_i dc_n)) dc_n (by decide +kernel)) (by decide +kernel) rfl q21 rfl ?_
        refine dq_S (.bipush 61) 2 [] 78 _ [.int 61, .int x18.1] (by decide +kernel) rfl ?_
        rcases di hh with ⟨q22, hh⟩ | ⟨q22, hh⟩
        · refine dq_2 .ne 7 true 85 q22 (by decide +kernel) ?_
          exact c67_85 hD hz _ _ _ _ G2 hh
        · refine dq_2 .ne 7 false 81 q22 (by decide +kernel) ?_
          refine dq_S (.iconst 1) 1 [] 82 _ [.int 1] (by decide +kernel) rfl ?_
          refine dq_S (.goto 4) 3 [] 86 _ [.int 1] (by decide +kernel) rfl ?_
          exact c67_86 hD hz _ _ _ _ _ G2 hh
  · refine dq_2 .le 5 false 38 q1 (by decide +kernel) ?_
    refine dq_iln 2 39 (by decide +kernel) rfl G2 ?_
    exact dq_retI (some .int) (by decide +kernel) rfl hh
def b67_2 (L : Nat) (xs : Nat → Int32) (zf : Value) (D : dD) (w : Nat) : Nat → Option Nat → Int32 → Int32 → rm_H → Option dR
  | 0, _, _, _, _ => none
  | n + 1, o0, i1, i2, h =>
    (dgR L xs h 0 [6] o0).bind fun p1 =>
    ((dcV L xs D 60 [7, 16] p1 [] h).bind dxI).bind fun x3 =>
    if mx_f2 .ge i2 x3.1 = true then
      b67_33 L xs zf D w o0 i1 i2 x3.2
    else
      (dgR L xs x3.2 0 [6] o0).bind fun p8 =>
      ((dcV L xs D 63 [7, 16] p8 [.int i2] x3.2).bind dxI).bind fun x10 =>
      ((D 68 [.int x10.1] x10.2).bind dxI).bind fun x14 =>
      if mx_f1 .eq x14.1 = true then
        b67_33 L xs zf D w o0 i1 i2 x14.2
      else
        b67_2 L xs zf D w n o0 i1 (i2 + 1) x14.2
theorem c67_2 {L : Nat} {xs : Nat → Int32} {zf : Value} {D : dD} {w k : Nat} (hD : dO L xs zf D k) (hz : zf.category = 1) : ∀ (n : Nat) (o0 : Option Nat) (i1 : Int32) (i2 : Int32) (lv : rm_L) (h : rm_H) (r : dR), rm_get lv 0 = some (va_rf o0) → rm_get lv 1 = some (.int i1) → rm_get lv 2 = some (.int i2) → b67_2 L xs zf D w n  o0 i1 i2 h = some r → dq L xs zf ah_M67 2 lv [] h (k + 1) r := by
  intro n
  induction n with
  | zero =>
    intro o0 i1 i2 lv h r G0 G1 G2 hh
    cases hh
  | succ n ih =>
    intro o0 i1 i2 lv h r G0 G1 G2 hh
    rw [b67_2] at hh
    refine dq_iln 2 3 (by decide +kernel) rfl G2 ?_
    refine dq_aln 0 4 (by decide +kernel) rfl G0 ?_
    obtain ⟨p1, q2, hh⟩ := db hh
    refine dq_gR 9 0 [6] 7 (by decide +kernel) rfl q2 ?_
    obtain ⟨x3, q4, hh⟩ := db hh
    obtain ⟨a5, q6, q4⟩ := db q4
    rw [dq_xI q4] at q6
    refine dq_cvi hD 15 60 5 0 [7, 16] p1 [] [.int i2] 10 [.int x3.1, .int i2] (by decide +kernel) ap_60 ⟨⟨Nat.le_of_ble_eq_true rfl, by decide⟩, rfl, rfl⟩ (dq_ok8 [1] [1] (dc_r dc_n) (dc_i dc_n) (by decide +kernel)) (by decide +kernel) rfl q6 rfl ?_
    rcases di hh with ⟨q7, hh⟩ | ⟨q7, hh⟩
    · refine dq_2 .ge 23 true 33 q7 (by decide +kernel) ?_
      exact c67_33 hD hz _ _ _ _ _ _ G0 G1 G2 hh
    · refine dq_2 .ge 23 false 13 q7 (by decide +kernel) ?_
      refine dq_aln 0 14 (by decide +kernel) rfl G0 ?_
      obtain ⟨p8, q9, hh⟩ := db hh
      refine dq_gR 9 0 [6] 17 (by decide +kernel) rfl q9 ?_
      refine dq_iln 2 18 (by decide +kernel) rfl G2 ?_
      obtain ⟨x10, q11, hh⟩ := db hh
      obtain ⟨a12, q13, q11⟩ := db q11
      rw [dq_xI q11] at q13
      refine dq_cvi hD 47 63 5 1 [7, 16] p8 [.int i2] [] 21 [.int x10.1] (by decide +kernel) ap_63 ⟨⟨Nat.le_of_ble_eq_true rfl, by decide⟩, rfl, rfl⟩ (dq_ok8 [1, 1] [] (dc_r (dc_i dc_n)) dc_n (by decide +kernel)) (by decide +kernel) rfl q13 rfl ?_
      obtain ⟨x14, q15, hh⟩ := db hh
      obtain ⟨a16, q17, q15⟩ := db q15
      rw [dq_xI q15] at q17
      refine dq_cst hD 55 68 0 1 [.int x10.1] [] 24 [.int x14.1] (by decide +kernel) ap_68 ⟨⟨Nat.le_of_ble_eq_true rfl, by decide⟩, rfl, rfl⟩ (dq_ok8 [1] [] (dc_i dc_n) dc_n (by decide +kernel)) (by decide +kernel) rfl q17 rfl ?_
      rcases di hh with ⟨q18, hh⟩ | ⟨q18, hh⟩
      · refine dq_1 .eq 9 true 33 q18 (by decide +kernel) ?_
        exact c67_33 hD hz _ _ _ _ _ _ G0 G1 G2 hh
      · refine dq_1 .eq 9 false 27 q18 (by decide +kernel) ?_
        refine dq_incy 2 1 1 30 (by decide +kernel) ⟨rfl, by decide +kernel, by decide +kernel⟩ G2 ?_
        have g19 := dg_ne (i := 2) (u := .int (i2 + 1)) (by decide) (Or.inl (by decide)) G0
        have g20 := dg_ne (i := 2) (u := .int (i2 + 1)) (by decide) (Or.inr rfl) G1
        have g21 := dg_eq (lv) 2 (.int (i2 + 1))
        refine dq_S (.goto (-28)) 3 [] 2 _ [] (by decide +kernel) rfl ?_
        exact ih _ _ _ _ _ _ g19 g20 g21 hh
def b67_0 (L : Nat) (xs : Nat → Int32) (zf : Value) (D : dD) (w : Nat) (o0 : Option Nat) (i1 : Int32) (h : rm_H) : Option dR :=
  b67_2 L xs zf D w w o0 i1 i1 h
theorem c67_0 {L : Nat} {xs : Nat → Int32} {zf : Value} {D : dD} {w k : Nat} (hD : dO L xs zf D k) (hz : zf.category = 1) : ∀ (o0 : Option Nat) (i1 : Int32) (lv : rm_L) (h : rm_H) (r : dR), rm_get lv 0 = some (va_rf o0) → rm_get lv 1 = some (.int i1) → b67_0 L xs zf D w  o0 i1 h = some r → dq L xs zf ah_M67 0 lv [] h (k + 1) r := by
  intro o0 i1 lv h r G0 G1 hh
  unfold b67_0 at hh
  refine dq_iln 1 1 (by decide +kernel) rfl G1 ?_
  refine dq_isn 2 2 (by decide +kernel) (by decide +kernel) ?_
  have g1 := dg_ne (i := 2) (u := .int i1) (by decide) (Or.inl (by decide)) G0
  have g2 := dg_ne (i := 2) (u := .int i1) (by decide) (Or.inr rfl) G1
  have g3 := dg_eq (lv) 2 (.int i1)
  exact c67_2 hD hz _ _ _ _ _ _ _ g1 g2 g3 hh
def f67 (L : Nat) (xs : Nat → Int32) (zf : Value) (D : dD) (w : Nat) (As : List Value) (h : rm_H) : Option dR := match As with
  | [v0, .int i1] => (rm_rf v0).bind fun o0 => b67_0 L xs zf D w o0 i1 h
  | _ => none
theorem d67 {L : Nat} {xs : Nat → Int32} {zf : Value} {D : dD} {w k : Nat} (hD : dO L xs zf D k) (hz : zf.category = 1) (As : List Value) (h : rm_H) (r : dR) (hh : f67 L xs zf D w As h = some r) : dq L xs zf ah_M67 0 (lv_args 0 As) [] h (k + 1) r := by
  unfold f67 at hh
  split at hh
  · obtain ⟨o0, e0, hb0⟩ := db hh
    have e0 := rm_rf_v _ _ e0
    subst e0
    refine c67_0 hD hz _ _ _ _ _ ?_ ?_ hb0
    all_goals (simp only [la_r, la_i, la_j]; rfl)
  · cases hh
def b217_0 (L : Nat) (xs : Nat → Int32) (zf : Value) (D : dD) (w : Nat) (o0 : Option Nat) (h : rm_H) : Option dR :=
  (dgR L xs h 0 [3] o0).bind fun p1 =>
  ((dcV L xs D 37 [1] p1 [.int 0] h).bind dxV).bind fun h3 =>
  (dpF h3 4 [3] o0 (.int 0)).bind fun h7 =>
  (dgI L xs h7 5 [3] o0).bind fun x9 =>
  (dpF h7 5 [3] o0 (.int (x9 + 1))).bind fun h11 =>
  some (none, h11)
theorem c217_0 {L : Nat} {xs : Nat → Int32} {zf : Value} {D : dD} {w k : Nat} (hD : dO L xs zf D k) (hz : zf.category = 1) : ∀ (o0 : Option Nat) (lv : rm_L) (h : rm_H) (r : dR), rm_get lv 0 = some (va_rf o0) → b217_0 L xs zf D w  o0 h = some r → dq L xs zf ah_M217 0 lv [] h (k + 1) r := by
  intro o0 lv h r G0 hh
  unfold b217_0 at hh
  refine dq_aln 0 1 (by decide +kernel) rfl G0 ?_
  obtain ⟨p1, q2, hh⟩ := db hh
  refine dq_gR 12 0 [3] 4 (by decide +kernel) rfl q2 ?_
  refine dq_S (.iconst 0) 1 [] 5 _ [.int 0, va_rf p1] (by decide +kernel) rfl ?_
  obtain ⟨h3, q4, hh⟩ := db hh
  obtain ⟨a5, q6, q4⟩ := db q4
  rw [dq_xV q4] at q6
  refine dq_cvi hD 38 37 5 1 [1] p1 [.int 0] [] 8 [] (by decide +kernel) ap_37 ⟨⟨Nat.le_of_ble_eq_true rfl, by decide⟩, rfl, rfl⟩ (dq_ok8 [1, 1] [] (dc_r (dc_i dc_n)) dc_n (by decide +kernel)) (by decide +kernel) rfl q6 rfl ?_
  refine dq_aln 0 9 (by decide +kernel) rfl G0 ?_
  refine dq_S (.iconst 0) 1 [] 10 _ [.int 0, va_rf o0] (by decide +kernel) rfl ?_
  obtain ⟨h7, q8, hh⟩ := db hh
  refine dq_put 28 4 [3] 13 (by decide +kernel) rfl q8 ?_
  refine dq_aln 0 14 (by decide +kernel) rfl G0 ?_
  refine dq_dup 15 (by decide +kernel) rfl ?_
  obtain ⟨x9, q10, hh⟩ := db hh
  refine dq_gI 32 5 [3] 18 (by decide +kernel) rfl q10 ?_
  refine dq_S (.iconst 1) 1 [] 19 _ [.int 1, .int x9, va_rf o0] (by decide +kernel) rfl ?_
  refine dq_S (.iadd) 1 [] 20 _ [.int (x9 + 1), va_rf o0] (by decide +kernel) rfl ?_
  obtain ⟨h11, q12, hh⟩ := db hh
  refine dq_put 32 5 [3] 23 (by decide +kernel) rfl q12 ?_
  cases hh
  exact dq_ret0 (by decide +kernel) rfl
def f217 (L : Nat) (xs : Nat → Int32) (zf : Value) (D : dD) (w : Nat) (As : List Value) (h : rm_H) : Option dR := match As with
  | [v0] => (rm_rf v0).bind fun o0 => b217_0 L xs zf D w o0 h
  | _ => none
theorem d217 {L : Nat} {xs : Nat → Int32} {zf : Value} {D : dD} {w k : Nat} (hD : dO L xs zf D k) (hz : zf.category = 1) (As : List Value) (h : rm_H) (r : dR) (hh : f217 L xs zf D w As h = some r) : dq L xs zf ah_M217 0 (lv_args 0 As) [] h (k + 1) r := by
  unfold f217 at hh
  split at hh
  · obtain ⟨o0, e0, hb0⟩ := db hh
    have e0 := rm_rf_v _ _ e0
    subst e0
    refine c217_0 hD hz _ _ _ _ ?_ hb0
    all_goals (simp only [la_r, la_i, la_j]; rfl)
  · cases hh
def b287_12 (L : Nat) (xs : Nat → Int32) (zf : Value) (D : dD) (w : Nat) (h : rm_H) : Option dR :=
  drI (some .int) (-1) h
theorem c287_12 {L : Nat} {xs : Nat → Int32} {zf : Value} {D : dD} {w k : Nat} (hD : dO L xs zf D k) (hz : zf.category = 1) : ∀ (lv : rm_L) (h : rm_H) (r : dR), b287_12 L xs zf D w  h = some r → dq L xs zf ah_M287 12 lv [] h (k + 1) r := by
  intro lv h r hh
  unfold b287_12 at hh
  refine dq_S (.iconst (-1)) 1 [] 13 _ [.int (-1)] (by decide +kernel) rfl ?_
  exact dq_retI (some .int) (by decide +kernel) rfl hh
def b287_0 (L : Nat) (xs : Nat → Int32) (zf : Value) (D : dD) (w : Nat) (o0 : Option Nat) (i1 : Int32) (h : rm_H) : Option dR :=
  if mx_f1 .lt i1 = true then
    b287_12 L xs zf D w h
  else
    (dgI L xs h 2 [15] o0).bind fun x2 =>
    if mx_f2 .le i1 x2 = true then
      (dpF h 2 [15] o0 (.int i1)).bind fun h5 =>
      drI (some .int) i1 h5
    else
      b287_12 L xs zf D w h
theorem c287_0 {L : Nat} {xs : Nat → Int32} {zf : Value} {D : dD} {w k : Nat} (hD : dO L xs zf D k) (hz : zf.category = 1) : ∀ (o0 : Option Nat) (i1 : Int32) (lv : rm_L) (h : rm_H) (r : dR), rm_get lv 0 = some (va_rf o0) → rm_get lv 1 = some (.int i1) → b287_0 L xs zf D w  o0 i1 h = some r → dq L xs zf ah_M287 0 lv [] h (k + 1) r := by
  intro o0 i1 lv h r G0 G1 hh
  unfold b287_0 at hh
  refine dq_iln 1 1 (by decide +kernel) rfl G1 ?_
  rcases di hh with ⟨q1, hh⟩ | ⟨q1, hh⟩
  · refine dq_1 .lt 11 true 12 q1 (by decide +kernel) ?_
    exact c287_12 hD hz  _ _ _  hh
  · refine dq_1 .lt 11 false 4 q1 (by decide +kernel) ?_
    refine dq_iln 1 5 (by decide +kernel) rfl G1 ?_
    refine dq_aln 0 6 (by decide +kernel) rfl G0 ?_
    obtain ⟨x2, q3, hh⟩ := db hh
    refine dq_gI 1 2 [15] 9 (by decide +kernel) rfl q3 ?_
    rcases di hh with ⟨q4, hh⟩ | ⟨q4, hh⟩
    · refine dq_2 .le 5 true 14 q4 (by decide +kernel) ?_
      refine dq_aln 0 15 (by decide +kernel) rfl G0 ?_
      refine dq_iln 1 16 (by decide +kernel) rfl G1 ?_
      obtain ⟨h5, q6, hh⟩ := db hh
      refine dq_put 1 2 [15] 19 (by decide +kernel) rfl q6 ?_
      refine dq_iln 1 20 (by decide +kernel) rfl G1 ?_
      exact dq_retI (some .int) (by decide +kernel) rfl hh
    · refine dq_2 .le 5 false 12 q4 (by decide +kernel) ?_
      exact c287_12 hD hz  _ _ _  hh
def f287 (L : Nat) (xs : Nat → Int32) (zf : Value) (D : dD) (w : Nat) (As : List Value) (h : rm_H) : Option dR := match As with
  | [v0, .int i1] => (rm_rf v0).bind fun o0 => b287_0 L xs zf D w o0 i1 h
  | _ => none
theorem d287 {L : Nat} {xs : Nat → Int32} {zf : Value} {D : dD} {w k : Nat} (hD : dO L xs zf D k) (hz : zf.category = 1) (As : List Value) (h : rm_H) (r : dR) (hh : f287 L xs zf D w As h = some r) : dq L xs zf ah_M287 0 (lv_args 0 As) [] h (k + 1) r := by
  unfold f287 at hh
  split at hh
  · obtain ⟨o0, e0, hb0⟩ := db hh
    have e0 := rm_rf_v _ _ e0
    subst e0
    refine c287_0 hD hz _ _ _ _ _ ?_ ?_ hb0
    all_goals (simp only [la_r, la_i, la_j]; rfl)
  · cases hh
def b286_71 (L : Nat) (xs : Nat → Int32) (zf : Value) (D : dD) (w : Nat) (K18 : Option Nat → Int32 → Int32 → Int32 → Int32 → Int32 → Int32 → rm_H → Option dR) (o0 : Option Nat) (i1 : Int32) (i2 : Int32) (i3 : Int32) (i4 : Int32) (i5 : Int32) (i6 : Int32) (s0 : Int32) (h : rm_H) : Option dR :=
  (dgR L xs h 0 [15] o0).bind fun p9 =>
  (dgI L xs h 2 [15] o0).bind fun x11 =>
  (dsI h p9 (x11 + i6) ((s0 >>> ((24 - (8 * (i6 - i6 / 4 * 4))) &&& 31)) &&& 255)).bind fun h13 =>
  K18 o0 i1 i2 i3 i4 i5 (i6 + 1) h13
theorem c286_71 {L : Nat} {xs : Nat → Int32} {zf : Value} {D : dD} {w k : Nat} {K18 : Option Nat → Int32 → Int32 → Int32 → Int32 → Int32 → Int32 → rm_H → Option dR} (hD : dO L xs zf D k) (hz : zf.category = 1) (hK18 : ∀ (o0 : Option Nat) (i1 : Int32) (i2 : Int32) (i3 : Int32) (i4 : Int32) (i5 : Int32) (i6 : Int32) (lv : rm_L) (h : rm_H) (r : dR), rm_get lv 0 = some (va_rf o0) → rm_get lv 1 = some (.int i1) → rm_get lv 2 = some (.int i2) → rm_get lv 3 = some (.int i3) → rm_get lv 4 = some (.int i4) → rm_get lv 5 = some (.int i5) → rm_get lv 6 = some (.int i6) → K18 o0 i1 i2 i3 i4 i5 i6 h = some r → dq L xs zf ah_M286 18 lv [] h (k + 1) r) : ∀ (o0 : Option Nat) (i1 : Int32) (i2 : Int32) (i3 : Int32) (i4 : Int32) (i5 : Int32) (i6 : Int32) (s0 : Int32) (lv : rm_L) (h : rm_H) (r : dR), rm_get lv 0 = some (va_rf o0) → rm_get lv 1 = some (.int i1) → rm_get lv 2 = some (.int i2) → rm_get lv 3 = some (.int i3) → rm_get lv 4 = some (.int i4) → rm_get lv 5 = some (.int i5) → rm_get lv 6 = some (.int i6) → b286_71 L xs zf D w K18  o0 i1 i2 i3 i4 i5 i6 s0 h = some r → dq L xs zf ah_M286 71 lv [.int s0] h (k + 1) r := by
  intro o0 i1 i2 i3 i4 i5 i6 s0 lv h r G0 G1 G2 G3 G4 G5 G6 hh
  unfold b286_71 at hh
  refine dq_is 7 73 (by decide +kernel) (by decide +kernel) ?_
  have g1 := dg_ne (i := 7) (u := .int s0) (by decide) (Or.inl (by decide)) G0
  have g2 := dg_ne (i := 7) (u := .int s0) (by decide) (Or.inl (by decide)) G1
  have g3 := dg_ne (i := 7) (u := .int s0) (by decide) (Or.inl (by decide)) G2
  have g4 := dg_ne (i := 7) (u := .int s0) (by decide) (Or.inl (by decide)) G3
  have g5 := dg_ne (i := 7) (u := .int s0) (by decide) (Or.inl (by decide)) G4
  have g6 := dg_ne (i := 7) (u := .int s0) (by decide) (Or.inl (by decide)) G5
  have g7 := dg_ne (i := 7) (u := .int s0) (by decide) (Or.inr rfl) G6
  have g8 := dg_eq (lv) 7 (.int s0)
  refine dq_aln 0 74 (by decide +kernel) rfl g1 ?_
  obtain ⟨p9, q10, hh⟩ := db hh
  refine dq_gR 7 0 [15] 77 (by decide +kernel) rfl q10 ?_
  refine dq_aln 0 78 (by decide +kernel) rfl g1 ?_
  obtain ⟨x11, q12, hh⟩ := db hh
  refine dq_gI 1 2 [15] 81 (by decide +kernel) rfl q12 ?_
  refine dq_il 6 83 (by decide +kernel) rfl g7 ?_
  refine dq_S (.iadd) 1 [] 84 _ [.int (x11 + i6), va_rf p9] (by decide +kernel) rfl ?_
  refine dq_il 7 86 (by decide +kernel) rfl g8 ?_
  refine dq_S (.bipush 24) 2 [] 88 _ [.int 24, .int s0, .int (x11 + i6), va_rf p9] (by decide +kernel) rfl ?_
  refine dq_S (.bipush 8) 2 [] 90 _ [.int 8, .int 24, .int s0, .int (x11 + i6), va_rf p9] (by decide +kernel) rfl ?_
  refine dq_il 6 92 (by decide +kernel) rfl g7 ?_
  refine dq_S (.iconst 4) 1 [] 93 _ [.int 4, .int i6, .int 8, .int 24, .int s0, .int (x11 + i6), va_rf p9] (by decide +kernel) rfl ?_
  refine dq_rem 94 (by decide) (by decide +kernel) rfl ?_
  refine dq_S (.imul) 1 [] 95 _ [.int (8 * (i6 - i6 / 4 * 4)), .int 24, .int s0, .int (x11 + i6), va_rf p9] (by decide +kernel) rfl ?_
  refine dq_S (.isub) 1 [] 96 _ [.int (24 - (8 * (i6 - i6 / 4 * 4))), .int s0, .int (x11 + i6), va_rf p9] (by decide +kernel) rfl ?_
  refine dq_S (.ishr) 1 [] 97 _ [.int (s0 >>> ((24 - (8 * (i6 - i6 / 4 * 4))) &&& 31)), .int (x11 + i6), va_rf p9] (by decide +kernel) rfl ?_
  refine dq_S (.sipush 255) 3 [] 100 _ [.int 255, .int (s0 >>> ((24 - (8 * (i6 - i6 / 4 * 4))) &&& 31)), .int (x11 + i6), va_rf p9] (by decide +kernel) rfl ?_
  refine dq_S (.iand) 1 [] 101 _ [.int ((s0 >>> ((24 - (8 * (i6 - i6 / 4 * 4))) &&& 31)) &&& 255), .int (x11 + i6), va_rf p9] (by decide +kernel) rfl ?_
  obtain ⟨h13, q14, hh⟩ := db hh
  refine dq_sI 102 (by decide +kernel) rfl q14 ?_
  refine dq_incy 6 1 1 105 (by decide +kernel) ⟨rfl, by decide +kernel, by decide +kernel⟩ g7 ?_
  have g15 := dg_ne (i := 6) (u := .int (i6 + 1)) (by decide) (Or.inl (by decide)) g1
  have g16 := dg_ne (i := 6) (u := .int (i6 + 1)) (by decide) (Or.inl (by decide)) g2
  have g17 := dg_ne (i := 6) (u := .int (i6 + 1)) (by decide) (Or.inl (by decide)) g3
  have g18 := dg_ne (i := 6) (u := .int (i6 + 1)) (by decide) (Or.inl (by decide)) g4
  have g19 := dg_ne (i := 6) (u := .int (i6 + 1)) (by decide) (Or.inl (by decide)) g5
  have g20 := dg_ne (i := 6) (u := .int (i6 + 1)) (by decide) (Or.inr rfl) g6
  have g21 := dg_ne (i := 6) (u := .int (i6 + 1)) (by decide) (Or.inl (by decide)) g8
  have g22 := dg_eq (rm_set1 (lv) 7 (.int s0)) 6 (.int (i6 + 1))
  refine dq_S (.goto (-87)) 3 [] 18 _ [] (by decide +kernel) rfl ?_
  exact hK18 _ _ _ _ _ _ _ _ _ _ g15 g16 g17 g18 g19 g20 g22 hh
def b286_18 (L : Nat) (xs : Nat → Int32) (zf : Value) (D : dD) (w : Nat) : Nat → Option Nat → Int32 → Int32 → Int32 → Int32 → Int32 → Int32 → rm_H → Option dR
  | 0, _, _, _, _, _, _, _, _ => none
  | n + 1, o0, i1, i2, i3, i4, i5, i6, h =>
    if mx_f2 .ge i6 20 = true then
      (dgI L xs h 2 [15] o0).bind fun x2 =>
      (dpF h 2 [15] o0 (.int (x2 + 20))).bind fun h4 =>
      (dgI L xs h4 2 [15] o0).bind fun x6 =>
      drI (some .int) x6 h4
    else
      if mx_f2 .ge i6 4 = true then
        if mx_f2 .ge i6 8 = true then
          if mx_f2 .ge i6 12 = true then
            if mx_f2 .ge i6 16 = true then
              b286_71 L xs zf D w (b286_18 L xs zf D w n) o0 i1 i2 i3 i4 i5 i6 i5 h
            else
              b286_71 L xs zf D w (b286_18 L xs zf D w n) o0 i1 i2 i3 i4 i5 i6 i4 h
          else
            b286_71 L xs zf D w (b286_18 L xs zf D w n) o0 i1 i2 i3 i4 i5 i6 i3 h
        else
          b286_71 L xs zf D w (b286_18 L xs zf D w n) o0 i1 i2 i3 i4 i5 i6 i2 h
      else
        b286_71 L xs zf D w (b286_18 L xs zf D w n) o0 i1 i2 i3 i4 i5 i6 i1 h
theorem c286_18 {L : Nat} {xs : Nat → Int32} {zf : Value} {D : dD} {w k : Nat} (hD : dO L xs zf D k) (hz : zf.category = 1) : ∀ (n : Nat) (o0 : Option Nat) (i1 : Int32) (i2 : Int32) (i3 : Int32) (i4 : Int32) (i5 : Int32) (i6 : Int32) (lv : rm_L) (h : rm_H) (r : dR), rm_get lv 0 = some (va_rf o0) → rm_get lv 1 = some (.int i1) → rm_get lv 2 = some (.int i2) → rm_get lv 3 = some (.int i3) → rm_get lv 4 = some (.int i4) → rm_get lv 5 = some (.int i5) → rm_get lv 6 = some (.int i6) → b286_18 L xs zf D w n  o0 i1 i2 i3 i4 i5 i6 h = some r → dq L xs zf ah_M286 18 lv [] h (k + 1) r := by
  intro n
  induction n with
  | zero =>
    intro o0 i1 i2 i3 i4 i5 i6 lv h r G0 G1 G2 G3 G4 G5 G6 hh
    cases hh
  | succ n ih =>
    intro o0 i1 i2 i3 i4 i5 i6 lv h r G0 G1 G2 G3 G4 G5 G6 hh
    rw [b286_18] at hh
    refine dq_il 6 20 (by decide +kernel) rfl G6 ?_
    refine dq_S (.bipush 20) 2 [] 22 _ [.int 20, .int i6] (by decide +kernel) rfl ?_
    rcases di hh with ⟨q1, hh⟩ | ⟨q1, hh⟩
    · refine dq_2 .ge 86 true 108 q1 (by decide +kernel) ?_
      refine dq_aln 0 109 (by decide +kernel) rfl G0 ?_
      refine dq_dup 110 (by decide +kernel) rfl ?_
      obtain ⟨x2, q3, hh⟩ := db hh
      refine dq_gI 1 2 [15] 113 (by decide +kernel) rfl q3 ?_
      refine dq_S (.bipush 20) 2 [] 115 _ [.int 20, .int x2, va_rf o0] (by decide +kernel) rfl ?_
      refine dq_S (.iadd) 1 [] 116 _ [.int (x2 + 20), va_rf o0] (by decide +kernel) rfl ?_
      obtain ⟨h4, q5, hh⟩ := db hh
      refine dq_put 1 2 [15] 119 (by decide +kernel) rfl q5 ?_
      refine dq_aln 0 120 (by decide +kernel) rfl G0 ?_
      obtain ⟨x6, q7, hh⟩ := db hh
      refine dq_gI 1 2 [15] 123 (by decide +kernel) rfl q7 ?_
      exact dq_retI (some .int) (by decide +kernel) rfl hh
    · refine dq_2 .ge 86 false 25 q1 (by decide +kernel) ?_
      refine dq_il 6 27 (by decide +kernel) rfl G6 ?_
      refine dq_S (.iconst 4) 1 [] 28 _ [.int 4, .int i6] (by decide +kernel) rfl ?_
      rcases di hh with ⟨q8, hh⟩ | ⟨q8, hh⟩
      · refine dq_2 .ge 7 true 35 q8 (by decide +kernel) ?_
        refine dq_il 6 37 (by decide +kernel) rfl G6 ?_
        refine dq_S (.bipush 8) 2 [] 39 _ [.int 8, .int i6] (by decide +kernel) rfl ?_
        rcases di hh with ⟨q9, hh⟩ | ⟨q9, hh⟩
        · refine dq_2 .ge 7 true 46 q9 (by decide +kernel) ?_
          refine dq_il 6 48 (by decide +kernel) rfl G6 ?_
          refine dq_S (.bipush 12) 2 [] 50 _ [.int 12, .int i6] (by decide +kernel) rfl ?_
          rcases di hh with ⟨q10, hh⟩ | ⟨q10, hh⟩
          · refine dq_2 .ge 7 true 57 q10 (by decide +kernel) ?_
            refine dq_il 6 59 (by decide +kernel) rfl G6 ?_
            refine dq_S (.bipush 16) 2 [] 61 _ [.int 16, .int i6] (by decide +kernel) rfl ?_
            rcases di hh with ⟨q11, hh⟩ | ⟨q11, hh⟩
            · refine dq_2 .ge 8 true 69 q11 (by decide +kernel) ?_
              refine dq_il 5 71 (by decide +kernel) rfl G5 ?_
              exact c286_71 hD hz ih _ _ _ _ _ _ _ _ _ _ _ G0 G1 G2 G3 G4 G5 G6 hh
            · refine dq_2 .ge 8 false 64 q11 (by decide +kernel) ?_
              refine dq_il 4 66 (by decide +kernel) rfl G4 ?_
              refine dq_S (.goto 5) 3 [] 71 _ [.int i4] (by decide +kernel) rfl ?_
              exact c286_71 hD hz ih _ _ _ _ _ _ _ _ _ _ _ G0 G1 G2 G3 G4 G5 G6 hh
          · refine dq_2 .ge 7 false 53 q10 (by decide +kernel) ?_
            refine dq_iln 3 54 (by decide +kernel) rfl G3 ?_
            refine dq_S (.goto 17) 3 [] 71 _ [.int i3] (by decide +kernel) rfl ?_
            exact c286_71 hD hz ih _ _ _ _ _ _ _ _ _ _ _ G0 G1 G2 G3 G4 G5 G6 hh
        · refine dq_2 .ge 7 false 42 q9 (by decide +kernel) ?_
          refine dq_iln 2 43 (by decide +kernel) rfl G2 ?_
          refine dq_S (.goto 28) 3 [] 71 _ [.int i2] (by decide +kernel) rfl ?_
          exact c286_71 hD hz ih _ _ _ _ _ _ _ _ _ _ _ G0 G1 G2 G3 G4 G5 G6 hh
      · refine dq_2 .ge 7 false 31 q8 (by decide +kernel) ?_
        refine dq_iln 1 32 (by decide +kernel) rfl G1 ?_
        refine dq_S (.goto 39) 3 [] 71 _ [.int i1] (by decide +kernel) rfl ?_
        exact c286_71 hD hz ih _ _ _ _ _ _ _ _ _ _ _ G0 G1 G2 G3 G4 G5 G6 hh
def b286_0 (L : Nat) (xs : Nat → Int32) (zf : Value) (D : dD) (w : Nat) (o0 : Option Nat) (i1 : Int32) (i2 : Int32) (i3 : Int32) (i4 : Int32) (i5 : Int32) (h : rm_H) : Option dR :=
  (dgI L xs h 2 [15] o0).bind fun x1 =>
  if mx_f2 .le (x1 + 20) 2000 = true then
    b286_18 L xs zf D w w o0 i1 i2 i3 i4 i5 0 h
  else
    drI (some .int) (-1) h
theorem c286_0 {L : Nat} {xs : Nat → Int32} {zf : Value} {D : dD} {w k : Nat} (hD : dO L xs zf D k) (hz : zf.category = 1) : ∀ (o0 : Option Nat) (i1 : Int32) (i2 : Int32) (i3 : Int32) (i4 : Int32) (i5 : Int32) (lv : rm_L) (h : rm_H) (r : dR), rm_get lv 0 = some (va_rf o0) → rm_get lv 1 = some (.int i1) → rm_get lv 2 = some (.int i2) → rm_get lv 3 = some (.int i3) → rm_get lv 4 = some (.int i4) → rm_get lv 5 = some (.int i5) → b286_0 L xs zf D w  o0 i1 i2 i3 i4 i5 h = some r → dq L xs zf ah_M286 0 lv [] h (k + 1) r := by
  intro o0 i1 i2 i3 i4 i5 lv h r G0 G1 G2 G3 G4 G5 hh
  unfold b286_0 at hh
  refine dq_aln 0 1 (by decide +kernel) rfl G0 ?_
  obtain ⟨x1, q2, hh⟩ := db hh
  refine dq_gI 1 2 [15] 4 (by decide +kernel) rfl q2 ?_
  refine dq_S (.bipush 20) 2 [] 6 _ [.int 20, .int x1] (by decide +kernel) rfl ?_
  refine dq_S (.iadd) 1 [] 7 _ [.int (x1 + 20)] (by decide +kernel) rfl ?_
  refine dq_S (.sipush 2000) 3 [] 10 _ [.int 2000, .int (x1 + 20)] (by decide +kernel) rfl ?_
  rcases di hh with ⟨q3, hh⟩ | ⟨q3, hh⟩
  · refine dq_2 .le 5 true 15 q3 (by decide +kernel) ?_
    refine dq_S (.iconst 0) 1 [] 16 _ [.int 0] (by decide +kernel) rfl ?_
    refine dq_is 6 18 (by decide +kernel) (by decide +kernel) ?_
    have g4 := dg_ne (i := 6) (u := .int 0) (by decide) (Or.inl (by decide)) G0
    have g5 := dg_ne (i := 6) (u := .int 0) (by decide) (Or.inl (by decide)) G1
    have g6 := dg_ne (i := 6) (u := .int 0) (by decide) (Or.inl (by decide)) G2
    have g7 := dg_ne (i := 6) (u := .int 0) (by decide) (Or.inl (by decide)) G3
    have g8 := dg_ne (i := 6) (u := .int 0) (by decide) (Or.inl (by decide)) G4
    have g9 := dg_ne (i := 6) (u := .int 0) (by decide) (Or.inr rfl) G5
    have g10 := dg_eq (lv) 6 (.int 0)
    exact c286_18 hD hz _ _ _ _ _ _ _ _ _ _ _ g4 g5 g6 g7 g8 g9 g10 hh
  · refine dq_2 .le 5 false 13 q3 (by decide +kernel) ?_
    refine dq_S (.iconst (-1)) 1 [] 14 _ [.int (-1)] (by decide +kernel) rfl ?_
    exact dq_retI (some .int) (by decide +kernel) rfl hh
def f286 (L : Nat) (xs : Nat → Int32) (zf : Value) (D : dD) (w : Nat) (As : List Value) (h : rm_H) : Option dR := match As with
  | [v0, .int i1, .int i2, .int i3, .int i4, .int i5] => (rm_rf v0).bind fun o0 => b286_0 L xs zf D w o0 i1 i2 i3 i4 i5 h
  | _ => none
theorem d286 {L : Nat} {xs : Nat → Int32} {zf : Value} {D : dD} {w k : Nat} (hD : dO L xs zf D k) (hz : zf.category = 1) (As : List Value) (h : rm_H) (r : dR) (hh : f286 L xs zf D w As h = some r) : dq L xs zf ah_M286 0 (lv_args 0 As) [] h (k + 1) r := by
  unfold f286 at hh
  split at hh
  · obtain ⟨o0, e0, hb0⟩ := db hh
    have e0 := rm_rf_v _ _ e0
    subst e0
    refine c286_0 hD hz _ _ _ _ _ _ _ _ _ ?_ ?_ ?_ ?_ ?_ ?_ hb0
    all_goals (simp only [la_r, la_i, la_j]; rfl)
  · cases hh
def b35_0 (L : Nat) (xs : Nat → Int32) (zf : Value) (D : dD) (w : Nat) (i0 : Int32) (i1 : Int32) (h : rm_H) : Option dR :=
  if mx_f1 .lt i0 = true then
    none
  else
    if mx_f2 .lt i0 i1 = true then
      drI (some .int) i0 h
    else
      none
theorem c35_0 {L : Nat} {xs : Nat → Int32} {zf : Value} {D : dD} {w k : Nat} (hD : dO L xs zf D k) (hz : zf.category = 1) : ∀ (i0 : Int32) (i1 : Int32) (lv : rm_L) (h : rm_H) (r : dR), rm_get lv 0 = some (.int i0) → rm_get lv 1 = some (.int i1) → b35_0 L xs zf D w  i0 i1 h = some r → dq L xs zf ah_M35 0 lv [] h (k + 1) r := by
  intro i0 i1 lv h r G0 G1 hh
  unfold b35_0 at hh
  refine dq_iln 0 1 (by decide +kernel) rfl G0 ?_
  rcases di hh with ⟨q1, hh⟩ | ⟨q1, hh⟩
  · refine dq_1 .lt 8 true 9 q1 (by decide +kernel) ?_
    cases hh
  · refine dq_1 .lt 8 false 4 q1 (by decide +kernel) ?_
    refine dq_iln 0 5 (by decide +kernel) rfl G0 ?_
    refine dq_iln 1 6 (by decide +kernel) rfl G1 ?_
    rcases di hh with ⟨q2, hh⟩ | ⟨q2, hh⟩
    · refine dq_2 .lt 10 true 16 q2 (by decide +kernel) ?_
      refine dq_iln 0 17 (by decide +kernel) rfl G0 ?_
      exact dq_retI (some .int) (by decide +kernel) rfl hh
    · refine dq_2 .lt 10 false 9 q2 (by decide +kernel) ?_
      cases hh
def f35 (L : Nat) (xs : Nat → Int32) (zf : Value) (D : dD) (w : Nat) (As : List Value) (h : rm_H) : Option dR := match As with
  | [.int i0, .int i1, u2] => b35_0 L xs zf D w i0 i1 h
  | _ => none
theorem d35 {L : Nat} {xs : Nat → Int32} {zf : Value} {D : dD} {w k : Nat} (hD : dO L xs zf D k) (hz : zf.category = 1) (As : List Value) (h : rm_H) (r : dR) (hh : f35 L xs zf D w As h = some r) : dq L xs zf ah_M35 0 (lv_args 0 As) [] h (k + 1) r := by
  unfold f35 at hh
  split at hh
  · refine c35_0 hD hz _ _ _ _ _ ?_ ?_ hh
    all_goals (simp only [la_r, la_i, la_j]; rfl)
  · cases hh
def b34_0 (L : Nat) (xs : Nat → Int32) (zf : Value) (D : dD) (w : Nat) (i0 : Int32) (i1 : Int32) (h : rm_H) : Option dR :=
  ((D 35 [.int i0, .int i1, zf] h).bind dxI).bind fun x1 =>
  some (none, x1.2)
theorem c34_0 {L : Nat} {xs : Nat → Int32} {zf : Value} {D : dD} {w k : Nat} (hD : dO L xs zf D k) (hz : zf.category = 1) : ∀ (i0 : Int32) (i1 : Int32) (lv : rm_L) (h : rm_H) (r : dR), rm_get lv 0 = some (.int i0) → rm_get lv 1 = some (.int i1) → b34_0 L xs zf D w  i0 i1 h = some r → dq L xs zf ah_M34 0 lv [] h (k + 1) r := by
  intro i0 i1 lv h r G0 G1 hh
  unfold b34_0 at hh
  refine dq_iln 0 1 (by decide +kernel) rfl G0 ?_
  refine dq_iln 1 2 (by decide +kernel) rfl G1 ?_
  refine dq_S (.getstatic 1053) 3 [1] 5 _ [zf, .int i1, .int i0] (by decide +kernel) rfl ?_
  obtain ⟨x1, q2, hh⟩ := db hh
  obtain ⟨a3, q4, q2⟩ := db q2
  rw [dq_xI q2] at q4
  refine dq_cst hD 1059 35 0 3 [.int i0, .int i1, zf] [] 8 [.int x1.1] (by decide +kernel) ap_35 ⟨⟨Nat.le_of_ble_eq_true rfl, by decide⟩, rfl, rfl⟩ (dq_ok8 [1, 1, 1] [] (dc_i (dc_i (dc_v hz dc_n))) dc_n (by decide +kernel)) (by decide +kernel) rfl q4 rfl ?_
  refine dq_S (.pop) 1 [] 9 _ [] (by decide +kernel) rfl ?_
  cases hh
  exact dq_ret0 (by decide +kernel) rfl
def f34 (L : Nat) (xs : Nat → Int32) (zf : Value) (D : dD) (w : Nat) (As : List Value) (h : rm_H) : Option dR := match As with
  | [.int i0, .int i1] => b34_0 L xs zf D w i0 i1 h
  | _ => none
theorem d34 {L : Nat} {xs : Nat → Int32} {zf : Value} {D : dD} {w k : Nat} (hD : dO L xs zf D k) (hz : zf.category = 1) (As : List Value) (h : rm_H) (r : dR) (hh : f34 L xs zf D w As h = some r) : dq L xs zf ah_M34 0 (lv_args 0 As) [] h (k + 1) r := by
  unfold f34 at hh
  split at hh
  · refine c34_0 hD hz _ _ _ _ _ ?_ ?_ hh
    all_goals (simp only [la_r, la_i, la_j]; rfl)
  · cases hh
