/-! THE REFERENCE'S METHODS OVER ITS STATE, printed by wip/whole/gen_ref.py -/
def s307_42 (E : rE) (w : Nat) (i2 : Int32) (s : rS) : Option rA :=
  rrI (some .int) i2 s
theorem r307_42 {L : Nat} {xs : Nat → Int32} {zf : Value} {D : dD} {E : rE} {w : Nat} (hD : rO D E L xs) : ∀ (i2 : Int32) (h : rm_H) (s : rS) (r : rA), RS h s → s307_42 E w i2 s = some r → rx (b307_42 L xs zf D w i2 h) h r := by
  intro i2 h s r hR hh
  unfold s307_42 at hh
  unfold b307_42
  exact rx_I hR hh
def s307_38 (E : rE) (w : Nat) (i2 : Int32) (s : rS) : Option rA :=
  ((E 304 [.ref 36] s).bind rxV).bind fun s1 =>
  s307_42 E w i2 s1
theorem r307_38 {L : Nat} {xs : Nat → Int32} {zf : Value} {D : dD} {E : rE} {w : Nat} (hD : rO D E L xs) : ∀ (i2 : Int32) (h : rm_H) (s : rS) (r : rA), RS h s → s307_38 E w i2 s = some r → rx (b307_38 L xs zf D w (some 36) i2 h) h r := by
  intro i2 h s r hR hh
  unfold s307_38 at hh
  unfold b307_38
  obtain ⟨s1, q2, hh⟩ := db hh
  obtain ⟨h3, e4, hR, f5⟩ := rs_vV hD hR q2
  refine rx_w e4 f5 ?_
  exact r307_42 hD _ _ _ _ hR hh
def s307_0 (E : rE) (w : Nat) (i1 : Int32) (s : rS) : Option rA :=
  if mx_f1 .ne (s.1 57) = true then
    s307_38 E w (s.1 56) s
  else
    (rs_aI s 40 (s.1 56)).bind fun x2 =>
    if mx_f2 .ne x2 i1 = true then
      s307_38 E w (s.1 56) s
    else
      (rs_pI s 56 ((s.1 56) + 1)).bind fun s5 =>
      s307_42 E w (s.1 56) s5
theorem r307_0 {L : Nat} {xs : Nat → Int32} {zf : Value} {D : dD} {E : rE} {w : Nat} (hD : rO D E L xs) : ∀ (i1 : Int32) (h : rm_H) (s : rS) (r : rA), RS h s → s307_0 E w i1 s = some r → rx (b307_0 L xs zf D w (some 36) i1 h) h r := by
  intro i1 h s r hR hh
  unfold s307_0 at hh
  unfold b307_0
  refine rx_b (rs_gI hR 56 _ rfl) ?_
  refine rx_b (rs_gI hR 57 _ rfl) ?_
  rcases di hh with ⟨q1, hh⟩ | ⟨q1, hh⟩
  · refine rx_t q1 ?_
    exact r307_38 hD _ _ _ _ hR hh
  · refine rx_f q1 ?_
    refine rx_b (rs_gR hR 6 40 rfl) ?_
    refine rx_b (rs_gI hR 56 _ rfl) ?_
    obtain ⟨x2, q3, hh⟩ := db hh
    refine rx_b (rs_aI_ok hR q3) ?_
    rcases di hh with ⟨q4, hh⟩ | ⟨q4, hh⟩
    · refine rx_t q4 ?_
      exact r307_38 hD _ _ _ _ hR hh
    · refine rx_f q4 ?_
      refine rx_b (rs_gI hR 56 _ rfl) ?_
      obtain ⟨s5, q6, hh⟩ := db hh
      obtain ⟨h7, e8, hR, f9⟩ := rs_pI_ok (rs_m56 _ _) (by decide) hR q6
      refine rx_w e8 f9 ?_
      exact r307_42 hD _ _ _ _ hR hh
def g307 (E : rE) (w : Nat) (As : List Value) (s : rS) : Option rA := match As with
  | [.ref 36, .int i1] => s307_0 E w i1 s
  | _ => none
theorem t307 {L : Nat} {xs : Nat → Int32} {zf : Value} {D : dD} {E : rE} {w : Nat} (hD : rO D E L xs) (As : List Value) (h : rm_H) (s : rS) (r : rA) (hR : RS h s) (hh : g307 E w As s = some r) : rx (f307 L xs zf D w As h) h r := by
  unfold g307 at hh
  split at hh
  · unfold f307
    dsimp only
    refine rx_b (a := some 36) rfl ?_
    exact r307_0 hD _ _ _ _ hR hh
  · cases hh
def s308_12 (E : rE) (w : Nat) (s : rS) : Option rA :=
  some (none, s)
theorem r308_12 {L : Nat} {xs : Nat → Int32} {zf : Value} {D : dD} {E : rE} {w : Nat} (hD : rO D E L xs) : ∀ (h : rm_H) (s : rS) (r : rA), RS h s → s308_12 E w s = some r → rx (b308_12 L xs zf D w h) h r := by
  intro h s r hR hh
  unfold s308_12 at hh
  unfold b308_12
  cases hh
  exact rx_0 hR
def s308_0 (E : rE) (w : Nat) (i1 : Int32) (s : rS) : Option rA :=
  ((E 309 [.ref 36, .int i1] s).bind rxI).bind fun x1 =>
  if mx_f1 .ne x1.1 = true then
    s308_12 E w x1.2
  else
    ((E 304 [.ref 36] x1.2).bind rxV).bind fun s7 =>
    s308_12 E w s7
theorem r308_0 {L : Nat} {xs : Nat → Int32} {zf : Value} {D : dD} {E : rE} {w : Nat} (hD : rO D E L xs) : ∀ (i1 : Int32) (h : rm_H) (s : rS) (r : rA), RS h s → s308_0 E w i1 s = some r → rx (b308_0 L xs zf D w (some 36) i1 h) h r := by
  intro i1 h s r hR hh
  unfold s308_0 at hh
  unfold b308_0
  obtain ⟨x1, q2, hh⟩ := db hh
  obtain ⟨h3, e4, hR, f5⟩ := rs_vI hD hR q2
  refine rx_c e4 f5 ?_
  rcases di hh with ⟨q6, hh⟩ | ⟨q6, hh⟩
  · refine rx_t q6 ?_
    exact r308_12 hD  _ _ _ hR hh
  · refine rx_f q6 ?_
    obtain ⟨s7, q8, hh⟩ := db hh
    obtain ⟨h9, e10, hR, f11⟩ := rs_vV hD hR q8
    refine rx_w e10 f11 ?_
    exact r308_12 hD  _ _ _ hR hh
def g308 (E : rE) (w : Nat) (As : List Value) (s : rS) : Option rA := match As with
  | [.ref 36, .int i1] => s308_0 E w i1 s
  | _ => none
theorem t308 {L : Nat} {xs : Nat → Int32} {zf : Value} {D : dD} {E : rE} {w : Nat} (hD : rO D E L xs) (As : List Value) (h : rm_H) (s : rS) (r : rA) (hR : RS h s) (hh : g308 E w As s = some r) : rx (f308 L xs zf D w As h) h r := by
  unfold g308 at hh
  split at hh
  · unfold f308
    dsimp only
    refine rx_b (a := some 36) rfl ?_
    exact r308_0 hD _ _ _ _ hR hh
  · cases hh
def s309_0 (E : rE) (w : Nat) (i1 : Int32) (s : rS) : Option rA :=
  ((E 310 [.ref 36, .int i1] s).bind rxI).bind fun x1 =>
  if mx_f1 .ne x1.1 = true then
    (rs_pI x1.2 56 ((x1.2.1 56) + 1)).bind fun s7 =>
    rrI (some .boolean) 1 s7
  else
    rrI (some .boolean) 0 x1.2
theorem r309_0 {L : Nat} {xs : Nat → Int32} {zf : Value} {D : dD} {E : rE} {w : Nat} (hD : rO D E L xs) : ∀ (i1 : Int32) (h : rm_H) (s : rS) (r : rA), RS h s → s309_0 E w i1 s = some r → rx (b309_0 L xs zf D w (some 36) i1 h) h r := by
  intro i1 h s r hR hh
  unfold s309_0 at hh
  unfold b309_0
  obtain ⟨x1, q2, hh⟩ := db hh
  obtain ⟨h3, e4, hR, f5⟩ := rs_vI hD hR q2
  refine rx_c e4 f5 ?_
  rcases di hh with ⟨q6, hh⟩ | ⟨q6, hh⟩
  · refine rx_t q6 ?_
    refine rx_b (rs_gI hR 56 _ rfl) ?_
    obtain ⟨s7, q8, hh⟩ := db hh
    obtain ⟨h9, e10, hR, f11⟩ := rs_pI_ok (rs_m56 _ _) (by decide) hR q8
    refine rx_w e10 f11 ?_
    exact rx_I hR hh
  · refine rx_f q6 ?_
    exact rx_I hR hh
def g309 (E : rE) (w : Nat) (As : List Value) (s : rS) : Option rA := match As with
  | [.ref 36, .int i1] => s309_0 E w i1 s
  | _ => none
theorem t309 {L : Nat} {xs : Nat → Int32} {zf : Value} {D : dD} {E : rE} {w : Nat} (hD : rO D E L xs) (As : List Value) (h : rm_H) (s : rS) (r : rA) (hR : RS h s) (hh : g309 E w As s = some r) : rx (f309 L xs zf D w As h) h r := by
  unfold g309 at hh
  split at hh
  · unfold f309
    dsimp only
    refine rx_b (a := some 36) rfl ?_
    exact r309_0 hD _ _ _ _ hR hh
  · cases hh
def s310_38 (E : rE) (w : Nat) (s0 : Int32) (s : rS) : Option rA :=
  rrI (some .boolean) s0 s
theorem r310_38 {L : Nat} {xs : Nat → Int32} {zf : Value} {D : dD} {E : rE} {w : Nat} (hD : rO D E L xs) : ∀ (s0 : Int32) (h : rm_H) (s : rS) (r : rA), RS h s → s310_38 E w s0 s = some r → rx (b310_38 L xs zf D w s0 h) h r := by
  intro s0 h s r hR hh
  unfold s310_38 at hh
  unfold b310_38
  exact rx_I hR hh
def s310_37 (E : rE) (w : Nat) (s : rS) : Option rA :=
  s310_38 E w 0 s
theorem r310_37 {L : Nat} {xs : Nat → Int32} {zf : Value} {D : dD} {E : rE} {w : Nat} (hD : rO D E L xs) : ∀ (h : rm_H) (s : rS) (r : rA), RS h s → s310_37 E w s = some r → rx (b310_37 L xs zf D w h) h r := by
  intro h s r hR hh
  unfold s310_37 at hh
  unfold b310_37
  exact r310_38 hD _ _ _ _ hR hh
def s310_0 (E : rE) (w : Nat) (i1 : Int32) (s : rS) : Option rA :=
  if mx_f1 .ne (s.1 57) = true then
    s310_37 E w s
  else
    (rs_aI s 40 (s.1 56)).bind fun x2 =>
    if mx_f2 .ne x2 5 = true then
      s310_37 E w s
    else
      (rs_aI s 42 (s.1 56)).bind fun x5 =>
      if mx_f2 .ne x5 i1 = true then
        s310_37 E w s
      else
        s310_38 E w 1 s
theorem r310_0 {L : Nat} {xs : Nat → Int32} {zf : Value} {D : dD} {E : rE} {w : Nat} (hD : rO D E L xs) : ∀ (i1 : Int32) (h : rm_H) (s : rS) (r : rA), RS h s → s310_0 E w i1 s = some r → rx (b310_0 L xs zf D w (some 36) i1 h) h r := by
  intro i1 h s r hR hh
  unfold s310_0 at hh
  unfold b310_0
  refine rx_b (rs_gI hR 57 _ rfl) ?_
  rcases di hh with ⟨q1, hh⟩ | ⟨q1, hh⟩
  · refine rx_t q1 ?_
    exact r310_37 hD  _ _ _ hR hh
  · refine rx_f q1 ?_
    refine rx_b (rs_gR hR 6 40 rfl) ?_
    refine rx_b (rs_gI hR 56 _ rfl) ?_
    obtain ⟨x2, q3, hh⟩ := db hh
    refine rx_b (rs_aI_ok hR q3) ?_
    rcases di hh with ⟨q4, hh⟩ | ⟨q4, hh⟩
    · refine rx_t q4 ?_
      exact r310_37 hD  _ _ _ hR hh
    · refine rx_f q4 ?_
      refine rx_b (rs_gR hR 8 42 rfl) ?_
      refine rx_b (rs_gI hR 56 _ rfl) ?_
      obtain ⟨x5, q6, hh⟩ := db hh
      refine rx_b (rs_aI_ok hR q6) ?_
      rcases di hh with ⟨q7, hh⟩ | ⟨q7, hh⟩
      · refine rx_t q7 ?_
        exact r310_37 hD  _ _ _ hR hh
      · refine rx_f q7 ?_
        exact r310_38 hD _ _ _ _ hR hh
def g310 (E : rE) (w : Nat) (As : List Value) (s : rS) : Option rA := match As with
  | [.ref 36, .int i1] => s310_0 E w i1 s
  | _ => none
theorem t310 {L : Nat} {xs : Nat → Int32} {zf : Value} {D : dD} {E : rE} {w : Nat} (hD : rO D E L xs) (As : List Value) (h : rm_H) (s : rS) (r : rA) (hR : RS h s) (hh : g310 E w As s = some r) : rx (f310 L xs zf D w As h) h r := by
  unfold g310 at hh
  split at hh
  · unfold f310
    dsimp only
    refine rx_b (a := some 36) rfl ?_
    exact r310_0 hD _ _ _ _ hR hh
  · cases hh
def s311_37 (E : rE) (w : Nat) (i1 : Int32) (s0 : Int32) (s : rS) : Option rA :=
  ((E 308 [.ref 36, .int 59] s).bind rxV).bind fun s1 =>
  (rs_aJ s1 43 i1).bind fun y6 =>
  (rs_sJ s1 67 (s1.1 38) y6).bind fun s8 =>
  (rs_aI s8 41 i1).bind fun x13 =>
  (rs_sI s8 68 (s8.1 38) x13).bind fun s15 =>
  (rs_sI s15 69 (s15.1 38) s0).bind fun s20 =>
  (rs_pI s20 38 ((s20.1 38) + 1)).bind fun s25 =>
  some (none, s25)
theorem r311_37 {L : Nat} {xs : Nat → Int32} {zf : Value} {D : dD} {E : rE} {w : Nat} (hD : rO D E L xs) : ∀ (i1 : Int32) (s0 : Int32) (h : rm_H) (s : rS) (r : rA), RS h s → s311_37 E w i1 s0 s = some r → rx (b311_37 L xs zf D w (some 36) i1 s0 h) h r := by
  intro i1 s0 h s r hR hh
  unfold s311_37 at hh
  unfold b311_37
  obtain ⟨s1, q2, hh⟩ := db hh
  obtain ⟨h3, e4, hR, f5⟩ := rs_vV hD hR q2
  refine rx_w e4 f5 ?_
  refine rx_b (rs_gR hR 39 67 rfl) ?_
  refine rx_b (rs_gI hR 38 _ rfl) ?_
  refine rx_b (rs_gR hR 9 43 rfl) ?_
  obtain ⟨y6, q7, hh⟩ := db hh
  refine rx_b (rs_aJ_ok hR q7) ?_
  obtain ⟨s8, q9, hh⟩ := db hh
  obtain ⟨h10, e11, hR, f12⟩ := rs_sJ_ok hR q9
  refine rx_w e11 f12 ?_
  refine rx_b (rs_gR hR 40 68 rfl) ?_
  refine rx_b (rs_gI hR 38 _ rfl) ?_
  refine rx_b (rs_gR hR 7 41 rfl) ?_
  obtain ⟨x13, q14, hh⟩ := db hh
  refine rx_b (rs_aI_ok hR q14) ?_
  obtain ⟨s15, q16, hh⟩ := db hh
  obtain ⟨h17, e18, hR, f19⟩ := rs_sI_ok hR q16
  refine rx_w e18 f19 ?_
  refine rx_b (rs_gR hR 41 69 rfl) ?_
  refine rx_b (rs_gI hR 38 _ rfl) ?_
  obtain ⟨s20, q21, hh⟩ := db hh
  obtain ⟨h22, e23, hR, f24⟩ := rs_sI_ok hR q21
  refine rx_w e23 f24 ?_
  refine rx_b (rs_gI hR 38 _ rfl) ?_
  obtain ⟨s25, q26, hh⟩ := db hh
  obtain ⟨h27, e28, hR, f29⟩ := rs_pI_ok (rs_m38 _ _) (by decide) hR q26
  refine rx_w e28 f29 ?_
  cases hh
  exact rx_0 hR
def s311_0 (E : rE) (w : Nat) (s : rS) : Option rA :=
  (rs_pI s 56 ((s.1 56) + 1)).bind fun s1 =>
  ((E 307 [.ref 36, .int 1] s1).bind rxI).bind fun x6 =>
  ((E 308 [.ref 36, .int 58] x6.2).bind rxV).bind fun s11 =>
  if mx_f1 .le (s11.1 57) = true then
    ((E 312 [.ref 36] s11).bind rxI).bind fun x17 =>
    s311_37 E w x6.1 x17.1 x17.2
  else
    s311_37 E w x6.1 0 s11
theorem r311_0 {L : Nat} {xs : Nat → Int32} {zf : Value} {D : dD} {E : rE} {w : Nat} (hD : rO D E L xs) : ∀ (h : rm_H) (s : rS) (r : rA), RS h s → s311_0 E w s = some r → rx (b311_0 L xs zf D w (some 36) h) h r := by
  intro h s r hR hh
  unfold s311_0 at hh
  unfold b311_0
  refine rx_b (rs_gI hR 56 _ rfl) ?_
  obtain ⟨s1, q2, hh⟩ := db hh
  obtain ⟨h3, e4, hR, f5⟩ := rs_pI_ok (rs_m56 _ _) (by decide) hR q2
  refine rx_w e4 f5 ?_
  obtain ⟨x6, q7, hh⟩ := db hh
  obtain ⟨h8, e9, hR, f10⟩ := rs_vI hD hR q7
  refine rx_c e9 f10 ?_
  obtain ⟨s11, q12, hh⟩ := db hh
  obtain ⟨h13, e14, hR, f15⟩ := rs_vV hD hR q12
  refine rx_w e14 f15 ?_
  refine rx_b (rs_gI hR 57 _ rfl) ?_
  rcases di hh with ⟨q16, hh⟩ | ⟨q16, hh⟩
  · refine rx_t q16 ?_
    obtain ⟨x17, q18, hh⟩ := db hh
    obtain ⟨h19, e20, hR, f21⟩ := rs_vI hD hR q18
    refine rx_c e20 f21 ?_
    exact r311_37 hD _ _ _ _ _ hR hh
  · refine rx_f q16 ?_
    exact r311_37 hD _ _ _ _ _ hR hh
def g311 (E : rE) (w : Nat) (As : List Value) (s : rS) : Option rA := match As with
  | [.ref 36] => s311_0 E w s
  | _ => none
theorem t311 {L : Nat} {xs : Nat → Int32} {zf : Value} {D : dD} {E : rE} {w : Nat} (hD : rO D E L xs) (As : List Value) (h : rm_H) (s : rS) (r : rA) (hR : RS h s) (hh : g311 E w As s = some r) : rx (f311 L xs zf D w As h) h r := by
  unfold g311 at hh
  split at hh
  · unfold f311
    dsimp only
    refine rx_b (a := some 36) rfl ?_
    exact r311_0 hD  _ _ _ hR hh
  · cases hh
def s312_123 (E : rE) (w : Nat) (i1 : Int32) (s : rS) : Option rA :=
  ((E 307 [.ref 36, .int 3] s).bind rxI).bind fun x1 =>
  (rs_aI x1.2 41 x1.1).bind fun x6 =>
  (rs_sI x1.2 59 i1 x6).bind fun s8 =>
  (rs_aJ s8 43 x1.1).bind fun y13 =>
  (rs_sJ s8 61 i1 y13).bind fun s15 =>
  rrI (some .int) i1 s15
theorem r312_123 {L : Nat} {xs : Nat → Int32} {zf : Value} {D : dD} {E : rE} {w : Nat} (hD : rO D E L xs) : ∀ (i1 : Int32) (h : rm_H) (s : rS) (r : rA), RS h s → s312_123 E w i1 s = some r → rx (b312_123 L xs zf D w (some 36) i1 h) h r := by
  intro i1 h s r hR hh
  unfold s312_123 at hh
  unfold b312_123
  obtain ⟨x1, q2, hh⟩ := db hh
  obtain ⟨h3, e4, hR, f5⟩ := rs_vI hD hR q2
  refine rx_c e4 f5 ?_
  refine rx_b (rs_gR hR 29 59 rfl) ?_
  refine rx_b (rs_gR hR 7 41 rfl) ?_
  obtain ⟨x6, q7, hh⟩ := db hh
  refine rx_b (rs_aI_ok hR q7) ?_
  obtain ⟨s8, q9, hh⟩ := db hh
  obtain ⟨h10, e11, hR, f12⟩ := rs_sI_ok hR q9
  refine rx_w e11 f12 ?_
  refine rx_b (rs_gR hR 31 61 rfl) ?_
  refine rx_b (rs_gR hR 9 43 rfl) ?_
  obtain ⟨y13, q14, hh⟩ := db hh
  refine rx_b (rs_aJ_ok hR q14) ?_
  obtain ⟨s15, q16, hh⟩ := db hh
  obtain ⟨h17, e18, hR, f19⟩ := rs_sJ_ok hR q16
  refine rx_w e18 f19 ?_
  exact rx_I hR hh
def s312_0 (E : rE) (w : Nat) (s : rS) : Option rA :=
  (rs_pI s 26 ((s.1 26) + 1)).bind fun s1 =>
  (rs_aI s1 41 (s1.1 56)).bind fun x6 =>
  (rs_sI s1 58 (s.1 26) x6).bind fun s8 =>
  (rs_sI s8 57 (s.1 26) 5).bind fun s13 =>
  (rs_sJ s13 61 (s.1 26) 0).bind fun s18 =>
  ((E 303 [.ref 36, .int 23] s18).bind rxI).bind fun x23 =>
  if mx_f1 .eq x23.1 = true then
    ((E 313 [.ref 36] x23.2).bind rxI).bind fun x29 =>
    if mx_f1 .eq x29.1 = true then
      s312_123 E w (s.1 26) x29.2
    else
      (rs_aI x29.2 42 (x29.2.1 56)).bind fun x35 =>
      (rs_sI x29.2 57 (s.1 26) (x35 - 18)).bind fun s37 =>
      (rs_pI s37 56 ((s37.1 56) + 1)).bind fun s42 =>
      s312_123 E w (s.1 26) s42
  else
    (rs_sI x23.2 57 (s.1 26) 6).bind fun s47 =>
    (rs_aI s47 41 (s47.1 56)).bind fun x52 =>
    (rs_sI s47 59 (s.1 26) x52).bind fun s54 =>
    (rs_pI s54 56 ((s54.1 56) + 1)).bind fun s59 =>
    rrI (some .int) (s.1 26) s59
theorem r312_0 {L : Nat} {xs : Nat → Int32} {zf : Value} {D : dD} {E : rE} {w : Nat} (hD : rO D E L xs) : ∀ (h : rm_H) (s : rS) (r : rA), RS h s → s312_0 E w s = some r → rx (b312_0 L xs zf D w (some 36) h) h r := by
  intro h s r hR hh
  unfold s312_0 at hh
  unfold b312_0
  refine rx_b (rs_gI hR 26 _ rfl) ?_
  refine rx_b (rs_gI hR 26 _ rfl) ?_
  obtain ⟨s1, q2, hh⟩ := db hh
  obtain ⟨h3, e4, hR, f5⟩ := rs_pI_ok (rs_m26 _ _) (by decide) hR q2
  refine rx_w e4 f5 ?_
  refine rx_b (rs_gR hR 28 58 rfl) ?_
  refine rx_b (rs_gR hR 7 41 rfl) ?_
  refine rx_b (rs_gI hR 56 _ rfl) ?_
  obtain ⟨x6, q7, hh⟩ := db hh
  refine rx_b (rs_aI_ok hR q7) ?_
  obtain ⟨s8, q9, hh⟩ := db hh
  obtain ⟨h10, e11, hR, f12⟩ := rs_sI_ok hR q9
  refine rx_w e11 f12 ?_
  refine rx_b (rs_gR hR 27 57 rfl) ?_
  obtain ⟨s13, q14, hh⟩ := db hh
  obtain ⟨h15, e16, hR, f17⟩ := rs_sI_ok hR q14
  refine rx_w e16 f17 ?_
  refine rx_b (rs_gR hR 31 61 rfl) ?_
  obtain ⟨s18, q19, hh⟩ := db hh
  obtain ⟨h20, e21, hR, f22⟩ := rs_sJ_ok hR q19
  refine rx_w e21 f22 ?_
  obtain ⟨x23, q24, hh⟩ := db hh
  obtain ⟨h25, e26, hR, f27⟩ := rs_vI hD hR q24
  refine rx_c e26 f27 ?_
  rcases di hh with ⟨q28, hh⟩ | ⟨q28, hh⟩
  · refine rx_t q28 ?_
    obtain ⟨x29, q30, hh⟩ := db hh
    obtain ⟨h31, e32, hR, f33⟩ := rs_vI hD hR q30
    refine rx_c e32 f33 ?_
    rcases di hh with ⟨q34, hh⟩ | ⟨q34, hh⟩
    · refine rx_t q34 ?_
      exact r312_123 hD _ _ _ _ hR hh
    · refine rx_f q34 ?_
      refine rx_b (rs_gR hR 27 57 rfl) ?_
      refine rx_b (rs_gR hR 8 42 rfl) ?_
      refine rx_b (rs_gI hR 56 _ rfl) ?_
      obtain ⟨x35, q36, hh⟩ := db hh
      refine rx_b (rs_aI_ok hR q36) ?_
      obtain ⟨s37, q38, hh⟩ := db hh
      obtain ⟨h39, e40, hR, f41⟩ := rs_sI_ok hR q38
      refine rx_w e40 f41 ?_
      refine rx_b (rs_gI hR 56 _ rfl) ?_
      obtain ⟨s42, q43, hh⟩ := db hh
      obtain ⟨h44, e45, hR, f46⟩ := rs_pI_ok (rs_m56 _ _) (by decide) hR q43
      refine rx_w e45 f46 ?_
      exact r312_123 hD _ _ _ _ hR hh
  · refine rx_f q28 ?_
    refine rx_b (rs_gR hR 27 57 rfl) ?_
    obtain ⟨s47, q48, hh⟩ := db hh
    obtain ⟨h49, e50, hR, f51⟩ := rs_sI_ok hR q48
    refine rx_w e50 f51 ?_
    refine rx_b (rs_gR hR 29 59 rfl) ?_
    refine rx_b (rs_gR hR 7 41 rfl) ?_
    refine rx_b (rs_gI hR 56 _ rfl) ?_
    obtain ⟨x52, q53, hh⟩ := db hh
    refine rx_b (rs_aI_ok hR q53) ?_
    obtain ⟨s54, q55, hh⟩ := db hh
    obtain ⟨h56, e57, hR, f58⟩ := rs_sI_ok hR q55
    refine rx_w e57 f58 ?_
    refine rx_b (rs_gI hR 56 _ rfl) ?_
    obtain ⟨s59, q60, hh⟩ := db hh
    obtain ⟨h61, e62, hR, f63⟩ := rs_pI_ok (rs_m56 _ _) (by decide) hR q60
    refine rx_w e62 f63 ?_
    exact rx_I hR hh
def g312 (E : rE) (w : Nat) (As : List Value) (s : rS) : Option rA := match As with
  | [.ref 36] => s312_0 E w s
  | _ => none
theorem t312 {L : Nat} {xs : Nat → Int32} {zf : Value} {D : dD} {E : rE} {w : Nat} (hD : rO D E L xs) (As : List Value) (h : rm_H) (s : rS) (r : rA) (hR : RS h s) (hh : g312 E w As s = some r) : rx (f312 L xs zf D w As h) h r := by
  unfold g312 at hh
  split at hh
  · unfold f312
    dsimp only
    refine rx_b (a := some 36) rfl ?_
    exact r312_0 hD  _ _ _ hR hh
  · cases hh
def s313_53 (E : rE) (w : Nat) (s0 : Int32) (s : rS) : Option rA :=
  rrI (some .boolean) s0 s
theorem r313_53 {L : Nat} {xs : Nat → Int32} {zf : Value} {D : dD} {E : rE} {w : Nat} (hD : rO D E L xs) : ∀ (s0 : Int32) (h : rm_H) (s : rS) (r : rA), RS h s → s313_53 E w s0 s = some r → rx (b313_53 L xs zf D w s0 h) h r := by
  intro s0 h s r hR hh
  unfold s313_53 at hh
  unfold b313_53
  exact rx_I hR hh
def s313_52 (E : rE) (w : Nat) (s : rS) : Option rA :=
  s313_53 E w 0 s
theorem r313_52 {L : Nat} {xs : Nat → Int32} {zf : Value} {D : dD} {E : rE} {w : Nat} (hD : rO D E L xs) : ∀ (h : rm_H) (s : rS) (r : rA), RS h s → s313_52 E w s = some r → rx (b313_52 L xs zf D w h) h r := by
  intro h s r hR hh
  unfold s313_52 at hh
  unfold b313_52
  exact r313_53 hD _ _ _ _ hR hh
def s313_0 (E : rE) (w : Nat) (s : rS) : Option rA :=
  if mx_f1 .ne (s.1 57) = true then
    s313_52 E w s
  else
    (rs_aI s 40 (s.1 56)).bind fun x2 =>
    if mx_f2 .ne x2 2 = true then
      s313_52 E w s
    else
      (rs_aI s 42 (s.1 56)).bind fun x5 =>
      if mx_f2 .lt x5 18 = true then
        s313_52 E w s
      else
        (rs_aI s 42 (s.1 56)).bind fun x8 =>
        if mx_f2 .gt x8 22 = true then
          s313_52 E w s
        else
          s313_53 E w 1 s
theorem r313_0 {L : Nat} {xs : Nat → Int32} {zf : Value} {D : dD} {E : rE} {w : Nat} (hD : rO D E L xs) : ∀ (h : rm_H) (s : rS) (r : rA), RS h s → s313_0 E w s = some r → rx (b313_0 L xs zf D w (some 36) h) h r := by
  intro h s r hR hh
  unfold s313_0 at hh
  unfold b313_0
  refine rx_b (rs_gI hR 57 _ rfl) ?_
  rcases di hh with ⟨q1, hh⟩ | ⟨q1, hh⟩
  · refine rx_t q1 ?_
    exact r313_52 hD  _ _ _ hR hh
  · refine rx_f q1 ?_
    refine rx_b (rs_gR hR 6 40 rfl) ?_
    refine rx_b (rs_gI hR 56 _ rfl) ?_
    obtain ⟨x2, q3, hh⟩ := db hh
    refine rx_b (rs_aI_ok hR q3) ?_
    rcases di hh with ⟨q4, hh⟩ | ⟨q4, hh⟩
    · refine rx_t q4 ?_
      exact r313_52 hD  _ _ _ hR hh
    · refine rx_f q4 ?_
      refine rx_b (rs_gR hR 8 42 rfl) ?_
      refine rx_b (rs_gI hR 56 _ rfl) ?_
      obtain ⟨x5, q6, hh⟩ := db hh
      refine rx_b (rs_aI_ok hR q6) ?_
      rcases di hh with ⟨q7, hh⟩ | ⟨q7, hh⟩
      · refine rx_t q7 ?_
        exact r313_52 hD  _ _ _ hR hh
      · refine rx_f q7 ?_
        refine rx_b (rs_gR hR 8 42 rfl) ?_
        refine rx_b (rs_gI hR 56 _ rfl) ?_
        obtain ⟨x8, q9, hh⟩ := db hh
        refine rx_b (rs_aI_ok hR q9) ?_
        rcases di hh with ⟨q10, hh⟩ | ⟨q10, hh⟩
        · refine rx_t q10 ?_
          exact r313_52 hD  _ _ _ hR hh
        · refine rx_f q10 ?_
          exact r313_53 hD _ _ _ _ hR hh
def g313 (E : rE) (w : Nat) (As : List Value) (s : rS) : Option rA := match As with
  | [.ref 36] => s313_0 E w s
  | _ => none
theorem t313 {L : Nat} {xs : Nat → Int32} {zf : Value} {D : dD} {E : rE} {w : Nat} (hD : rO D E L xs) (As : List Value) (h : rm_H) (s : rS) (r : rA) (hR : RS h s) (hh : g313 E w As s = some r) : rx (f313 L xs zf D w As h) h r := by
  unfold g313 at hh
  split at hh
  · unfold f313
    dsimp only
    refine rx_b (a := some 36) rfl ?_
    exact r313_0 hD  _ _ _ hR hh
  · cases hh
def s314_228 (E : rE) (w : Nat) (i3 : Int32) (s : rS) : Option rA :=
  (rs_aI s 77 i3).bind fun x1 =>
  (rs_pI s 59 ((s.1 52) - x1)).bind fun s3 =>
  (rs_aI s3 41 (s3.1 56)).bind fun x8 =>
  ((E 316 [.ref 36, .int 31, .int x8] s3).bind rxI).bind fun x10 =>
  ((E 317 [.ref 36, .int 1] x10.2).bind rxI).bind fun x15 =>
  (rs_sI x15.2 45 x10.1 x15.1).bind fun s20 =>
  (rs_aI s20 45 x10.1).bind fun x25 =>
  (rs_sI s20 49 x25 x10.1).bind fun s27 =>
  (rs_sI s27 54 x10.1 i3).bind fun s32 =>
  (rs_sI s32 76 i3 x10.1).bind fun s37 =>
  some (none, s37)
theorem r314_228 {L : Nat} {xs : Nat → Int32} {zf : Value} {D : dD} {E : rE} {w : Nat} (hD : rO D E L xs) : ∀ (i3 : Int32) (h : rm_H) (s : rS) (r : rA), RS h s → s314_228 E w i3 s = some r → rx (b314_228 L xs zf D w (some 36) i3 h) h r := by
  intro i3 h s r hR hh
  unfold s314_228 at hh
  unfold b314_228
  refine rx_b (rs_gI hR 52 _ rfl) ?_
  refine rx_b (rs_gR hR 50 77 rfl) ?_
  obtain ⟨x1, q2, hh⟩ := db hh
  refine rx_b (rs_aI_ok hR q2) ?_
  obtain ⟨s3, q4, hh⟩ := db hh
  obtain ⟨h5, e6, hR, f7⟩ := rs_pI_ok (rs_m59 _ _) (by decide) hR q4
  refine rx_w e6 f7 ?_
  refine rx_b (rs_gR hR 7 41 rfl) ?_
  refine rx_b (rs_gI hR 56 _ rfl) ?_
  obtain ⟨x8, q9, hh⟩ := db hh
  refine rx_b (rs_aI_ok hR q9) ?_
  obtain ⟨x10, q11, hh⟩ := db hh
  obtain ⟨h12, e13, hR, f14⟩ := rs_vI hD hR q11
  refine rx_c e13 f14 ?_
  refine rx_b (rs_gR hR 12 45 rfl) ?_
  obtain ⟨x15, q16, hh⟩ := db hh
  obtain ⟨h17, e18, hR, f19⟩ := rs_vI hD hR q16
  refine rx_c e18 f19 ?_
  obtain ⟨s20, q21, hh⟩ := db hh
  obtain ⟨h22, e23, hR, f24⟩ := rs_sI_ok hR q21
  refine rx_w e23 f24 ?_
  refine rx_b (rs_gR hR 16 49 rfl) ?_
  refine rx_b (rs_gR hR 12 45 rfl) ?_
  obtain ⟨x25, q26, hh⟩ := db hh
  refine rx_b (rs_aI_ok hR q26) ?_
  obtain ⟨s27, q28, hh⟩ := db hh
  obtain ⟨h29, e30, hR, f31⟩ := rs_sI_ok hR q28
  refine rx_w e30 f31 ?_
  refine rx_b (rs_gR hR 21 54 rfl) ?_
  obtain ⟨s32, q33, hh⟩ := db hh
  obtain ⟨h34, e35, hR, f36⟩ := rs_sI_ok hR q33
  refine rx_w e35 f36 ?_
  refine rx_b (rs_gR hR 49 76 rfl) ?_
  obtain ⟨s37, q38, hh⟩ := db hh
  obtain ⟨h39, e40, hR, f41⟩ := rs_sI_ok hR q38
  refine rx_w e40 f41 ?_
  cases hh
  exact rx_0 hR
def s314_178 (E : rE) (w : Nat) (i2 : Int32) (i3 : Int32) (s : rS) : Option rA :=
  (rs_sI s 77 i3 (s.1 52)).bind fun s1 =>
  ((E 315 [.ref 36] s1).bind rxV).bind fun s6 =>
  (rs_sI s6 77 (i3 + 1) (s6.1 52)).bind fun s11 =>
  if mx_f2 .ne i2 1 = true then
    s314_228 E w i3 s11
  else
    ((E 309 [.ref 36, .int 58] s11).bind rxI).bind fun x17 =>
    if mx_f1 .eq x17.1 = true then
      s314_228 E w i3 x17.2
    else
      ((E 312 [.ref 36] x17.2).bind rxI).bind fun x23 =>
      (rs_sI x23.2 75 i3 x23.1).bind fun s28 =>
      s314_228 E w i3 s28
theorem r314_178 {L : Nat} {xs : Nat → Int32} {zf : Value} {D : dD} {E : rE} {w : Nat} (hD : rO D E L xs) : ∀ (i2 : Int32) (i3 : Int32) (h : rm_H) (s : rS) (r : rA), RS h s → s314_178 E w i2 i3 s = some r → rx (b314_178 L xs zf D w (some 36) i2 i3 h) h r := by
  intro i2 i3 h s r hR hh
  unfold s314_178 at hh
  unfold b314_178
  refine rx_b (rs_gR hR 50 77 rfl) ?_
  refine rx_b (rs_gI hR 52 _ rfl) ?_
  obtain ⟨s1, q2, hh⟩ := db hh
  obtain ⟨h3, e4, hR, f5⟩ := rs_sI_ok hR q2
  refine rx_w e4 f5 ?_
  obtain ⟨s6, q7, hh⟩ := db hh
  obtain ⟨h8, e9, hR, f10⟩ := rs_vV hD hR q7
  refine rx_w e9 f10 ?_
  refine rx_b (rs_gR hR 50 77 rfl) ?_
  refine rx_b (rs_gI hR 52 _ rfl) ?_
  obtain ⟨s11, q12, hh⟩ := db hh
  obtain ⟨h13, e14, hR, f15⟩ := rs_sI_ok hR q12
  refine rx_w e14 f15 ?_
  rcases di hh with ⟨q16, hh⟩ | ⟨q16, hh⟩
  · refine rx_t q16 ?_
    exact r314_228 hD _ _ _ _ hR hh
  · refine rx_f q16 ?_
    obtain ⟨x17, q18, hh⟩ := db hh
    obtain ⟨h19, e20, hR, f21⟩ := rs_vI hD hR q18
    refine rx_c e20 f21 ?_
    rcases di hh with ⟨q22, hh⟩ | ⟨q22, hh⟩
    · refine rx_t q22 ?_
      exact r314_228 hD _ _ _ _ hR hh
    · refine rx_f q22 ?_
      refine rx_b (rs_gR hR 48 75 rfl) ?_
      obtain ⟨x23, q24, hh⟩ := db hh
      obtain ⟨h25, e26, hR, f27⟩ := rs_vI hD hR q24
      refine rx_c e26 f27 ?_
      obtain ⟨s28, q29, hh⟩ := db hh
      obtain ⟨h30, e31, hR, f32⟩ := rs_sI_ok hR q29
      refine rx_w e31 f32 ?_
      exact r314_228 hD _ _ _ _ hR hh
def s314_141 (E : rE) (w : Nat) (i2 : Int32) (i3 : Int32) (s : rS) : Option rA :=
  if mx_f1 .le i2 = true then
    s314_178 E w i2 i3 s
  else
    ((E 307 [.ref 36, .int 1] s).bind rxI).bind fun x2 =>
    (rs_aJ x2.2 43 x2.1).bind fun y7 =>
    (rs_sJ x2.2 78 i3 y7).bind fun s9 =>
    (rs_aI s9 41 x2.1).bind fun x14 =>
    (rs_sI s9 74 i3 x14).bind fun s16 =>
    s314_178 E w i2 i3 s16
theorem r314_141 {L : Nat} {xs : Nat → Int32} {zf : Value} {D : dD} {E : rE} {w : Nat} (hD : rO D E L xs) : ∀ (i2 : Int32) (i3 : Int32) (h : rm_H) (s : rS) (r : rA), RS h s → s314_141 E w i2 i3 s = some r → rx (b314_141 L xs zf D w (some 36) i2 i3 h) h r := by
  intro i2 i3 h s r hR hh
  unfold s314_141 at hh
  unfold b314_141
  rcases di hh with ⟨q1, hh⟩ | ⟨q1, hh⟩
  · refine rx_t q1 ?_
    exact r314_178 hD _ _ _ _ _ hR hh
  · refine rx_f q1 ?_
    obtain ⟨x2, q3, hh⟩ := db hh
    obtain ⟨h4, e5, hR, f6⟩ := rs_vI hD hR q3
    refine rx_c e5 f6 ?_
    refine rx_b (rs_gR hR 51 78 rfl) ?_
    refine rx_b (rs_gR hR 9 43 rfl) ?_
    obtain ⟨y7, q8, hh⟩ := db hh
    refine rx_b (rs_aJ_ok hR q8) ?_
    obtain ⟨s9, q10, hh⟩ := db hh
    obtain ⟨h11, e12, hR, f13⟩ := rs_sJ_ok hR q10
    refine rx_w e12 f13 ?_
    refine rx_b (rs_gR hR 47 74 rfl) ?_
    refine rx_b (rs_gR hR 7 41 rfl) ?_
    obtain ⟨x14, q15, hh⟩ := db hh
    refine rx_b (rs_aI_ok hR q15) ?_
    obtain ⟨s16, q17, hh⟩ := db hh
    obtain ⟨h18, e19, hR, f20⟩ := rs_sI_ok hR q17
    refine rx_w e19 f20 ?_
    exact r314_178 hD _ _ _ _ _ hR hh
def s314_91 (E : rE) (w : Nat) (i2 : Int32) (i3 : Int32) (s : rS) : Option rA :=
  (rs_aI s 42 (s.1 56)).bind fun x1 =>
  (rs_sI s 72 i3 (x1 - 18)).bind fun s3 =>
  (rs_aI s3 41 (s3.1 56)).bind fun x8 =>
  (rs_sI s3 73 i3 x8).bind fun s10 =>
  if mx_f1 .ne (s10.1 57) = true then
    s314_141 E w i2 i3 s10
  else
    (rs_pI s10 56 ((s10.1 56) + 1)).bind fun s16 =>
    s314_141 E w i2 i3 s16
theorem r314_91 {L : Nat} {xs : Nat → Int32} {zf : Value} {D : dD} {E : rE} {w : Nat} (hD : rO D E L xs) : ∀ (i2 : Int32) (i3 : Int32) (h : rm_H) (s : rS) (r : rA), RS h s → s314_91 E w i2 i3 s = some r → rx (b314_91 L xs zf D w (some 36) i2 i3 h) h r := by
  intro i2 i3 h s r hR hh
  unfold s314_91 at hh
  unfold b314_91
  refine rx_b (rs_gR hR 45 72 rfl) ?_
  refine rx_b (rs_gR hR 8 42 rfl) ?_
  refine rx_b (rs_gI hR 56 _ rfl) ?_
  obtain ⟨x1, q2, hh⟩ := db hh
  refine rx_b (rs_aI_ok hR q2) ?_
  obtain ⟨s3, q4, hh⟩ := db hh
  obtain ⟨h5, e6, hR, f7⟩ := rs_sI_ok hR q4
  refine rx_w e6 f7 ?_
  refine rx_b (rs_gR hR 46 73 rfl) ?_
  refine rx_b (rs_gR hR 7 41 rfl) ?_
  refine rx_b (rs_gI hR 56 _ rfl) ?_
  obtain ⟨x8, q9, hh⟩ := db hh
  refine rx_b (rs_aI_ok hR q9) ?_
  obtain ⟨s10, q11, hh⟩ := db hh
  obtain ⟨h12, e13, hR, f14⟩ := rs_sI_ok hR q11
  refine rx_w e13 f14 ?_
  refine rx_b (rs_gI hR 57 _ rfl) ?_
  rcases di hh with ⟨q15, hh⟩ | ⟨q15, hh⟩
  · refine rx_t q15 ?_
    exact r314_141 hD _ _ _ _ _ hR hh
  · refine rx_f q15 ?_
    refine rx_b (rs_gI hR 56 _ rfl) ?_
    obtain ⟨s16, q17, hh⟩ := db hh
    obtain ⟨h18, e19, hR, f20⟩ := rs_pI_ok (rs_m56 _ _) (by decide) hR q17
    refine rx_w e19 f20 ?_
    exact r314_141 hD _ _ _ _ _ hR hh
def s314_0 (E : rE) (w : Nat) (i1 : Int32) (i2 : Int32) (s : rS) : Option rA :=
  (rs_pI s 42 ((s.1 42) + 1)).bind fun s1 =>
  (rs_sI s1 70 (s.1 42) i2).bind fun s6 =>
  (rs_sI s6 71 (s.1 42) i1).bind fun s11 =>
  (rs_sI s11 72 (s.1 42) (-1)).bind fun s16 =>
  (rs_sI s16 75 (s.1 42) (-1)).bind fun s21 =>
  (rs_sJ s21 78 (s.1 42) 0).bind fun s26 =>
  (rs_aI s26 41 (s26.1 56)).bind fun x31 =>
  (rs_sI s26 74 (s.1 42) x31).bind fun s33 =>
  (rs_pI s33 56 ((s33.1 56) + 1)).bind fun s38 =>
  if mx_f2 .ne i2 1 = true then
    s314_141 E w i2 (s.1 42) s38
  else
    ((E 313 [.ref 36] s38).bind rxI).bind fun x44 =>
    if mx_f1 .ne x44.1 = true then
      s314_91 E w i2 (s.1 42) x44.2
    else
      ((E 304 [.ref 36] x44.2).bind rxV).bind fun s50 =>
      s314_91 E w i2 (s.1 42) s50
theorem r314_0 {L : Nat} {xs : Nat → Int32} {zf : Value} {D : dD} {E : rE} {w : Nat} (hD : rO D E L xs) : ∀ (i1 : Int32) (i2 : Int32) (h : rm_H) (s : rS) (r : rA), RS h s → s314_0 E w i1 i2 s = some r → rx (b314_0 L xs zf D w (some 36) i1 i2 h) h r := by
  intro i1 i2 h s r hR hh
  unfold s314_0 at hh
  unfold b314_0
  refine rx_b (rs_gI hR 42 _ rfl) ?_
  refine rx_b (rs_gI hR 42 _ rfl) ?_
  obtain ⟨s1, q2, hh⟩ := db hh
  obtain ⟨h3, e4, hR, f5⟩ := rs_pI_ok (rs_m42 _ _) (by decide) hR q2
  refine rx_w e4 f5 ?_
  refine rx_b (rs_gR hR 43 70 rfl) ?_
  obtain ⟨s6, q7, hh⟩ := db hh
  obtain ⟨h8, e9, hR, f10⟩ := rs_sI_ok hR q7
  refine rx_w e9 f10 ?_
  refine rx_b (rs_gR hR 44 71 rfl) ?_
  obtain ⟨s11, q12, hh⟩ := db hh
  obtain ⟨h13, e14, hR, f15⟩ := rs_sI_ok hR q12
  refine rx_w e14 f15 ?_
  refine rx_b (rs_gR hR 45 72 rfl) ?_
  obtain ⟨s16, q17, hh⟩ := db hh
  obtain ⟨h18, e19, hR, f20⟩ := rs_sI_ok hR q17
  refine rx_w e19 f20 ?_
  refine rx_b (rs_gR hR 48 75 rfl) ?_
  obtain ⟨s21, q22, hh⟩ := db hh
  obtain ⟨h23, e24, hR, f25⟩ := rs_sI_ok hR q22
  refine rx_w e24 f25 ?_
  refine rx_b (rs_gR hR 51 78 rfl) ?_
  obtain ⟨s26, q27, hh⟩ := db hh
  obtain ⟨h28, e29, hR, f30⟩ := rs_sJ_ok hR q27
  refine rx_w e29 f30 ?_
  refine rx_b (rs_gR hR 47 74 rfl) ?_
  refine rx_b (rs_gR hR 7 41 rfl) ?_
  refine rx_b (rs_gI hR 56 _ rfl) ?_
  obtain ⟨x31, q32, hh⟩ := db hh
  refine rx_b (rs_aI_ok hR q32) ?_
  obtain ⟨s33, q34, hh⟩ := db hh
  obtain ⟨h35, e36, hR, f37⟩ := rs_sI_ok hR q34
  refine rx_w e36 f37 ?_
  refine rx_b (rs_gI hR 56 _ rfl) ?_
  obtain ⟨s38, q39, hh⟩ := db hh
  obtain ⟨h40, e41, hR, f42⟩ := rs_pI_ok (rs_m56 _ _) (by decide) hR q39
  refine rx_w e41 f42 ?_
  rcases di hh with ⟨q43, hh⟩ | ⟨q43, hh⟩
  · refine rx_t q43 ?_
    exact r314_141 hD _ _ _ _ _ hR hh
  · refine rx_f q43 ?_
    obtain ⟨x44, q45, hh⟩ := db hh
    obtain ⟨h46, e47, hR, f48⟩ := rs_vI hD hR q45
    refine rx_c e47 f48 ?_
    rcases di hh with ⟨q49, hh⟩ | ⟨q49, hh⟩
    · refine rx_t q49 ?_
      exact r314_91 hD _ _ _ _ _ hR hh
    · refine rx_f q49 ?_
      obtain ⟨s50, q51, hh⟩ := db hh
      obtain ⟨h52, e53, hR, f54⟩ := rs_vV hD hR q51
      refine rx_w e53 f54 ?_
      exact r314_91 hD _ _ _ _ _ hR hh
def g314 (E : rE) (w : Nat) (As : List Value) (s : rS) : Option rA := match As with
  | [.ref 36, .int i1, .int i2] => s314_0 E w i1 i2 s
  | _ => none
theorem t314 {L : Nat} {xs : Nat → Int32} {zf : Value} {D : dD} {E : rE} {w : Nat} (hD : rO D E L xs) (As : List Value) (h : rm_H) (s : rS) (r : rA) (hR : RS h s) (hh : g314 E w As s = some r) : rx (f314 L xs zf D w As h) h r := by
  unfold g314 at hh
  split at hh
  · unfold f314
    dsimp only
    refine rx_b (a := some 36) rfl ?_
    exact r314_0 hD _ _ _ _ _ hR hh
  · cases hh
def s315_52 (E : rE) (w : Nat) (K33 : Int32 → Int32 → rS → Option rA) (i2 : Int32) (s : rS) : Option rA :=
  ((E 307 [.ref 36, .int 1] s).bind rxI).bind fun x1 =>
  ((E 308 [.ref 36, .int 58] x1.2).bind rxV).bind fun s6 =>
  if mx_f1 .le (s6.1 57) = true then
    (rs_aJ s6 43 x1.1).bind fun y12 =>
    (rs_sJ s6 79 (s6.1 52) y12).bind fun s14 =>
    (rs_aI s14 41 x1.1).bind fun x19 =>
    (rs_sI s14 80 (s14.1 52) x19).bind fun s21 =>
    ((E 312 [.ref 36] s21).bind rxI).bind fun x26 =>
    (rs_sI x26.2 81 (s21.1 52) x26.1).bind fun s31 =>
    (rs_pI s31 52 ((s31.1 52) + 1)).bind fun s36 =>
    ((E 309 [.ref 36, .int 44] s36).bind rxI).bind fun x41 =>
    K33 x41.1 i2 x41.2
  else
    some (none, s6)
theorem r315_52 {L : Nat} {xs : Nat → Int32} {zf : Value} {D : dD} {E : rE} {w : Nat} {K33 : Int32 → Int32 → rS → Option rA} {B33 : Option Nat → Int32 → Int32 → rm_H → Option dR} (hD : rO D E L xs) (hK33 : ∀ (i1 : Int32) (i2 : Int32) (h : rm_H) (s : rS) (r : rA), RS h s → K33 i1 i2 s = some r → rx (B33 (some 36) i1 i2 h) h r) : ∀ (i2 : Int32) (h : rm_H) (s : rS) (r : rA), RS h s → s315_52 E w K33 i2 s = some r → rx (b315_52 L xs zf D w B33 (some 36) i2 h) h r := by
  intro i2 h s r hR hh
  unfold s315_52 at hh
  unfold b315_52
  obtain ⟨x1, q2, hh⟩ := db hh
  obtain ⟨h3, e4, hR, f5⟩ := rs_vI hD hR q2
  refine rx_c e4 f5 ?_
  obtain ⟨s6, q7, hh⟩ := db hh
  obtain ⟨h8, e9, hR, f10⟩ := rs_vV hD hR q7
  refine rx_w e9 f10 ?_
  refine rx_b (rs_gI hR 57 _ rfl) ?_
  rcases di hh with ⟨q11, hh⟩ | ⟨q11, hh⟩
  · refine rx_t q11 ?_
    refine rx_b (rs_gR hR 53 79 rfl) ?_
    refine rx_b (rs_gI hR 52 _ rfl) ?_
    refine rx_b (rs_gR hR 9 43 rfl) ?_
    obtain ⟨y12, q13, hh⟩ := db hh
    refine rx_b (rs_aJ_ok hR q13) ?_
    obtain ⟨s14, q15, hh⟩ := db hh
    obtain ⟨h16, e17, hR, f18⟩ := rs_sJ_ok hR q15
    refine rx_w e17 f18 ?_
    refine rx_b (rs_gR hR 54 80 rfl) ?_
    refine rx_b (rs_gI hR 52 _ rfl) ?_
    refine rx_b (rs_gR hR 7 41 rfl) ?_
    obtain ⟨x19, q20, hh⟩ := db hh
    refine rx_b (rs_aI_ok hR q20) ?_
    obtain ⟨s21, q22, hh⟩ := db hh
    obtain ⟨h23, e24, hR, f25⟩ := rs_sI_ok hR q22
    refine rx_w e24 f25 ?_
    refine rx_b (rs_gR hR 55 81 rfl) ?_
    refine rx_b (rs_gI hR 52 _ rfl) ?_
    obtain ⟨x26, q27, hh⟩ := db hh
    obtain ⟨h28, e29, hR, f30⟩ := rs_vI hD hR q27
    refine rx_c e29 f30 ?_
    obtain ⟨s31, q32, hh⟩ := db hh
    obtain ⟨h33, e34, hR, f35⟩ := rs_sI_ok hR q32
    refine rx_w e34 f35 ?_
    refine rx_b (rs_gI hR 52 _ rfl) ?_
    obtain ⟨s36, q37, hh⟩ := db hh
    obtain ⟨h38, e39, hR, f40⟩ := rs_pI_ok (rs_m52 _ _) (by decide) hR q37
    refine rx_w e39 f40 ?_
    obtain ⟨x41, q42, hh⟩ := db hh
    obtain ⟨h43, e44, hR, f45⟩ := rs_vI hD hR q42
    refine rx_c e44 f45 ?_
    exact hK33 _ _ _ _ _ hR hh
  · refine rx_f q11 ?_
    cases hh
    exact rx_0 hR
def s315_33 (E : rE) (w : Nat) : Nat → Int32 → Int32 → rS → Option rA
  | 0, _, _, _ => none
  | n + 1, i1, i2, s =>
    if mx_f1 .eq i1 = true then
      ((E 308 [.ref 36, .int 41] s).bind rxV).bind fun s2 =>
      some (none, s2)
    else
      if mx_f2 .ne ((s.1 52) - i2) 6 = true then
        s315_52 E w (s315_33 E w n) i2 s
      else
        ((E 304 [.ref 36] s).bind rxV).bind fun s8 =>
        s315_52 E w (s315_33 E w n) i2 s8
theorem r315_33 {L : Nat} {xs : Nat → Int32} {zf : Value} {D : dD} {E : rE} {w : Nat} (hD : rO D E L xs) : ∀ (n : Nat) (i1 : Int32) (i2 : Int32) (h : rm_H) (s : rS) (r : rA), RS h s → s315_33 E w n i1 i2 s = some r → rx (b315_33 L xs zf D w n (some 36) i1 i2 h) h r := by
  intro n
  induction n with
  | zero =>
    intro i1 i2 h s r hR hh
    cases hh
  | succ n ih =>
    intro i1 i2 h s r hR hh
    rw [s315_33] at hh
    rw [b315_33]
    rcases di hh with ⟨q1, hh⟩ | ⟨q1, hh⟩
    · refine rx_t q1 ?_
      obtain ⟨s2, q3, hh⟩ := db hh
      obtain ⟨h4, e5, hR, f6⟩ := rs_vV hD hR q3
      refine rx_w e5 f6 ?_
      cases hh
      exact rx_0 hR
    · refine rx_f q1 ?_
      refine rx_b (rs_gI hR 52 _ rfl) ?_
      rcases di hh with ⟨q7, hh⟩ | ⟨q7, hh⟩
      · refine rx_t q7 ?_
        exact r315_52 hD ih _ _ _ _ hR hh
      · refine rx_f q7 ?_
        obtain ⟨s8, q9, hh⟩ := db hh
        obtain ⟨h10, e11, hR, f12⟩ := rs_vV hD hR q9
        refine rx_w e11 f12 ?_
        exact r315_52 hD ih _ _ _ _ hR hh
def s315_27 (E : rE) (w : Nat) (s0 : Int32) (s : rS) : Option rA :=
  s315_33 E w w s0 (s.1 52) s
theorem r315_27 {L : Nat} {xs : Nat → Int32} {zf : Value} {D : dD} {E : rE} {w : Nat} (hD : rO D E L xs) : ∀ (s0 : Int32) (h : rm_H) (s : rS) (r : rA), RS h s → s315_27 E w s0 s = some r → rx (b315_27 L xs zf D w (some 36) s0 h) h r := by
  intro s0 h s r hR hh
  unfold s315_27 at hh
  unfold b315_27
  refine rx_b (rs_gI hR 52 _ rfl) ?_
  exact r315_33 hD _ _ _ _ _ _ hR hh
def s315_26 (E : rE) (w : Nat) (s : rS) : Option rA :=
  s315_27 E w 0 s
theorem r315_26 {L : Nat} {xs : Nat → Int32} {zf : Value} {D : dD} {E : rE} {w : Nat} (hD : rO D E L xs) : ∀ (h : rm_H) (s : rS) (r : rA), RS h s → s315_26 E w s = some r → rx (b315_26 L xs zf D w (some 36) h) h r := by
  intro h s r hR hh
  unfold s315_26 at hh
  unfold b315_26
  exact r315_27 hD _ _ _ _ hR hh
def s315_0 (E : rE) (w : Nat) (s : rS) : Option rA :=
  ((E 308 [.ref 36, .int 40] s).bind rxV).bind fun s1 =>
  if mx_f1 .ne (s1.1 57) = true then
    s315_26 E w s1
  else
    ((E 310 [.ref 36, .int 41] s1).bind rxI).bind fun x7 =>
    if mx_f1 .ne x7.1 = true then
      s315_26 E w x7.2
    else
      s315_27 E w 1 x7.2
theorem r315_0 {L : Nat} {xs : Nat → Int32} {zf : Value} {D : dD} {E : rE} {w : Nat} (hD : rO D E L xs) : ∀ (h : rm_H) (s : rS) (r : rA), RS h s → s315_0 E w s = some r → rx (b315_0 L xs zf D w (some 36) h) h r := by
  intro h s r hR hh
  unfold s315_0 at hh
  unfold b315_0
  obtain ⟨s1, q2, hh⟩ := db hh
  obtain ⟨h3, e4, hR, f5⟩ := rs_vV hD hR q2
  refine rx_w e4 f5 ?_
  refine rx_b (rs_gI hR 57 _ rfl) ?_
  rcases di hh with ⟨q6, hh⟩ | ⟨q6, hh⟩
  · refine rx_t q6 ?_
    exact r315_26 hD  _ _ _ hR hh
  · refine rx_f q6 ?_
    obtain ⟨x7, q8, hh⟩ := db hh
    obtain ⟨h9, e10, hR, f11⟩ := rs_vI hD hR q8
    refine rx_c e10 f11 ?_
    rcases di hh with ⟨q12, hh⟩ | ⟨q12, hh⟩
    · refine rx_t q12 ?_
      exact r315_26 hD  _ _ _ hR hh
    · refine rx_f q12 ?_
      exact r315_27 hD _ _ _ _ hR hh
def g315 (E : rE) (w : Nat) (As : List Value) (s : rS) : Option rA := match As with
  | [.ref 36] => s315_0 E w s
  | _ => none
theorem t315 {L : Nat} {xs : Nat → Int32} {zf : Value} {D : dD} {E : rE} {w : Nat} (hD : rO D E L xs) (As : List Value) (h : rm_H) (s : rS) (r : rA) (hR : RS h s) (hh : g315 E w As s = some r) : rx (f315 L xs zf D w As h) h r := by
  unfold g315 at hh
  split at hh
  · unfold f315
    dsimp only
    refine rx_b (a := some 36) rfl ?_
    exact r315_0 hD  _ _ _ hR hh
  · cases hh
def s316_0 (E : rE) (w : Nat) (i1 : Int32) (i2 : Int32) (s : rS) : Option rA :=
  (rs_pI s 10 ((s.1 10) + 1)).bind fun s1 =>
  (rs_sI s1 44 (s.1 10) i1).bind fun s6 =>
  (rs_sI s6 45 (s.1 10) 0).bind fun s11 =>
  (rs_sI s11 46 (s.1 10) 0).bind fun s16 =>
  (rs_sI s16 47 (s.1 10) 0).bind fun s21 =>
  (rs_sI s21 48 (s.1 10) 0).bind fun s26 =>
  (rs_sI s26 49 (s.1 10) 0).bind fun s31 =>
  (rs_sI s31 50 (s.1 10) i2).bind fun s36 =>
  (rs_sI s36 51 (s.1 10) i2).bind fun s41 =>
  (rs_sI s41 52 (s.1 10) 0).bind fun s46 =>
  (rs_sI s46 53 (s.1 10) 0).bind fun s51 =>
  (rs_sI s51 54 (s.1 10) (-1)).bind fun s56 =>
  (rs_sI s56 55 (s.1 10) 0).bind fun s61 =>
  (rs_sJ s61 56 (s.1 10) 0).bind fun s66 =>
  rrI (some .int) (s.1 10) s66
theorem r316_0 {L : Nat} {xs : Nat → Int32} {zf : Value} {D : dD} {E : rE} {w : Nat} (hD : rO D E L xs) : ∀ (i1 : Int32) (i2 : Int32) (h : rm_H) (s : rS) (r : rA), RS h s → s316_0 E w i1 i2 s = some r → rx (b316_0 L xs zf D w (some 36) i1 i2 h) h r := by
  intro i1 i2 h s r hR hh
  unfold s316_0 at hh
  unfold b316_0
  refine rx_b (rs_gI hR 10 _ rfl) ?_
  refine rx_b (rs_gI hR 10 _ rfl) ?_
  obtain ⟨s1, q2, hh⟩ := db hh
  obtain ⟨h3, e4, hR, f5⟩ := rs_pI_ok (rs_m10 _ _) (by decide) hR q2
  refine rx_w e4 f5 ?_
  refine rx_b (rs_gR hR 11 44 rfl) ?_
  obtain ⟨s6, q7, hh⟩ := db hh
  obtain ⟨h8, e9, hR, f10⟩ := rs_sI_ok hR q7
  refine rx_w e9 f10 ?_
  refine rx_b (rs_gR hR 12 45 rfl) ?_
  obtain ⟨s11, q12, hh⟩ := db hh
  obtain ⟨h13, e14, hR, f15⟩ := rs_sI_ok hR q12
  refine rx_w e14 f15 ?_
  refine rx_b (rs_gR hR 13 46 rfl) ?_
  obtain ⟨s16, q17, hh⟩ := db hh
  obtain ⟨h18, e19, hR, f20⟩ := rs_sI_ok hR q17
  refine rx_w e19 f20 ?_
  refine rx_b (rs_gR hR 14 47 rfl) ?_
  obtain ⟨s21, q22, hh⟩ := db hh
  obtain ⟨h23, e24, hR, f25⟩ := rs_sI_ok hR q22
  refine rx_w e24 f25 ?_
  refine rx_b (rs_gR hR 15 48 rfl) ?_
  obtain ⟨s26, q27, hh⟩ := db hh
  obtain ⟨h28, e29, hR, f30⟩ := rs_sI_ok hR q27
  refine rx_w e29 f30 ?_
  refine rx_b (rs_gR hR 16 49 rfl) ?_
  obtain ⟨s31, q32, hh⟩ := db hh
  obtain ⟨h33, e34, hR, f35⟩ := rs_sI_ok hR q32
  refine rx_w e34 f35 ?_
  refine rx_b (rs_gR hR 17 50 rfl) ?_
  obtain ⟨s36, q37, hh⟩ := db hh
  obtain ⟨h38, e39, hR, f40⟩ := rs_sI_ok hR q37
  refine rx_w e39 f40 ?_
  refine rx_b (rs_gR hR 18 51 rfl) ?_
  obtain ⟨s41, q42, hh⟩ := db hh
  obtain ⟨h43, e44, hR, f45⟩ := rs_sI_ok hR q42
  refine rx_w e44 f45 ?_
  refine rx_b (rs_gR hR 19 52 rfl) ?_
  obtain ⟨s46, q47, hh⟩ := db hh
  obtain ⟨h48, e49, hR, f50⟩ := rs_sI_ok hR q47
  refine rx_w e49 f50 ?_
  refine rx_b (rs_gR hR 20 53 rfl) ?_
  obtain ⟨s51, q52, hh⟩ := db hh
  obtain ⟨h53, e54, hR, f55⟩ := rs_sI_ok hR q52
  refine rx_w e54 f55 ?_
  refine rx_b (rs_gR hR 21 54 rfl) ?_
  obtain ⟨s56, q57, hh⟩ := db hh
  obtain ⟨h58, e59, hR, f60⟩ := rs_sI_ok hR q57
  refine rx_w e59 f60 ?_
  refine rx_b (rs_gR hR 22 55 rfl) ?_
  obtain ⟨s61, q62, hh⟩ := db hh
  obtain ⟨h63, e64, hR, f65⟩ := rs_sI_ok hR q62
  refine rx_w e64 f65 ?_
  refine rx_b (rs_gR hR 23 56 rfl) ?_
  obtain ⟨s66, q67, hh⟩ := db hh
  obtain ⟨h68, e69, hR, f70⟩ := rs_sJ_ok hR q67
  refine rx_w e69 f70 ?_
  exact rx_I hR hh
def g316 (E : rE) (w : Nat) (As : List Value) (s : rS) : Option rA := match As with
  | [.ref 36, .int i1, .int i2] => s316_0 E w i1 i2 s
  | _ => none
theorem t316 {L : Nat} {xs : Nat → Int32} {zf : Value} {D : dD} {E : rE} {w : Nat} (hD : rO D E L xs) (As : List Value) (h : rm_H) (s : rS) (r : rA) (hR : RS h s) (hh : g316 E w As s = some r) : rx (f316 L xs zf D w As h) h r := by
  unfold g316 at hh
  split at hh
  · unfold f316
    dsimp only
    refine rx_b (a := some 36) rfl ?_
    exact r316_0 hD _ _ _ _ _ hR hh
  · cases hh
def s317_22 (E : rE) (w : Nat) (s : rS) : Option rA :=
  ((E 304 [.ref 36] s).bind rxV).bind fun s1 =>
  rrI (some .int) 0 s1
theorem r317_22 {L : Nat} {xs : Nat → Int32} {zf : Value} {D : dD} {E : rE} {w : Nat} (hD : rO D E L xs) : ∀ (h : rm_H) (s : rS) (r : rA), RS h s → s317_22 E w s = some r → rx (b317_22 L xs zf D w (some 36) h) h r := by
  intro h s r hR hh
  unfold s317_22 at hh
  unfold b317_22
  obtain ⟨s1, q2, hh⟩ := db hh
  obtain ⟨h3, e4, hR, f5⟩ := rs_vV hD hR q2
  refine rx_w e4 f5 ?_
  exact rx_I hR hh
def s317_110 (E : rE) (w : Nat) (K56 : Int32 → Int32 → Int32 → rS → Option rA) (i1 : Int32) (i2 : Int32) (i4 : Int32) (s : rS) : Option rA :=
  K56 i1 i2 i4 s
theorem r317_110 {L : Nat} {xs : Nat → Int32} {zf : Value} {D : dD} {E : rE} {w : Nat} {K56 : Int32 → Int32 → Int32 → rS → Option rA} {B56 : Option Nat → Int32 → Int32 → Int32 → rm_H → Option dR} (hD : rO D E L xs) (hK56 : ∀ (i1 : Int32) (i2 : Int32) (i3 : Int32) (h : rm_H) (s : rS) (r : rA), RS h s → K56 i1 i2 i3 s = some r → rx (B56 (some 36) i1 i2 i3 h) h r) : ∀ (i1 : Int32) (i2 : Int32) (i4 : Int32) (h : rm_H) (s : rS) (r : rA), RS h s → s317_110 E w K56 i1 i2 i4 s = some r → rx (b317_110 L xs zf D w B56 (some 36) i1 i2 i4 h) h r := by
  intro i1 i2 i4 h s r hR hh
  unfold s317_110 at hh
  unfold b317_110
  exact hK56 _ _ _ _ _ _ hR hh
def s317_116 (E : rE) (w : Nat) (i2 : Int32) (s : rS) : Option rA :=
  (rs_aI s 41 (s.1 56)).bind fun x1 =>
  (rs_sI s 55 i2 x1).bind fun s3 =>
  ((E 308 [.ref 36, .int 125] s3).bind rxV).bind fun s8 =>
  rrI (some .int) i2 s8
theorem r317_116 {L : Nat} {xs : Nat → Int32} {zf : Value} {D : dD} {E : rE} {w : Nat} (hD : rO D E L xs) : ∀ (i2 : Int32) (h : rm_H) (s : rS) (r : rA), RS h s → s317_116 E w i2 s = some r → rx (b317_116 L xs zf D w (some 36) i2 h) h r := by
  intro i2 h s r hR hh
  unfold s317_116 at hh
  unfold b317_116
  refine rx_b (rs_gR hR 22 55 rfl) ?_
  refine rx_b (rs_gR hR 7 41 rfl) ?_
  refine rx_b (rs_gI hR 56 _ rfl) ?_
  obtain ⟨x1, q2, hh⟩ := db hh
  refine rx_b (rs_aI_ok hR q2) ?_
  obtain ⟨s3, q4, hh⟩ := db hh
  obtain ⟨h5, e6, hR, f7⟩ := rs_sI_ok hR q4
  refine rx_w e6 f7 ?_
  obtain ⟨s8, q9, hh⟩ := db hh
  obtain ⟨h10, e11, hR, f12⟩ := rs_vV hD hR q9
  refine rx_w e11 f12 ?_
  exact rx_I hR hh
def s317_56 (E : rE) (w : Nat) : Nat → Int32 → Int32 → Int32 → rS → Option rA
  | 0, _, _, _, _ => none
  | n + 1, i1, i2, i3, s =>
    if mx_f1 .ne (s.1 57) = true then
      s317_116 E w i2 s
    else
      ((E 310 [.ref 36, .int 125] s).bind rxI).bind fun x2 =>
      if mx_f1 .ne x2.1 = true then
        s317_116 E w i2 x2.2
      else
        ((E 318 [.ref 36, .int i1] x2.2).bind rxI).bind fun x8 =>
        (rs_sI x8.2 49 x8.1 i2).bind fun s13 =>
        if mx_f1 .ne i3 = true then
          (rs_sI s13 48 i3 x8.1).bind fun s19 =>
          s317_110 E w (s317_56 E w n) i1 i2 x8.1 s19
        else
          (rs_sI s13 45 i2 x8.1).bind fun s24 =>
          s317_110 E w (s317_56 E w n) i1 i2 x8.1 s24
theorem r317_56 {L : Nat} {xs : Nat → Int32} {zf : Value} {D : dD} {E : rE} {w : Nat} (hD : rO D E L xs) : ∀ (n : Nat) (i1 : Int32) (i2 : Int32) (i3 : Int32) (h : rm_H) (s : rS) (r : rA), RS h s → s317_56 E w n i1 i2 i3 s = some r → rx (b317_56 L xs zf D w n (some 36) i1 i2 i3 h) h r := by
  intro n
  induction n with
  | zero =>
    intro i1 i2 i3 h s r hR hh
    cases hh
  | succ n ih =>
    intro i1 i2 i3 h s r hR hh
    rw [s317_56] at hh
    rw [b317_56]
    refine rx_b (rs_gI hR 57 _ rfl) ?_
    rcases di hh with ⟨q1, hh⟩ | ⟨q1, hh⟩
    · refine rx_t q1 ?_
      exact r317_116 hD _ _ _ _ hR hh
    · refine rx_f q1 ?_
      obtain ⟨x2, q3, hh⟩ := db hh
      obtain ⟨h4, e5, hR, f6⟩ := rs_vI hD hR q3
      refine rx_c e5 f6 ?_
      rcases di hh with ⟨q7, hh⟩ | ⟨q7, hh⟩
      · refine rx_t q7 ?_
        exact r317_116 hD _ _ _ _ hR hh
      · refine rx_f q7 ?_
        obtain ⟨x8, q9, hh⟩ := db hh
        obtain ⟨h10, e11, hR, f12⟩ := rs_vI hD hR q9
        refine rx_c e11 f12 ?_
        refine rx_b (rs_gR hR 16 49 rfl) ?_
        obtain ⟨s13, q14, hh⟩ := db hh
        obtain ⟨h15, e16, hR, f17⟩ := rs_sI_ok hR q14
        refine rx_w e16 f17 ?_
        rcases di hh with ⟨q18, hh⟩ | ⟨q18, hh⟩
        · refine rx_t q18 ?_
          refine rx_b (rs_gR hR 15 48 rfl) ?_
          obtain ⟨s19, q20, hh⟩ := db hh
          obtain ⟨h21, e22, hR, f23⟩ := rs_sI_ok hR q20
          refine rx_w e22 f23 ?_
          exact r317_110 hD ih _ _ _ _ _ _ hR hh
        · refine rx_f q18 ?_
          refine rx_b (rs_gR hR 12 45 rfl) ?_
          obtain ⟨s24, q25, hh⟩ := db hh
          obtain ⟨h26, e27, hR, f28⟩ := rs_sI_ok hR q25
          refine rx_w e27 f28 ?_
          exact r317_110 hD ih _ _ _ _ _ _ hR hh
def s317_0 (E : rE) (w : Nat) (i1 : Int32) (s : rS) : Option rA :=
  if mx_f1 .gt (s.1 57) = true then
    s317_22 E w s
  else
    ((E 310 [.ref 36, .int 123] s).bind rxI).bind fun x2 =>
    if mx_f1 .eq x2.1 = true then
      s317_22 E w x2.2
    else
      if mx_f2 .le i1 24 = true then
        (rs_aI x2.2 41 (x2.2.1 56)).bind fun x9 =>
        ((E 316 [.ref 36, .int 30, .int x9] x2.2).bind rxI).bind fun x11 =>
        (rs_pI x11.2 56 ((x11.2.1 56) + 1)).bind fun s16 =>
        s317_56 E w w i1 x11.1 0 s16
      else
        s317_22 E w x2.2
theorem r317_0 {L : Nat} {xs : Nat → Int32} {zf : Value} {D : dD} {E : rE} {w : Nat} (hD : rO D E L xs) : ∀ (i1 : Int32) (h : rm_H) (s : rS) (r : rA), RS h s → s317_0 E w i1 s = some r → rx (b317_0 L xs zf D w (some 36) i1 h) h r := by
  intro i1 h s r hR hh
  unfold s317_0 at hh
  unfold b317_0
  refine rx_b (rs_gI hR 57 _ rfl) ?_
  rcases di hh with ⟨q1, hh⟩ | ⟨q1, hh⟩
  · refine rx_t q1 ?_
    exact r317_22 hD  _ _ _ hR hh
  · refine rx_f q1 ?_
    obtain ⟨x2, q3, hh⟩ := db hh
    obtain ⟨h4, e5, hR, f6⟩ := rs_vI hD hR q3
    refine rx_c e5 f6 ?_
    rcases di hh with ⟨q7, hh⟩ | ⟨q7, hh⟩
    · refine rx_t q7 ?_
      exact r317_22 hD  _ _ _ hR hh
    · refine rx_f q7 ?_
      rcases di hh with ⟨q8, hh⟩ | ⟨q8, hh⟩
      · refine rx_t q8 ?_
        refine rx_b (rs_gR hR 7 41 rfl) ?_
        refine rx_b (rs_gI hR 56 _ rfl) ?_
        obtain ⟨x9, q10, hh⟩ := db hh
        refine rx_b (rs_aI_ok hR q10) ?_
        obtain ⟨x11, q12, hh⟩ := db hh
        obtain ⟨h13, e14, hR, f15⟩ := rs_vI hD hR q12
        refine rx_c e14 f15 ?_
        refine rx_b (rs_gI hR 56 _ rfl) ?_
        obtain ⟨s16, q17, hh⟩ := db hh
        obtain ⟨h18, e19, hR, f20⟩ := rs_pI_ok (rs_m56 _ _) (by decide) hR q17
        refine rx_w e19 f20 ?_
        exact r317_56 hD _ _ _ _ _ _ _ hR hh
      · refine rx_f q8 ?_
        exact r317_22 hD  _ _ _ hR hh
def g317 (E : rE) (w : Nat) (As : List Value) (s : rS) : Option rA := match As with
  | [.ref 36, .int i1] => s317_0 E w i1 s
  | _ => none
theorem t317 {L : Nat} {xs : Nat → Int32} {zf : Value} {D : dD} {E : rE} {w : Nat} (hD : rO D E L xs) (As : List Value) (h : rm_H) (s : rS) (r : rA) (hR : RS h s) (hh : g317 E w As s = some r) : rx (f317 L xs zf D w As h) h r := by
  unfold g317 at hh
  split at hh
  · unfold f317
    dsimp only
    refine rx_b (a := some 36) rfl ?_
    exact r317_0 hD _ _ _ _ hR hh
  · cases hh
def s318_145 (E : rE) (w : Nat) (i4 : Int32) (s : rS) : Option rA :=
  rrI (some .int) i4 s
theorem r318_145 {L : Nat} {xs : Nat → Int32} {zf : Value} {D : dD} {E : rE} {w : Nat} (hD : rO D E L xs) : ∀ (i4 : Int32) (h : rm_H) (s : rS) (r : rA), RS h s → s318_145 E w i4 s = some r → rx (b318_145 L xs zf D w i4 h) h r := by
  intro i4 h s r hR hh
  unfold s318_145 at hh
  unfold b318_145
  exact rx_I hR hh
def s318_84 (E : rE) (w : Nat) (i1 : Int32) (i2 : Int32) (i3 : Int32) (s0 : Int32) (s : rS) : Option rA :=
  ((E 316 [.ref 36, .int s0, .int i2] s).bind rxI).bind fun x1 =>
  ((E 320 [.ref 36, .int (i1 + 1)] x1.2).bind rxI).bind fun x6 =>
  ((E 323 [.ref 36, .int x1.1, .int x6.1] x6.2).bind rxI).bind fun x11 =>
  (rs_sI x11.2 45 x1.1 x11.1).bind fun s16 =>
  ((E 317 [.ref 36, .int (i1 + 1)] s16).bind rxI).bind fun x21 =>
  ((E 323 [.ref 36, .int x1.1, .int x21.1] x21.2).bind rxI).bind fun x26 =>
  (rs_sI x26.2 46 x1.1 x26.1).bind fun s31 =>
  if mx_f2 .eq i3 8 = true then
    s318_145 E w x1.1 s31
  else
    ((E 303 [.ref 36, .int 7] s31).bind rxI).bind fun x37 =>
    if mx_f1 .ne x37.1 = true then
      (rs_pI x37.2 56 ((x37.2.1 56) + 1)).bind fun s43 =>
      ((E 317 [.ref 36, .int (i1 + 1)] s43).bind rxI).bind fun x48 =>
      ((E 323 [.ref 36, .int x1.1, .int x48.1] x48.2).bind rxI).bind fun x53 =>
      (rs_sI x53.2 47 x1.1 x53.1).bind fun s58 =>
      rrI (some .int) x1.1 s58
    else
      s318_145 E w x1.1 x37.2
theorem r318_84 {L : Nat} {xs : Nat → Int32} {zf : Value} {D : dD} {E : rE} {w : Nat} (hD : rO D E L xs) : ∀ (i1 : Int32) (i2 : Int32) (i3 : Int32) (s0 : Int32) (h : rm_H) (s : rS) (r : rA), RS h s → s318_84 E w i1 i2 i3 s0 s = some r → rx (b318_84 L xs zf D w (some 36) i1 i2 i3 s0 (some 36) h) h r := by
  intro i1 i2 i3 s0 h s r hR hh
  unfold s318_84 at hh
  unfold b318_84
  obtain ⟨x1, q2, hh⟩ := db hh
  obtain ⟨h3, e4, hR, f5⟩ := rs_vI hD hR q2
  refine rx_c e4 f5 ?_
  refine rx_b (rs_gR hR 12 45 rfl) ?_
  obtain ⟨x6, q7, hh⟩ := db hh
  obtain ⟨h8, e9, hR, f10⟩ := rs_vI hD hR q7
  refine rx_c e9 f10 ?_
  obtain ⟨x11, q12, hh⟩ := db hh
  obtain ⟨h13, e14, hR, f15⟩ := rs_vI hD hR q12
  refine rx_c e14 f15 ?_
  obtain ⟨s16, q17, hh⟩ := db hh
  obtain ⟨h18, e19, hR, f20⟩ := rs_sI_ok hR q17
  refine rx_w e19 f20 ?_
  refine rx_b (rs_gR hR 13 46 rfl) ?_
  obtain ⟨x21, q22, hh⟩ := db hh
  obtain ⟨h23, e24, hR, f25⟩ := rs_vI hD hR q22
  refine rx_c e24 f25 ?_
  obtain ⟨x26, q27, hh⟩ := db hh
  obtain ⟨h28, e29, hR, f30⟩ := rs_vI hD hR q27
  refine rx_c e29 f30 ?_
  obtain ⟨s31, q32, hh⟩ := db hh
  obtain ⟨h33, e34, hR, f35⟩ := rs_sI_ok hR q32
  refine rx_w e34 f35 ?_
  rcases di hh with ⟨q36, hh⟩ | ⟨q36, hh⟩
  · refine rx_t q36 ?_
    exact r318_145 hD _ _ _ _ hR hh
  · refine rx_f q36 ?_
    obtain ⟨x37, q38, hh⟩ := db hh
    obtain ⟨h39, e40, hR, f41⟩ := rs_vI hD hR q38
    refine rx_c e40 f41 ?_
    rcases di hh with ⟨q42, hh⟩ | ⟨q42, hh⟩
    · refine rx_t q42 ?_
      refine rx_b (rs_gI hR 56 _ rfl) ?_
      obtain ⟨s43, q44, hh⟩ := db hh
      obtain ⟨h45, e46, hR, f47⟩ := rs_pI_ok (rs_m56 _ _) (by decide) hR q44
      refine rx_w e46 f47 ?_
      refine rx_b (rs_gR hR 14 47 rfl) ?_
      obtain ⟨x48, q49, hh⟩ := db hh
      obtain ⟨h50, e51, hR, f52⟩ := rs_vI hD hR q49
      refine rx_c e51 f52 ?_
      obtain ⟨x53, q54, hh⟩ := db hh
      obtain ⟨h55, e56, hR, f57⟩ := rs_vI hD hR q54
      refine rx_c e56 f57 ?_
      obtain ⟨s58, q59, hh⟩ := db hh
      obtain ⟨h60, e61, hR, f62⟩ := rs_sI_ok hR q59
      refine rx_w e61 f62 ?_
      exact rx_I hR hh
    · refine rx_f q42 ?_
      exact r318_145 hD _ _ _ _ hR hh
def s318_60 (E : rE) (w : Nat) (i1 : Int32) (i2 : Int32) (i3 : Int32) (s : rS) : Option rA :=
  (rs_pI s 56 ((s.1 56) + 1)).bind fun s1 =>
  if mx_f2 .ne i3 6 = true then
    s318_84 E w i1 i2 i3 22 s1
  else
    s318_84 E w i1 i2 i3 21 s1
theorem r318_60 {L : Nat} {xs : Nat → Int32} {zf : Value} {D : dD} {E : rE} {w : Nat} (hD : rO D E L xs) : ∀ (i1 : Int32) (i2 : Int32) (i3 : Int32) (h : rm_H) (s : rS) (r : rA), RS h s → s318_60 E w i1 i2 i3 s = some r → rx (b318_60 L xs zf D w (some 36) i1 i2 i3 h) h r := by
  intro i1 i2 i3 h s r hR hh
  unfold s318_60 at hh
  unfold b318_60
  refine rx_b (rs_gI hR 56 _ rfl) ?_
  obtain ⟨s1, q2, hh⟩ := db hh
  obtain ⟨h3, e4, hR, f5⟩ := rs_pI_ok (rs_m56 _ _) (by decide) hR q2
  refine rx_w e4 f5 ?_
  rcases di hh with ⟨q6, hh⟩ | ⟨q6, hh⟩
  · refine rx_t q6 ?_
    exact r318_84 hD _ _ _ _ _ _ _ hR hh
  · refine rx_f q6 ?_
    exact r318_84 hD _ _ _ _ _ _ _ hR hh
def s318_234 (E : rE) (w : Nat) (i1 : Int32) (i2 : Int32) (s0 : Int32) (s : rS) : Option rA :=
  ((E 316 [.ref 36, .int s0, .int i2] s).bind rxI).bind fun x1 =>
  ((E 320 [.ref 36, .int (i1 + 1)] x1.2).bind rxI).bind fun x6 =>
  ((E 323 [.ref 36, .int x1.1, .int x6.1] x6.2).bind rxI).bind fun x11 =>
  (rs_sI x11.2 45 x1.1 x11.1).bind fun s16 =>
  ((E 308 [.ref 36, .int 59] s16).bind rxV).bind fun s21 =>
  rrI (some .int) x1.1 s21
theorem r318_234 {L : Nat} {xs : Nat → Int32} {zf : Value} {D : dD} {E : rE} {w : Nat} (hD : rO D E L xs) : ∀ (i1 : Int32) (i2 : Int32) (s0 : Int32) (h : rm_H) (s : rS) (r : rA), RS h s → s318_234 E w i1 i2 s0 s = some r → rx (b318_234 L xs zf D w (some 36) i1 i2 s0 (some 36) h) h r := by
  intro i1 i2 s0 h s r hR hh
  unfold s318_234 at hh
  unfold b318_234
  obtain ⟨x1, q2, hh⟩ := db hh
  obtain ⟨h3, e4, hR, f5⟩ := rs_vI hD hR q2
  refine rx_c e4 f5 ?_
  refine rx_b (rs_gR hR 12 45 rfl) ?_
  obtain ⟨x6, q7, hh⟩ := db hh
  obtain ⟨h8, e9, hR, f10⟩ := rs_vI hD hR q7
  refine rx_c e9 f10 ?_
  obtain ⟨x11, q12, hh⟩ := db hh
  obtain ⟨h13, e14, hR, f15⟩ := rs_vI hD hR q12
  refine rx_c e14 f15 ?_
  obtain ⟨s16, q17, hh⟩ := db hh
  obtain ⟨h18, e19, hR, f20⟩ := rs_sI_ok hR q17
  refine rx_w e19 f20 ?_
  obtain ⟨s21, q22, hh⟩ := db hh
  obtain ⟨h23, e24, hR, f25⟩ := rs_vV hD hR q22
  refine rx_w e24 f25 ?_
  exact rx_I hR hh
def s318_199 (E : rE) (w : Nat) (i1 : Int32) (i2 : Int32) (i3 : Int32) (s : rS) : Option rA :=
  (rs_pI s 56 ((s.1 56) + 1)).bind fun s1 =>
  if mx_f2 .ne i3 9 = true then
    if mx_f2 .ne i3 10 = true then
      s318_234 E w i1 i2 25 s1
    else
      s318_234 E w i1 i2 24 s1
  else
    s318_234 E w i1 i2 23 s1
theorem r318_199 {L : Nat} {xs : Nat → Int32} {zf : Value} {D : dD} {E : rE} {w : Nat} (hD : rO D E L xs) : ∀ (i1 : Int32) (i2 : Int32) (i3 : Int32) (h : rm_H) (s : rS) (r : rA), RS h s → s318_199 E w i1 i2 i3 s = some r → rx (b318_199 L xs zf D w (some 36) i1 i2 i3 h) h r := by
  intro i1 i2 i3 h s r hR hh
  unfold s318_199 at hh
  unfold b318_199
  refine rx_b (rs_gI hR 56 _ rfl) ?_
  obtain ⟨s1, q2, hh⟩ := db hh
  obtain ⟨h3, e4, hR, f5⟩ := rs_pI_ok (rs_m56 _ _) (by decide) hR q2
  refine rx_w e4 f5 ?_
  rcases di hh with ⟨q6, hh⟩ | ⟨q6, hh⟩
  · refine rx_t q6 ?_
    rcases di hh with ⟨q7, hh⟩ | ⟨q7, hh⟩
    · refine rx_t q7 ?_
      exact r318_234 hD _ _ _ _ _ _ hR hh
    · refine rx_f q7 ?_
      exact r318_234 hD _ _ _ _ _ _ hR hh
  · refine rx_f q6 ?_
    exact r318_234 hD _ _ _ _ _ _ hR hh
def s318_325 (E : rE) (w : Nat) (i4 : Int32) (i5 : Int32) (s : rS) : Option rA :=
  ((E 323 [.ref 36, .int i5, .int i4] s).bind rxI).bind fun x1 =>
  (rs_sI x1.2 45 i5 x1.1).bind fun s6 =>
  ((E 308 [.ref 36, .int 59] s6).bind rxV).bind fun s11 =>
  rrI (some .int) i5 s11
theorem r318_325 {L : Nat} {xs : Nat → Int32} {zf : Value} {D : dD} {E : rE} {w : Nat} (hD : rO D E L xs) : ∀ (i4 : Int32) (i5 : Int32) (h : rm_H) (s : rS) (r : rA), RS h s → s318_325 E w i4 i5 s = some r → rx (b318_325 L xs zf D w (some 36) i4 i5 h) h r := by
  intro i4 i5 h s r hR hh
  unfold s318_325 at hh
  unfold b318_325
  refine rx_b (rs_gR hR 12 45 rfl) ?_
  obtain ⟨x1, q2, hh⟩ := db hh
  obtain ⟨h3, e4, hR, f5⟩ := rs_vI hD hR q2
  refine rx_c e4 f5 ?_
  obtain ⟨s6, q7, hh⟩ := db hh
  obtain ⟨h8, e9, hR, f10⟩ := rs_sI_ok hR q7
  refine rx_w e9 f10 ?_
  obtain ⟨s11, q12, hh⟩ := db hh
  obtain ⟨h13, e14, hR, f15⟩ := rs_vV hD hR q12
  refine rx_w e14 f15 ?_
  exact rx_I hR hh
def s318_36 (E : rE) (w : Nat) (i1 : Int32) (i2 : Int32) (s0 : Int32) (s : rS) : Option rA :=
  if mx_f2 .ne s0 5 = true then
    if mx_f2 .eq s0 6 = true then
      s318_60 E w i1 i2 s0 s
    else
      if mx_f2 .ne s0 8 = true then
        if mx_f2 .eq s0 9 = true then
          s318_199 E w i1 i2 s0 s
        else
          if mx_f2 .eq s0 10 = true then
            s318_199 E w i1 i2 s0 s
          else
            if mx_f2 .ne s0 11 = true then
              ((E 320 [.ref 36, .int (i1 + 1)] s).bind rxI).bind fun x7 =>
              ((E 316 [.ref 36, .int 27, .int i2] x7.2).bind rxI).bind fun x12 =>
              ((E 309 [.ref 36, .int 61] x12.2).bind rxI).bind fun x17 =>
              if mx_f1 .eq x17.1 = true then
                s318_325 E w x7.1 x12.1 x17.2
              else
                (rs_sI x17.2 44 x12.1 26).bind fun s23 =>
                ((E 320 [.ref 36, .int (i1 + 1)] s23).bind rxI).bind fun x28 =>
                ((E 323 [.ref 36, .int x12.1, .int x28.1] x28.2).bind rxI).bind fun x33 =>
                (rs_sI x33.2 46 x12.1 x33.1).bind fun s38 =>
                s318_325 E w x7.1 x12.1 s38
            else
              s318_199 E w i1 i2 s0 s
      else
        s318_60 E w i1 i2 s0 s
  else
    ((E 319 [.ref 36, .int i1] s).bind rxI).bind fun x43 =>
    rrI (some .int) x43.1 x43.2
theorem r318_36 {L : Nat} {xs : Nat → Int32} {zf : Value} {D : dD} {E : rE} {w : Nat} (hD : rO D E L xs) : ∀ (i1 : Int32) (i2 : Int32) (s0 : Int32) (h : rm_H) (s : rS) (r : rA), RS h s → s318_36 E w i1 i2 s0 s = some r → rx (b318_36 L xs zf D w (some 36) i1 i2 s0 h) h r := by
  intro i1 i2 s0 h s r hR hh
  unfold s318_36 at hh
  unfold b318_36
  rcases di hh with ⟨q1, hh⟩ | ⟨q1, hh⟩
  · refine rx_t q1 ?_
    rcases di hh with ⟨q2, hh⟩ | ⟨q2, hh⟩
    · refine rx_t q2 ?_
      exact r318_60 hD _ _ _ _ _ _ hR hh
    · refine rx_f q2 ?_
      rcases di hh with ⟨q3, hh⟩ | ⟨q3, hh⟩
      · refine rx_t q3 ?_
        rcases di hh with ⟨q4, hh⟩ | ⟨q4, hh⟩
        · refine rx_t q4 ?_
          exact r318_199 hD _ _ _ _ _ _ hR hh
        · refine rx_f q4 ?_
          rcases di hh with ⟨q5, hh⟩ | ⟨q5, hh⟩
          · refine rx_t q5 ?_
            exact r318_199 hD _ _ _ _ _ _ hR hh
          · refine rx_f q5 ?_
            rcases di hh with ⟨q6, hh⟩ | ⟨q6, hh⟩
            · refine rx_t q6 ?_
              obtain ⟨x7, q8, hh⟩ := db hh
              obtain ⟨h9, e10, hR, f11⟩ := rs_vI hD hR q8
              refine rx_c e10 f11 ?_
              obtain ⟨x12, q13, hh⟩ := db hh
              obtain ⟨h14, e15, hR, f16⟩ := rs_vI hD hR q13
              refine rx_c e15 f16 ?_
              obtain ⟨x17, q18, hh⟩ := db hh
              obtain ⟨h19, e20, hR, f21⟩ := rs_vI hD hR q18
              refine rx_c e20 f21 ?_
              rcases di hh with ⟨q22, hh⟩ | ⟨q22, hh⟩
              · refine rx_t q22 ?_
                exact r318_325 hD _ _ _ _ _ hR hh
              · refine rx_f q22 ?_
                refine rx_b (rs_gR hR 11 44 rfl) ?_
                obtain ⟨s23, q24, hh⟩ := db hh
                obtain ⟨h25, e26, hR, f27⟩ := rs_sI_ok hR q24
                refine rx_w e26 f27 ?_
                refine rx_b (rs_gR hR 13 46 rfl) ?_
                obtain ⟨x28, q29, hh⟩ := db hh
                obtain ⟨h30, e31, hR, f32⟩ := rs_vI hD hR q29
                refine rx_c e31 f32 ?_
                obtain ⟨x33, q34, hh⟩ := db hh
                obtain ⟨h35, e36, hR, f37⟩ := rs_vI hD hR q34
                refine rx_c e36 f37 ?_
                obtain ⟨s38, q39, hh⟩ := db hh
                obtain ⟨h40, e41, hR, f42⟩ := rs_sI_ok hR q39
                refine rx_w e41 f42 ?_
                exact r318_325 hD _ _ _ _ _ hR hh
            · refine rx_f q6 ?_
              exact r318_199 hD _ _ _ _ _ _ hR hh
      · refine rx_f q3 ?_
        exact r318_60 hD _ _ _ _ _ _ hR hh
  · refine rx_f q1 ?_
    obtain ⟨x43, q44, hh⟩ := db hh
    obtain ⟨h45, e46, hR, f47⟩ := rs_vI hD hR q44
    refine rx_c e46 f47 ?_
    exact rx_I hR hh
def s318_0 (E : rE) (w : Nat) (i1 : Int32) (s : rS) : Option rA :=
  (rs_aI s 41 (s.1 56)).bind fun x1 =>
  (rs_aI s 40 (s.1 56)).bind fun x3 =>
  if mx_f2 .ne x3 2 = true then
    s318_36 E w i1 x1 (-1) s
  else
    (rs_aI s 42 (s.1 56)).bind fun x6 =>
    s318_36 E w i1 x1 x6 s
theorem r318_0 {L : Nat} {xs : Nat → Int32} {zf : Value} {D : dD} {E : rE} {w : Nat} (hD : rO D E L xs) : ∀ (i1 : Int32) (h : rm_H) (s : rS) (r : rA), RS h s → s318_0 E w i1 s = some r → rx (b318_0 L xs zf D w (some 36) i1 h) h r := by
  intro i1 h s r hR hh
  unfold s318_0 at hh
  unfold b318_0
  refine rx_b (rs_gR hR 7 41 rfl) ?_
  refine rx_b (rs_gI hR 56 _ rfl) ?_
  obtain ⟨x1, q2, hh⟩ := db hh
  refine rx_b (rs_aI_ok hR q2) ?_
  refine rx_b (rs_gR hR 6 40 rfl) ?_
  refine rx_b (rs_gI hR 56 _ rfl) ?_
  obtain ⟨x3, q4, hh⟩ := db hh
  refine rx_b (rs_aI_ok hR q4) ?_
  rcases di hh with ⟨q5, hh⟩ | ⟨q5, hh⟩
  · refine rx_t q5 ?_
    exact r318_36 hD _ _ _ _ _ _ hR hh
  · refine rx_f q5 ?_
    refine rx_b (rs_gR hR 8 42 rfl) ?_
    refine rx_b (rs_gI hR 56 _ rfl) ?_
    obtain ⟨x6, q7, hh⟩ := db hh
    refine rx_b (rs_aI_ok hR q7) ?_
    exact r318_36 hD _ _ _ _ _ _ hR hh
def g318 (E : rE) (w : Nat) (As : List Value) (s : rS) : Option rA := match As with
  | [.ref 36, .int i1] => s318_0 E w i1 s
  | _ => none
theorem t318 {L : Nat} {xs : Nat → Int32} {zf : Value} {D : dD} {E : rE} {w : Nat} (hD : rO D E L xs) (As : List Value) (h : rm_H) (s : rS) (r : rA) (hR : RS h s) (hh : g318 E w As s = some r) : rx (f318 L xs zf D w As h) h r := by
  unfold g318 at hh
  split at hh
  · unfold f318
    dsimp only
    refine rx_b (a := some 36) rfl ?_
    exact r318_0 hD _ _ _ _ hR hh
  · cases hh
def s319_138 (E : rE) (w : Nat) (i1 : Int32) (i2 : Int32) (s0 : Int32) (s1 : Int32) (s : rS) : Option rA :=
  (rs_sI s 54 s1 s0).bind fun s1 =>
  ((E 308 [.ref 36, .int 61] s1).bind rxV).bind fun s6 =>
  ((E 320 [.ref 36, .int (i1 + 1)] s6).bind rxI).bind fun x11 =>
  ((E 323 [.ref 36, .int i2, .int x11.1] x11.2).bind rxI).bind fun x16 =>
  (rs_sI x16.2 45 i2 x16.1).bind fun s21 =>
  ((E 308 [.ref 36, .int 59] s21).bind rxV).bind fun s26 =>
  rrI (some .int) i2 s26
theorem r319_138 {L : Nat} {xs : Nat → Int32} {zf : Value} {D : dD} {E : rE} {w : Nat} (hD : rO D E L xs) : ∀ (i1 : Int32) (i2 : Int32) (s0 : Int32) (s1 : Int32) (h : rm_H) (s : rS) (r : rA), RS h s → s319_138 E w i1 i2 s0 s1 s = some r → rx (b319_138 L xs zf D w (some 36) i1 i2 s0 s1 (some 54) h) h r := by
  intro i1 i2 s0 s1 h s r hR hh
  unfold s319_138 at hh
  unfold b319_138
  obtain ⟨s1, q2, hh⟩ := db hh
  obtain ⟨h3, e4, hR, f5⟩ := rs_sI_ok hR q2
  refine rx_w e4 f5 ?_
  obtain ⟨s6, q7, hh⟩ := db hh
  obtain ⟨h8, e9, hR, f10⟩ := rs_vV hD hR q7
  refine rx_w e9 f10 ?_
  refine rx_b (rs_gR hR 12 45 rfl) ?_
  obtain ⟨x11, q12, hh⟩ := db hh
  obtain ⟨h13, e14, hR, f15⟩ := rs_vI hD hR q12
  refine rx_c e14 f15 ?_
  obtain ⟨x16, q17, hh⟩ := db hh
  obtain ⟨h18, e19, hR, f20⟩ := rs_vI hD hR q17
  refine rx_c e19 f20 ?_
  obtain ⟨s21, q22, hh⟩ := db hh
  obtain ⟨h23, e24, hR, f25⟩ := rs_sI_ok hR q22
  refine rx_w e24 f25 ?_
  obtain ⟨s26, q27, hh⟩ := db hh
  obtain ⟨h28, e29, hR, f30⟩ := rs_vV hD hR q27
  refine rx_w e29 f30 ?_
  exact rx_I hR hh
def s319_52 (E : rE) (w : Nat) (i1 : Int32) (i2 : Int32) (s : rS) : Option rA :=
  ((E 307 [.ref 36, .int 1] s).bind rxI).bind fun x1 =>
  (rs_sI x1.2 53 i2 (x1.2.1 59)).bind fun s6 =>
  (rs_pI s6 59 ((s6.1 59) + 1)).bind fun s11 =>
  (rs_pI s11 25 ((s11.1 25) + 1)).bind fun s16 =>
  (rs_aJ s16 43 x1.1).bind fun y21 =>
  (rs_sJ s16 56 i2 y21).bind fun s23 =>
  (rs_aI s23 41 x1.1).bind fun x28 =>
  (rs_sI s23 51 i2 x28).bind fun s30 =>
  ((E 308 [.ref 36, .int 58] s30).bind rxV).bind fun s35 =>
  if mx_f1 .le (s35.1 57) = true then
    ((E 312 [.ref 36] s35).bind rxI).bind fun x41 =>
    s319_138 E w i1 i2 x41.1 i2 x41.2
  else
    s319_138 E w i1 i2 0 i2 s35
theorem r319_52 {L : Nat} {xs : Nat → Int32} {zf : Value} {D : dD} {E : rE} {w : Nat} (hD : rO D E L xs) : ∀ (i1 : Int32) (i2 : Int32) (h : rm_H) (s : rS) (r : rA), RS h s → s319_52 E w i1 i2 s = some r → rx (b319_52 L xs zf D w (some 36) i1 i2 h) h r := by
  intro i1 i2 h s r hR hh
  unfold s319_52 at hh
  unfold b319_52
  obtain ⟨x1, q2, hh⟩ := db hh
  obtain ⟨h3, e4, hR, f5⟩ := rs_vI hD hR q2
  refine rx_c e4 f5 ?_
  refine rx_b (rs_gR hR 20 53 rfl) ?_
  refine rx_b (rs_gI hR 59 _ rfl) ?_
  obtain ⟨s6, q7, hh⟩ := db hh
  obtain ⟨h8, e9, hR, f10⟩ := rs_sI_ok hR q7
  refine rx_w e9 f10 ?_
  refine rx_b (rs_gI hR 59 _ rfl) ?_
  obtain ⟨s11, q12, hh⟩ := db hh
  obtain ⟨h13, e14, hR, f15⟩ := rs_pI_ok (rs_m59 _ _) (by decide) hR q12
  refine rx_w e14 f15 ?_
  refine rx_b (rs_gI hR 25 _ rfl) ?_
  obtain ⟨s16, q17, hh⟩ := db hh
  obtain ⟨h18, e19, hR, f20⟩ := rs_pI_ok (rs_m25 _ _) (by decide) hR q17
  refine rx_w e19 f20 ?_
  refine rx_b (rs_gR hR 23 56 rfl) ?_
  refine rx_b (rs_gR hR 9 43 rfl) ?_
  obtain ⟨y21, q22, hh⟩ := db hh
  refine rx_b (rs_aJ_ok hR q22) ?_
  obtain ⟨s23, q24, hh⟩ := db hh
  obtain ⟨h25, e26, hR, f27⟩ := rs_sJ_ok hR q24
  refine rx_w e26 f27 ?_
  refine rx_b (rs_gR hR 18 51 rfl) ?_
  refine rx_b (rs_gR hR 7 41 rfl) ?_
  obtain ⟨x28, q29, hh⟩ := db hh
  refine rx_b (rs_aI_ok hR q29) ?_
  obtain ⟨s30, q31, hh⟩ := db hh
  obtain ⟨h32, e33, hR, f34⟩ := rs_sI_ok hR q31
  refine rx_w e33 f34 ?_
  obtain ⟨s35, q36, hh⟩ := db hh
  obtain ⟨h37, e38, hR, f39⟩ := rs_vV hD hR q36
  refine rx_w e38 f39 ?_
  refine rx_b (rs_gR hR 21 54 rfl) ?_
  refine rx_b (rs_gI hR 57 _ rfl) ?_
  rcases di hh with ⟨q40, hh⟩ | ⟨q40, hh⟩
  · refine rx_t q40 ?_
    obtain ⟨x41, q42, hh⟩ := db hh
    obtain ⟨h43, e44, hR, f45⟩ := rs_vI hD hR q42
    refine rx_c e44 f45 ?_
    exact r319_138 hD _ _ _ _ _ _ _ hR hh
  · refine rx_f q40 ?_
    exact r319_138 hD _ _ _ _ _ _ _ hR hh
def s319_0 (E : rE) (w : Nat) (i1 : Int32) (s : rS) : Option rA :=
  (rs_aI s 41 (s.1 56)).bind fun x1 =>
  ((E 316 [.ref 36, .int 20, .int x1] s).bind rxI).bind fun x3 =>
  (rs_pI x3.2 56 ((x3.2.1 56) + 1)).bind fun s8 =>
  (rs_aI s8 40 (s8.1 56)).bind fun x13 =>
  if mx_f2 .ne x13 1 = true then
    s319_52 E w i1 x3.1 s8
  else
    if mx_f2 .ne (s8.1 59) 16 = true then
      s319_52 E w i1 x3.1 s8
    else
      ((E 304 [.ref 36] s8).bind rxV).bind fun s17 =>
      s319_52 E w i1 x3.1 s17
theorem r319_0 {L : Nat} {xs : Nat → Int32} {zf : Value} {D : dD} {E : rE} {w : Nat} (hD : rO D E L xs) : ∀ (i1 : Int32) (h : rm_H) (s : rS) (r : rA), RS h s → s319_0 E w i1 s = some r → rx (b319_0 L xs zf D w (some 36) i1 h) h r := by
  intro i1 h s r hR hh
  unfold s319_0 at hh
  unfold b319_0
  refine rx_b (rs_gR hR 7 41 rfl) ?_
  refine rx_b (rs_gI hR 56 _ rfl) ?_
  obtain ⟨x1, q2, hh⟩ := db hh
  refine rx_b (rs_aI_ok hR q2) ?_
  obtain ⟨x3, q4, hh⟩ := db hh
  obtain ⟨h5, e6, hR, f7⟩ := rs_vI hD hR q4
  refine rx_c e6 f7 ?_
  refine rx_b (rs_gI hR 56 _ rfl) ?_
  obtain ⟨s8, q9, hh⟩ := db hh
  obtain ⟨h10, e11, hR, f12⟩ := rs_pI_ok (rs_m56 _ _) (by decide) hR q9
  refine rx_w e11 f12 ?_
  refine rx_b (rs_gR hR 6 40 rfl) ?_
  refine rx_b (rs_gI hR 56 _ rfl) ?_
  obtain ⟨x13, q14, hh⟩ := db hh
  refine rx_b (rs_aI_ok hR q14) ?_
  rcases di hh with ⟨q15, hh⟩ | ⟨q15, hh⟩
  · refine rx_t q15 ?_
    exact r319_52 hD _ _ _ _ _ hR hh
  · refine rx_f q15 ?_
    refine rx_b (rs_gI hR 59 _ rfl) ?_
    rcases di hh with ⟨q16, hh⟩ | ⟨q16, hh⟩
    · refine rx_t q16 ?_
      exact r319_52 hD _ _ _ _ _ hR hh
    · refine rx_f q16 ?_
      obtain ⟨s17, q18, hh⟩ := db hh
      obtain ⟨h19, e20, hR, f21⟩ := rs_vV hD hR q18
      refine rx_w e20 f21 ?_
      exact r319_52 hD _ _ _ _ _ hR hh
def g319 (E : rE) (w : Nat) (As : List Value) (s : rS) : Option rA := match As with
  | [.ref 36, .int i1] => s319_0 E w i1 s
  | _ => none
theorem t319 {L : Nat} {xs : Nat → Int32} {zf : Value} {D : dD} {E : rE} {w : Nat} (hD : rO D E L xs) (As : List Value) (h : rm_H) (s : rS) (r : rA) (hR : RS h s) (hh : g319 E w As s = some r) : rx (f319 L xs zf D w As h) h r := by
  unfold g319 at hh
  split at hh
  · unfold f319
    dsimp only
    refine rx_b (a := some 36) rfl ?_
    exact r319_0 hD _ _ _ _ hR hh
  · cases hh
def s320_16 (E : rE) (w : Nat) : Nat → Int32 → Int32 → rS → Option rA
  | 0, _, _, _ => none
  | n + 1, i1, i2, s =>
    ((E 325 [.ref 36] s).bind rxI).bind fun x1 =>
    if mx_f1 .eq x1.1 = true then
      rrI (some .int) i2 x1.2
    else
      (rs_aI x1.2 50 i2).bind fun x7 =>
      ((E 316 [.ref 36, .int 13, .int x7] x1.2).bind rxI).bind fun x9 =>
      (rs_aI x9.2 42 (x9.2.1 56)).bind fun x14 =>
      (rs_sI x9.2 54 x9.1 x14).bind fun s16 =>
      (rs_pI s16 56 ((s16.1 56) + 1)).bind fun s21 =>
      (rs_pI s21 24 ((s21.1 24) + 1)).bind fun s26 =>
      ((E 323 [.ref 36, .int x9.1, .int i2] s26).bind rxI).bind fun x31 =>
      (rs_sI x31.2 45 x9.1 x31.1).bind fun s36 =>
      ((E 321 [.ref 36, .int i1] s36).bind rxI).bind fun x41 =>
      ((E 323 [.ref 36, .int x9.1, .int x41.1] x41.2).bind rxI).bind fun x46 =>
      (rs_sI x46.2 46 x9.1 x46.1).bind fun s51 =>
      s320_16 E w n i1 x9.1 s51
theorem r320_16 {L : Nat} {xs : Nat → Int32} {zf : Value} {D : dD} {E : rE} {w : Nat} (hD : rO D E L xs) : ∀ (n : Nat) (i1 : Int32) (i2 : Int32) (h : rm_H) (s : rS) (r : rA), RS h s → s320_16 E w n i1 i2 s = some r → rx (b320_16 L xs zf D w n (some 36) i1 i2 h) h r := by
  intro n
  induction n with
  | zero =>
    intro i1 i2 h s r hR hh
    cases hh
  | succ n ih =>
    intro i1 i2 h s r hR hh
    rw [s320_16] at hh
    rw [b320_16]
    obtain ⟨x1, q2, hh⟩ := db hh
    obtain ⟨h3, e4, hR, f5⟩ := rs_vI hD hR q2
    refine rx_c e4 f5 ?_
    rcases di hh with ⟨q6, hh⟩ | ⟨q6, hh⟩
    · refine rx_t q6 ?_
      exact rx_I hR hh
    · refine rx_f q6 ?_
      refine rx_b (rs_gR hR 17 50 rfl) ?_
      obtain ⟨x7, q8, hh⟩ := db hh
      refine rx_b (rs_aI_ok hR q8) ?_
      obtain ⟨x9, q10, hh⟩ := db hh
      obtain ⟨h11, e12, hR, f13⟩ := rs_vI hD hR q10
      refine rx_c e12 f13 ?_
      refine rx_b (rs_gR hR 21 54 rfl) ?_
      refine rx_b (rs_gR hR 8 42 rfl) ?_
      refine rx_b (rs_gI hR 56 _ rfl) ?_
      obtain ⟨x14, q15, hh⟩ := db hh
      refine rx_b (rs_aI_ok hR q15) ?_
      obtain ⟨s16, q17, hh⟩ := db hh
      obtain ⟨h18, e19, hR, f20⟩ := rs_sI_ok hR q17
      refine rx_w e19 f20 ?_
      refine rx_b (rs_gI hR 56 _ rfl) ?_
      obtain ⟨s21, q22, hh⟩ := db hh
      obtain ⟨h23, e24, hR, f25⟩ := rs_pI_ok (rs_m56 _ _) (by decide) hR q22
      refine rx_w e24 f25 ?_
      refine rx_b (rs_gI hR 24 _ rfl) ?_
      obtain ⟨s26, q27, hh⟩ := db hh
      obtain ⟨h28, e29, hR, f30⟩ := rs_pI_ok (rs_m24 _ _) (by decide) hR q27
      refine rx_w e29 f30 ?_
      refine rx_b (rs_gR hR 12 45 rfl) ?_
      obtain ⟨x31, q32, hh⟩ := db hh
      obtain ⟨h33, e34, hR, f35⟩ := rs_vI hD hR q32
      refine rx_c e34 f35 ?_
      obtain ⟨s36, q37, hh⟩ := db hh
      obtain ⟨h38, e39, hR, f40⟩ := rs_sI_ok hR q37
      refine rx_w e39 f40 ?_
      refine rx_b (rs_gR hR 13 46 rfl) ?_
      obtain ⟨x41, q42, hh⟩ := db hh
      obtain ⟨h43, e44, hR, f45⟩ := rs_vI hD hR q42
      refine rx_c e44 f45 ?_
      obtain ⟨x46, q47, hh⟩ := db hh
      obtain ⟨h48, e49, hR, f50⟩ := rs_vI hD hR q47
      refine rx_c e49 f50 ?_
      obtain ⟨s51, q52, hh⟩ := db hh
      obtain ⟨h53, e54, hR, f55⟩ := rs_sI_ok hR q52
      refine rx_w e54 f55 ?_
      exact ih _ _ _ _ _ hR hh
def s320_10 (E : rE) (w : Nat) (i1 : Int32) (s : rS) : Option rA :=
  ((E 321 [.ref 36, .int i1] s).bind rxI).bind fun x1 =>
  s320_16 E w w i1 x1.1 x1.2
theorem r320_10 {L : Nat} {xs : Nat → Int32} {zf : Value} {D : dD} {E : rE} {w : Nat} (hD : rO D E L xs) : ∀ (i1 : Int32) (h : rm_H) (s : rS) (r : rA), RS h s → s320_10 E w i1 s = some r → rx (b320_10 L xs zf D w (some 36) i1 h) h r := by
  intro i1 h s r hR hh
  unfold s320_10 at hh
  unfold b320_10
  obtain ⟨x1, q2, hh⟩ := db hh
  obtain ⟨h3, e4, hR, f5⟩ := rs_vI hD hR q2
  refine rx_c e4 f5 ?_
  exact r320_16 hD _ _ _ _ _ _ hR hh
def s320_0 (E : rE) (w : Nat) (i1 : Int32) (s : rS) : Option rA :=
  if mx_f2 .le i1 24 = true then
    s320_10 E w i1 s
  else
    ((E 304 [.ref 36] s).bind rxV).bind fun s2 =>
    s320_10 E w i1 s2
theorem r320_0 {L : Nat} {xs : Nat → Int32} {zf : Value} {D : dD} {E : rE} {w : Nat} (hD : rO D E L xs) : ∀ (i1 : Int32) (h : rm_H) (s : rS) (r : rA), RS h s → s320_0 E w i1 s = some r → rx (b320_0 L xs zf D w (some 36) i1 h) h r := by
  intro i1 h s r hR hh
  unfold s320_0 at hh
  unfold b320_0
  rcases di hh with ⟨q1, hh⟩ | ⟨q1, hh⟩
  · refine rx_t q1 ?_
    exact r320_10 hD _ _ _ _ hR hh
  · refine rx_f q1 ?_
    obtain ⟨s2, q3, hh⟩ := db hh
    obtain ⟨h4, e5, hR, f6⟩ := rs_vV hD hR q3
    refine rx_w e5 f6 ?_
    exact r320_10 hD _ _ _ _ hR hh
def g320 (E : rE) (w : Nat) (As : List Value) (s : rS) : Option rA := match As with
  | [.ref 36, .int i1] => s320_0 E w i1 s
  | _ => none
theorem t320 {L : Nat} {xs : Nat → Int32} {zf : Value} {D : dD} {E : rE} {w : Nat} (hD : rO D E L xs) (As : List Value) (h : rm_H) (s : rS) (r : rA) (hR : RS h s) (hh : g320 E w As s = some r) : rx (f320 L xs zf D w As h) h r := by
  unfold g320 at hh
  split at hh
  · unfold f320
    dsimp only
    refine rx_b (a := some 36) rfl ?_
    exact r320_0 hD _ _ _ _ hR hh
  · cases hh
def s321_182 (E : rE) (w : Nat) (K6 : Int32 → Int32 → rS → Option rA) (i1 : Int32) (i6 : Int32) (s : rS) : Option rA :=
  K6 i1 i6 s
theorem r321_182 {L : Nat} {xs : Nat → Int32} {zf : Value} {D : dD} {E : rE} {w : Nat} {K6 : Int32 → Int32 → rS → Option rA} {B6 : Option Nat → Int32 → Int32 → rm_H → Option dR} (hD : rO D E L xs) (hK6 : ∀ (i1 : Int32) (i2 : Int32) (h : rm_H) (s : rS) (r : rA), RS h s → K6 i1 i2 s = some r → rx (B6 (some 36) i1 i2 h) h r) : ∀ (i1 : Int32) (i6 : Int32) (h : rm_H) (s : rS) (r : rA), RS h s → s321_182 E w K6 i1 i6 s = some r → rx (b321_182 L xs zf D w B6 (some 36) i1 i6 h) h r := by
  intro i1 i6 h s r hR hh
  unfold s321_182 at hh
  unfold b321_182
  exact hK6 _ _ _ _ _ hR hh
def s321_90 (E : rE) (w : Nat) (K6 : Int32 → Int32 → rS → Option rA) (i1 : Int32) (i2 : Int32) (i4 : Int32) (i5 : Int32) (s0 : Int32) (s : rS) : Option rA :=
  (rs_aI s 50 i2).bind fun x1 =>
  ((E 316 [.ref 36, .int s0, .int x1] s).bind rxI).bind fun x3 =>
  (rs_pI x3.2 24 ((x3.2.1 24) + 1)).bind fun s8 =>
  (rs_aJ s8 43 i4).bind fun y13 =>
  (rs_sJ s8 56 x3.1 y13).bind fun s15 =>
  (rs_aI s15 41 i4).bind fun x20 =>
  (rs_sI s15 51 x3.1 x20).bind fun s22 =>
  if mx_f1 .eq i5 = true then
    ((E 323 [.ref 36, .int x3.1, .int i2] s22).bind rxI).bind fun x28 =>
    (rs_sI x28.2 45 x3.1 x28.1).bind fun s33 =>
    s321_182 E w K6 i1 x3.1 s33
  else
    ((E 323 [.ref 36, .int x3.1, .int i2] s22).bind rxI).bind fun x38 =>
    (rs_sI x38.2 46 x3.1 x38.1).bind fun s43 =>
    ((E 324 [.ref 36, .int x3.1, .int i1] s43).bind rxV).bind fun s48 =>
    s321_182 E w K6 i1 x3.1 s48
theorem r321_90 {L : Nat} {xs : Nat → Int32} {zf : Value} {D : dD} {E : rE} {w : Nat} {K6 : Int32 → Int32 → rS → Option rA} {B6 : Option Nat → Int32 → Int32 → rm_H → Option dR} (hD : rO D E L xs) (hK6 : ∀ (i1 : Int32) (i2 : Int32) (h : rm_H) (s : rS) (r : rA), RS h s → K6 i1 i2 s = some r → rx (B6 (some 36) i1 i2 h) h r) : ∀ (i1 : Int32) (i2 : Int32) (i4 : Int32) (i5 : Int32) (s0 : Int32) (h : rm_H) (s : rS) (r : rA), RS h s → s321_90 E w K6 i1 i2 i4 i5 s0 s = some r → rx (b321_90 L xs zf D w B6 (some 36) i1 i2 i4 i5 s0 (some 36) h) h r := by
  intro i1 i2 i4 i5 s0 h s r hR hh
  unfold s321_90 at hh
  unfold b321_90
  refine rx_b (rs_gR hR 17 50 rfl) ?_
  obtain ⟨x1, q2, hh⟩ := db hh
  refine rx_b (rs_aI_ok hR q2) ?_
  obtain ⟨x3, q4, hh⟩ := db hh
  obtain ⟨h5, e6, hR, f7⟩ := rs_vI hD hR q4
  refine rx_c e6 f7 ?_
  refine rx_b (rs_gI hR 24 _ rfl) ?_
  obtain ⟨s8, q9, hh⟩ := db hh
  obtain ⟨h10, e11, hR, f12⟩ := rs_pI_ok (rs_m24 _ _) (by decide) hR q9
  refine rx_w e11 f12 ?_
  refine rx_b (rs_gR hR 23 56 rfl) ?_
  refine rx_b (rs_gR hR 9 43 rfl) ?_
  obtain ⟨y13, q14, hh⟩ := db hh
  refine rx_b (rs_aJ_ok hR q14) ?_
  obtain ⟨s15, q16, hh⟩ := db hh
  obtain ⟨h17, e18, hR, f19⟩ := rs_sJ_ok hR q16
  refine rx_w e18 f19 ?_
  refine rx_b (rs_gR hR 18 51 rfl) ?_
  refine rx_b (rs_gR hR 7 41 rfl) ?_
  obtain ⟨x20, q21, hh⟩ := db hh
  refine rx_b (rs_aI_ok hR q21) ?_
  obtain ⟨s22, q23, hh⟩ := db hh
  obtain ⟨h24, e25, hR, f26⟩ := rs_sI_ok hR q23
  refine rx_w e25 f26 ?_
  rcases di hh with ⟨q27, hh⟩ | ⟨q27, hh⟩
  · refine rx_t q27 ?_
    refine rx_b (rs_gR hR 12 45 rfl) ?_
    obtain ⟨x28, q29, hh⟩ := db hh
    obtain ⟨h30, e31, hR, f32⟩ := rs_vI hD hR q29
    refine rx_c e31 f32 ?_
    obtain ⟨s33, q34, hh⟩ := db hh
    obtain ⟨h35, e36, hR, f37⟩ := rs_sI_ok hR q34
    refine rx_w e36 f37 ?_
    exact r321_182 hD hK6 _ _ _ _ _ hR hh
  · refine rx_f q27 ?_
    refine rx_b (rs_gR hR 13 46 rfl) ?_
    obtain ⟨x38, q39, hh⟩ := db hh
    obtain ⟨h40, e41, hR, f42⟩ := rs_vI hD hR q39
    refine rx_c e41 f42 ?_
    obtain ⟨s43, q44, hh⟩ := db hh
    obtain ⟨h45, e46, hR, f47⟩ := rs_sI_ok hR q44
    refine rx_w e46 f47 ?_
    obtain ⟨s48, q49, hh⟩ := db hh
    obtain ⟨h50, e51, hR, f52⟩ := rs_vV hD hR q49
    refine rx_w e51 f52 ?_
    exact r321_182 hD hK6 _ _ _ _ _ hR hh
def s321_66 (E : rE) (w : Nat) (K6 : Int32 → Int32 → rS → Option rA) (i1 : Int32) (i2 : Int32) (i3 : Int32) (i4 : Int32) (s0 : Int32) (s : rS) : Option rA :=
  if mx_f1 .eq i3 = true then
    if mx_f1 .eq s0 = true then
      s321_90 E w K6 i1 i2 i4 s0 10 s
    else
      s321_90 E w K6 i1 i2 i4 s0 11 s
  else
    s321_90 E w K6 i1 i2 i4 s0 12 s
theorem r321_66 {L : Nat} {xs : Nat → Int32} {zf : Value} {D : dD} {E : rE} {w : Nat} {K6 : Int32 → Int32 → rS → Option rA} {B6 : Option Nat → Int32 → Int32 → rm_H → Option dR} (hD : rO D E L xs) (hK6 : ∀ (i1 : Int32) (i2 : Int32) (h : rm_H) (s : rS) (r : rA), RS h s → K6 i1 i2 s = some r → rx (B6 (some 36) i1 i2 h) h r) : ∀ (i1 : Int32) (i2 : Int32) (i3 : Int32) (i4 : Int32) (s0 : Int32) (h : rm_H) (s : rS) (r : rA), RS h s → s321_66 E w K6 i1 i2 i3 i4 s0 s = some r → rx (b321_66 L xs zf D w B6 (some 36) i1 i2 i3 i4 s0 h) h r := by
  intro i1 i2 i3 i4 s0 h s r hR hh
  unfold s321_66 at hh
  unfold b321_66
  rcases di hh with ⟨q1, hh⟩ | ⟨q1, hh⟩
  · refine rx_t q1 ?_
    rcases di hh with ⟨q2, hh⟩ | ⟨q2, hh⟩
    · refine rx_t q2 ?_
      exact r321_90 hD hK6 _ _ _ _ _ _ _ _ hR hh
    · refine rx_f q2 ?_
      exact r321_90 hD hK6 _ _ _ _ _ _ _ _ hR hh
  · refine rx_f q1 ?_
    exact r321_90 hD hK6 _ _ _ _ _ _ _ _ hR hh
def s321_61 (E : rE) (w : Nat) (K6 : Int32 → Int32 → rS → Option rA) (i1 : Int32) (i2 : Int32) (i3 : Int32) (i4 : Int32) (s : rS) : Option rA :=
  s321_66 E w K6 i1 i2 i3 i4 1 s
theorem r321_61 {L : Nat} {xs : Nat → Int32} {zf : Value} {D : dD} {E : rE} {w : Nat} {K6 : Int32 → Int32 → rS → Option rA} {B6 : Option Nat → Int32 → Int32 → rm_H → Option dR} (hD : rO D E L xs) (hK6 : ∀ (i1 : Int32) (i2 : Int32) (h : rm_H) (s : rS) (r : rA), RS h s → K6 i1 i2 s = some r → rx (B6 (some 36) i1 i2 h) h r) : ∀ (i1 : Int32) (i2 : Int32) (i3 : Int32) (i4 : Int32) (h : rm_H) (s : rS) (r : rA), RS h s → s321_61 E w K6 i1 i2 i3 i4 s = some r → rx (b321_61 L xs zf D w B6 (some 36) i1 i2 i3 i4 h) h r := by
  intro i1 i2 i3 i4 h s r hR hh
  unfold s321_61 at hh
  unfold b321_61
  exact r321_66 hD hK6 _ _ _ _ _ _ _ _ hR hh
def s321_24 (E : rE) (w : Nat) (K6 : Int32 → Int32 → rS → Option rA) (i1 : Int32) (i2 : Int32) (s : rS) : Option rA :=
  ((E 310 [.ref 36, .int 33] s).bind rxI).bind fun x1 =>
  (rs_pI x1.2 56 ((x1.2.1 56) + 1)).bind fun s6 =>
  ((E 307 [.ref 36, .int 1] s6).bind rxI).bind fun x11 =>
  if mx_f1 .ne x1.1 = true then
    s321_61 E w K6 i1 i2 x1.1 x11.1 x11.2
  else
    ((E 310 [.ref 36, .int 40] x11.2).bind rxI).bind fun x17 =>
    if mx_f1 .eq x17.1 = true then
      s321_66 E w K6 i1 i2 x1.1 x11.1 0 x17.2
    else
      s321_61 E w K6 i1 i2 x1.1 x11.1 x17.2
theorem r321_24 {L : Nat} {xs : Nat → Int32} {zf : Value} {D : dD} {E : rE} {w : Nat} {K6 : Int32 → Int32 → rS → Option rA} {B6 : Option Nat → Int32 → Int32 → rm_H → Option dR} (hD : rO D E L xs) (hK6 : ∀ (i1 : Int32) (i2 : Int32) (h : rm_H) (s : rS) (r : rA), RS h s → K6 i1 i2 s = some r → rx (B6 (some 36) i1 i2 h) h r) : ∀ (i1 : Int32) (i2 : Int32) (h : rm_H) (s : rS) (r : rA), RS h s → s321_24 E w K6 i1 i2 s = some r → rx (b321_24 L xs zf D w B6 (some 36) i1 i2 h) h r := by
  intro i1 i2 h s r hR hh
  unfold s321_24 at hh
  unfold b321_24
  obtain ⟨x1, q2, hh⟩ := db hh
  obtain ⟨h3, e4, hR, f5⟩ := rs_vI hD hR q2
  refine rx_c e4 f5 ?_
  refine rx_b (rs_gI hR 56 _ rfl) ?_
  obtain ⟨s6, q7, hh⟩ := db hh
  obtain ⟨h8, e9, hR, f10⟩ := rs_pI_ok (rs_m56 _ _) (by decide) hR q7
  refine rx_w e9 f10 ?_
  obtain ⟨x11, q12, hh⟩ := db hh
  obtain ⟨h13, e14, hR, f15⟩ := rs_vI hD hR q12
  refine rx_c e14 f15 ?_
  rcases di hh with ⟨q16, hh⟩ | ⟨q16, hh⟩
  · refine rx_t q16 ?_
    exact r321_61 hD hK6 _ _ _ _ _ _ _ hR hh
  · refine rx_f q16 ?_
    obtain ⟨x17, q18, hh⟩ := db hh
    obtain ⟨h19, e20, hR, f21⟩ := rs_vI hD hR q18
    refine rx_c e20 f21 ?_
    rcases di hh with ⟨q22, hh⟩ | ⟨q22, hh⟩
    · refine rx_t q22 ?_
      exact r321_66 hD hK6 _ _ _ _ _ _ _ _ hR hh
    · refine rx_f q22 ?_
      exact r321_61 hD hK6 _ _ _ _ _ _ _ hR hh
def s321_6 (E : rE) (w : Nat) : Nat → Int32 → Int32 → rS → Option rA
  | 0, _, _, _ => none
  | n + 1, i1, i2, s =>
    ((E 310 [.ref 36, .int 46] s).bind rxI).bind fun x1 =>
    if mx_f1 .ne x1.1 = true then
      s321_24 E w (s321_6 E w n) i1 i2 x1.2
    else
      ((E 310 [.ref 36, .int 33] x1.2).bind rxI).bind fun x7 =>
      if mx_f1 .eq x7.1 = true then
        rrI (some .int) i2 x7.2
      else
        s321_24 E w (s321_6 E w n) i1 i2 x7.2
theorem r321_6 {L : Nat} {xs : Nat → Int32} {zf : Value} {D : dD} {E : rE} {w : Nat} (hD : rO D E L xs) : ∀ (n : Nat) (i1 : Int32) (i2 : Int32) (h : rm_H) (s : rS) (r : rA), RS h s → s321_6 E w n i1 i2 s = some r → rx (b321_6 L xs zf D w n (some 36) i1 i2 h) h r := by
  intro n
  induction n with
  | zero =>
    intro i1 i2 h s r hR hh
    cases hh
  | succ n ih =>
    intro i1 i2 h s r hR hh
    rw [s321_6] at hh
    rw [b321_6]
    obtain ⟨x1, q2, hh⟩ := db hh
    obtain ⟨h3, e4, hR, f5⟩ := rs_vI hD hR q2
    refine rx_c e4 f5 ?_
    rcases di hh with ⟨q6, hh⟩ | ⟨q6, hh⟩
    · refine rx_t q6 ?_
      exact r321_24 hD ih _ _ _ _ _ hR hh
    · refine rx_f q6 ?_
      obtain ⟨x7, q8, hh⟩ := db hh
      obtain ⟨h9, e10, hR, f11⟩ := rs_vI hD hR q8
      refine rx_c e10 f11 ?_
      rcases di hh with ⟨q12, hh⟩ | ⟨q12, hh⟩
      · refine rx_t q12 ?_
        exact rx_I hR hh
      · refine rx_f q12 ?_
        exact r321_24 hD ih _ _ _ _ _ hR hh
def s321_0 (E : rE) (w : Nat) (i1 : Int32) (s : rS) : Option rA :=
  ((E 322 [.ref 36, .int i1] s).bind rxI).bind fun x1 =>
  s321_6 E w w i1 x1.1 x1.2
theorem r321_0 {L : Nat} {xs : Nat → Int32} {zf : Value} {D : dD} {E : rE} {w : Nat} (hD : rO D E L xs) : ∀ (i1 : Int32) (h : rm_H) (s : rS) (r : rA), RS h s → s321_0 E w i1 s = some r → rx (b321_0 L xs zf D w (some 36) i1 h) h r := by
  intro i1 h s r hR hh
  unfold s321_0 at hh
  unfold b321_0
  obtain ⟨x1, q2, hh⟩ := db hh
  obtain ⟨h3, e4, hR, f5⟩ := rs_vI hD hR q2
  refine rx_c e4 f5 ?_
  exact r321_6 hD _ _ _ _ _ _ hR hh
def g321 (E : rE) (w : Nat) (As : List Value) (s : rS) : Option rA := match As with
  | [.ref 36, .int i1] => s321_0 E w i1 s
  | _ => none
theorem t321 {L : Nat} {xs : Nat → Int32} {zf : Value} {D : dD} {E : rE} {w : Nat} (hD : rO D E L xs) (As : List Value) (h : rm_H) (s : rS) (r : rA) (hR : RS h s) (hh : g321 E w As s = some r) : rx (f321 L xs zf D w As h) h r := by
  unfold g321 at hh
  split at hh
  · unfold f321
    dsimp only
    refine rx_b (a := some 36) rfl ?_
    exact r321_0 hD _ _ _ _ hR hh
  · cases hh
def s322_548 (E : rE) (w : Nat) (i5 : Int32) (s : rS) : Option rA :=
  rrI (some .int) i5 s
theorem r322_548 {L : Nat} {xs : Nat → Int32} {zf : Value} {D : dD} {E : rE} {w : Nat} (hD : rO D E L xs) : ∀ (i5 : Int32) (h : rm_H) (s : rS) (r : rA), RS h s → s322_548 E w i5 s = some r → rx (b322_548 L xs zf D w i5 h) h r := by
  intro i5 h s r hR hh
  unfold s322_548 at hh
  unfold b322_548
  exact rx_I hR hh
def s322_506 (E : rE) (w : Nat) (i1 : Int32) (i5 : Int32) (s : rS) : Option rA :=
  ((E 307 [.ref 36, .int 3] s).bind rxI).bind fun x1 =>
  (rs_aJ x1.2 43 x1.1).bind fun y6 =>
  (rs_sJ x1.2 56 i5 y6).bind fun s8 =>
  (rs_aI s8 41 x1.1).bind fun x13 =>
  (rs_sI s8 51 i5 x13).bind fun s15 =>
  ((E 324 [.ref 36, .int i5, .int i1] s15).bind rxV).bind fun s20 =>
  s322_548 E w i5 s20
theorem r322_506 {L : Nat} {xs : Nat → Int32} {zf : Value} {D : dD} {E : rE} {w : Nat} (hD : rO D E L xs) : ∀ (i1 : Int32) (i5 : Int32) (h : rm_H) (s : rS) (r : rA), RS h s → s322_506 E w i1 i5 s = some r → rx (b322_506 L xs zf D w (some 36) i1 i5 h) h r := by
  intro i1 i5 h s r hR hh
  unfold s322_506 at hh
  unfold b322_506
  obtain ⟨x1, q2, hh⟩ := db hh
  obtain ⟨h3, e4, hR, f5⟩ := rs_vI hD hR q2
  refine rx_c e4 f5 ?_
  refine rx_b (rs_gR hR 23 56 rfl) ?_
  refine rx_b (rs_gR hR 9 43 rfl) ?_
  obtain ⟨y6, q7, hh⟩ := db hh
  refine rx_b (rs_aJ_ok hR q7) ?_
  obtain ⟨s8, q9, hh⟩ := db hh
  obtain ⟨h10, e11, hR, f12⟩ := rs_sJ_ok hR q9
  refine rx_w e11 f12 ?_
  refine rx_b (rs_gR hR 18 51 rfl) ?_
  refine rx_b (rs_gR hR 7 41 rfl) ?_
  obtain ⟨x13, q14, hh⟩ := db hh
  refine rx_b (rs_aI_ok hR q14) ?_
  obtain ⟨s15, q16, hh⟩ := db hh
  obtain ⟨h17, e18, hR, f19⟩ := rs_sI_ok hR q16
  refine rx_w e18 f19 ?_
  obtain ⟨s20, q21, hh⟩ := db hh
  obtain ⟨h22, e23, hR, f24⟩ := rs_vV hD hR q21
  refine rx_w e23 f24 ?_
  exact r322_548 hD _ _ _ _ hR hh
def s322_181 (E : rE) (w : Nat) (i1 : Int32) (i2 : Int32) (s0 : Int32) (s : rS) : Option rA :=
  if mx_f1 .ne s0 = true then
    ((E 316 [.ref 36, .int s0, .int i2] s).bind rxI).bind fun x2 =>
    (rs_pI x2.2 24 ((x2.2.1 24) + 1)).bind fun s7 =>
    (rs_aI s7 42 (s7.1 56)).bind fun x12 =>
    (rs_sI s7 54 x2.1 x12).bind fun s14 =>
    (rs_aJ s14 43 (s14.1 56)).bind fun y19 =>
    (rs_sJ s14 56 x2.1 y19).bind fun s21 =>
    (rs_pI s21 56 ((s21.1 56) + 1)).bind fun s26 =>
    if mx_f2 .ne s0 5 = true then
      if mx_f2 .ne s0 6 = true then
        if mx_f2 .ne s0 7 = true then
          if mx_f2 .ne s0 9 = true then
            if mx_f2 .ne s0 8 = true then
              s322_548 E w x2.1 s26
            else
              (rs_sI s26 54 x2.1 (-1)).bind fun s36 =>
              (rs_aI s36 41 (s36.1 56)).bind fun x41 =>
              (rs_sI s36 55 x2.1 x41).bind fun s43 =>
              ((E 313 [.ref 36] s43).bind rxI).bind fun x48 =>
              if mx_f1 .eq x48.1 = true then
                s322_506 E w i1 x2.1 x48.2
              else
                (rs_aI x48.2 42 (x48.2.1 56)).bind fun x54 =>
                (rs_sI x48.2 54 x2.1 (x54 - 18)).bind fun s56 =>
                (rs_pI s56 56 ((s56.1 56) + 1)).bind fun s61 =>
                s322_506 E w i1 x2.1 s61
          else
            ((E 317 [.ref 36, .int (i1 + 1)] s26).bind rxI).bind fun x66 =>
            ((E 323 [.ref 36, .int x2.1, .int x66.1] x66.2).bind rxI).bind fun x71 =>
            (rs_sI x71.2 45 x2.1 x71.1).bind fun s76 =>
            s322_548 E w x2.1 s76
        else
          ((E 308 [.ref 36, .int 40] s26).bind rxV).bind fun s81 =>
          ((E 320 [.ref 36, .int (i1 + 1)] s81).bind rxI).bind fun x86 =>
          ((E 323 [.ref 36, .int x2.1, .int x86.1] x86.2).bind rxI).bind fun x91 =>
          (rs_sI x91.2 45 x2.1 x91.1).bind fun s96 =>
          ((E 308 [.ref 36, .int 44] s96).bind rxV).bind fun s101 =>
          ((E 320 [.ref 36, .int (i1 + 1)] s101).bind rxI).bind fun x106 =>
          ((E 323 [.ref 36, .int x2.1, .int x106.1] x106.2).bind rxI).bind fun x111 =>
          (rs_sI x111.2 46 x2.1 x111.1).bind fun s116 =>
          ((E 308 [.ref 36, .int 41] s116).bind rxV).bind fun s121 =>
          s322_548 E w x2.1 s121
      else
        ((E 308 [.ref 36, .int 40] s26).bind rxV).bind fun s126 =>
        ((E 320 [.ref 36, .int (i1 + 1)] s126).bind rxI).bind fun x131 =>
        ((E 323 [.ref 36, .int x2.1, .int x131.1] x131.2).bind rxI).bind fun x136 =>
        (rs_sI x136.2 45 x2.1 x136.1).bind fun s141 =>
        ((E 308 [.ref 36, .int 41] s141).bind rxV).bind fun s146 =>
        s322_548 E w x2.1 s146
    else
      ((E 307 [.ref 36, .int 1] s26).bind rxI).bind fun x151 =>
      (rs_aJ x151.2 43 x151.1).bind fun y156 =>
      (rs_sJ x151.2 56 x2.1 y156).bind fun s158 =>
      (rs_aI s158 41 x151.1).bind fun x163 =>
      (rs_sI s158 51 x2.1 x163).bind fun s165 =>
      s322_548 E w x2.1 s165
  else
    ((E 304 [.ref 36] s).bind rxV).bind fun s170 =>
    rrI (some .int) 0 s170
theorem r322_181 {L : Nat} {xs : Nat → Int32} {zf : Value} {D : dD} {E : rE} {w : Nat} (hD : rO D E L xs) : ∀ (i1 : Int32) (i2 : Int32) (s0 : Int32) (h : rm_H) (s : rS) (r : rA), RS h s → s322_181 E w i1 i2 s0 s = some r → rx (b322_181 L xs zf D w (some 36) i1 i2 s0 h) h r := by
  intro i1 i2 s0 h s r hR hh
  unfold s322_181 at hh
  unfold b322_181
  rcases di hh with ⟨q1, hh⟩ | ⟨q1, hh⟩
  · refine rx_t q1 ?_
    obtain ⟨x2, q3, hh⟩ := db hh
    obtain ⟨h4, e5, hR, f6⟩ := rs_vI hD hR q3
    refine rx_c e5 f6 ?_
    refine rx_b (rs_gI hR 24 _ rfl) ?_
    obtain ⟨s7, q8, hh⟩ := db hh
    obtain ⟨h9, e10, hR, f11⟩ := rs_pI_ok (rs_m24 _ _) (by decide) hR q8
    refine rx_w e10 f11 ?_
    refine rx_b (rs_gR hR 21 54 rfl) ?_
    refine rx_b (rs_gR hR 8 42 rfl) ?_
    refine rx_b (rs_gI hR 56 _ rfl) ?_
    obtain ⟨x12, q13, hh⟩ := db hh
    refine rx_b (rs_aI_ok hR q13) ?_
    obtain ⟨s14, q15, hh⟩ := db hh
    obtain ⟨h16, e17, hR, f18⟩ := rs_sI_ok hR q15
    refine rx_w e17 f18 ?_
    refine rx_b (rs_gR hR 23 56 rfl) ?_
    refine rx_b (rs_gR hR 9 43 rfl) ?_
    refine rx_b (rs_gI hR 56 _ rfl) ?_
    obtain ⟨y19, q20, hh⟩ := db hh
    refine rx_b (rs_aJ_ok hR q20) ?_
    obtain ⟨s21, q22, hh⟩ := db hh
    obtain ⟨h23, e24, hR, f25⟩ := rs_sJ_ok hR q22
    refine rx_w e24 f25 ?_
    refine rx_b (rs_gI hR 56 _ rfl) ?_
    obtain ⟨s26, q27, hh⟩ := db hh
    obtain ⟨h28, e29, hR, f30⟩ := rs_pI_ok (rs_m56 _ _) (by decide) hR q27
    refine rx_w e29 f30 ?_
    rcases di hh with ⟨q31, hh⟩ | ⟨q31, hh⟩
    · refine rx_t q31 ?_
      rcases di hh with ⟨q32, hh⟩ | ⟨q32, hh⟩
      · refine rx_t q32 ?_
        rcases di hh with ⟨q33, hh⟩ | ⟨q33, hh⟩
        · refine rx_t q33 ?_
          rcases di hh with ⟨q34, hh⟩ | ⟨q34, hh⟩
          · refine rx_t q34 ?_
            rcases di hh with ⟨q35, hh⟩ | ⟨q35, hh⟩
            · refine rx_t q35 ?_
              exact r322_548 hD _ _ _ _ hR hh
            · refine rx_f q35 ?_
              refine rx_b (rs_gR hR 21 54 rfl) ?_
              obtain ⟨s36, q37, hh⟩ := db hh
              obtain ⟨h38, e39, hR, f40⟩ := rs_sI_ok hR q37
              refine rx_w e39 f40 ?_
              refine rx_b (rs_gR hR 22 55 rfl) ?_
              refine rx_b (rs_gR hR 7 41 rfl) ?_
              refine rx_b (rs_gI hR 56 _ rfl) ?_
              obtain ⟨x41, q42, hh⟩ := db hh
              refine rx_b (rs_aI_ok hR q42) ?_
              obtain ⟨s43, q44, hh⟩ := db hh
              obtain ⟨h45, e46, hR, f47⟩ := rs_sI_ok hR q44
              refine rx_w e46 f47 ?_
              obtain ⟨x48, q49, hh⟩ := db hh
              obtain ⟨h50, e51, hR, f52⟩ := rs_vI hD hR q49
              refine rx_c e51 f52 ?_
              rcases di hh with ⟨q53, hh⟩ | ⟨q53, hh⟩
              · refine rx_t q53 ?_
                exact r322_506 hD _ _ _ _ _ hR hh
              · refine rx_f q53 ?_
                refine rx_b (rs_gR hR 21 54 rfl) ?_
                refine rx_b (rs_gR hR 8 42 rfl) ?_
                refine rx_b (rs_gI hR 56 _ rfl) ?_
                obtain ⟨x54, q55, hh⟩ := db hh
                refine rx_b (rs_aI_ok hR q55) ?_
                obtain ⟨s56, q57, hh⟩ := db hh
                obtain ⟨h58, e59, hR, f60⟩ := rs_sI_ok hR q57
                refine rx_w e59 f60 ?_
                refine rx_b (rs_gI hR 56 _ rfl) ?_
                obtain ⟨s61, q62, hh⟩ := db hh
                obtain ⟨h63, e64, hR, f65⟩ := rs_pI_ok (rs_m56 _ _) (by decide) hR q62
                refine rx_w e64 f65 ?_
                exact r322_506 hD _ _ _ _ _ hR hh
          · refine rx_f q34 ?_
            refine rx_b (rs_gR hR 12 45 rfl) ?_
            obtain ⟨x66, q67, hh⟩ := db hh
            obtain ⟨h68, e69, hR, f70⟩ := rs_vI hD hR q67
            refine rx_c e69 f70 ?_
            obtain ⟨x71, q72, hh⟩ := db hh
            obtain ⟨h73, e74, hR, f75⟩ := rs_vI hD hR q72
            refine rx_c e74 f75 ?_
            obtain ⟨s76, q77, hh⟩ := db hh
            obtain ⟨h78, e79, hR, f80⟩ := rs_sI_ok hR q77
            refine rx_w e79 f80 ?_
            exact r322_548 hD _ _ _ _ hR hh
        · refine rx_f q33 ?_
          obtain ⟨s81, q82, hh⟩ := db hh
          obtain ⟨h83, e84, hR, f85⟩ := rs_vV hD hR q82
          refine rx_w e84 f85 ?_
          refine rx_b (rs_gR hR 12 45 rfl) ?_
          obtain ⟨x86, q87, hh⟩ := db hh
          obtain ⟨h88, e89, hR, f90⟩ := rs_vI hD hR q87
          refine rx_c e89 f90 ?_
          obtain ⟨x91, q92, hh⟩ := db hh
          obtain ⟨h93, e94, hR, f95⟩ := rs_vI hD hR q92
          refine rx_c e94 f95 ?_
          obtain ⟨s96, q97, hh⟩ := db hh
          obtain ⟨h98, e99, hR, f100⟩ := rs_sI_ok hR q97
          refine rx_w e99 f100 ?_
          obtain ⟨s101, q102, hh⟩ := db hh
          obtain ⟨h103, e104, hR, f105⟩ := rs_vV hD hR q102
          refine rx_w e104 f105 ?_
          refine rx_b (rs_gR hR 13 46 rfl) ?_
          obtain ⟨x106, q107, hh⟩ := db hh
          obtain ⟨h108, e109, hR, f110⟩ := rs_vI hD hR q107
          refine rx_c e109 f110 ?_
          obtain ⟨x111, q112, hh⟩ := db hh
          obtain ⟨h113, e114, hR, f115⟩ := rs_vI hD hR q112
          refine rx_c e114 f115 ?_
          obtain ⟨s116, q117, hh⟩ := db hh
          obtain ⟨h118, e119, hR, f120⟩ := rs_sI_ok hR q117
          refine rx_w e119 f120 ?_
          obtain ⟨s121, q122, hh⟩ := db hh
          obtain ⟨h123, e124, hR, f125⟩ := rs_vV hD hR q122
          refine rx_w e124 f125 ?_
          exact r322_548 hD _ _ _ _ hR hh
      · refine rx_f q32 ?_
        obtain ⟨s126, q127, hh⟩ := db hh
        obtain ⟨h128, e129, hR, f130⟩ := rs_vV hD hR q127
        refine rx_w e129 f130 ?_
        refine rx_b (rs_gR hR 12 45 rfl) ?_
        obtain ⟨x131, q132, hh⟩ := db hh
        obtain ⟨h133, e134, hR, f135⟩ := rs_vI hD hR q132
        refine rx_c e134 f135 ?_
        obtain ⟨x136, q137, hh⟩ := db hh
        obtain ⟨h138, e139, hR, f140⟩ := rs_vI hD hR q137
        refine rx_c e139 f140 ?_
        obtain ⟨s141, q142, hh⟩ := db hh
        obtain ⟨h143, e144, hR, f145⟩ := rs_sI_ok hR q142
        refine rx_w e144 f145 ?_
        obtain ⟨s146, q147, hh⟩ := db hh
        obtain ⟨h148, e149, hR, f150⟩ := rs_vV hD hR q147
        refine rx_w e149 f150 ?_
        exact r322_548 hD _ _ _ _ hR hh
    · refine rx_f q31 ?_
      obtain ⟨x151, q152, hh⟩ := db hh
      obtain ⟨h153, e154, hR, f155⟩ := rs_vI hD hR q152
      refine rx_c e154 f155 ?_
      refine rx_b (rs_gR hR 23 56 rfl) ?_
      refine rx_b (rs_gR hR 9 43 rfl) ?_
      obtain ⟨y156, q157, hh⟩ := db hh
      refine rx_b (rs_aJ_ok hR q157) ?_
      obtain ⟨s158, q159, hh⟩ := db hh
      obtain ⟨h160, e161, hR, f162⟩ := rs_sJ_ok hR q159
      refine rx_w e161 f162 ?_
      refine rx_b (rs_gR hR 18 51 rfl) ?_
      refine rx_b (rs_gR hR 7 41 rfl) ?_
      obtain ⟨x163, q164, hh⟩ := db hh
      refine rx_b (rs_aI_ok hR q164) ?_
      obtain ⟨s165, q166, hh⟩ := db hh
      obtain ⟨h167, e168, hR, f169⟩ := rs_sI_ok hR q166
      refine rx_w e168 f169 ?_
      exact r322_548 hD _ _ _ _ hR hh
  · refine rx_f q1 ?_
    obtain ⟨s170, q171, hh⟩ := db hh
    obtain ⟨h172, e173, hR, f174⟩ := rs_vV hD hR q171
    refine rx_w e173 f174 ?_
    exact rx_I hR hh
def s322_45 (E : rE) (w : Nat) (i1 : Int32) (i2 : Int32) (s0 : Int32) (s : rS) : Option rA :=
  ((E 309 [.ref 36, .int 40] s).bind rxI).bind fun x1 =>
  if mx_f1 .eq x1.1 = true then
    (rs_aI x1.2 40 (x1.2.1 56)).bind fun x7 =>
    if mx_f2 .ne x7 4 = true then
      (rs_aI x1.2 40 (x1.2.1 56)).bind fun x10 =>
      if mx_f2 .ne x10 1 = true then
        if mx_f2 .ne s0 14 = true then
          if mx_f2 .ne s0 15 = true then
            if mx_f2 .ne s0 16 = true then
              if mx_f2 .ne s0 12 = true then
                if mx_f2 .ne s0 13 = true then
                  if mx_f2 .ne s0 2 = true then
                    if mx_f2 .ne s0 17 = true then
                      s322_181 E w i1 i2 0 x1.2
                    else
                      s322_181 E w i1 i2 9 x1.2
                  else
                    s322_181 E w i1 i2 8 x1.2
                else
                  s322_181 E w i1 i2 7 x1.2
              else
                s322_181 E w i1 i2 6 x1.2
            else
              s322_181 E w i1 i2 5 x1.2
          else
            s322_181 E w i1 i2 3 x1.2
        else
          s322_181 E w i1 i2 2 x1.2
      else
        s322_181 E w i1 i2 4 x1.2
    else
      s322_181 E w i1 i2 1 x1.2
  else
    ((E 320 [.ref 36, .int (i1 + 1)] x1.2).bind rxI).bind fun x20 =>
    ((E 308 [.ref 36, .int 41] x20.2).bind rxV).bind fun s25 =>
    rrI (some .int) x20.1 s25
theorem r322_45 {L : Nat} {xs : Nat → Int32} {zf : Value} {D : dD} {E : rE} {w : Nat} (hD : rO D E L xs) : ∀ (i1 : Int32) (i2 : Int32) (s0 : Int32) (h : rm_H) (s : rS) (r : rA), RS h s → s322_45 E w i1 i2 s0 s = some r → rx (b322_45 L xs zf D w (some 36) i1 i2 s0 h) h r := by
  intro i1 i2 s0 h s r hR hh
  unfold s322_45 at hh
  unfold b322_45
  obtain ⟨x1, q2, hh⟩ := db hh
  obtain ⟨h3, e4, hR, f5⟩ := rs_vI hD hR q2
  refine rx_c e4 f5 ?_
  rcases di hh with ⟨q6, hh⟩ | ⟨q6, hh⟩
  · refine rx_t q6 ?_
    refine rx_b (rs_gR hR 6 40 rfl) ?_
    refine rx_b (rs_gI hR 56 _ rfl) ?_
    obtain ⟨x7, q8, hh⟩ := db hh
    refine rx_b (rs_aI_ok hR q8) ?_
    rcases di hh with ⟨q9, hh⟩ | ⟨q9, hh⟩
    · refine rx_t q9 ?_
      refine rx_b (rs_gR hR 6 40 rfl) ?_
      refine rx_b (rs_gI hR 56 _ rfl) ?_
      obtain ⟨x10, q11, hh⟩ := db hh
      refine rx_b (rs_aI_ok hR q11) ?_
      rcases di hh with ⟨q12, hh⟩ | ⟨q12, hh⟩
      · refine rx_t q12 ?_
        rcases di hh with ⟨q13, hh⟩ | ⟨q13, hh⟩
        · refine rx_t q13 ?_
          rcases di hh with ⟨q14, hh⟩ | ⟨q14, hh⟩
          · refine rx_t q14 ?_
            rcases di hh with ⟨q15, hh⟩ | ⟨q15, hh⟩
            · refine rx_t q15 ?_
              rcases di hh with ⟨q16, hh⟩ | ⟨q16, hh⟩
              · refine rx_t q16 ?_
                rcases di hh with ⟨q17, hh⟩ | ⟨q17, hh⟩
                · refine rx_t q17 ?_
                  rcases di hh with ⟨q18, hh⟩ | ⟨q18, hh⟩
                  · refine rx_t q18 ?_
                    rcases di hh with ⟨q19, hh⟩ | ⟨q19, hh⟩
                    · refine rx_t q19 ?_
                      exact r322_181 hD _ _ _ _ _ _ hR hh
                    · refine rx_f q19 ?_
                      exact r322_181 hD _ _ _ _ _ _ hR hh
                  · refine rx_f q18 ?_
                    exact r322_181 hD _ _ _ _ _ _ hR hh
                · refine rx_f q17 ?_
                  exact r322_181 hD _ _ _ _ _ _ hR hh
              · refine rx_f q16 ?_
                exact r322_181 hD _ _ _ _ _ _ hR hh
            · refine rx_f q15 ?_
              exact r322_181 hD _ _ _ _ _ _ hR hh
          · refine rx_f q14 ?_
            exact r322_181 hD _ _ _ _ _ _ hR hh
        · refine rx_f q13 ?_
          exact r322_181 hD _ _ _ _ _ _ hR hh
      · refine rx_f q12 ?_
        exact r322_181 hD _ _ _ _ _ _ hR hh
    · refine rx_f q9 ?_
      exact r322_181 hD _ _ _ _ _ _ hR hh
  · refine rx_f q6 ?_
    obtain ⟨x20, q21, hh⟩ := db hh
    obtain ⟨h22, e23, hR, f24⟩ := rs_vI hD hR q21
    refine rx_c e23 f24 ?_
    obtain ⟨s25, q26, hh⟩ := db hh
    obtain ⟨h27, e28, hR, f29⟩ := rs_vV hD hR q26
    refine rx_w e28 f29 ?_
    exact rx_I hR hh
def s322_0 (E : rE) (w : Nat) (i1 : Int32) (s : rS) : Option rA :=
  if mx_f1 .le (s.1 57) = true then
    (rs_aI s 41 (s.1 56)).bind fun x2 =>
    (rs_aI s 40 (s.1 56)).bind fun x4 =>
    if mx_f2 .ne x4 2 = true then
      s322_45 E w i1 x2 (-1) s
    else
      (rs_aI s 42 (s.1 56)).bind fun x7 =>
      s322_45 E w i1 x2 x7 s
  else
    rrI (some .int) 0 s
theorem r322_0 {L : Nat} {xs : Nat → Int32} {zf : Value} {D : dD} {E : rE} {w : Nat} (hD : rO D E L xs) : ∀ (i1 : Int32) (h : rm_H) (s : rS) (r : rA), RS h s → s322_0 E w i1 s = some r → rx (b322_0 L xs zf D w (some 36) i1 h) h r := by
  intro i1 h s r hR hh
  unfold s322_0 at hh
  unfold b322_0
  refine rx_b (rs_gI hR 57 _ rfl) ?_
  rcases di hh with ⟨q1, hh⟩ | ⟨q1, hh⟩
  · refine rx_t q1 ?_
    refine rx_b (rs_gR hR 7 41 rfl) ?_
    refine rx_b (rs_gI hR 56 _ rfl) ?_
    obtain ⟨x2, q3, hh⟩ := db hh
    refine rx_b (rs_aI_ok hR q3) ?_
    refine rx_b (rs_gR hR 6 40 rfl) ?_
    refine rx_b (rs_gI hR 56 _ rfl) ?_
    obtain ⟨x4, q5, hh⟩ := db hh
    refine rx_b (rs_aI_ok hR q5) ?_
    rcases di hh with ⟨q6, hh⟩ | ⟨q6, hh⟩
    · refine rx_t q6 ?_
      exact r322_45 hD _ _ _ _ _ _ hR hh
    · refine rx_f q6 ?_
      refine rx_b (rs_gR hR 8 42 rfl) ?_
      refine rx_b (rs_gI hR 56 _ rfl) ?_
      obtain ⟨x7, q8, hh⟩ := db hh
      refine rx_b (rs_aI_ok hR q8) ?_
      exact r322_45 hD _ _ _ _ _ _ hR hh
  · refine rx_f q1 ?_
    exact rx_I hR hh
def g322 (E : rE) (w : Nat) (As : List Value) (s : rS) : Option rA := match As with
  | [.ref 36, .int i1] => s322_0 E w i1 s
  | _ => none
theorem t322 {L : Nat} {xs : Nat → Int32} {zf : Value} {D : dD} {E : rE} {w : Nat} (hD : rO D E L xs) (As : List Value) (h : rm_H) (s : rS) (r : rA) (hR : RS h s) (hh : g322 E w As s = some r) : rx (f322 L xs zf D w As h) h r := by
  unfold g322 at hh
  split at hh
  · unfold f322
    dsimp only
    refine rx_b (a := some 36) rfl ?_
    exact r322_0 hD _ _ _ _ hR hh
  · cases hh
