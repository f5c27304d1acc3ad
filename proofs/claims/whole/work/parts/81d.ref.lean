/-! THE REFERENCE'S METHODS OVER ITS STATE, printed by wip/whole/gen_ref.py -/
def s340_27 (E : rE) (w : Nat) (s0 : Int32) (s : rS) : Option rA :=
  rrI (some .boolean) s0 s
theorem r340_27 {L : Nat} {xs : Nat → Int32} {zf : Value} {D : dD} {E : rE} {w : Nat} (hD : rO D E L xs) : ∀ (s0 : Int32) (h : rm_H) (s : rS) (r : rA), RS h s → s340_27 E w s0 s = some r → rx (b340_27 L xs zf D w s0 h) h r := by
  intro s0 h s r hR hh
  unfold s340_27 at hh
  unfold b340_27
  exact rx_I hR hh
def s340_26 (E : rE) (w : Nat) (s : rS) : Option rA :=
  s340_27 E w 0 s
theorem r340_26 {L : Nat} {xs : Nat → Int32} {zf : Value} {D : dD} {E : rE} {w : Nat} (hD : rO D E L xs) : ∀ (h : rm_H) (s : rS) (r : rA), RS h s → s340_26 E w s = some r → rx (b340_26 L xs zf D w h) h r := by
  intro h s r hR hh
  unfold s340_26 at hh
  unfold b340_26
  exact r340_27 hD _ _ _ _ hR hh
def s340_0 (E : rE) (w : Nat) (i1 : Int32) (s : rS) : Option rA :=
  (rs_aI s 44 i1).bind fun x1 =>
  if mx_f2 .lt x1 10 = true then
    s340_26 E w s
  else
    (rs_aI s 44 i1).bind fun x4 =>
    if mx_f2 .gt x4 13 = true then
      s340_26 E w s
    else
      s340_27 E w 1 s
theorem r340_0 {L : Nat} {xs : Nat → Int32} {zf : Value} {D : dD} {E : rE} {w : Nat} (hD : rO D E L xs) : ∀ (i1 : Int32) (h : rm_H) (s : rS) (r : rA), RS h s → s340_0 E w i1 s = some r → rx (b340_0 L xs zf D w (some 36) i1 h) h r := by
  intro i1 h s r hR hh
  unfold s340_0 at hh
  unfold b340_0
  refine rx_b (rs_gR hR 11 44 rfl) ?_
  obtain ⟨x1, q2, hh⟩ := db hh
  refine rx_b (rs_aI_ok hR q2) ?_
  rcases di hh with ⟨q3, hh⟩ | ⟨q3, hh⟩
  · refine rx_t q3 ?_
    exact r340_26 hD  _ _ _ hR hh
  · refine rx_f q3 ?_
    refine rx_b (rs_gR hR 11 44 rfl) ?_
    obtain ⟨x4, q5, hh⟩ := db hh
    refine rx_b (rs_aI_ok hR q5) ?_
    rcases di hh with ⟨q6, hh⟩ | ⟨q6, hh⟩
    · refine rx_t q6 ?_
      exact r340_26 hD  _ _ _ hR hh
    · refine rx_f q6 ?_
      exact r340_27 hD _ _ _ _ hR hh
def g340 (E : rE) (w : Nat) (As : List Value) (s : rS) : Option rA := match As with
  | [.ref 36, .int i1] => s340_0 E w i1 s
  | _ => none
theorem t340 {L : Nat} {xs : Nat → Int32} {zf : Value} {D : dD} {E : rE} {w : Nat} (hD : rO D E L xs) (As : List Value) (h : rm_H) (s : rS) (r : rA) (hR : RS h s) (hh : g340 E w As s = some r) : rx (f340 L xs zf D w As h) h r := by
  unfold g340 at hh
  split at hh
  · unfold f340
    dsimp only
    refine rx_b (a := some 36) rfl ?_
    exact r340_0 hD _ _ _ _ hR hh
  · cases hh
def s341_39 (E : rE) (w : Nat) (s : rS) : Option rA :=
  some (none, s)
theorem r341_39 {L : Nat} {xs : Nat → Int32} {zf : Value} {D : dD} {E : rE} {w : Nat} (hD : rO D E L xs) : ∀ (h : rm_H) (s : rS) (r : rA), RS h s → s341_39 E w s = some r → rx (b341_39 L xs zf D w h) h r := by
  intro h s r hR hh
  unfold s341_39 at hh
  unfold b341_39
  cases hh
  exact rx_0 hR
def s341_7 (E : rE) (w : Nat) : Nat → Int32 → rS → Option rA
  | 0, _, _ => none
  | n + 1, i2, s =>
    if mx_f1 .eq i2 = true then
      s341_39 E w s
    else
      if mx_f1 .ne (s.1 57) = true then
        s341_39 E w s
      else
        ((E 338 [.ref 36, .int i2] s).bind rxI).bind fun x3 =>
        (rs_sI x3.2 86 i2 x3.1).bind fun s8 =>
        (rs_aI s8 48 i2).bind fun x13 =>
        s341_7 E w n x13 s8
theorem r341_7 {L : Nat} {xs : Nat → Int32} {zf : Value} {D : dD} {E : rE} {w : Nat} (hD : rO D E L xs) : ∀ (n : Nat) (i2 : Int32) (h : rm_H) (s : rS) (r : rA), RS h s → s341_7 E w n i2 s = some r → rx (b341_7 L xs zf D w n (some 36) i2 h) h r := by
  intro n
  induction n with
  | zero =>
    intro i2 h s r hR hh
    cases hh
  | succ n ih =>
    intro i2 h s r hR hh
    rw [s341_7] at hh
    rw [b341_7]
    rcases di hh with ⟨q1, hh⟩ | ⟨q1, hh⟩
    · refine rx_t q1 ?_
      exact r341_39 hD  _ _ _ hR hh
    · refine rx_f q1 ?_
      refine rx_b (rs_gI hR 57 _ rfl) ?_
      rcases di hh with ⟨q2, hh⟩ | ⟨q2, hh⟩
      · refine rx_t q2 ?_
        exact r341_39 hD  _ _ _ hR hh
      · refine rx_f q2 ?_
        refine rx_b (rs_gR hR 71 86 rfl) ?_
        obtain ⟨x3, q4, hh⟩ := db hh
        obtain ⟨h5, e6, hR, f7⟩ := rs_vI hD hR q4
        refine rx_c e6 f7 ?_
        obtain ⟨s8, q9, hh⟩ := db hh
        obtain ⟨h10, e11, hR, f12⟩ := rs_sI_ok hR q9
        refine rx_w e11 f12 ?_
        refine rx_b (rs_gR hR 15 48 rfl) ?_
        obtain ⟨x13, q14, hh⟩ := db hh
        refine rx_b (rs_aI_ok hR q14) ?_
        exact ih _ _ _ _ hR hh
def s341_0 (E : rE) (w : Nat) (i1 : Int32) (s : rS) : Option rA :=
  (rs_aI s 45 i1).bind fun x1 =>
  s341_7 E w w x1 s
theorem r341_0 {L : Nat} {xs : Nat → Int32} {zf : Value} {D : dD} {E : rE} {w : Nat} (hD : rO D E L xs) : ∀ (i1 : Int32) (h : rm_H) (s : rS) (r : rA), RS h s → s341_0 E w i1 s = some r → rx (b341_0 L xs zf D w (some 36) i1 h) h r := by
  intro i1 h s r hR hh
  unfold s341_0 at hh
  unfold b341_0
  refine rx_b (rs_gR hR 12 45 rfl) ?_
  obtain ⟨x1, q2, hh⟩ := db hh
  refine rx_b (rs_aI_ok hR q2) ?_
  exact r341_7 hD _ _ _ _ _ hR hh
def g341 (E : rE) (w : Nat) (As : List Value) (s : rS) : Option rA := match As with
  | [.ref 36, .int i1] => s341_0 E w i1 s
  | _ => none
theorem t341 {L : Nat} {xs : Nat → Int32} {zf : Value} {D : dD} {E : rE} {w : Nat} (hD : rO D E L xs) (As : List Value) (h : rm_H) (s : rS) (r : rA) (hR : RS h s) (hh : g341 E w As s = some r) : rx (f341 L xs zf D w As h) h r := by
  unfold g341 at hh
  split at hh
  · unfold f341
    dsimp only
    refine rx_b (a := some 36) rfl ?_
    exact r341_0 hD _ _ _ _ hR hh
  · cases hh
def s342_37 (E : rE) (w : Nat) (s0 : Int32) (s : rS) : Option rA :=
  rrI (some .int) s0 s
theorem r342_37 {L : Nat} {xs : Nat → Int32} {zf : Value} {D : dD} {E : rE} {w : Nat} (hD : rO D E L xs) : ∀ (s0 : Int32) (h : rm_H) (s : rS) (r : rA), RS h s → s342_37 E w s0 s = some r → rx (b342_37 L xs zf D w s0 h) h r := by
  intro s0 h s r hR hh
  unfold s342_37 at hh
  unfold b342_37
  exact rx_I hR hh
def s342_22 (E : rE) (w : Nat) (i1 : Int32) (s : rS) : Option rA :=
  (rs_aI s 46 i1).bind fun x1 =>
  s342_37 E w x1 s
theorem r342_22 {L : Nat} {xs : Nat → Int32} {zf : Value} {D : dD} {E : rE} {w : Nat} (hD : rO D E L xs) : ∀ (i1 : Int32) (h : rm_H) (s : rS) (r : rA), RS h s → s342_22 E w i1 s = some r → rx (b342_22 L xs zf D w (some 36) i1 h) h r := by
  intro i1 h s r hR hh
  unfold s342_22 at hh
  unfold b342_22
  refine rx_b (rs_gR hR 13 46 rfl) ?_
  obtain ⟨x1, q2, hh⟩ := db hh
  refine rx_b (rs_aI_ok hR q2) ?_
  exact r342_37 hD _ _ _ _ hR hh
def s342_0 (E : rE) (w : Nat) (i1 : Int32) (s : rS) : Option rA :=
  (rs_aI s 44 i1).bind fun x1 =>
  if mx_f2 .eq x1 11 = true then
    s342_22 E w i1 s
  else
    (rs_aI s 44 i1).bind fun x4 =>
    if mx_f2 .ne x4 12 = true then
      (rs_aI s 45 i1).bind fun x7 =>
      s342_37 E w x7 s
    else
      s342_22 E w i1 s
theorem r342_0 {L : Nat} {xs : Nat → Int32} {zf : Value} {D : dD} {E : rE} {w : Nat} (hD : rO D E L xs) : ∀ (i1 : Int32) (h : rm_H) (s : rS) (r : rA), RS h s → s342_0 E w i1 s = some r → rx (b342_0 L xs zf D w (some 36) i1 h) h r := by
  intro i1 h s r hR hh
  unfold s342_0 at hh
  unfold b342_0
  refine rx_b (rs_gR hR 11 44 rfl) ?_
  obtain ⟨x1, q2, hh⟩ := db hh
  refine rx_b (rs_aI_ok hR q2) ?_
  rcases di hh with ⟨q3, hh⟩ | ⟨q3, hh⟩
  · refine rx_t q3 ?_
    exact r342_22 hD _ _ _ _ hR hh
  · refine rx_f q3 ?_
    refine rx_b (rs_gR hR 11 44 rfl) ?_
    obtain ⟨x4, q5, hh⟩ := db hh
    refine rx_b (rs_aI_ok hR q5) ?_
    rcases di hh with ⟨q6, hh⟩ | ⟨q6, hh⟩
    · refine rx_t q6 ?_
      refine rx_b (rs_gR hR 12 45 rfl) ?_
      obtain ⟨x7, q8, hh⟩ := db hh
      refine rx_b (rs_aI_ok hR q8) ?_
      exact r342_37 hD _ _ _ _ hR hh
    · refine rx_f q6 ?_
      exact r342_22 hD _ _ _ _ hR hh
def g342 (E : rE) (w : Nat) (As : List Value) (s : rS) : Option rA := match As with
  | [.ref 36, .int i1] => s342_0 E w i1 s
  | _ => none
theorem t342 {L : Nat} {xs : Nat → Int32} {zf : Value} {D : dD} {E : rE} {w : Nat} (hD : rO D E L xs) (As : List Value) (h : rm_H) (s : rS) (r : rA) (hR : RS h s) (hh : g342 E w As s = some r) : rx (f342 L xs zf D w As h) h r := by
  unfold g342 at hh
  split at hh
  · unfold f342
    dsimp only
    refine rx_b (a := some 36) rfl ?_
    exact r342_0 hD _ _ _ _ hR hh
  · cases hh
def s343_129 (E : rE) (w : Nat) (s : rS) : Option rA :=
  ((E 344 [.ref 36, .int 0] s).bind rxI).bind fun x1 =>
  rrI (some .int) x1.1 x1.2
theorem r343_129 {L : Nat} {xs : Nat → Int32} {zf : Value} {D : dD} {E : rE} {w : Nat} (hD : rO D E L xs) : ∀ (h : rm_H) (s : rS) (r : rA), RS h s → s343_129 E w s = some r → rx (b343_129 L xs zf D w (some 36) h) h r := by
  intro h s r hR hh
  unfold s343_129 at hh
  unfold b343_129
  obtain ⟨x1, q2, hh⟩ := db hh
  obtain ⟨h3, e4, hR, f5⟩ := rs_vI hD hR q2
  refine rx_c e4 f5 ?_
  exact rx_I hR hh
def s343_0 (E : rE) (w : Nat) (i1 : Int32) (s : rS) : Option rA :=
  (rs_aI s 44 i1).bind fun x1 =>
  if dsw 1 8 x1 = true then
    ((E 360 [.ref 36, .int i1] s).bind rxI).bind fun x4 =>
    rrI (some .int) x4.1 x4.2
  else if x1 = 1 then
    ((E 344 [.ref 36, .int 0] s).bind rxI).bind fun x10 =>
    rrI (some .int) x10.1 x10.2
  else if x1 = 2 then
    ((E 344 [.ref 36, .int 1] s).bind rxI).bind fun x16 =>
    rrI (some .int) x16.1 x16.2
  else if x1 = 3 then
    ((E 345 [.ref 36, .int i1] s).bind rxI).bind fun x22 =>
    rrI (some .int) x22.1 x22.2
  else if x1 = 4 then
    ((E 348 [.ref 36, .int i1, .int 0] s).bind rxI).bind fun x28 =>
    rrI (some .int) x28.1 x28.2
  else if x1 = 5 then
    ((E 348 [.ref 36, .int i1, .int 1] s).bind rxI).bind fun x34 =>
    rrI (some .int) x34.1 x34.2
  else if x1 = 6 then
    (rs_aI s 45 i1).bind fun x40 =>
    ((E 339 [.ref 36, .int x40] s).bind rxI).bind fun x42 =>
    (rs_aI x42.2 45 i1).bind fun x47 =>
    ((E 350 [.ref 36, .int x47, .int x42.1] x42.2).bind rxI).bind fun x49 =>
    if mx_f1 .eq x49.1 = true then
      s343_129 E w x49.2
    else
      if mx_f1 .ne x42.1 = true then
        s343_129 E w x49.2
      else
        (rs_aI x49.2 45 i1).bind fun x56 =>
        (rs_aI x49.2 50 x56).bind fun x58 =>
        ((E 305 [.ref 36, .int 5, .int x58] x49.2).bind rxV).bind fun s60 =>
        s343_129 E w s60
  else if x1 = 7 then
    (rs_aI s 45 i1).bind fun x66 =>
    (rs_aI s 46 i1).bind fun x68 =>
    ((E 351 [.ref 36, .int x66, .int x68, .int 1] s).bind rxI).bind fun x70 =>
    ((E 344 [.ref 36, .int x70.1] x70.2).bind rxI).bind fun x75 =>
    rrI (some .int) x75.1 x75.2
  else if x1 = 8 then
    ((E 357 [.ref 36, .int i1] s).bind rxI).bind fun x81 =>
    rrI (some .int) x81.1 x81.2
  else none
theorem r343_0 {L : Nat} {xs : Nat → Int32} {zf : Value} {D : dD} {E : rE} {w : Nat} (hD : rO D E L xs) : ∀ (i1 : Int32) (h : rm_H) (s : rS) (r : rA), RS h s → s343_0 E w i1 s = some r → rx (b343_0 L xs zf D w (some 36) i1 h) h r := by
  intro i1 h s r hR hh
  unfold s343_0 at hh
  unfold b343_0
  refine rx_b (rs_gR hR 11 44 rfl) ?_
  obtain ⟨x1, q2, hh⟩ := db hh
  refine rx_b (rs_aI_ok hR q2) ?_
  rcases di hh with ⟨q3, hh⟩ | ⟨q3, hh⟩
  · refine rx_t q3 ?_
    obtain ⟨x4, q5, hh⟩ := db hh
    obtain ⟨h6, e7, hR, f8⟩ := rs_vI hD hR q5
    refine rx_c e7 f8 ?_
    exact rx_I hR hh
  refine rx_f q3 ?_
  rcases dp hh with ⟨q9, hh⟩ | ⟨q9, hh⟩
  · refine rx_pt q9 ?_
    obtain ⟨x10, q11, hh⟩ := db hh
    obtain ⟨h12, e13, hR, f14⟩ := rs_vI hD hR q11
    refine rx_c e13 f14 ?_
    exact rx_I hR hh
  refine rx_pf q9 ?_
  rcases dp hh with ⟨q15, hh⟩ | ⟨q15, hh⟩
  · refine rx_pt q15 ?_
    obtain ⟨x16, q17, hh⟩ := db hh
    obtain ⟨h18, e19, hR, f20⟩ := rs_vI hD hR q17
    refine rx_c e19 f20 ?_
    exact rx_I hR hh
  refine rx_pf q15 ?_
  rcases dp hh with ⟨q21, hh⟩ | ⟨q21, hh⟩
  · refine rx_pt q21 ?_
    obtain ⟨x22, q23, hh⟩ := db hh
    obtain ⟨h24, e25, hR, f26⟩ := rs_vI hD hR q23
    refine rx_c e25 f26 ?_
    exact rx_I hR hh
  refine rx_pf q21 ?_
  rcases dp hh with ⟨q27, hh⟩ | ⟨q27, hh⟩
  · refine rx_pt q27 ?_
    obtain ⟨x28, q29, hh⟩ := db hh
    obtain ⟨h30, e31, hR, f32⟩ := rs_vI hD hR q29
    refine rx_c e31 f32 ?_
    exact rx_I hR hh
  refine rx_pf q27 ?_
  rcases dp hh with ⟨q33, hh⟩ | ⟨q33, hh⟩
  · refine rx_pt q33 ?_
    obtain ⟨x34, q35, hh⟩ := db hh
    obtain ⟨h36, e37, hR, f38⟩ := rs_vI hD hR q35
    refine rx_c e37 f38 ?_
    exact rx_I hR hh
  refine rx_pf q33 ?_
  rcases dp hh with ⟨q39, hh⟩ | ⟨q39, hh⟩
  · refine rx_pt q39 ?_
    refine rx_b (rs_gR hR 12 45 rfl) ?_
    obtain ⟨x40, q41, hh⟩ := db hh
    refine rx_b (rs_aI_ok hR q41) ?_
    obtain ⟨x42, q43, hh⟩ := db hh
    obtain ⟨h44, e45, hR, f46⟩ := rs_vI hD hR q43
    refine rx_c e45 f46 ?_
    refine rx_b (rs_gR hR 12 45 rfl) ?_
    obtain ⟨x47, q48, hh⟩ := db hh
    refine rx_b (rs_aI_ok hR q48) ?_
    obtain ⟨x49, q50, hh⟩ := db hh
    obtain ⟨h51, e52, hR, f53⟩ := rs_vI hD hR q50
    refine rx_c e52 f53 ?_
    rcases di hh with ⟨q54, hh⟩ | ⟨q54, hh⟩
    · refine rx_t q54 ?_
      exact r343_129 hD  _ _ _ hR hh
    · refine rx_f q54 ?_
      rcases di hh with ⟨q55, hh⟩ | ⟨q55, hh⟩
      · refine rx_t q55 ?_
        exact r343_129 hD  _ _ _ hR hh
      · refine rx_f q55 ?_
        refine rx_b (rs_gR hR 17 50 rfl) ?_
        refine rx_b (rs_gR hR 12 45 rfl) ?_
        obtain ⟨x56, q57, hh⟩ := db hh
        refine rx_b (rs_aI_ok hR q57) ?_
        obtain ⟨x58, q59, hh⟩ := db hh
        refine rx_b (rs_aI_ok hR q59) ?_
        obtain ⟨s60, q61, hh⟩ := db hh
        obtain ⟨h62, e63, hR, f64⟩ := rs_vV hD hR q61
        refine rx_w e63 f64 ?_
        exact r343_129 hD  _ _ _ hR hh
  refine rx_pf q39 ?_
  rcases dp hh with ⟨q65, hh⟩ | ⟨q65, hh⟩
  · refine rx_pt q65 ?_
    refine rx_b (rs_gR hR 12 45 rfl) ?_
    obtain ⟨x66, q67, hh⟩ := db hh
    refine rx_b (rs_aI_ok hR q67) ?_
    refine rx_b (rs_gR hR 13 46 rfl) ?_
    obtain ⟨x68, q69, hh⟩ := db hh
    refine rx_b (rs_aI_ok hR q69) ?_
    obtain ⟨x70, q71, hh⟩ := db hh
    obtain ⟨h72, e73, hR, f74⟩ := rs_vI hD hR q71
    refine rx_c e73 f74 ?_
    obtain ⟨x75, q76, hh⟩ := db hh
    obtain ⟨h77, e78, hR, f79⟩ := rs_vI hD hR q76
    refine rx_c e78 f79 ?_
    exact rx_I hR hh
  refine rx_pf q65 ?_
  rcases dp hh with ⟨q80, hh⟩ | ⟨q80, hh⟩
  · refine rx_pt q80 ?_
    obtain ⟨x81, q82, hh⟩ := db hh
    obtain ⟨h83, e84, hR, f85⟩ := rs_vI hD hR q82
    refine rx_c e84 f85 ?_
    exact rx_I hR hh
  refine rx_pf q80 ?_
  cases hh
def g343 (E : rE) (w : Nat) (As : List Value) (s : rS) : Option rA := match As with
  | [.ref 36, .int i1] => s343_0 E w i1 s
  | _ => none
theorem t343 {L : Nat} {xs : Nat → Int32} {zf : Value} {D : dD} {E : rE} {w : Nat} (hD : rO D E L xs) (As : List Value) (h : rm_H) (s : rS) (r : rA) (hR : RS h s) (hh : g343 E w As s = some r) : rx (f343 L xs zf D w As h) h r := by
  unfold g343 at hh
  split at hh
  · unfold f343
    dsimp only
    refine rx_b (a := some 36) rfl ?_
    exact r343_0 hD _ _ _ _ hR hh
  · cases hh
def s344_0 (E : rE) (w : Nat) (i1 : Int32) (s : rS) : Option rA :=
  (rs_pI s 60 0).bind fun s1 =>
  (rs_pI s1 61 0).bind fun s6 =>
  rrI (some .int) i1 s6
theorem r344_0 {L : Nat} {xs : Nat → Int32} {zf : Value} {D : dD} {E : rE} {w : Nat} (hD : rO D E L xs) : ∀ (i1 : Int32) (h : rm_H) (s : rS) (r : rA), RS h s → s344_0 E w i1 s = some r → rx (b344_0 L xs zf D w (some 36) i1 h) h r := by
  intro i1 h s r hR hh
  unfold s344_0 at hh
  unfold b344_0
  obtain ⟨s1, q2, hh⟩ := db hh
  obtain ⟨h3, e4, hR, f5⟩ := rs_pI_ok (rs_m60 _ _) (by decide) hR q2
  refine rx_w e4 f5 ?_
  obtain ⟨s6, q7, hh⟩ := db hh
  obtain ⟨h8, e9, hR, f10⟩ := rs_pI_ok (rs_m61 _ _) (by decide) hR q7
  refine rx_w e9 f10 ?_
  exact rx_I hR hh
def g344 (E : rE) (w : Nat) (As : List Value) (s : rS) : Option rA := match As with
  | [.ref 36, .int i1] => s344_0 E w i1 s
  | _ => none
theorem t344 {L : Nat} {xs : Nat → Int32} {zf : Value} {D : dD} {E : rE} {w : Nat} (hD : rO D E L xs) (As : List Value) (h : rm_H) (s : rS) (r : rA) (hR : RS h s) (hh : g344 E w As s = some r) : rx (f344 L xs zf D w As h) h r := by
  unfold g344 at hh
  split at hh
  · unfold f344
    dsimp only
    refine rx_b (a := some 36) rfl ?_
    exact r344_0 hD _ _ _ _ hR hh
  · cases hh
def s345_105 (E : rE) (w : Nat) (i2 : Int32) (i4 : Int32) (s : rS) : Option rA :=
  rrI (some .int) ((8 * (i2 + 1)) + i4) s
theorem r345_105 {L : Nat} {xs : Nat → Int32} {zf : Value} {D : dD} {E : rE} {w : Nat} (hD : rO D E L xs) : ∀ (i2 : Int32) (i4 : Int32) (h : rm_H) (s : rS) (r : rA), RS h s → s345_105 E w i2 i4 s = some r → rx (b345_105 L xs zf D w i2 i4 h) h r := by
  intro i2 i4 h s r hR hh
  unfold s345_105 at hh
  unfold b345_105
  exact rx_I hR hh
def s345_66 (E : rE) (w : Nat) (i1 : Int32) (i2 : Int32) (i3 : Int32) (i4 : Int32) (s0 : Int32) (s : rS) : Option rA :=
  (rs_pI s 61 s0).bind fun s1 =>
  if mx_f1 .eq i3 = true then
    if mx_f1 .le (s1.1 63) = true then
      s345_105 E w i2 i4 s1
    else
      if mx_f2 .eq i4 3 = true then
        s345_105 E w i2 i4 s1
      else
        (rs_aI s1 50 i1).bind fun x9 =>
        ((E 347 [.ref 36, .int 6, .int x9] s1).bind rxI).bind fun x11 =>
        rrI (some .int) x11.1 x11.2
  else
    ((E 346 [.ref 36, .int i2] s1).bind rxI).bind fun x16 =>
    rrI (some .int) x16.1 x16.2
theorem r345_66 {L : Nat} {xs : Nat → Int32} {zf : Value} {D : dD} {E : rE} {w : Nat} (hD : rO D E L xs) : ∀ (i1 : Int32) (i2 : Int32) (i3 : Int32) (i4 : Int32) (s0 : Int32) (h : rm_H) (s : rS) (r : rA), RS h s → s345_66 E w i1 i2 i3 i4 s0 s = some r → rx (b345_66 L xs zf D w (some 36) i1 i2 i3 i4 s0 (some 36) h) h r := by
  intro i1 i2 i3 i4 s0 h s r hR hh
  unfold s345_66 at hh
  unfold b345_66
  obtain ⟨s1, q2, hh⟩ := db hh
  obtain ⟨h3, e4, hR, f5⟩ := rs_pI_ok (rs_m61 _ _) (by decide) hR q2
  refine rx_w e4 f5 ?_
  rcases di hh with ⟨q6, hh⟩ | ⟨q6, hh⟩
  · refine rx_t q6 ?_
    refine rx_b (rs_gI hR 63 _ rfl) ?_
    rcases di hh with ⟨q7, hh⟩ | ⟨q7, hh⟩
    · refine rx_t q7 ?_
      exact r345_105 hD _ _ _ _ _ hR hh
    · refine rx_f q7 ?_
      rcases di hh with ⟨q8, hh⟩ | ⟨q8, hh⟩
      · refine rx_t q8 ?_
        exact r345_105 hD _ _ _ _ _ hR hh
      · refine rx_f q8 ?_
        refine rx_b (rs_gR hR 17 50 rfl) ?_
        obtain ⟨x9, q10, hh⟩ := db hh
        refine rx_b (rs_aI_ok hR q10) ?_
        obtain ⟨x11, q12, hh⟩ := db hh
        obtain ⟨h13, e14, hR, f15⟩ := rs_vI hD hR q12
        refine rx_c e14 f15 ?_
        exact rx_I hR hh
  · refine rx_f q6 ?_
    obtain ⟨x16, q17, hh⟩ := db hh
    obtain ⟨h18, e19, hR, f20⟩ := rs_vI hD hR q17
    refine rx_c e19 f20 ?_
    exact rx_I hR hh
def s345_65 (E : rE) (w : Nat) (i1 : Int32) (i2 : Int32) (i3 : Int32) (i4 : Int32) (s : rS) : Option rA :=
  s345_66 E w i1 i2 i3 i4 0 s
theorem r345_65 {L : Nat} {xs : Nat → Int32} {zf : Value} {D : dD} {E : rE} {w : Nat} (hD : rO D E L xs) : ∀ (i1 : Int32) (i2 : Int32) (i3 : Int32) (i4 : Int32) (h : rm_H) (s : rS) (r : rA), RS h s → s345_65 E w i1 i2 i3 i4 s = some r → rx (b345_65 L xs zf D w (some 36) i1 i2 i3 i4 (some 36) h) h r := by
  intro i1 i2 i3 i4 h s r hR hh
  unfold s345_65 at hh
  unfold b345_65
  exact r345_66 hD _ _ _ _ _ _ _ _ hR hh
def s345_42 (E : rE) (w : Nat) (i1 : Int32) (i2 : Int32) (i3 : Int32) (s0 : Int32) (s : rS) : Option rA :=
  (rs_pI s 60 1).bind fun s1 =>
  if mx_f1 .eq i3 = true then
    s345_65 E w i1 i2 i3 s0 s1
  else
    if mx_f1 .ne (s1.1 63) = true then
      s345_65 E w i1 i2 i3 s0 s1
    else
      s345_66 E w i1 i2 i3 s0 1 s1
theorem r345_42 {L : Nat} {xs : Nat → Int32} {zf : Value} {D : dD} {E : rE} {w : Nat} (hD : rO D E L xs) : ∀ (i1 : Int32) (i2 : Int32) (i3 : Int32) (s0 : Int32) (h : rm_H) (s : rS) (r : rA), RS h s → s345_42 E w i1 i2 i3 s0 s = some r → rx (b345_42 L xs zf D w (some 36) i1 i2 i3 s0 h) h r := by
  intro i1 i2 i3 s0 h s r hR hh
  unfold s345_42 at hh
  unfold b345_42
  obtain ⟨s1, q2, hh⟩ := db hh
  obtain ⟨h3, e4, hR, f5⟩ := rs_pI_ok (rs_m60 _ _) (by decide) hR q2
  refine rx_w e4 f5 ?_
  rcases di hh with ⟨q6, hh⟩ | ⟨q6, hh⟩
  · refine rx_t q6 ?_
    exact r345_65 hD _ _ _ _ _ _ _ hR hh
  · refine rx_f q6 ?_
    refine rx_b (rs_gI hR 63 _ rfl) ?_
    rcases di hh with ⟨q7, hh⟩ | ⟨q7, hh⟩
    · refine rx_t q7 ?_
      exact r345_65 hD _ _ _ _ _ _ _ hR hh
    · refine rx_f q7 ?_
      exact r345_66 hD _ _ _ _ _ _ _ _ hR hh
def s345_0 (E : rE) (w : Nat) (i1 : Int32) (s : rS) : Option rA :=
  (rs_aI s 71 (s.1 66)).bind fun x1 =>
  (rs_aB s 66 x1).bind fun x3 =>
  (rs_aI s 70 (s.1 66)).bind fun x5 =>
  if mx_f1 .ne x5 = true then
    (rs_aI s 72 (s.1 66)).bind fun x8 =>
    s345_42 E w i1 x1 x3 x8 s
  else
    s345_42 E w i1 x1 x3 2 s
theorem r345_0 {L : Nat} {xs : Nat → Int32} {zf : Value} {D : dD} {E : rE} {w : Nat} (hD : rO D E L xs) : ∀ (i1 : Int32) (h : rm_H) (s : rS) (r : rA), RS h s → s345_0 E w i1 s = some r → rx (b345_0 L xs zf D w (some 36) i1 h) h r := by
  intro i1 h s r hR hh
  unfold s345_0 at hh
  unfold b345_0
  refine rx_b (rs_gR hR 44 71 rfl) ?_
  refine rx_b (rs_gI hR 66 _ rfl) ?_
  obtain ⟨x1, q2, hh⟩ := db hh
  refine rx_b (rs_aI_ok hR q2) ?_
  refine rx_b (rs_gR hR 37 66 rfl) ?_
  obtain ⟨x3, q4, hh⟩ := db hh
  refine rx_b (rs_aB_ok hR q4) ?_
  refine rx_b (rs_gR hR 43 70 rfl) ?_
  refine rx_b (rs_gI hR 66 _ rfl) ?_
  obtain ⟨x5, q6, hh⟩ := db hh
  refine rx_b (rs_aI_ok hR q6) ?_
  rcases di hh with ⟨q7, hh⟩ | ⟨q7, hh⟩
  · refine rx_t q7 ?_
    refine rx_b (rs_gR hR 45 72 rfl) ?_
    refine rx_b (rs_gI hR 66 _ rfl) ?_
    obtain ⟨x8, q9, hh⟩ := db hh
    refine rx_b (rs_aI_ok hR q9) ?_
    exact r345_42 hD _ _ _ _ _ _ _ hR hh
  · refine rx_f q7 ?_
    exact r345_42 hD _ _ _ _ _ _ _ hR hh
def g345 (E : rE) (w : Nat) (As : List Value) (s : rS) : Option rA := match As with
  | [.ref 36, .int i1] => s345_0 E w i1 s
  | _ => none
theorem t345 {L : Nat} {xs : Nat → Int32} {zf : Value} {D : dD} {E : rE} {w : Nat} (hD : rO D E L xs) (As : List Value) (h : rm_H) (s : rS) (r : rA) (hR : RS h s) (hh : g345 E w As s = some r) : rx (f345 L xs zf D w As h) h r := by
  unfold g345 at hh
  split at hh
  · unfold f345
    dsimp only
    refine rx_b (a := some 36) rfl ?_
    exact r345_0 hD _ _ _ _ hR hh
  · cases hh
def s346_0 (E : rE) (w : Nat) (i1 : Int32) (s : rS) : Option rA :=
  rrI (some .int) ((8 * (i1 + 1)) + 5) s
theorem r346_0 {L : Nat} {xs : Nat → Int32} {zf : Value} {D : dD} {E : rE} {w : Nat} (hD : rO D E L xs) : ∀ (i1 : Int32) (h : rm_H) (s : rS) (r : rA), RS h s → s346_0 E w i1 s = some r → rx (b346_0 L xs zf D w i1 h) h r := by
  intro i1 h s r hR hh
  unfold s346_0 at hh
  unfold b346_0
  exact rx_I hR hh
def g346 (E : rE) (w : Nat) (As : List Value) (s : rS) : Option rA := match As with
  | [.ref 36, .int i1] => s346_0 E w i1 s
  | _ => none
theorem t346 {L : Nat} {xs : Nat → Int32} {zf : Value} {D : dD} {E : rE} {w : Nat} (hD : rO D E L xs) (As : List Value) (h : rm_H) (s : rS) (r : rA) (hR : RS h s) (hh : g346 E w As s = some r) : rx (f346 L xs zf D w As h) h r := by
  unfold g346 at hh
  split at hh
  · unfold f346
    dsimp only
    refine rx_b (a := some 36) rfl ?_
    exact r346_0 hD _ _ _ _ hR hh
  · cases hh
def s347_0 (E : rE) (w : Nat) (i1 : Int32) (i2 : Int32) (s : rS) : Option rA :=
  ((E 305 [.ref 36, .int i1, .int i2] s).bind rxV).bind fun s1 =>
  rrI (some .int) (-1) s1
theorem r347_0 {L : Nat} {xs : Nat → Int32} {zf : Value} {D : dD} {E : rE} {w : Nat} (hD : rO D E L xs) : ∀ (i1 : Int32) (i2 : Int32) (h : rm_H) (s : rS) (r : rA), RS h s → s347_0 E w i1 i2 s = some r → rx (b347_0 L xs zf D w (some 36) i1 i2 h) h r := by
  intro i1 i2 h s r hR hh
  unfold s347_0 at hh
  unfold b347_0
  obtain ⟨s1, q2, hh⟩ := db hh
  obtain ⟨h3, e4, hR, f5⟩ := rs_vV hD hR q2
  refine rx_w e4 f5 ?_
  exact rx_I hR hh
def g347 (E : rE) (w : Nat) (As : List Value) (s : rS) : Option rA := match As with
  | [.ref 36, .int i1, .int i2] => s347_0 E w i1 i2 s
  | _ => none
theorem t347 {L : Nat} {xs : Nat → Int32} {zf : Value} {D : dD} {E : rE} {w : Nat} (hD : rO D E L xs) (As : List Value) (h : rm_H) (s : rS) (r : rA) (hR : RS h s) (hh : g347 E w As s = some r) : rx (f347 L xs zf D w As h) h r := by
  unfold g347 at hh
  split at hh
  · unfold f347
    dsimp only
    refine rx_b (a := some 36) rfl ?_
    exact r347_0 hD _ _ _ _ _ hR hh
  · cases hh
def s348_181 (E : rE) (w : Nat) (i5 : Int32) (s : rS) : Option rA :=
  rrI (some .int) i5 s
theorem r348_181 {L : Nat} {xs : Nat → Int32} {zf : Value} {D : dD} {E : rE} {w : Nat} (hD : rO D E L xs) : ∀ (i5 : Int32) (h : rm_H) (s : rS) (r : rA), RS h s → s348_181 E w i5 s = some r → rx (b348_181 L xs zf D w i5 h) h r := by
  intro i5 h s r hR hh
  unfold s348_181 at hh
  unfold b348_181
  exact rx_I hR hh
def s348_163 (E : rE) (w : Nat) (i2 : Int32) (i4 : Int32) (i5 : Int32) (s0 : Int32) (s : rS) : Option rA :=
  (rs_pI s 60 s0).bind fun s1 =>
  if mx_f1 .eq i2 = true then
    s348_181 E w i5 s1
  else
    (rs_pI s1 64 ((s1.1 64) ||| i4)).bind fun s7 =>
    s348_181 E w i5 s7
theorem r348_163 {L : Nat} {xs : Nat → Int32} {zf : Value} {D : dD} {E : rE} {w : Nat} (hD : rO D E L xs) : ∀ (i2 : Int32) (i4 : Int32) (i5 : Int32) (s0 : Int32) (h : rm_H) (s : rS) (r : rA), RS h s → s348_163 E w i2 i4 i5 s0 s = some r → rx (b348_163 L xs zf D w (some 36) i2 i4 i5 s0 (some 36) h) h r := by
  intro i2 i4 i5 s0 h s r hR hh
  unfold s348_163 at hh
  unfold b348_163
  obtain ⟨s1, q2, hh⟩ := db hh
  obtain ⟨h3, e4, hR, f5⟩ := rs_pI_ok (rs_m60 _ _) (by decide) hR q2
  refine rx_w e4 f5 ?_
  rcases di hh with ⟨q6, hh⟩ | ⟨q6, hh⟩
  · refine rx_t q6 ?_
    exact r348_181 hD _ _ _ _ hR hh
  · refine rx_f q6 ?_
    refine rx_b (rs_gI hR 64 _ rfl) ?_
    obtain ⟨s7, q8, hh⟩ := db hh
    obtain ⟨h9, e10, hR, f11⟩ := rs_pI_ok (rs_m64 _ _) (by decide) hR q8
    refine rx_w e10 f11 ?_
    exact r348_181 hD _ _ _ _ hR hh
def s348_136 (E : rE) (w : Nat) (i1 : Int32) (i2 : Int32) (i3 : Int32) (i4 : Int32) (i5 : Int32) (s : rS) : Option rA :=
  (rs_aI s 83 i3).bind fun x1 =>
  (rs_sI s 53 i1 x1).bind fun s3 =>
  (rs_pI s3 61 0).bind fun s8 =>
  if mx_f1 .eq i2 = true then
    s348_163 E w i2 i4 i5 2 s8
  else
    s348_163 E w i2 i4 i5 0 s8
theorem r348_136 {L : Nat} {xs : Nat → Int32} {zf : Value} {D : dD} {E : rE} {w : Nat} (hD : rO D E L xs) : ∀ (i1 : Int32) (i2 : Int32) (i3 : Int32) (i4 : Int32) (i5 : Int32) (h : rm_H) (s : rS) (r : rA), RS h s → s348_136 E w i1 i2 i3 i4 i5 s = some r → rx (b348_136 L xs zf D w (some 36) i1 i2 i3 i4 i5 h) h r := by
  intro i1 i2 i3 i4 i5 h s r hR hh
  unfold s348_136 at hh
  unfold b348_136
  refine rx_b (rs_gR hR 20 53 rfl) ?_
  refine rx_b (rs_gR hR 68 83 rfl) ?_
  obtain ⟨x1, q2, hh⟩ := db hh
  refine rx_b (rs_aI_ok hR q2) ?_
  obtain ⟨s3, q4, hh⟩ := db hh
  obtain ⟨h5, e6, hR, f7⟩ := rs_sI_ok hR q4
  refine rx_w e6 f7 ?_
  obtain ⟨s8, q9, hh⟩ := db hh
  obtain ⟨h10, e11, hR, f12⟩ := rs_pI_ok (rs_m61 _ _) (by decide) hR q9
  refine rx_w e11 f12 ?_
  rcases di hh with ⟨q13, hh⟩ | ⟨q13, hh⟩
  · refine rx_t q13 ?_
    exact r348_163 hD _ _ _ _ _ _ _ hR hh
  · refine rx_f q13 ?_
    exact r348_163 hD _ _ _ _ _ _ _ hR hh
def s348_103 (E : rE) (w : Nat) (i1 : Int32) (i2 : Int32) (i3 : Int32) (i4 : Int32) (i5 : Int32) (s0 : Int32) (s : rS) : Option rA :=
  (rs_aI s 85 i3).bind fun x1 =>
  if mx_f2 .ge x1 (s.1 63) = true then
    s348_136 E w i1 i2 i3 i4 i5 s
  else
    if mx_f1 .ne s0 = true then
      s348_136 E w i1 i2 i3 i4 i5 s
    else
      (rs_aI s 51 i1).bind fun x5 =>
      ((E 347 [.ref 36, .int 6, .int x5] s).bind rxI).bind fun x7 =>
      rrI (some .int) x7.1 x7.2
theorem r348_103 {L : Nat} {xs : Nat → Int32} {zf : Value} {D : dD} {E : rE} {w : Nat} (hD : rO D E L xs) : ∀ (i1 : Int32) (i2 : Int32) (i3 : Int32) (i4 : Int32) (i5 : Int32) (s0 : Int32) (h : rm_H) (s : rS) (r : rA), RS h s → s348_103 E w i1 i2 i3 i4 i5 s0 s = some r → rx (b348_103 L xs zf D w (some 36) i1 i2 i3 i4 i5 s0 h) h r := by
  intro i1 i2 i3 i4 i5 s0 h s r hR hh
  unfold s348_103 at hh
  unfold b348_103
  refine rx_b (rs_gR hR 70 85 rfl) ?_
  obtain ⟨x1, q2, hh⟩ := db hh
  refine rx_b (rs_aI_ok hR q2) ?_
  refine rx_b (rs_gI hR 63 _ rfl) ?_
  rcases di hh with ⟨q3, hh⟩ | ⟨q3, hh⟩
  · refine rx_t q3 ?_
    exact r348_136 hD _ _ _ _ _ _ _ _ hR hh
  · refine rx_f q3 ?_
    rcases di hh with ⟨q4, hh⟩ | ⟨q4, hh⟩
    · refine rx_t q4 ?_
      exact r348_136 hD _ _ _ _ _ _ _ _ hR hh
    · refine rx_f q4 ?_
      refine rx_b (rs_gR hR 18 51 rfl) ?_
      obtain ⟨x5, q6, hh⟩ := db hh
      refine rx_b (rs_aI_ok hR q6) ?_
      obtain ⟨x7, q8, hh⟩ := db hh
      obtain ⟨h9, e10, hR, f11⟩ := rs_vI hD hR q8
      refine rx_c e10 f11 ?_
      exact rx_I hR hh
def s348_98 (E : rE) (w : Nat) (i1 : Int32) (i2 : Int32) (i3 : Int32) (i4 : Int32) (i5 : Int32) (s : rS) : Option rA :=
  s348_103 E w i1 i2 i3 i4 i5 1 s
theorem r348_98 {L : Nat} {xs : Nat → Int32} {zf : Value} {D : dD} {E : rE} {w : Nat} (hD : rO D E L xs) : ∀ (i1 : Int32) (i2 : Int32) (i3 : Int32) (i4 : Int32) (i5 : Int32) (h : rm_H) (s : rS) (r : rA), RS h s → s348_98 E w i1 i2 i3 i4 i5 s = some r → rx (b348_98 L xs zf D w (some 36) i1 i2 i3 i4 i5 h) h r := by
  intro i1 i2 i3 i4 i5 h s r hR hh
  unfold s348_98 at hh
  unfold b348_98
  exact r348_103 hD _ _ _ _ _ _ _ _ _ hR hh
def s348_102 (E : rE) (w : Nat) (i1 : Int32) (i2 : Int32) (i3 : Int32) (i4 : Int32) (i5 : Int32) (s : rS) : Option rA :=
  s348_103 E w i1 i2 i3 i4 i5 0 s
theorem r348_102 {L : Nat} {xs : Nat → Int32} {zf : Value} {D : dD} {E : rE} {w : Nat} (hD : rO D E L xs) : ∀ (i1 : Int32) (i2 : Int32) (i3 : Int32) (i4 : Int32) (i5 : Int32) (h : rm_H) (s : rS) (r : rA), RS h s → s348_102 E w i1 i2 i3 i4 i5 s = some r → rx (b348_102 L xs zf D w (some 36) i1 i2 i3 i4 i5 h) h r := by
  intro i1 i2 i3 i4 i5 h s r hR hh
  unfold s348_102 at hh
  unfold b348_102
  exact r348_103 hD _ _ _ _ _ _ _ _ _ hR hh
def s348_0 (E : rE) (w : Nat) (i1 : Int32) (i2 : Int32) (s : rS) : Option rA :=
  (rs_aJ s 56 i1).bind fun y1 =>
  ((E 349 [.ref 36, .long y1] s).bind rxI).bind fun x3 =>
  if mx_f2 .ne x3.1 (-1) = true then
    (rs_aI x3.2 83 x3.1).bind fun x9 =>
    if mx_f1 .eq ((x3.2.1 64) &&& ((1 : Int32) <<< (x9 &&& 31))) = true then
      (rs_aI x3.2 84 x3.1).bind fun x12 =>
      ((E 333 [.int x12] x3.2).bind rxI).bind fun x14 =>
      if mx_f1 .eq x14.1 = true then
        s348_98 E w i1 i2 x3.1 ((1 : Int32) <<< (x9 &&& 31)) x12 x14.2
      else
        if mx_f2 .eq (x12 - x12 / 8 * 8) 3 = true then
          s348_98 E w i1 i2 x3.1 ((1 : Int32) <<< (x9 &&& 31)) x12 x14.2
        else
          if mx_f1 .eq i2 = true then
            s348_102 E w i1 i2 x3.1 ((1 : Int32) <<< (x9 &&& 31)) x12 x14.2
          else
            if mx_f1 .ne (x12 - x12 / 8 * 8) = true then
              s348_102 E w i1 i2 x3.1 ((1 : Int32) <<< (x9 &&& 31)) x12 x14.2
            else
              s348_98 E w i1 i2 x3.1 ((1 : Int32) <<< (x9 &&& 31)) x12 x14.2
    else
      (rs_aI x3.2 51 i1).bind fun x23 =>
      ((E 347 [.ref 36, .int 7, .int x23] x3.2).bind rxI).bind fun x25 =>
      rrI (some .int) x25.1 x25.2
  else
    (rs_aI x3.2 51 i1).bind fun x30 =>
    ((E 347 [.ref 36, .int 3, .int x30] x3.2).bind rxI).bind fun x32 =>
    rrI (some .int) x32.1 x32.2
theorem r348_0 {L : Nat} {xs : Nat → Int32} {zf : Value} {D : dD} {E : rE} {w : Nat} (hD : rO D E L xs) : ∀ (i1 : Int32) (i2 : Int32) (h : rm_H) (s : rS) (r : rA), RS h s → s348_0 E w i1 i2 s = some r → rx (b348_0 L xs zf D w (some 36) i1 i2 h) h r := by
  intro i1 i2 h s r hR hh
  unfold s348_0 at hh
  unfold b348_0
  refine rx_b (rs_gR hR 23 56 rfl) ?_
  obtain ⟨y1, q2, hh⟩ := db hh
  refine rx_b (rs_aJ_ok hR q2) ?_
  obtain ⟨x3, q4, hh⟩ := db hh
  obtain ⟨h5, e6, hR, f7⟩ := rs_vI hD hR q4
  refine rx_c e6 f7 ?_
  rcases di hh with ⟨q8, hh⟩ | ⟨q8, hh⟩
  · refine rx_t q8 ?_
    refine rx_b (rs_gR hR 68 83 rfl) ?_
    obtain ⟨x9, q10, hh⟩ := db hh
    refine rx_b (rs_aI_ok hR q10) ?_
    refine rx_b (rs_gI hR 64 _ rfl) ?_
    rcases di hh with ⟨q11, hh⟩ | ⟨q11, hh⟩
    · refine rx_t q11 ?_
      refine rx_b (rs_gR hR 69 84 rfl) ?_
      obtain ⟨x12, q13, hh⟩ := db hh
      refine rx_b (rs_aI_ok hR q13) ?_
      obtain ⟨x14, q15, hh⟩ := db hh
      obtain ⟨h16, e17, hR, f18⟩ := rs_cI hD hR q15
      refine rx_c e17 f18 ?_
      rcases di hh with ⟨q19, hh⟩ | ⟨q19, hh⟩
      · refine rx_t q19 ?_
        exact r348_98 hD _ _ _ _ _ _ _ _ hR hh
      · refine rx_f q19 ?_
        rcases di hh with ⟨q20, hh⟩ | ⟨q20, hh⟩
        · refine rx_t q20 ?_
          exact r348_98 hD _ _ _ _ _ _ _ _ hR hh
        · refine rx_f q20 ?_
          rcases di hh with ⟨q21, hh⟩ | ⟨q21, hh⟩
          · refine rx_t q21 ?_
            exact r348_102 hD _ _ _ _ _ _ _ _ hR hh
          · refine rx_f q21 ?_
            rcases di hh with ⟨q22, hh⟩ | ⟨q22, hh⟩
            · refine rx_t q22 ?_
              exact r348_102 hD _ _ _ _ _ _ _ _ hR hh
            · refine rx_f q22 ?_
              exact r348_98 hD _ _ _ _ _ _ _ _ hR hh
    · refine rx_f q11 ?_
      refine rx_b (rs_gR hR 18 51 rfl) ?_
      obtain ⟨x23, q24, hh⟩ := db hh
      refine rx_b (rs_aI_ok hR q24) ?_
      obtain ⟨x25, q26, hh⟩ := db hh
      obtain ⟨h27, e28, hR, f29⟩ := rs_vI hD hR q26
      refine rx_c e28 f29 ?_
      exact rx_I hR hh
  · refine rx_f q8 ?_
    refine rx_b (rs_gR hR 18 51 rfl) ?_
    obtain ⟨x30, q31, hh⟩ := db hh
    refine rx_b (rs_aI_ok hR q31) ?_
    obtain ⟨x32, q33, hh⟩ := db hh
    obtain ⟨h34, e35, hR, f36⟩ := rs_vI hD hR q33
    refine rx_c e35 f36 ?_
    exact rx_I hR hh
def g348 (E : rE) (w : Nat) (As : List Value) (s : rS) : Option rA := match As with
  | [.ref 36, .int i1, .int i2] => s348_0 E w i1 i2 s
  | _ => none
theorem t348 {L : Nat} {xs : Nat → Int32} {zf : Value} {D : dD} {E : rE} {w : Nat} (hD : rO D E L xs) (As : List Value) (h : rm_H) (s : rS) (r : rA) (hR : RS h s) (hh : g348 E w As s = some r) : rx (f348 L xs zf D w As h) h r := by
  unfold g348 at hh
  split at hh
  · unfold f348
    dsimp only
    refine rx_b (a := some 36) rfl ?_
    exact r348_0 hD _ _ _ _ _ hR hh
  · cases hh
def s349_7 (E : rE) (w : Nat) : Nat → Int64 → Int32 → rS → Option rA
  | 0, _, _, _ => none
  | n + 1, j1, i3, s =>
    if mx_f1 .lt i3 = true then
      rrI (some .int) (-1) s
    else
      (rs_aJ s 82 i3).bind fun y2 =>
      if mx_f1 .ne (lg_cmp y2 j1) = true then
        s349_7 E w n j1 (i3 + (-1)) s
      else
        rrI (some .int) i3 s
theorem r349_7 {L : Nat} {xs : Nat → Int32} {zf : Value} {D : dD} {E : rE} {w : Nat} (hD : rO D E L xs) : ∀ (n : Nat) (j1 : Int64) (i3 : Int32) (h : rm_H) (s : rS) (r : rA), RS h s → s349_7 E w n j1 i3 s = some r → rx (b349_7 L xs zf D w n (some 36) j1 i3 h) h r := by
  intro n
  induction n with
  | zero =>
    intro j1 i3 h s r hR hh
    cases hh
  | succ n ih =>
    intro j1 i3 h s r hR hh
    rw [s349_7] at hh
    rw [b349_7]
    rcases di hh with ⟨q1, hh⟩ | ⟨q1, hh⟩
    · refine rx_t q1 ?_
      exact rx_I hR hh
    · refine rx_f q1 ?_
      refine rx_b (rs_gR hR 67 82 rfl) ?_
      obtain ⟨y2, q3, hh⟩ := db hh
      refine rx_b (rs_aJ_ok hR q3) ?_
      rcases di hh with ⟨q4, hh⟩ | ⟨q4, hh⟩
      · refine rx_t q4 ?_
        exact ih _ _ _ _ _ hR hh
      · refine rx_f q4 ?_
        exact rx_I hR hh
def s349_0 (E : rE) (w : Nat) (j1 : Int64) (s : rS) : Option rA :=
  s349_7 E w w j1 ((s.1 62) - 1) s
theorem r349_0 {L : Nat} {xs : Nat → Int32} {zf : Value} {D : dD} {E : rE} {w : Nat} (hD : rO D E L xs) : ∀ (j1 : Int64) (h : rm_H) (s : rS) (r : rA), RS h s → s349_0 E w j1 s = some r → rx (b349_0 L xs zf D w (some 36) j1 h) h r := by
  intro j1 h s r hR hh
  unfold s349_0 at hh
  unfold b349_0
  refine rx_b (rs_gI hR 62 _ rfl) ?_
  exact r349_7 hD _ _ _ _ _ _ hR hh
def g349 (E : rE) (w : Nat) (As : List Value) (s : rS) : Option rA := match As with
  | [.ref 36, .long j1] => s349_0 E w j1 s
  | _ => none
theorem t349 {L : Nat} {xs : Nat → Int32} {zf : Value} {D : dD} {E : rE} {w : Nat} (hD : rO D E L xs) (As : List Value) (h : rm_H) (s : rS) (r : rA) (hR : RS h s) (hh : g349 E w As s = some r) : rx (f349 L xs zf D w As h) h r := by
  unfold g349 at hh
  split at hh
  · unfold f349
    dsimp only
    refine rx_b (a := some 36) rfl ?_
    exact r349_0 hD _ _ _ _ hR hh
  · cases hh
def s350_36 (E : rE) (w : Nat) (s0 : Int32) (s : rS) : Option rA :=
  rrI (some .boolean) s0 s
theorem r350_36 {L : Nat} {xs : Nat → Int32} {zf : Value} {D : dD} {E : rE} {w : Nat} (hD : rO D E L xs) : ∀ (s0 : Int32) (h : rm_H) (s : rS) (r : rA), RS h s → s350_36 E w s0 s = some r → rx (b350_36 L xs zf D w s0 h) h r := by
  intro s0 h s r hR hh
  unfold s350_36 at hh
  unfold b350_36
  exact rx_I hR hh
def s350_24 (E : rE) (w : Nat) (s : rS) : Option rA :=
  if mx_f1 .ne (s.1 57) = true then
    s350_36 E w 0 s
  else
    s350_36 E w 1 s
theorem r350_24 {L : Nat} {xs : Nat → Int32} {zf : Value} {D : dD} {E : rE} {w : Nat} (hD : rO D E L xs) : ∀ (h : rm_H) (s : rS) (r : rA), RS h s → s350_24 E w s = some r → rx (b350_24 L xs zf D w (some 36) h) h r := by
  intro h s r hR hh
  unfold s350_24 at hh
  unfold b350_24
  refine rx_b (rs_gI hR 57 _ rfl) ?_
  rcases di hh with ⟨q1, hh⟩ | ⟨q1, hh⟩
  · refine rx_t q1 ?_
    exact r350_36 hD _ _ _ _ hR hh
  · refine rx_f q1 ?_
    exact r350_36 hD _ _ _ _ hR hh
def s350_0 (E : rE) (w : Nat) (i1 : Int32) (i2 : Int32) (s : rS) : Option rA :=
  if mx_f1 .ne (s.1 57) = true then
    s350_24 E w s
  else
    if mx_f2 .ne i2 (-1) = true then
      s350_24 E w s
    else
      (rs_aI s 50 i1).bind fun x3 =>
      ((E 305 [.ref 36, .int 8, .int x3] s).bind rxV).bind fun s5 =>
      s350_24 E w s5
theorem r350_0 {L : Nat} {xs : Nat → Int32} {zf : Value} {D : dD} {E : rE} {w : Nat} (hD : rO D E L xs) : ∀ (i1 : Int32) (i2 : Int32) (h : rm_H) (s : rS) (r : rA), RS h s → s350_0 E w i1 i2 s = some r → rx (b350_0 L xs zf D w (some 36) i1 i2 h) h r := by
  intro i1 i2 h s r hR hh
  unfold s350_0 at hh
  unfold b350_0
  refine rx_b (rs_gI hR 57 _ rfl) ?_
  rcases di hh with ⟨q1, hh⟩ | ⟨q1, hh⟩
  · refine rx_t q1 ?_
    exact r350_24 hD  _ _ _ hR hh
  · refine rx_f q1 ?_
    rcases di hh with ⟨q2, hh⟩ | ⟨q2, hh⟩
    · refine rx_t q2 ?_
      exact r350_24 hD  _ _ _ hR hh
    · refine rx_f q2 ?_
      refine rx_b (rs_gR hR 17 50 rfl) ?_
      obtain ⟨x3, q4, hh⟩ := db hh
      refine rx_b (rs_aI_ok hR q4) ?_
      obtain ⟨s5, q6, hh⟩ := db hh
      obtain ⟨h7, e8, hR, f9⟩ := rs_vV hD hR q6
      refine rx_w e8 f9 ?_
      exact r350_24 hD  _ _ _ hR hh
def g350 (E : rE) (w : Nat) (As : List Value) (s : rS) : Option rA := match As with
  | [.ref 36, .int i1, .int i2] => s350_0 E w i1 i2 s
  | _ => none
theorem t350 {L : Nat} {xs : Nat → Int32} {zf : Value} {D : dD} {E : rE} {w : Nat} (hD : rO D E L xs) (As : List Value) (h : rm_H) (s : rS) (r : rA) (hR : RS h s) (hh : g350 E w As s = some r) : rx (f350 L xs zf D w As h) h r := by
  unfold g350 at hh
  split at hh
  · unfold f350
    dsimp only
    refine rx_b (a := some 36) rfl ?_
    exact r350_0 hD _ _ _ _ _ hR hh
  · cases hh
def s351_155 (E : rE) (w : Nat) (i1 : Int32) (s : rS) : Option rA :=
  (rs_aI s 51 i1).bind fun x1 =>
  ((E 347 [.ref 36, .int 6, .int x1] s).bind rxI).bind fun x3 =>
  rrI (some .int) x3.1 x3.2
theorem r351_155 {L : Nat} {xs : Nat → Int32} {zf : Value} {D : dD} {E : rE} {w : Nat} (hD : rO D E L xs) : ∀ (i1 : Int32) (h : rm_H) (s : rS) (r : rA), RS h s → s351_155 E w i1 s = some r → rx (b351_155 L xs zf D w (some 36) i1 h) h r := by
  intro i1 h s r hR hh
  unfold s351_155 at hh
  unfold b351_155
  refine rx_b (rs_gR hR 18 51 rfl) ?_
  obtain ⟨x1, q2, hh⟩ := db hh
  refine rx_b (rs_aI_ok hR q2) ?_
  obtain ⟨x3, q4, hh⟩ := db hh
  obtain ⟨h5, e6, hR, f7⟩ := rs_vI hD hR q4
  refine rx_c e6 f7 ?_
  exact rx_I hR hh
def s351_276 (E : rE) (w : Nat) (i9 : Int32) (s : rS) : Option rA :=
  rrI (some .int) i9 s
theorem r351_276 {L : Nat} {xs : Nat → Int32} {zf : Value} {D : dD} {E : rE} {w : Nat} (hD : rO D E L xs) : ∀ (i9 : Int32) (h : rm_H) (s : rS) (r : rA), RS h s → s351_276 E w i9 s = some r → rx (b351_276 L xs zf D w i9 h) h r := by
  intro i9 h s r hR hh
  unfold s351_276 at hh
  unfold b351_276
  exact rx_I hR hh
def s351_323 (E : rE) (w : Nat) (s0 : Int32) (s : rS) : Option rA :=
  rrI (some .int) s0 s
theorem r351_323 {L : Nat} {xs : Nat → Int32} {zf : Value} {D : dD} {E : rE} {w : Nat} (hD : rO D E L xs) : ∀ (s0 : Int32) (h : rm_H) (s : rS) (r : rA), RS h s → s351_323 E w s0 s = some r → rx (b351_323 L xs zf D w s0 h) h r := by
  intro s0 h s r hR hh
  unfold s351_323 at hh
  unfold b351_323
  exact rx_I hR hh
def s351_228 (E : rE) (w : Nat) (i1 : Int32) (i2 : Int32) (i3 : Int32) (i6 : Int32) (i7 : Int32) (i8 : Int32) (i9 : Int32) (s0 : Int32) (s : rS) : Option rA :=
  if mx_f1 .ne s0 = true then
    (rs_aI s 64 i6).bind fun x2 =>
    (rs_sI s 53 i1 (i8 - x2)).bind fun s4 =>
    if mx_f1 .eq i3 = true then
      s351_276 E w i9 s4
    else
      ((E 333 [.int i9] s4).bind rxI).bind fun x10 =>
      if mx_f1 .ne x10.1 = true then
        ((E 292 [.int i7, .int (i9 - i9 / 8 * 8)] x10.2).bind rxI).bind fun x16 =>
        if mx_f2 .ne x16.1 (-1) = true then
          s351_323 E w ((i9 - (i9 - i9 / 8 * 8)) + x16.1) x16.2
        else
          (rs_aI x16.2 51 i1).bind fun x22 =>
          ((E 347 [.ref 36, .int 6, .int x22] x16.2).bind rxI).bind fun x24 =>
          s351_323 E w x24.1 x24.2
      else
        s351_276 E w i9 x10.2
  else
    (rs_aI s 50 i2).bind fun x29 =>
    ((E 347 [.ref 36, .int 6, .int x29] s).bind rxI).bind fun x31 =>
    rrI (some .int) x31.1 x31.2
theorem r351_228 {L : Nat} {xs : Nat → Int32} {zf : Value} {D : dD} {E : rE} {w : Nat} (hD : rO D E L xs) : ∀ (i1 : Int32) (i2 : Int32) (i3 : Int32) (i6 : Int32) (i7 : Int32) (i8 : Int32) (i9 : Int32) (s0 : Int32) (h : rm_H) (s : rS) (r : rA), RS h s → s351_228 E w i1 i2 i3 i6 i7 i8 i9 s0 s = some r → rx (b351_228 L xs zf D w (some 36) i1 i2 i3 i6 i7 i8 i9 s0 h) h r := by
  intro i1 i2 i3 i6 i7 i8 i9 s0 h s r hR hh
  unfold s351_228 at hh
  unfold b351_228
  rcases di hh with ⟨q1, hh⟩ | ⟨q1, hh⟩
  · refine rx_t q1 ?_
    refine rx_b (rs_gR hR 20 53 rfl) ?_
    refine rx_b (rs_gR hR 35 64 rfl) ?_
    obtain ⟨x2, q3, hh⟩ := db hh
    refine rx_b (rs_aI_ok hR q3) ?_
    obtain ⟨s4, q5, hh⟩ := db hh
    obtain ⟨h6, e7, hR, f8⟩ := rs_sI_ok hR q5
    refine rx_w e7 f8 ?_
    rcases di hh with ⟨q9, hh⟩ | ⟨q9, hh⟩
    · refine rx_t q9 ?_
      exact r351_276 hD _ _ _ _ hR hh
    · refine rx_f q9 ?_
      obtain ⟨x10, q11, hh⟩ := db hh
      obtain ⟨h12, e13, hR, f14⟩ := rs_cI hD hR q11
      refine rx_c e13 f14 ?_
      rcases di hh with ⟨q15, hh⟩ | ⟨q15, hh⟩
      · refine rx_t q15 ?_
        obtain ⟨x16, q17, hh⟩ := db hh
        obtain ⟨h18, e19, hR, f20⟩ := rs_cI hD hR q17
        refine rx_c e19 f20 ?_
        rcases di hh with ⟨q21, hh⟩ | ⟨q21, hh⟩
        · refine rx_t q21 ?_
          exact r351_323 hD _ _ _ _ hR hh
        · refine rx_f q21 ?_
          refine rx_b (rs_gR hR 18 51 rfl) ?_
          obtain ⟨x22, q23, hh⟩ := db hh
          refine rx_b (rs_aI_ok hR q23) ?_
          obtain ⟨x24, q25, hh⟩ := db hh
          obtain ⟨h26, e27, hR, f28⟩ := rs_vI hD hR q25
          refine rx_c e27 f28 ?_
          exact r351_323 hD _ _ _ _ hR hh
      · refine rx_f q15 ?_
        exact r351_276 hD _ _ _ _ hR hh
  · refine rx_f q1 ?_
    refine rx_b (rs_gR hR 17 50 rfl) ?_
    obtain ⟨x29, q30, hh⟩ := db hh
    refine rx_b (rs_aI_ok hR q30) ?_
    obtain ⟨x31, q32, hh⟩ := db hh
    obtain ⟨h33, e34, hR, f35⟩ := rs_vI hD hR q32
    refine rx_c e34 f35 ?_
    exact rx_I hR hh
def s351_223 (E : rE) (w : Nat) (i1 : Int32) (i2 : Int32) (i3 : Int32) (i6 : Int32) (i7 : Int32) (i8 : Int32) (i9 : Int32) (s : rS) : Option rA :=
  s351_228 E w i1 i2 i3 i6 i7 i8 i9 1 s
theorem r351_223 {L : Nat} {xs : Nat → Int32} {zf : Value} {D : dD} {E : rE} {w : Nat} (hD : rO D E L xs) : ∀ (i1 : Int32) (i2 : Int32) (i3 : Int32) (i6 : Int32) (i7 : Int32) (i8 : Int32) (i9 : Int32) (h : rm_H) (s : rS) (r : rA), RS h s → s351_223 E w i1 i2 i3 i6 i7 i8 i9 s = some r → rx (b351_223 L xs zf D w (some 36) i1 i2 i3 i6 i7 i8 i9 h) h r := by
  intro i1 i2 i3 i6 i7 i8 i9 h s r hR hh
  unfold s351_223 at hh
  unfold b351_223
  exact r351_228 hD _ _ _ _ _ _ _ _ _ _ _ hR hh
def s351_0 (E : rE) (w : Nat) (i1 : Int32) (i2 : Int32) (i3 : Int32) (s : rS) : Option rA :=
  ((E 338 [.ref 36, .int i2] s).bind rxI).bind fun x1 =>
  if mx_f1 .le (x1.2.1 57) = true then
    (rs_aI x1.2 44 i1).bind fun x7 =>
    if mx_f2 .ne x7 4 = true then
      (rs_aI x1.2 44 i1).bind fun x10 =>
      if mx_f2 .eq x10 10 = true then
        (rs_aI x1.2 45 i1).bind fun x13 =>
        ((E 339 [.ref 36, .int x13] x1.2).bind rxI).bind fun x15 =>
        if mx_f1 .le (x15.2.1 57) = true then
          (rs_aI x15.2 45 i1).bind fun x21 =>
          ((E 354 [.ref 36, .int x21, .int x15.1] x15.2).bind rxI).bind fun x23 =>
          if mx_f2 .ne x23.1 (-1) = true then
            ((E 355 [.ref 36, .int x15.1] x23.2).bind rxI).bind fun x29 =>
            (rs_aJ x29.2 56 i1).bind fun y34 =>
            ((E 356 [.ref 36, .int x23.1, .long y34] x29.2).bind rxI).bind fun x36 =>
            if mx_f2 .ne x36.1 (-1) = true then
              if mx_f2 .eq x29.1 3 = true then
                s351_155 E w i1 x36.2
              else
                if mx_f2 .ne x29.1 4 = true then
                  (rs_aI x36.2 69 x36.1).bind fun x44 =>
                  (rs_aI x36.2 60 x44).bind fun x46 =>
                  ((E 353 [.ref 36, .int i2, .int x1.1, .int x46] x36.2).bind rxI).bind fun x48 =>
                  if mx_f1 .ne x48.1 = true then
                    if mx_f2 .eq x1.1 1 = true then
                      s351_223 E w i1 i2 i3 x23.1 x29.1 x36.1 x46 x48.2
                    else
                      ((E 331 [.int x1.1] x48.2).bind rxI).bind fun x55 =>
                      if mx_f1 .ne x55.1 = true then
                        s351_223 E w i1 i2 i3 x23.1 x29.1 x36.1 x46 x55.2
                      else
                        ((E 293 [.int x29.1, .int (x1.1 - x1.1 / 8 * 8)] x55.2).bind rxI).bind fun x61 =>
                        if mx_f1 .eq x61.1 = true then
                          s351_228 E w i1 i2 i3 x23.1 x29.1 x36.1 x46 0 x61.2
                        else
                          s351_223 E w i1 i2 i3 x23.1 x29.1 x36.1 x46 x61.2
                  else
                    rrI (some .int) (-1) x48.2
                else
                  s351_155 E w i1 x36.2
            else
              (rs_aI x36.2 51 i1).bind fun x67 =>
              ((E 347 [.ref 36, .int 3, .int x67] x36.2).bind rxI).bind fun x69 =>
              rrI (some .int) x69.1 x69.2
          else
            rrI (some .int) (-1) x23.2
        else
          rrI (some .int) (-1) x15.2
      else
        (rs_aI x1.2 50 i1).bind fun x74 =>
        ((E 347 [.ref 36, .int 8, .int x74] x1.2).bind rxI).bind fun x76 =>
        rrI (some .int) x76.1 x76.2
    else
      ((E 352 [.ref 36, .int i1, .int i2, .int x1.1, .int i3] x1.2).bind rxI).bind fun x81 =>
      rrI (some .int) x81.1 x81.2
  else
    rrI (some .int) (-1) x1.2
theorem r351_0 {L : Nat} {xs : Nat → Int32} {zf : Value} {D : dD} {E : rE} {w : Nat} (hD : rO D E L xs) : ∀ (i1 : Int32) (i2 : Int32) (i3 : Int32) (h : rm_H) (s : rS) (r : rA), RS h s → s351_0 E w i1 i2 i3 s = some r → rx (b351_0 L xs zf D w (some 36) i1 i2 i3 h) h r := by
  intro i1 i2 i3 h s r hR hh
  unfold s351_0 at hh
  unfold b351_0
  obtain ⟨x1, q2, hh⟩ := db hh
  obtain ⟨h3, e4, hR, f5⟩ := rs_vI hD hR q2
  refine rx_c e4 f5 ?_
  refine rx_b (rs_gI hR 57 _ rfl) ?_
  rcases di hh with ⟨q6, hh⟩ | ⟨q6, hh⟩
  · refine rx_t q6 ?_
    refine rx_b (rs_gR hR 11 44 rfl) ?_
    obtain ⟨x7, q8, hh⟩ := db hh
    refine rx_b (rs_aI_ok hR q8) ?_
    rcases di hh with ⟨q9, hh⟩ | ⟨q9, hh⟩
    · refine rx_t q9 ?_
      refine rx_b (rs_gR hR 11 44 rfl) ?_
      obtain ⟨x10, q11, hh⟩ := db hh
      refine rx_b (rs_aI_ok hR q11) ?_
      rcases di hh with ⟨q12, hh⟩ | ⟨q12, hh⟩
      · refine rx_t q12 ?_
        refine rx_b (rs_gR hR 12 45 rfl) ?_
        obtain ⟨x13, q14, hh⟩ := db hh
        refine rx_b (rs_aI_ok hR q14) ?_
        obtain ⟨x15, q16, hh⟩ := db hh
        obtain ⟨h17, e18, hR, f19⟩ := rs_vI hD hR q16
        refine rx_c e18 f19 ?_
        refine rx_b (rs_gI hR 57 _ rfl) ?_
        rcases di hh with ⟨q20, hh⟩ | ⟨q20, hh⟩
        · refine rx_t q20 ?_
          refine rx_b (rs_gR hR 12 45 rfl) ?_
          obtain ⟨x21, q22, hh⟩ := db hh
          refine rx_b (rs_aI_ok hR q22) ?_
          obtain ⟨x23, q24, hh⟩ := db hh
          obtain ⟨h25, e26, hR, f27⟩ := rs_vI hD hR q24
          refine rx_c e26 f27 ?_
          rcases di hh with ⟨q28, hh⟩ | ⟨q28, hh⟩
          · refine rx_t q28 ?_
            obtain ⟨x29, q30, hh⟩ := db hh
            obtain ⟨h31, e32, hR, f33⟩ := rs_vI hD hR q30
            refine rx_c e32 f33 ?_
            refine rx_b (rs_gR hR 23 56 rfl) ?_
            obtain ⟨y34, q35, hh⟩ := db hh
            refine rx_b (rs_aJ_ok hR q35) ?_
            obtain ⟨x36, q37, hh⟩ := db hh
            obtain ⟨h38, e39, hR, f40⟩ := rs_vI hD hR q37
            refine rx_c e39 f40 ?_
            rcases di hh with ⟨q41, hh⟩ | ⟨q41, hh⟩
            · refine rx_t q41 ?_
              rcases di hh with ⟨q42, hh⟩ | ⟨q42, hh⟩
              · refine rx_t q42 ?_
                exact r351_155 hD _ _ _ _ hR hh
              · refine rx_f q42 ?_
                rcases di hh with ⟨q43, hh⟩ | ⟨q43, hh⟩
                · refine rx_t q43 ?_
                  refine rx_b (rs_gR hR 30 60 rfl) ?_
                  refine rx_b (rs_gR hR 41 69 rfl) ?_
                  obtain ⟨x44, q45, hh⟩ := db hh
                  refine rx_b (rs_aI_ok hR q45) ?_
                  obtain ⟨x46, q47, hh⟩ := db hh
                  refine rx_b (rs_aI_ok hR q47) ?_
                  obtain ⟨x48, q49, hh⟩ := db hh
                  obtain ⟨h50, e51, hR, f52⟩ := rs_vI hD hR q49
                  refine rx_c e51 f52 ?_
                  rcases di hh with ⟨q53, hh⟩ | ⟨q53, hh⟩
                  · refine rx_t q53 ?_
                    rcases di hh with ⟨q54, hh⟩ | ⟨q54, hh⟩
                    · refine rx_t q54 ?_
                      exact r351_223 hD _ _ _ _ _ _ _ _ _ _ hR hh
                    · refine rx_f q54 ?_
                      obtain ⟨x55, q56, hh⟩ := db hh
                      obtain ⟨h57, e58, hR, f59⟩ := rs_cI hD hR q56
                      refine rx_c e58 f59 ?_
                      rcases di hh with ⟨q60, hh⟩ | ⟨q60, hh⟩
                      · refine rx_t q60 ?_
                        exact r351_223 hD _ _ _ _ _ _ _ _ _ _ hR hh
                      · refine rx_f q60 ?_
                        obtain ⟨x61, q62, hh⟩ := db hh
                        obtain ⟨h63, e64, hR, f65⟩ := rs_cI hD hR q62
                        refine rx_c e64 f65 ?_
                        rcases di hh with ⟨q66, hh⟩ | ⟨q66, hh⟩
                        · refine rx_t q66 ?_
                          exact r351_228 hD _ _ _ _ _ _ _ _ _ _ _ hR hh
                        · refine rx_f q66 ?_
                          exact r351_223 hD _ _ _ _ _ _ _ _ _ _ hR hh
                  · refine rx_f q53 ?_
                    exact rx_I hR hh
                · refine rx_f q43 ?_
                  exact r351_155 hD _ _ _ _ hR hh
            · refine rx_f q41 ?_
              refine rx_b (rs_gR hR 18 51 rfl) ?_
              obtain ⟨x67, q68, hh⟩ := db hh
              refine rx_b (rs_aI_ok hR q68) ?_
              obtain ⟨x69, q70, hh⟩ := db hh
              obtain ⟨h71, e72, hR, f73⟩ := rs_vI hD hR q70
              refine rx_c e72 f73 ?_
              exact rx_I hR hh
          · refine rx_f q28 ?_
            exact rx_I hR hh
        · refine rx_f q20 ?_
          exact rx_I hR hh
      · refine rx_f q12 ?_
        refine rx_b (rs_gR hR 17 50 rfl) ?_
        obtain ⟨x74, q75, hh⟩ := db hh
        refine rx_b (rs_aI_ok hR q75) ?_
        obtain ⟨x76, q77, hh⟩ := db hh
        obtain ⟨h78, e79, hR, f80⟩ := rs_vI hD hR q77
        refine rx_c e79 f80 ?_
        exact rx_I hR hh
    · refine rx_f q9 ?_
      obtain ⟨x81, q82, hh⟩ := db hh
      obtain ⟨h83, e84, hR, f85⟩ := rs_vI hD hR q82
      refine rx_c e84 f85 ?_
      exact rx_I hR hh
  · refine rx_f q6 ?_
    exact rx_I hR hh
def g351 (E : rE) (w : Nat) (As : List Value) (s : rS) : Option rA := match As with
  | [.ref 36, .int i1, .int i2, .int i3] => s351_0 E w i1 i2 i3 s
  | _ => none
theorem t351 {L : Nat} {xs : Nat → Int32} {zf : Value} {D : dD} {E : rE} {w : Nat} (hD : rO D E L xs) (As : List Value) (h : rm_H) (s : rS) (r : rA) (hR : RS h s) (hh : g351 E w As s = some r) : rx (f351 L xs zf D w As h) h r := by
  unfold g351 at hh
  split at hh
  · unfold f351
    dsimp only
    refine rx_b (a := some 36) rfl ?_
    exact r351_0 hD _ _ _ _ _ _ hR hh
  · cases hh
def s352_69 (E : rE) (w : Nat) (i1 : Int32) (i2 : Int32) (i3 : Int32) (i5 : Int32) (i6 : Int32) (s : rS) : Option rA :=
  (rs_aI s 85 i5).bind fun x1 =>
  if mx_f2 .ge x1 (s.1 63) = true then
    (rs_aI s 84 i5).bind fun x4 =>
    ((E 353 [.ref 36, .int i2, .int i3, .int x4] s).bind rxI).bind fun x6 =>
    if mx_f1 .ne x6.1 = true then
      (rs_pI x6.2 64 ((x6.2.1 64) &&& (i6 ^^^ (-1)))).bind fun s12 =>
      (rs_aI s12 83 i5).bind fun x17 =>
      (rs_sI s12 53 i1 x17).bind fun s19 =>
      (rs_aI s19 84 i5).bind fun x24 =>
      rrI (some .int) x24 s19
    else
      rrI (some .int) (-1) x6.2
  else
    (rs_aI s 50 i1).bind fun x26 =>
    ((E 347 [.ref 36, .int 6, .int x26] s).bind rxI).bind fun x28 =>
    rrI (some .int) x28.1 x28.2
theorem r352_69 {L : Nat} {xs : Nat → Int32} {zf : Value} {D : dD} {E : rE} {w : Nat} (hD : rO D E L xs) : ∀ (i1 : Int32) (i2 : Int32) (i3 : Int32) (i5 : Int32) (i6 : Int32) (h : rm_H) (s : rS) (r : rA), RS h s → s352_69 E w i1 i2 i3 i5 i6 s = some r → rx (b352_69 L xs zf D w (some 36) i1 i2 i3 i5 i6 h) h r := by
  intro i1 i2 i3 i5 i6 h s r hR hh
  unfold s352_69 at hh
  unfold b352_69
  refine rx_b (rs_gR hR 70 85 rfl) ?_
  obtain ⟨x1, q2, hh⟩ := db hh
  refine rx_b (rs_aI_ok hR q2) ?_
  refine rx_b (rs_gI hR 63 _ rfl) ?_
  rcases di hh with ⟨q3, hh⟩ | ⟨q3, hh⟩
  · refine rx_t q3 ?_
    refine rx_b (rs_gR hR 69 84 rfl) ?_
    obtain ⟨x4, q5, hh⟩ := db hh
    refine rx_b (rs_aI_ok hR q5) ?_
    obtain ⟨x6, q7, hh⟩ := db hh
    obtain ⟨h8, e9, hR, f10⟩ := rs_vI hD hR q7
    refine rx_c e9 f10 ?_
    rcases di hh with ⟨q11, hh⟩ | ⟨q11, hh⟩
    · refine rx_t q11 ?_
      refine rx_b (rs_gI hR 64 _ rfl) ?_
      obtain ⟨s12, q13, hh⟩ := db hh
      obtain ⟨h14, e15, hR, f16⟩ := rs_pI_ok (rs_m64 _ _) (by decide) hR q13
      refine rx_w e15 f16 ?_
      refine rx_b (rs_gR hR 20 53 rfl) ?_
      refine rx_b (rs_gR hR 68 83 rfl) ?_
      obtain ⟨x17, q18, hh⟩ := db hh
      refine rx_b (rs_aI_ok hR q18) ?_
      obtain ⟨s19, q20, hh⟩ := db hh
      obtain ⟨h21, e22, hR, f23⟩ := rs_sI_ok hR q20
      refine rx_w e22 f23 ?_
      refine rx_b (rs_gR hR 69 84 rfl) ?_
      obtain ⟨x24, q25, hh⟩ := db hh
      refine rx_b (rs_aI_ok hR q25) ?_
      exact rx_I hR hh
    · refine rx_f q11 ?_
      exact rx_I hR hh
  · refine rx_f q3 ?_
    refine rx_b (rs_gR hR 17 50 rfl) ?_
    obtain ⟨x26, q27, hh⟩ := db hh
    refine rx_b (rs_aI_ok hR q27) ?_
    obtain ⟨x28, q29, hh⟩ := db hh
    obtain ⟨h30, e31, hR, f32⟩ := rs_vI hD hR q29
    refine rx_c e31 f32 ?_
    exact rx_I hR hh
def s352_0 (E : rE) (w : Nat) (i1 : Int32) (i2 : Int32) (i3 : Int32) (i4 : Int32) (s : rS) : Option rA :=
  (rs_aJ s 56 i1).bind fun y1 =>
  ((E 349 [.ref 36, .long y1] s).bind rxI).bind fun x3 =>
  if mx_f2 .ne x3.1 (-1) = true then
    (rs_aI x3.2 83 x3.1).bind fun x9 =>
    if mx_f1 .eq i4 = true then
      s352_69 E w i1 i2 i3 x3.1 ((1 : Int32) <<< (x9 &&& 31)) x3.2
    else
      if mx_f1 .eq ((x3.2.1 64) &&& ((1 : Int32) <<< (x9 &&& 31))) = true then
        s352_69 E w i1 i2 i3 x3.1 ((1 : Int32) <<< (x9 &&& 31)) x3.2
      else
        (rs_aI x3.2 50 i1).bind fun x13 =>
        ((E 347 [.ref 36, .int 7, .int x13] x3.2).bind rxI).bind fun x15 =>
        rrI (some .int) x15.1 x15.2
  else
    (rs_aI x3.2 50 i1).bind fun x20 =>
    ((E 347 [.ref 36, .int 3, .int x20] x3.2).bind rxI).bind fun x22 =>
    rrI (some .int) x22.1 x22.2
theorem r352_0 {L : Nat} {xs : Nat → Int32} {zf : Value} {D : dD} {E : rE} {w : Nat} (hD : rO D E L xs) : ∀ (i1 : Int32) (i2 : Int32) (i3 : Int32) (i4 : Int32) (h : rm_H) (s : rS) (r : rA), RS h s → s352_0 E w i1 i2 i3 i4 s = some r → rx (b352_0 L xs zf D w (some 36) i1 i2 i3 i4 h) h r := by
  intro i1 i2 i3 i4 h s r hR hh
  unfold s352_0 at hh
  unfold b352_0
  refine rx_b (rs_gR hR 23 56 rfl) ?_
  obtain ⟨y1, q2, hh⟩ := db hh
  refine rx_b (rs_aJ_ok hR q2) ?_
  obtain ⟨x3, q4, hh⟩ := db hh
  obtain ⟨h5, e6, hR, f7⟩ := rs_vI hD hR q4
  refine rx_c e6 f7 ?_
  rcases di hh with ⟨q8, hh⟩ | ⟨q8, hh⟩
  · refine rx_t q8 ?_
    refine rx_b (rs_gR hR 68 83 rfl) ?_
    obtain ⟨x9, q10, hh⟩ := db hh
    refine rx_b (rs_aI_ok hR q10) ?_
    rcases di hh with ⟨q11, hh⟩ | ⟨q11, hh⟩
    · refine rx_t q11 ?_
      exact r352_69 hD _ _ _ _ _ _ _ _ hR hh
    · refine rx_f q11 ?_
      refine rx_b (rs_gI hR 64 _ rfl) ?_
      rcases di hh with ⟨q12, hh⟩ | ⟨q12, hh⟩
      · refine rx_t q12 ?_
        exact r352_69 hD _ _ _ _ _ _ _ _ hR hh
      · refine rx_f q12 ?_
        refine rx_b (rs_gR hR 17 50 rfl) ?_
        obtain ⟨x13, q14, hh⟩ := db hh
        refine rx_b (rs_aI_ok hR q14) ?_
        obtain ⟨x15, q16, hh⟩ := db hh
        obtain ⟨h17, e18, hR, f19⟩ := rs_vI hD hR q16
        refine rx_c e18 f19 ?_
        exact rx_I hR hh
  · refine rx_f q8 ?_
    refine rx_b (rs_gR hR 17 50 rfl) ?_
    obtain ⟨x20, q21, hh⟩ := db hh
    refine rx_b (rs_aI_ok hR q21) ?_
    obtain ⟨x22, q23, hh⟩ := db hh
    obtain ⟨h24, e25, hR, f26⟩ := rs_vI hD hR q23
    refine rx_c e25 f26 ?_
    exact rx_I hR hh
def g352 (E : rE) (w : Nat) (As : List Value) (s : rS) : Option rA := match As with
  | [.ref 36, .int i1, .int i2, .int i3, .int i4] => s352_0 E w i1 i2 i3 i4 s
  | _ => none
theorem t352 {L : Nat} {xs : Nat → Int32} {zf : Value} {D : dD} {E : rE} {w : Nat} (hD : rO D E L xs) (As : List Value) (h : rm_H) (s : rS) (r : rA) (hR : RS h s) (hh : g352 E w As s = some r) : rx (f352 L xs zf D w As h) h r := by
  unfold g352 at hh
  split at hh
  · unfold f352
    dsimp only
    refine rx_b (a := some 36) rfl ?_
    exact r352_0 hD _ _ _ _ _ _ _ hR hh
  · cases hh
def s353_109 (E : rE) (w : Nat) (i5 : Int32) (s : rS) : Option rA :=
  rrI (some .boolean) i5 s
theorem r353_109 {L : Nat} {xs : Nat → Int32} {zf : Value} {D : dD} {E : rE} {w : Nat} (hD : rO D E L xs) : ∀ (i5 : Int32) (h : rm_H) (s : rS) (r : rA), RS h s → s353_109 E w i5 s = some r → rx (b353_109 L xs zf D w i5 h) h r := by
  intro i5 h s r hR hh
  unfold s353_109 at hh
  unfold b353_109
  exact rx_I hR hh
def s353_100 (E : rE) (w : Nat) (i1 : Int32) (i5 : Int32) (s0 : Int32) (s : rS) : Option rA :=
  (rs_aI s 50 i1).bind fun x1 =>
  ((E 305 [.ref 36, .int s0, .int x1] s).bind rxV).bind fun s3 =>
  s353_109 E w i5 s3
theorem r353_100 {L : Nat} {xs : Nat → Int32} {zf : Value} {D : dD} {E : rE} {w : Nat} (hD : rO D E L xs) : ∀ (i1 : Int32) (i5 : Int32) (s0 : Int32) (h : rm_H) (s : rS) (r : rA), RS h s → s353_100 E w i1 i5 s0 s = some r → rx (b353_100 L xs zf D w (some 36) i1 i5 s0 (some 36) h) h r := by
  intro i1 i5 s0 h s r hR hh
  unfold s353_100 at hh
  unfold b353_100
  refine rx_b (rs_gR hR 17 50 rfl) ?_
  obtain ⟨x1, q2, hh⟩ := db hh
  refine rx_b (rs_aI_ok hR q2) ?_
  obtain ⟨s3, q4, hh⟩ := db hh
  obtain ⟨h5, e6, hR, f7⟩ := rs_vV hD hR q4
  refine rx_w e6 f7 ?_
  exact r353_109 hD _ _ _ _ hR hh
def s353_81 (E : rE) (w : Nat) (i1 : Int32) (i4 : Int32) (s0 : Int32) (s : rS) : Option rA :=
  if mx_f1 .ne s0 = true then
    s353_109 E w s0 s
  else
    if mx_f1 .eq i4 = true then
      s353_100 E w i1 s0 5 s
    else
      s353_100 E w i1 s0 6 s
theorem r353_81 {L : Nat} {xs : Nat → Int32} {zf : Value} {D : dD} {E : rE} {w : Nat} (hD : rO D E L xs) : ∀ (i1 : Int32) (i4 : Int32) (s0 : Int32) (h : rm_H) (s : rS) (r : rA), RS h s → s353_81 E w i1 i4 s0 s = some r → rx (b353_81 L xs zf D w (some 36) i1 i4 s0 h) h r := by
  intro i1 i4 s0 h s r hR hh
  unfold s353_81 at hh
  unfold b353_81
  rcases di hh with ⟨q1, hh⟩ | ⟨q1, hh⟩
  · refine rx_t q1 ?_
    exact r353_109 hD _ _ _ _ hR hh
  · refine rx_f q1 ?_
    rcases di hh with ⟨q2, hh⟩ | ⟨q2, hh⟩
    · refine rx_t q2 ?_
      exact r353_100 hD _ _ _ _ _ _ hR hh
    · refine rx_f q2 ?_
      exact r353_100 hD _ _ _ _ _ _ hR hh
def s353_76 (E : rE) (w : Nat) (i1 : Int32) (i4 : Int32) (s : rS) : Option rA :=
  s353_81 E w i1 i4 1 s
theorem r353_76 {L : Nat} {xs : Nat → Int32} {zf : Value} {D : dD} {E : rE} {w : Nat} (hD : rO D E L xs) : ∀ (i1 : Int32) (i4 : Int32) (h : rm_H) (s : rS) (r : rA), RS h s → s353_76 E w i1 i4 s = some r → rx (b353_76 L xs zf D w (some 36) i1 i4 h) h r := by
  intro i1 i4 h s r hR hh
  unfold s353_76 at hh
  unfold b353_76
  exact r353_81 hD _ _ _ _ _ _ hR hh
def s353_80 (E : rE) (w : Nat) (i1 : Int32) (i4 : Int32) (s : rS) : Option rA :=
  s353_81 E w i1 i4 0 s
theorem r353_80 {L : Nat} {xs : Nat → Int32} {zf : Value} {D : dD} {E : rE} {w : Nat} (hD : rO D E L xs) : ∀ (i1 : Int32) (i4 : Int32) (h : rm_H) (s : rS) (r : rA), RS h s → s353_80 E w i1 i4 s = some r → rx (b353_80 L xs zf D w (some 36) i1 i4 h) h r := by
  intro i1 i4 h s r hR hh
  unfold s353_80 at hh
  unfold b353_80
  exact r353_81 hD _ _ _ _ _ _ hR hh
def s353_39 (E : rE) (w : Nat) (i1 : Int32) (i2 : Int32) (i3 : Int32) (s0 : Int32) (s : rS) : Option rA :=
  if mx_f1 .eq s0 = true then
    if mx_f2 .eq i2 i3 = true then
      s353_76 E w i1 s0 s
    else
      if mx_f2 .ne i2 1 = true then
        s353_80 E w i1 s0 s
      else
        if mx_f2 .lt i3 8 = true then
          s353_80 E w i1 s0 s
        else
          s353_76 E w i1 s0 s
  else
    ((E 290 [.int (i2 - i2 / 8 * 8), .int (i3 - i3 / 8 * 8)] s).bind rxI).bind fun x5 =>
    s353_81 E w i1 s0 x5.1 x5.2
theorem r353_39 {L : Nat} {xs : Nat → Int32} {zf : Value} {D : dD} {E : rE} {w : Nat} (hD : rO D E L xs) : ∀ (i1 : Int32) (i2 : Int32) (i3 : Int32) (s0 : Int32) (h : rm_H) (s : rS) (r : rA), RS h s → s353_39 E w i1 i2 i3 s0 s = some r → rx (b353_39 L xs zf D w (some 36) i1 i2 i3 s0 h) h r := by
  intro i1 i2 i3 s0 h s r hR hh
  unfold s353_39 at hh
  unfold b353_39
  rcases di hh with ⟨q1, hh⟩ | ⟨q1, hh⟩
  · refine rx_t q1 ?_
    rcases di hh with ⟨q2, hh⟩ | ⟨q2, hh⟩
    · refine rx_t q2 ?_
      exact r353_76 hD _ _ _ _ _ hR hh
    · refine rx_f q2 ?_
      rcases di hh with ⟨q3, hh⟩ | ⟨q3, hh⟩
      · refine rx_t q3 ?_
        exact r353_80 hD _ _ _ _ _ hR hh
      · refine rx_f q3 ?_
        rcases di hh with ⟨q4, hh⟩ | ⟨q4, hh⟩
        · refine rx_t q4 ?_
          exact r353_80 hD _ _ _ _ _ hR hh
        · refine rx_f q4 ?_
          exact r353_76 hD _ _ _ _ _ hR hh
  · refine rx_f q1 ?_
    obtain ⟨x5, q6, hh⟩ := db hh
    obtain ⟨h7, e8, hR, f9⟩ := rs_cI hD hR q6
    refine rx_c e8 f9 ?_
    exact r353_81 hD _ _ _ _ _ _ hR hh
def s353_38 (E : rE) (w : Nat) (i1 : Int32) (i2 : Int32) (i3 : Int32) (s : rS) : Option rA :=
  s353_39 E w i1 i2 i3 0 s
theorem r353_38 {L : Nat} {xs : Nat → Int32} {zf : Value} {D : dD} {E : rE} {w : Nat} (hD : rO D E L xs) : ∀ (i1 : Int32) (i2 : Int32) (i3 : Int32) (h : rm_H) (s : rS) (r : rA), RS h s → s353_38 E w i1 i2 i3 s = some r → rx (b353_38 L xs zf D w (some 36) i1 i2 i3 h) h r := by
  intro i1 i2 i3 h s r hR hh
  unfold s353_38 at hh
  unfold b353_38
  exact r353_39 hD _ _ _ _ _ _ _ hR hh
def s353_0 (E : rE) (w : Nat) (i1 : Int32) (i2 : Int32) (i3 : Int32) (s : rS) : Option rA :=
  if mx_f1 .le (s.1 57) = true then
    ((E 333 [.int i2] s).bind rxI).bind fun x2 =>
    if mx_f1 .eq x2.1 = true then
      s353_38 E w i1 i2 i3 x2.2
    else
      ((E 333 [.int i3] x2.2).bind rxI).bind fun x8 =>
      if mx_f1 .eq x8.1 = true then
        s353_38 E w i1 i2 i3 x8.2
      else
        if mx_f2 .ne (i2 / 8) (i3 / 8) = true then
          s353_38 E w i1 i2 i3 x8.2
        else
          s353_39 E w i1 i2 i3 1 x8.2
  else
    rrI (some .boolean) 0 s
theorem r353_0 {L : Nat} {xs : Nat → Int32} {zf : Value} {D : dD} {E : rE} {w : Nat} (hD : rO D E L xs) : ∀ (i1 : Int32) (i2 : Int32) (i3 : Int32) (h : rm_H) (s : rS) (r : rA), RS h s → s353_0 E w i1 i2 i3 s = some r → rx (b353_0 L xs zf D w (some 36) i1 i2 i3 h) h r := by
  intro i1 i2 i3 h s r hR hh
  unfold s353_0 at hh
  unfold b353_0
  refine rx_b (rs_gI hR 57 _ rfl) ?_
  rcases di hh with ⟨q1, hh⟩ | ⟨q1, hh⟩
  · refine rx_t q1 ?_
    obtain ⟨x2, q3, hh⟩ := db hh
    obtain ⟨h4, e5, hR, f6⟩ := rs_cI hD hR q3
    refine rx_c e5 f6 ?_
    rcases di hh with ⟨q7, hh⟩ | ⟨q7, hh⟩
    · refine rx_t q7 ?_
      exact r353_38 hD _ _ _ _ _ _ hR hh
    · refine rx_f q7 ?_
      obtain ⟨x8, q9, hh⟩ := db hh
      obtain ⟨h10, e11, hR, f12⟩ := rs_cI hD hR q9
      refine rx_c e11 f12 ?_
      rcases di hh with ⟨q13, hh⟩ | ⟨q13, hh⟩
      · refine rx_t q13 ?_
        exact r353_38 hD _ _ _ _ _ _ hR hh
      · refine rx_f q13 ?_
        rcases di hh with ⟨q14, hh⟩ | ⟨q14, hh⟩
        · refine rx_t q14 ?_
          exact r353_38 hD _ _ _ _ _ _ hR hh
        · refine rx_f q14 ?_
          exact r353_39 hD _ _ _ _ _ _ _ hR hh
  · refine rx_f q1 ?_
    exact rx_I hR hh
def g353 (E : rE) (w : Nat) (As : List Value) (s : rS) : Option rA := match As with
  | [.ref 36, .int i1, .int i2, .int i3] => s353_0 E w i1 i2 i3 s
  | _ => none
theorem t353 {L : Nat} {xs : Nat → Int32} {zf : Value} {D : dD} {E : rE} {w : Nat} (hD : rO D E L xs) (As : List Value) (h : rm_H) (s : rS) (r : rA) (hR : RS h s) (hh : g353 E w As s = some r) : rx (f353 L xs zf D w As h) h r := by
  unfold g353 at hh
  split at hh
  · unfold f353
    dsimp only
    refine rx_b (a := some 36) rfl ?_
    exact r353_0 hD _ _ _ _ _ _ hR hh
  · cases hh
def s354_38 (E : rE) (w : Nat) (i2 : Int32) (s : rS) : Option rA :=
  rrI (some .int) ((i2 / 8) - 1) s
theorem r354_38 {L : Nat} {xs : Nat → Int32} {zf : Value} {D : dD} {E : rE} {w : Nat} (hD : rO D E L xs) : ∀ (i2 : Int32) (h : rm_H) (s : rS) (r : rA), RS h s → s354_38 E w i2 s = some r → rx (b354_38 L xs zf D w i2 h) h r := by
  intro i2 h s r hR hh
  unfold s354_38 at hh
  unfold b354_38
  exact rx_I hR hh
def s354_0 (E : rE) (w : Nat) (i1 : Int32) (i2 : Int32) (s : rS) : Option rA :=
  ((E 350 [.ref 36, .int i1, .int i2] s).bind rxI).bind fun x1 =>
  if mx_f1 .ne x1.1 = true then
    if mx_f1 .ne (x1.2.1 61) = true then
      s354_38 E w i2 x1.2
    else
      ((E 333 [.int i2] x1.2).bind rxI).bind fun x8 =>
      if mx_f1 .ne x8.1 = true then
        s354_38 E w i2 x8.2
      else
        (rs_aI x8.2 50 i1).bind fun x14 =>
        ((E 305 [.ref 36, .int 5, .int x14] x8.2).bind rxV).bind fun s16 =>
        rrI (some .int) (-1) s16
  else
    rrI (some .int) (-1) x1.2
theorem r354_0 {L : Nat} {xs : Nat → Int32} {zf : Value} {D : dD} {E : rE} {w : Nat} (hD : rO D E L xs) : ∀ (i1 : Int32) (i2 : Int32) (h : rm_H) (s : rS) (r : rA), RS h s → s354_0 E w i1 i2 s = some r → rx (b354_0 L xs zf D w (some 36) i1 i2 h) h r := by
  intro i1 i2 h s r hR hh
  unfold s354_0 at hh
  unfold b354_0
  obtain ⟨x1, q2, hh⟩ := db hh
  obtain ⟨h3, e4, hR, f5⟩ := rs_vI hD hR q2
  refine rx_c e4 f5 ?_
  rcases di hh with ⟨q6, hh⟩ | ⟨q6, hh⟩
  · refine rx_t q6 ?_
    refine rx_b (rs_gI hR 61 _ rfl) ?_
    rcases di hh with ⟨q7, hh⟩ | ⟨q7, hh⟩
    · refine rx_t q7 ?_
      exact r354_38 hD _ _ _ _ hR hh
    · refine rx_f q7 ?_
      obtain ⟨x8, q9, hh⟩ := db hh
      obtain ⟨h10, e11, hR, f12⟩ := rs_cI hD hR q9
      refine rx_c e11 f12 ?_
      rcases di hh with ⟨q13, hh⟩ | ⟨q13, hh⟩
      · refine rx_t q13 ?_
        exact r354_38 hD _ _ _ _ hR hh
      · refine rx_f q13 ?_
        refine rx_b (rs_gR hR 17 50 rfl) ?_
        obtain ⟨x14, q15, hh⟩ := db hh
        refine rx_b (rs_aI_ok hR q15) ?_
        obtain ⟨s16, q17, hh⟩ := db hh
        obtain ⟨h18, e19, hR, f20⟩ := rs_vV hD hR q17
        refine rx_w e19 f20 ?_
        exact rx_I hR hh
  · refine rx_f q6 ?_
    exact rx_I hR hh
def g354 (E : rE) (w : Nat) (As : List Value) (s : rS) : Option rA := match As with
  | [.ref 36, .int i1, .int i2] => s354_0 E w i1 i2 s
  | _ => none
theorem t354 {L : Nat} {xs : Nat → Int32} {zf : Value} {D : dD} {E : rE} {w : Nat} (hD : rO D E L xs) (As : List Value) (h : rm_H) (s : rS) (r : rA) (hR : RS h s) (hh : g354 E w As s = some r) : rx (f354 L xs zf D w As h) h r := by
  unfold g354 at hh
  split at hh
  · unfold f354
    dsimp only
    refine rx_b (a := some 36) rfl ?_
    exact r354_0 hD _ _ _ _ _ hR hh
  · cases hh
def s355_15 (E : rE) (w : Nat) (s0 : Int32) (s : rS) : Option rA :=
  rrI (some .int) s0 s
theorem r355_15 {L : Nat} {xs : Nat → Int32} {zf : Value} {D : dD} {E : rE} {w : Nat} (hD : rO D E L xs) : ∀ (s0 : Int32) (h : rm_H) (s : rS) (r : rA), RS h s → s355_15 E w s0 s = some r → rx (b355_15 L xs zf D w s0 h) h r := by
  intro s0 h s r hR hh
  unfold s355_15 at hh
  unfold b355_15
  exact rx_I hR hh
def s355_0 (E : rE) (w : Nat) (i1 : Int32) (s : rS) : Option rA :=
  if mx_f1 .eq (s.1 61) = true then
    s355_15 E w (i1 - i1 / 8 * 8) s
  else
    s355_15 E w 2 s
theorem r355_0 {L : Nat} {xs : Nat → Int32} {zf : Value} {D : dD} {E : rE} {w : Nat} (hD : rO D E L xs) : ∀ (i1 : Int32) (h : rm_H) (s : rS) (r : rA), RS h s → s355_0 E w i1 s = some r → rx (b355_0 L xs zf D w (some 36) i1 h) h r := by
  intro i1 h s r hR hh
  unfold s355_0 at hh
  unfold b355_0
  refine rx_b (rs_gI hR 61 _ rfl) ?_
  rcases di hh with ⟨q1, hh⟩ | ⟨q1, hh⟩
  · refine rx_t q1 ?_
    exact r355_15 hD _ _ _ _ hR hh
  · refine rx_f q1 ?_
    exact r355_15 hD _ _ _ _ hR hh
def g355 (E : rE) (w : Nat) (As : List Value) (s : rS) : Option rA := match As with
  | [.ref 36, .int i1] => s355_0 E w i1 s
  | _ => none
theorem t355 {L : Nat} {xs : Nat → Int32} {zf : Value} {D : dD} {E : rE} {w : Nat} (hD : rO D E L xs) (As : List Value) (h : rm_H) (s : rS) (r : rA) (hR : RS h s) (hh : g355 E w As s = some r) : rx (f355 L xs zf D w As h) h r := by
  unfold g355 at hh
  split at hh
  · unfold f355
    dsimp only
    refine rx_b (a := some 36) rfl ?_
    exact r355_0 hD _ _ _ _ hR hh
  · cases hh
def s356_8 (E : rE) (w : Nat) : Nat → Int32 → Int64 → Int32 → rS → Option rA
  | 0, _, _, _, _ => none
  | n + 1, i1, j2, i4, s =>
    (rs_aI s 64 (i1 + 1)).bind fun x1 =>
    if mx_f2 .ge i4 x1 = true then
      rrI (some .int) (-1) s
    else
      (rs_aJ s 67 i4).bind fun y4 =>
      if mx_f1 .ne (lg_cmp y4 j2) = true then
        s356_8 E w n i1 j2 (i4 + 1) s
      else
        rrI (some .int) i4 s
theorem r356_8 {L : Nat} {xs : Nat → Int32} {zf : Value} {D : dD} {E : rE} {w : Nat} (hD : rO D E L xs) : ∀ (n : Nat) (i1 : Int32) (j2 : Int64) (i4 : Int32) (h : rm_H) (s : rS) (r : rA), RS h s → s356_8 E w n i1 j2 i4 s = some r → rx (b356_8 L xs zf D w n (some 36) i1 j2 i4 h) h r := by
  intro n
  induction n with
  | zero =>
    intro i1 j2 i4 h s r hR hh
    cases hh
  | succ n ih =>
    intro i1 j2 i4 h s r hR hh
    rw [s356_8] at hh
    rw [b356_8]
    refine rx_b (rs_gR hR 35 64 rfl) ?_
    obtain ⟨x1, q2, hh⟩ := db hh
    refine rx_b (rs_aI_ok hR q2) ?_
    rcases di hh with ⟨q3, hh⟩ | ⟨q3, hh⟩
    · refine rx_t q3 ?_
      exact rx_I hR hh
    · refine rx_f q3 ?_
      refine rx_b (rs_gR hR 39 67 rfl) ?_
      obtain ⟨y4, q5, hh⟩ := db hh
      refine rx_b (rs_aJ_ok hR q5) ?_
      rcases di hh with ⟨q6, hh⟩ | ⟨q6, hh⟩
      · refine rx_t q6 ?_
        exact ih _ _ _ _ _ _ hR hh
      · refine rx_f q6 ?_
        exact rx_I hR hh
def s356_0 (E : rE) (w : Nat) (i1 : Int32) (j2 : Int64) (s : rS) : Option rA :=
  (rs_aI s 64 i1).bind fun x1 =>
  s356_8 E w w i1 j2 x1 s
theorem r356_0 {L : Nat} {xs : Nat → Int32} {zf : Value} {D : dD} {E : rE} {w : Nat} (hD : rO D E L xs) : ∀ (i1 : Int32) (j2 : Int64) (h : rm_H) (s : rS) (r : rA), RS h s → s356_0 E w i1 j2 s = some r → rx (b356_0 L xs zf D w (some 36) i1 j2 h) h r := by
  intro i1 j2 h s r hR hh
  unfold s356_0 at hh
  unfold b356_0
  refine rx_b (rs_gR hR 35 64 rfl) ?_
  obtain ⟨x1, q2, hh⟩ := db hh
  refine rx_b (rs_aI_ok hR q2) ?_
  exact r356_8 hD _ _ _ _ _ _ _ hR hh
def g356 (E : rE) (w : Nat) (As : List Value) (s : rS) : Option rA := match As with
  | [.ref 36, .int i1, .long j2] => s356_0 E w i1 j2 s
  | _ => none
theorem t356 {L : Nat} {xs : Nat → Int32} {zf : Value} {D : dD} {E : rE} {w : Nat} (hD : rO D E L xs) (As : List Value) (h : rm_H) (s : rS) (r : rA) (hR : RS h s) (hh : g356 E w As s = some r) : rx (f356 L xs zf D w As h) h r := by
  unfold g356 at hh
  split at hh
  · unfold f356
    dsimp only
    refine rx_b (a := some 36) rfl ?_
    exact r356_0 hD _ _ _ _ _ hR hh
  · cases hh
def s357_63 (E : rE) (w : Nat) (s : rS) : Option rA :=
  rrI (some .int) (-1) s
theorem r357_63 {L : Nat} {xs : Nat → Int32} {zf : Value} {D : dD} {E : rE} {w : Nat} (hD : rO D E L xs) : ∀ (h : rm_H) (s : rS) (r : rA), RS h s → s357_63 E w s = some r → rx (b357_63 L xs zf D w h) h r := by
  intro h s r hR hh
  unfold s357_63 at hh
  unfold b357_63
  exact rx_I hR hh
def s357_134 (E : rE) (w : Nat) (i2 : Int32) (i4 : Int32) (s : rS) : Option rA :=
  ((E 344 [.ref 36, .int ((8 * (i2 + 1)) + i4)] s).bind rxI).bind fun x1 =>
  rrI (some .int) x1.1 x1.2
theorem r357_134 {L : Nat} {xs : Nat → Int32} {zf : Value} {D : dD} {E : rE} {w : Nat} (hD : rO D E L xs) : ∀ (i2 : Int32) (i4 : Int32) (h : rm_H) (s : rS) (r : rA), RS h s → s357_134 E w i2 i4 s = some r → rx (b357_134 L xs zf D w (some 36) i2 i4 h) h r := by
  intro i2 i4 h s r hR hh
  unfold s357_134 at hh
  unfold b357_134
  obtain ⟨x1, q2, hh⟩ := db hh
  obtain ⟨h3, e4, hR, f5⟩ := rs_vI hD hR q2
  refine rx_c e4 f5 ?_
  exact rx_I hR hh
def s357_106 (E : rE) (w : Nat) (i1 : Int32) (i2 : Int32) (i3 : Int32) (i4 : Int32) (s0 : Int32) (s : rS) : Option rA :=
  if mx_f1 .eq s0 = true then
    s357_134 E w i2 i4 s
  else
    ((E 359 [.ref 36, .int i3] s).bind rxI).bind fun x2 =>
    if mx_f1 .ne x2.1 = true then
      s357_134 E w i2 i4 x2.2
    else
      (rs_aI x2.2 50 i1).bind fun x8 =>
      ((E 347 [.ref 36, .int 6, .int x8] x2.2).bind rxI).bind fun x10 =>
      rrI (some .int) x10.1 x10.2
theorem r357_106 {L : Nat} {xs : Nat → Int32} {zf : Value} {D : dD} {E : rE} {w : Nat} (hD : rO D E L xs) : ∀ (i1 : Int32) (i2 : Int32) (i3 : Int32) (i4 : Int32) (s0 : Int32) (h : rm_H) (s : rS) (r : rA), RS h s → s357_106 E w i1 i2 i3 i4 s0 s = some r → rx (b357_106 L xs zf D w (some 36) i1 i2 i3 i4 s0 h) h r := by
  intro i1 i2 i3 i4 s0 h s r hR hh
  unfold s357_106 at hh
  unfold b357_106
  rcases di hh with ⟨q1, hh⟩ | ⟨q1, hh⟩
  · refine rx_t q1 ?_
    exact r357_134 hD _ _ _ _ _ hR hh
  · refine rx_f q1 ?_
    obtain ⟨x2, q3, hh⟩ := db hh
    obtain ⟨h4, e5, hR, f6⟩ := rs_vI hD hR q3
    refine rx_c e5 f6 ?_
    rcases di hh with ⟨q7, hh⟩ | ⟨q7, hh⟩
    · refine rx_t q7 ?_
      exact r357_134 hD _ _ _ _ _ hR hh
    · refine rx_f q7 ?_
      refine rx_b (rs_gR hR 17 50 rfl) ?_
      obtain ⟨x8, q9, hh⟩ := db hh
      refine rx_b (rs_aI_ok hR q9) ?_
      obtain ⟨x10, q11, hh⟩ := db hh
      obtain ⟨h12, e13, hR, f14⟩ := rs_vI hD hR q11
      refine rx_c e13 f14 ?_
      exact rx_I hR hh
def s357_101 (E : rE) (w : Nat) (i1 : Int32) (i2 : Int32) (i3 : Int32) (i4 : Int32) (s : rS) : Option rA :=
  s357_106 E w i1 i2 i3 i4 1 s
theorem r357_101 {L : Nat} {xs : Nat → Int32} {zf : Value} {D : dD} {E : rE} {w : Nat} (hD : rO D E L xs) : ∀ (i1 : Int32) (i2 : Int32) (i3 : Int32) (i4 : Int32) (h : rm_H) (s : rS) (r : rA), RS h s → s357_101 E w i1 i2 i3 i4 s = some r → rx (b357_101 L xs zf D w (some 36) i1 i2 i3 i4 h) h r := by
  intro i1 i2 i3 i4 h s r hR hh
  unfold s357_101 at hh
  unfold b357_101
  exact r357_106 hD _ _ _ _ _ _ _ _ hR hh
def s357_34 (E : rE) (w : Nat) (i1 : Int32) (i2 : Int32) (i3 : Int32) (s0 : Int32) (s : rS) : Option rA :=
  ((E 341 [.ref 36, .int i1] s).bind rxV).bind fun s1 =>
  if mx_f1 .gt (s1.1 57) = true then
    s357_63 E w s1
  else
    (rs_aI s1 51 i1).bind fun x7 =>
    ((E 358 [.ref 36, .int i1, .int i3, .int x7] s1).bind rxI).bind fun x9 =>
    if mx_f1 .ne x9.1 = true then
      (rs_aB x9.2 66 i2).bind fun x15 =>
      if mx_f1 .eq x15 = true then
        if mx_f1 .eq s0 = true then
          s357_101 E w i1 i2 i3 s0 x9.2
        else
          if mx_f2 .eq s0 1 = true then
            s357_101 E w i1 i2 i3 s0 x9.2
          else
            if mx_f2 .ne s0 3 = true then
              s357_106 E w i1 i2 i3 s0 0 x9.2
            else
              s357_101 E w i1 i2 i3 s0 x9.2
      else
        ((E 346 [.ref 36, .int i2] x9.2).bind rxI).bind fun x21 =>
        ((E 344 [.ref 36, .int x21.1] x21.2).bind rxI).bind fun x26 =>
        rrI (some .int) x26.1 x26.2
    else
      s357_63 E w x9.2
theorem r357_34 {L : Nat} {xs : Nat → Int32} {zf : Value} {D : dD} {E : rE} {w : Nat} (hD : rO D E L xs) : ∀ (i1 : Int32) (i2 : Int32) (i3 : Int32) (s0 : Int32) (h : rm_H) (s : rS) (r : rA), RS h s → s357_34 E w i1 i2 i3 s0 s = some r → rx (b357_34 L xs zf D w (some 36) i1 i2 i3 s0 h) h r := by
  intro i1 i2 i3 s0 h s r hR hh
  unfold s357_34 at hh
  unfold b357_34
  obtain ⟨s1, q2, hh⟩ := db hh
  obtain ⟨h3, e4, hR, f5⟩ := rs_vV hD hR q2
  refine rx_w e4 f5 ?_
  refine rx_b (rs_gI hR 57 _ rfl) ?_
  rcases di hh with ⟨q6, hh⟩ | ⟨q6, hh⟩
  · refine rx_t q6 ?_
    exact r357_63 hD  _ _ _ hR hh
  · refine rx_f q6 ?_
    refine rx_b (rs_gR hR 18 51 rfl) ?_
    obtain ⟨x7, q8, hh⟩ := db hh
    refine rx_b (rs_aI_ok hR q8) ?_
    obtain ⟨x9, q10, hh⟩ := db hh
    obtain ⟨h11, e12, hR, f13⟩ := rs_vI hD hR q10
    refine rx_c e12 f13 ?_
    rcases di hh with ⟨q14, hh⟩ | ⟨q14, hh⟩
    · refine rx_t q14 ?_
      refine rx_b (rs_gR hR 37 66 rfl) ?_
      obtain ⟨x15, q16, hh⟩ := db hh
      refine rx_b (rs_aB_ok hR q16) ?_
      rcases di hh with ⟨q17, hh⟩ | ⟨q17, hh⟩
      · refine rx_t q17 ?_
        rcases di hh with ⟨q18, hh⟩ | ⟨q18, hh⟩
        · refine rx_t q18 ?_
          exact r357_101 hD _ _ _ _ _ _ _ hR hh
        · refine rx_f q18 ?_
          rcases di hh with ⟨q19, hh⟩ | ⟨q19, hh⟩
          · refine rx_t q19 ?_
            exact r357_101 hD _ _ _ _ _ _ _ hR hh
          · refine rx_f q19 ?_
            rcases di hh with ⟨q20, hh⟩ | ⟨q20, hh⟩
            · refine rx_t q20 ?_
              exact r357_106 hD _ _ _ _ _ _ _ _ hR hh
            · refine rx_f q20 ?_
              exact r357_101 hD _ _ _ _ _ _ _ hR hh
      · refine rx_f q17 ?_
        obtain ⟨x21, q22, hh⟩ := db hh
        obtain ⟨h23, e24, hR, f25⟩ := rs_vI hD hR q22
        refine rx_c e24 f25 ?_
        obtain ⟨x26, q27, hh⟩ := db hh
        obtain ⟨h28, e29, hR, f30⟩ := rs_vI hD hR q27
        refine rx_c e29 f30 ?_
        exact rx_I hR hh
    · refine rx_f q14 ?_
      exact r357_63 hD  _ _ _ hR hh
def s357_0 (E : rE) (w : Nat) (i1 : Int32) (s : rS) : Option rA :=
  (rs_aI s 53 i1).bind fun x1 =>
  (rs_aI s 65 x1).bind fun x3 =>
  (rs_aI s 54 i1).bind fun x5 =>
  if mx_f2 .ne x5 (-1) = true then
    (rs_aI s 54 i1).bind fun x8 =>
    s357_34 E w i1 x1 x3 x8 s
  else
    s357_34 E w i1 x1 x3 2 s
theorem r357_0 {L : Nat} {xs : Nat → Int32} {zf : Value} {D : dD} {E : rE} {w : Nat} (hD : rO D E L xs) : ∀ (i1 : Int32) (h : rm_H) (s : rS) (r : rA), RS h s → s357_0 E w i1 s = some r → rx (b357_0 L xs zf D w (some 36) i1 h) h r := by
  intro i1 h s r hR hh
  unfold s357_0 at hh
  unfold b357_0
  refine rx_b (rs_gR hR 20 53 rfl) ?_
  obtain ⟨x1, q2, hh⟩ := db hh
  refine rx_b (rs_aI_ok hR q2) ?_
  refine rx_b (rs_gR hR 36 65 rfl) ?_
  obtain ⟨x3, q4, hh⟩ := db hh
  refine rx_b (rs_aI_ok hR q4) ?_
  refine rx_b (rs_gR hR 21 54 rfl) ?_
  obtain ⟨x5, q6, hh⟩ := db hh
  refine rx_b (rs_aI_ok hR q6) ?_
  rcases di hh with ⟨q7, hh⟩ | ⟨q7, hh⟩
  · refine rx_t q7 ?_
    refine rx_b (rs_gR hR 21 54 rfl) ?_
    obtain ⟨x8, q9, hh⟩ := db hh
    refine rx_b (rs_aI_ok hR q9) ?_
    exact r357_34 hD _ _ _ _ _ _ _ hR hh
  · refine rx_f q7 ?_
    exact r357_34 hD _ _ _ _ _ _ _ hR hh
def g357 (E : rE) (w : Nat) (As : List Value) (s : rS) : Option rA := match As with
  | [.ref 36, .int i1] => s357_0 E w i1 s
  | _ => none
theorem t357 {L : Nat} {xs : Nat → Int32} {zf : Value} {D : dD} {E : rE} {w : Nat} (hD : rO D E L xs) (As : List Value) (h : rm_H) (s : rS) (r : rA) (hR : RS h s) (hh : g357 E w As s = some r) : rx (f357 L xs zf D w As h) h r := by
  unfold g357 at hh
  split at hh
  · unfold f357
    dsimp only
    refine rx_b (a := some 36) rfl ?_
    exact r357_0 hD _ _ _ _ hR hh
  · cases hh
def s358_104 (E : rE) (w : Nat) (i5 : Int32) (s : rS) : Option rA :=
  rrI (some .boolean) i5 s
theorem r358_104 {L : Nat} {xs : Nat → Int32} {zf : Value} {D : dD} {E : rE} {w : Nat} (hD : rO D E L xs) : ∀ (i5 : Int32) (h : rm_H) (s : rS) (r : rA), RS h s → s358_104 E w i5 s = some r → rx (b358_104 L xs zf D w i5 h) h r := by
  intro i5 h s r hR hh
  unfold s358_104 at hh
  unfold b358_104
  exact rx_I hR hh
def s358_52 (E : rE) (w : Nat) : Nat → Int32 → Int32 → Int32 → rS → Option rA
  | 0, _, _, _, _ => none
  | n + 1, i4, i5, i6, s =>
    if mx_f1 .eq i6 = true then
      s358_104 E w i5 s
    else
      if mx_f1 .eq i5 = true then
        s358_104 E w i5 s
      else
        (rs_aI s 86 i6).bind fun x3 =>
        (rs_aI s 81 i4).bind fun x5 =>
        (rs_aI s 60 x5).bind fun x7 =>
        ((E 353 [.ref 36, .int i6, .int x3, .int x7] s).bind rxI).bind fun x9 =>
        (rs_aI x9.2 48 i6).bind fun x14 =>
        s358_52 E w n (i4 + 1) x9.1 x14 x9.2
theorem r358_52 {L : Nat} {xs : Nat → Int32} {zf : Value} {D : dD} {E : rE} {w : Nat} (hD : rO D E L xs) : ∀ (n : Nat) (i4 : Int32) (i5 : Int32) (i6 : Int32) (h : rm_H) (s : rS) (r : rA), RS h s → s358_52 E w n i4 i5 i6 s = some r → rx (b358_52 L xs zf D w n (some 36) i4 i5 i6 h) h r := by
  intro n
  induction n with
  | zero =>
    intro i4 i5 i6 h s r hR hh
    cases hh
  | succ n ih =>
    intro i4 i5 i6 h s r hR hh
    rw [s358_52] at hh
    rw [b358_52]
    rcases di hh with ⟨q1, hh⟩ | ⟨q1, hh⟩
    · refine rx_t q1 ?_
      exact r358_104 hD _ _ _ _ hR hh
    · refine rx_f q1 ?_
      rcases di hh with ⟨q2, hh⟩ | ⟨q2, hh⟩
      · refine rx_t q2 ?_
        exact r358_104 hD _ _ _ _ hR hh
      · refine rx_f q2 ?_
        refine rx_b (rs_gR hR 71 86 rfl) ?_
        obtain ⟨x3, q4, hh⟩ := db hh
        refine rx_b (rs_aI_ok hR q4) ?_
        refine rx_b (rs_gR hR 30 60 rfl) ?_
        refine rx_b (rs_gR hR 55 81 rfl) ?_
        obtain ⟨x5, q6, hh⟩ := db hh
        refine rx_b (rs_aI_ok hR q6) ?_
        obtain ⟨x7, q8, hh⟩ := db hh
        refine rx_b (rs_aI_ok hR q8) ?_
        obtain ⟨x9, q10, hh⟩ := db hh
        obtain ⟨h11, e12, hR, f13⟩ := rs_vI hD hR q10
        refine rx_c e12 f13 ?_
        refine rx_b (rs_gR hR 15 48 rfl) ?_
        obtain ⟨x14, q15, hh⟩ := db hh
        refine rx_b (rs_aI_ok hR q15) ?_
        exact ih _ _ _ _ _ _ hR hh
def s358_0 (E : rE) (w : Nat) (i1 : Int32) (i2 : Int32) (i3 : Int32) (s : rS) : Option rA :=
  (rs_aI s 52 i1).bind fun x1 =>
  (rs_aI s 77 (i2 + 1)).bind fun x3 =>
  (rs_aI s 77 i2).bind fun x5 =>
  if mx_f2 .eq x1 (x3 - x5) = true then
    (rs_aI s 77 i2).bind fun x8 =>
    (rs_aI s 45 i1).bind fun x10 =>
    s358_52 E w w x8 1 x10 s
  else
    ((E 305 [.ref 36, .int 8, .int i3] s).bind rxV).bind fun s12 =>
    rrI (some .boolean) 0 s12
theorem r358_0 {L : Nat} {xs : Nat → Int32} {zf : Value} {D : dD} {E : rE} {w : Nat} (hD : rO D E L xs) : ∀ (i1 : Int32) (i2 : Int32) (i3 : Int32) (h : rm_H) (s : rS) (r : rA), RS h s → s358_0 E w i1 i2 i3 s = some r → rx (b358_0 L xs zf D w (some 36) i1 i2 i3 h) h r := by
  intro i1 i2 i3 h s r hR hh
  unfold s358_0 at hh
  unfold b358_0
  refine rx_b (rs_gR hR 19 52 rfl) ?_
  obtain ⟨x1, q2, hh⟩ := db hh
  refine rx_b (rs_aI_ok hR q2) ?_
  refine rx_b (rs_gR hR 50 77 rfl) ?_
  obtain ⟨x3, q4, hh⟩ := db hh
  refine rx_b (rs_aI_ok hR q4) ?_
  refine rx_b (rs_gR hR 50 77 rfl) ?_
  obtain ⟨x5, q6, hh⟩ := db hh
  refine rx_b (rs_aI_ok hR q6) ?_
  rcases di hh with ⟨q7, hh⟩ | ⟨q7, hh⟩
  · refine rx_t q7 ?_
    refine rx_b (rs_gR hR 50 77 rfl) ?_
    obtain ⟨x8, q9, hh⟩ := db hh
    refine rx_b (rs_aI_ok hR q9) ?_
    refine rx_b (rs_gR hR 12 45 rfl) ?_
    obtain ⟨x10, q11, hh⟩ := db hh
    refine rx_b (rs_aI_ok hR q11) ?_
    exact r358_52 hD _ _ _ _ _ _ _ hR hh
  · refine rx_f q7 ?_
    obtain ⟨s12, q13, hh⟩ := db hh
    obtain ⟨h14, e15, hR, f16⟩ := rs_vV hD hR q13
    refine rx_w e15 f16 ?_
    exact rx_I hR hh
def g358 (E : rE) (w : Nat) (As : List Value) (s : rS) : Option rA := match As with
  | [.ref 36, .int i1, .int i2, .int i3] => s358_0 E w i1 i2 i3 s
  | _ => none
theorem t358 {L : Nat} {xs : Nat → Int32} {zf : Value} {D : dD} {E : rE} {w : Nat} (hD : rO D E L xs) (As : List Value) (h : rm_H) (s : rS) (r : rA) (hR : RS h s) (hh : g358 E w As s = some r) : rx (f358 L xs zf D w As h) h r := by
  unfold g358 at hh
  split at hh
  · unfold f358
    dsimp only
    refine rx_b (a := some 36) rfl ?_
    exact r358_0 hD _ _ _ _ _ _ hR hh
  · cases hh
def s359_47 (E : rE) (w : Nat) (K9 : Int32 → Int32 → Int32 → rS → Option rA) (i1 : Int32) (i3 : Int32) (s0 : Int32) (s : rS) : Option rA :=
  K9 i1 s0 (i3 + 1) s
theorem r359_47 {L : Nat} {xs : Nat → Int32} {zf : Value} {D : dD} {E : rE} {w : Nat} {K9 : Int32 → Int32 → Int32 → rS → Option rA} {B9 : Option Nat → Int32 → Int32 → Int32 → rm_H → Option dR} (hD : rO D E L xs) (hK9 : ∀ (i1 : Int32) (i2 : Int32) (i3 : Int32) (h : rm_H) (s : rS) (r : rA), RS h s → K9 i1 i2 i3 s = some r → rx (B9 (some 36) i1 i2 i3 h) h r) : ∀ (i1 : Int32) (i3 : Int32) (s0 : Int32) (h : rm_H) (s : rS) (r : rA), RS h s → s359_47 E w K9 i1 i3 s0 s = some r → rx (b359_47 L xs zf D w B9 (some 36) i1 i3 s0 h) h r := by
  intro i1 i3 s0 h s r hR hh
  unfold s359_47 at hh
  unfold b359_47
  exact hK9 _ _ _ _ _ _ hR hh
def s359_46 (E : rE) (w : Nat) (K9 : Int32 → Int32 → Int32 → rS → Option rA) (i1 : Int32) (i3 : Int32) (s : rS) : Option rA :=
  s359_47 E w K9 i1 i3 0 s
theorem r359_46 {L : Nat} {xs : Nat → Int32} {zf : Value} {D : dD} {E : rE} {w : Nat} {K9 : Int32 → Int32 → Int32 → rS → Option rA} {B9 : Option Nat → Int32 → Int32 → Int32 → rm_H → Option dR} (hD : rO D E L xs) (hK9 : ∀ (i1 : Int32) (i2 : Int32) (i3 : Int32) (h : rm_H) (s : rS) (r : rA), RS h s → K9 i1 i2 i3 s = some r → rx (B9 (some 36) i1 i2 i3 h) h r) : ∀ (i1 : Int32) (i3 : Int32) (h : rm_H) (s : rS) (r : rA), RS h s → s359_46 E w K9 i1 i3 s = some r → rx (b359_46 L xs zf D w B9 (some 36) i1 i3 h) h r := by
  intro i1 i3 h s r hR hh
  unfold s359_46 at hh
  unfold b359_46
  exact r359_47 hD hK9 _ _ _ _ _ _ hR hh
def s359_9 (E : rE) (w : Nat) : Nat → Int32 → Int32 → Int32 → rS → Option rA
  | 0, _, _, _, _ => none
  | n + 1, i1, i2, i3, s =>
    (rs_aI s 77 (i1 + 1)).bind fun x1 =>
    if mx_f2 .ge i3 x1 = true then
      rrI (some .boolean) i2 s
    else
      if mx_f1 .eq i2 = true then
        s359_46 E w (s359_9 E w n) i1 i3 s
      else
        (rs_aI s 81 i3).bind fun x5 =>
        (rs_aI s 60 x5).bind fun x7 =>
        ((E 331 [.int x7] s).bind rxI).bind fun x9 =>
        if mx_f1 .eq x9.1 = true then
          s359_46 E w (s359_9 E w n) i1 i3 x9.2
        else
          s359_47 E w (s359_9 E w n) i1 i3 1 x9.2
theorem r359_9 {L : Nat} {xs : Nat → Int32} {zf : Value} {D : dD} {E : rE} {w : Nat} (hD : rO D E L xs) : ∀ (n : Nat) (i1 : Int32) (i2 : Int32) (i3 : Int32) (h : rm_H) (s : rS) (r : rA), RS h s → s359_9 E w n i1 i2 i3 s = some r → rx (b359_9 L xs zf D w n (some 36) i1 i2 i3 h) h r := by
  intro n
  induction n with
  | zero =>
    intro i1 i2 i3 h s r hR hh
    cases hh
  | succ n ih =>
    intro i1 i2 i3 h s r hR hh
    rw [s359_9] at hh
    rw [b359_9]
    refine rx_b (rs_gR hR 50 77 rfl) ?_
    obtain ⟨x1, q2, hh⟩ := db hh
    refine rx_b (rs_aI_ok hR q2) ?_
    rcases di hh with ⟨q3, hh⟩ | ⟨q3, hh⟩
    · refine rx_t q3 ?_
      exact rx_I hR hh
    · refine rx_f q3 ?_
      rcases di hh with ⟨q4, hh⟩ | ⟨q4, hh⟩
      · refine rx_t q4 ?_
        exact r359_46 hD ih _ _ _ _ _ hR hh
      · refine rx_f q4 ?_
        refine rx_b (rs_gR hR 30 60 rfl) ?_
        refine rx_b (rs_gR hR 55 81 rfl) ?_
        obtain ⟨x5, q6, hh⟩ := db hh
        refine rx_b (rs_aI_ok hR q6) ?_
        obtain ⟨x7, q8, hh⟩ := db hh
        refine rx_b (rs_aI_ok hR q8) ?_
        obtain ⟨x9, q10, hh⟩ := db hh
        obtain ⟨h11, e12, hR, f13⟩ := rs_cI hD hR q10
        refine rx_c e12 f13 ?_
        rcases di hh with ⟨q14, hh⟩ | ⟨q14, hh⟩
        · refine rx_t q14 ?_
          exact r359_46 hD ih _ _ _ _ _ hR hh
        · refine rx_f q14 ?_
          exact r359_47 hD ih _ _ _ _ _ _ hR hh
def s359_0 (E : rE) (w : Nat) (i1 : Int32) (s : rS) : Option rA :=
  (rs_aI s 77 i1).bind fun x1 =>
  s359_9 E w w i1 1 x1 s
theorem r359_0 {L : Nat} {xs : Nat → Int32} {zf : Value} {D : dD} {E : rE} {w : Nat} (hD : rO D E L xs) : ∀ (i1 : Int32) (h : rm_H) (s : rS) (r : rA), RS h s → s359_0 E w i1 s = some r → rx (b359_0 L xs zf D w (some 36) i1 h) h r := by
  intro i1 h s r hR hh
  unfold s359_0 at hh
  unfold b359_0
  refine rx_b (rs_gR hR 50 77 rfl) ?_
  obtain ⟨x1, q2, hh⟩ := db hh
  refine rx_b (rs_aI_ok hR q2) ?_
  exact r359_9 hD _ _ _ _ _ _ _ hR hh
def g359 (E : rE) (w : Nat) (As : List Value) (s : rS) : Option rA := match As with
  | [.ref 36, .int i1] => s359_0 E w i1 s
  | _ => none
theorem t359 {L : Nat} {xs : Nat → Int32} {zf : Value} {D : dD} {E : rE} {w : Nat} (hD : rO D E L xs) (As : List Value) (h : rm_H) (s : rS) (r : rA) (hR : RS h s) (hh : g359 E w As s = some r) : rx (f359 L xs zf D w As h) h r := by
  unfold g359 at hh
  split at hh
  · unfold f359
    dsimp only
    refine rx_b (a := some 36) rfl ?_
    exact r359_0 hD _ _ _ _ hR hh
  · cases hh
def s360_84 (E : rE) (w : Nat) (s0 : Int32) (s1 : Int32) (s : rS) : Option rA :=
  ((E 344 [.ref 36, .int (s1 + s0)] s).bind rxI).bind fun x1 =>
  rrI (some .int) x1.1 x1.2
theorem r360_84 {L : Nat} {xs : Nat → Int32} {zf : Value} {D : dD} {E : rE} {w : Nat} (hD : rO D E L xs) : ∀ (s0 : Int32) (s1 : Int32) (h : rm_H) (s : rS) (r : rA), RS h s → s360_84 E w s0 s1 s = some r → rx (b360_84 L xs zf D w s0 s1 (some 36) h) h r := by
  intro s0 s1 h s r hR hh
  unfold s360_84 at hh
  unfold b360_84
  obtain ⟨x1, q2, hh⟩ := db hh
  obtain ⟨h3, e4, hR, f5⟩ := rs_vI hD hR q2
  refine rx_c e4 f5 ?_
  exact rx_I hR hh
def s360_0 (E : rE) (w : Nat) (i1 : Int32) (s : rS) : Option rA :=
  (rs_pI s 63 ((s.1 63) + 1)).bind fun s1 =>
  (rs_aI s1 45 i1).bind fun x6 =>
  ((E 336 [.ref 36, .int x6, .int 2] s1).bind rxV).bind fun s8 =>
  (rs_pI s8 63 ((s8.1 63) - 1)).bind fun s13 =>
  if mx_f1 .le (s13.1 57) = true then
    ((E 333 [.int (s13.1 65)] s13).bind rxI).bind fun x19 =>
    if mx_f1 .ne x19.1 = true then
      if mx_f2 .ge ((s13.1 65) - (s13.1 65) / 8 * 8) 3 = true then
        s360_84 E w 3 ((x19.2.1 65) - ((s13.1 65) - (s13.1 65) / 8 * 8)) x19.2
      else
        s360_84 E w 0 ((x19.2.1 65) - ((s13.1 65) - (s13.1 65) / 8 * 8)) x19.2
    else
      ((E 344 [.ref 36, .int (x19.2.1 65)] x19.2).bind rxI).bind fun x26 =>
      rrI (some .int) x26.1 x26.2
  else
    rrI (some .int) (-1) s13
theorem r360_0 {L : Nat} {xs : Nat → Int32} {zf : Value} {D : dD} {E : rE} {w : Nat} (hD : rO D E L xs) : ∀ (i1 : Int32) (h : rm_H) (s : rS) (r : rA), RS h s → s360_0 E w i1 s = some r → rx (b360_0 L xs zf D w (some 36) i1 h) h r := by
  intro i1 h s r hR hh
  unfold s360_0 at hh
  unfold b360_0
  refine rx_b (rs_gI hR 63 _ rfl) ?_
  obtain ⟨s1, q2, hh⟩ := db hh
  obtain ⟨h3, e4, hR, f5⟩ := rs_pI_ok (rs_m63 _ _) (by decide) hR q2
  refine rx_w e4 f5 ?_
  refine rx_b (rs_gR hR 12 45 rfl) ?_
  obtain ⟨x6, q7, hh⟩ := db hh
  refine rx_b (rs_aI_ok hR q7) ?_
  obtain ⟨s8, q9, hh⟩ := db hh
  obtain ⟨h10, e11, hR, f12⟩ := rs_vV hD hR q9
  refine rx_w e11 f12 ?_
  refine rx_b (rs_gI hR 63 _ rfl) ?_
  obtain ⟨s13, q14, hh⟩ := db hh
  obtain ⟨h15, e16, hR, f17⟩ := rs_pI_ok (rs_m63 _ _) (by decide) hR q14
  refine rx_w e16 f17 ?_
  refine rx_b (rs_gI hR 57 _ rfl) ?_
  rcases di hh with ⟨q18, hh⟩ | ⟨q18, hh⟩
  · refine rx_t q18 ?_
    refine rx_b (rs_gI hR 65 _ rfl) ?_
    refine rx_b (rs_gI hR 65 _ rfl) ?_
    obtain ⟨x19, q20, hh⟩ := db hh
    obtain ⟨h21, e22, hR, f23⟩ := rs_cI hD hR q20
    refine rx_c e22 f23 ?_
    rcases di hh with ⟨q24, hh⟩ | ⟨q24, hh⟩
    · refine rx_t q24 ?_
      refine rx_b (rs_gI hR 65 _ rfl) ?_
      rcases di hh with ⟨q25, hh⟩ | ⟨q25, hh⟩
      · refine rx_t q25 ?_
        exact r360_84 hD _ _ _ _ _ hR hh
      · refine rx_f q25 ?_
        exact r360_84 hD _ _ _ _ _ hR hh
    · refine rx_f q24 ?_
      refine rx_b (rs_gI hR 65 _ rfl) ?_
      obtain ⟨x26, q27, hh⟩ := db hh
      obtain ⟨h28, e29, hR, f30⟩ := rs_vI hD hR q27
      refine rx_c e29 f30 ?_
      exact rx_I hR hh
  · refine rx_f q18 ?_
    exact rx_I hR hh
def g360 (E : rE) (w : Nat) (As : List Value) (s : rS) : Option rA := match As with
  | [.ref 36, .int i1] => s360_0 E w i1 s
  | _ => none
theorem t360 {L : Nat} {xs : Nat → Int32} {zf : Value} {D : dD} {E : rE} {w : Nat} (hD : rO D E L xs) (As : List Value) (h : rm_H) (s : rS) (r : rA) (hR : RS h s) (hh : g360 E w As s = some r) : rx (f360 L xs zf D w As h) h r := by
  unfold g360 at hh
  split at hh
  · unfold f360
    dsimp only
    refine rx_b (a := some 36) rfl ?_
    exact r360_0 hD _ _ _ _ hR hh
  · cases hh
def s361_0 (E : rE) (w : Nat) (i1 : Int32) (i2 : Int32) (i3 : Int32) (s : rS) : Option rA :=
  (rs_aI s 44 i1).bind fun x1 =>
  if dsw 10 12 x1 = true then
    (rs_aI s 46 i1).bind fun x4 =>
    ((E 339 [.ref 36, .int x4] s).bind rxI).bind fun x6 =>
    if mx_f1 .le (x6.2.1 57) = true then
      ((E 367 [.ref 36, .int i2, .int i3] x6.2).bind rxV).bind fun s12 =>
      (rs_aI s12 46 i1).bind fun x17 =>
      ((E 367 [.ref 36, .int x17, .int x6.1] s12).bind rxV).bind fun s19 =>
      ((E 344 [.ref 36, .int 0] s19).bind rxI).bind fun x24 =>
      rrI (some .int) x24.1 x24.2
    else
      rrI (some .int) (-1) x6.2
  else if x1 = 10 then
    ((E 362 [.ref 36, .int i1, .int i2, .int i3] s).bind rxI).bind fun x30 =>
    rrI (some .int) x30.1 x30.2
  else if x1 = 11 then
    ((E 363 [.ref 36, .int i1, .int i2, .int i3] s).bind rxI).bind fun x36 =>
    rrI (some .int) x36.1 x36.2
  else if x1 = 12 then
    ((E 366 [.ref 36, .int i1, .int i2, .int i3] s).bind rxI).bind fun x42 =>
    rrI (some .int) x42.1 x42.2
  else none
theorem r361_0 {L : Nat} {xs : Nat → Int32} {zf : Value} {D : dD} {E : rE} {w : Nat} (hD : rO D E L xs) : ∀ (i1 : Int32) (i2 : Int32) (i3 : Int32) (h : rm_H) (s : rS) (r : rA), RS h s → s361_0 E w i1 i2 i3 s = some r → rx (b361_0 L xs zf D w (some 36) i1 i2 i3 h) h r := by
  intro i1 i2 i3 h s r hR hh
  unfold s361_0 at hh
  unfold b361_0
  refine rx_b (rs_gR hR 11 44 rfl) ?_
  obtain ⟨x1, q2, hh⟩ := db hh
  refine rx_b (rs_aI_ok hR q2) ?_
  rcases di hh with ⟨q3, hh⟩ | ⟨q3, hh⟩
  · refine rx_t q3 ?_
    refine rx_b (rs_gR hR 13 46 rfl) ?_
    obtain ⟨x4, q5, hh⟩ := db hh
    refine rx_b (rs_aI_ok hR q5) ?_
    obtain ⟨x6, q7, hh⟩ := db hh
    obtain ⟨h8, e9, hR, f10⟩ := rs_vI hD hR q7
    refine rx_c e9 f10 ?_
    refine rx_b (rs_gI hR 57 _ rfl) ?_
    rcases di hh with ⟨q11, hh⟩ | ⟨q11, hh⟩
    · refine rx_t q11 ?_
      obtain ⟨s12, q13, hh⟩ := db hh
      obtain ⟨h14, e15, hR, f16⟩ := rs_vV hD hR q13
      refine rx_w e15 f16 ?_
      refine rx_b (rs_gR hR 13 46 rfl) ?_
      obtain ⟨x17, q18, hh⟩ := db hh
      refine rx_b (rs_aI_ok hR q18) ?_
      obtain ⟨s19, q20, hh⟩ := db hh
      obtain ⟨h21, e22, hR, f23⟩ := rs_vV hD hR q20
      refine rx_w e22 f23 ?_
      obtain ⟨x24, q25, hh⟩ := db hh
      obtain ⟨h26, e27, hR, f28⟩ := rs_vI hD hR q25
      refine rx_c e27 f28 ?_
      exact rx_I hR hh
    · refine rx_f q11 ?_
      exact rx_I hR hh
  refine rx_f q3 ?_
  rcases dp hh with ⟨q29, hh⟩ | ⟨q29, hh⟩
  · refine rx_pt q29 ?_
    obtain ⟨x30, q31, hh⟩ := db hh
    obtain ⟨h32, e33, hR, f34⟩ := rs_vI hD hR q31
    refine rx_c e33 f34 ?_
    exact rx_I hR hh
  refine rx_pf q29 ?_
  rcases dp hh with ⟨q35, hh⟩ | ⟨q35, hh⟩
  · refine rx_pt q35 ?_
    obtain ⟨x36, q37, hh⟩ := db hh
    obtain ⟨h38, e39, hR, f40⟩ := rs_vI hD hR q37
    refine rx_c e39 f40 ?_
    exact rx_I hR hh
  refine rx_pf q35 ?_
  rcases dp hh with ⟨q41, hh⟩ | ⟨q41, hh⟩
  · refine rx_pt q41 ?_
    obtain ⟨x42, q43, hh⟩ := db hh
    obtain ⟨h44, e45, hR, f46⟩ := rs_vI hD hR q43
    refine rx_c e45 f46 ?_
    exact rx_I hR hh
  refine rx_pf q41 ?_
  cases hh
def g361 (E : rE) (w : Nat) (As : List Value) (s : rS) : Option rA := match As with
  | [.ref 36, .int i1, .int i2, .int i3] => s361_0 E w i1 i2 i3 s
  | _ => none
theorem t361 {L : Nat} {xs : Nat → Int32} {zf : Value} {D : dD} {E : rE} {w : Nat} (hD : rO D E L xs) (As : List Value) (h : rm_H) (s : rS) (r : rA) (hR : RS h s) (hh : g361 E w As s = some r) : rx (f361 L xs zf D w As h) h r := by
  unfold g361 at hh
  split at hh
  · unfold f361
    dsimp only
    refine rx_b (a := some 36) rfl ?_
    exact r361_0 hD _ _ _ _ _ _ hR hh
  · cases hh
def s362_158 (E : rE) (w : Nat) (s0 : Int32) (s : rS) : Option rA :=
  rrI (some .int) s0 s
theorem r362_158 {L : Nat} {xs : Nat → Int32} {zf : Value} {D : dD} {E : rE} {w : Nat} (hD : rO D E L xs) : ∀ (s0 : Int32) (h : rm_H) (s : rS) (r : rA), RS h s → s362_158 E w s0 s = some r → rx (b362_158 L xs zf D w s0 h) h r := by
  intro s0 h s r hR hh
  unfold s362_158 at hh
  unfold b362_158
  exact rx_I hR hh
def s362_87 (E : rE) (w : Nat) (i1 : Int32) (i4 : Int32) (i5 : Int32) (i6 : Int32) (s0 : Int32) (s : rS) : Option rA :=
  if mx_f2 .ne s0 (-1) = true then
    (rs_aI s 64 i4).bind fun x2 =>
    (rs_sI s 53 i1 (i5 - x2)).bind fun s4 =>
    (rs_pI s4 60 3).bind fun s9 =>
    (rs_pI s9 61 0).bind fun s14 =>
    ((E 333 [.int i6] s14).bind rxI).bind fun x19 =>
    if mx_f1 .eq x19.1 = true then
      s362_158 E w i6 x19.2
    else
      s362_158 E w ((i6 - (i6 - i6 / 8 * 8)) + s0) x19.2
  else
    (rs_aI s 51 i1).bind fun x25 =>
    ((E 347 [.ref 36, .int 6, .int x25] s).bind rxI).bind fun x27 =>
    rrI (some .int) x27.1 x27.2
theorem r362_87 {L : Nat} {xs : Nat → Int32} {zf : Value} {D : dD} {E : rE} {w : Nat} (hD : rO D E L xs) : ∀ (i1 : Int32) (i4 : Int32) (i5 : Int32) (i6 : Int32) (s0 : Int32) (h : rm_H) (s : rS) (r : rA), RS h s → s362_87 E w i1 i4 i5 i6 s0 s = some r → rx (b362_87 L xs zf D w (some 36) i1 i4 i5 i6 s0 h) h r := by
  intro i1 i4 i5 i6 s0 h s r hR hh
  unfold s362_87 at hh
  unfold b362_87
  rcases di hh with ⟨q1, hh⟩ | ⟨q1, hh⟩
  · refine rx_t q1 ?_
    refine rx_b (rs_gR hR 20 53 rfl) ?_
    refine rx_b (rs_gR hR 35 64 rfl) ?_
    obtain ⟨x2, q3, hh⟩ := db hh
    refine rx_b (rs_aI_ok hR q3) ?_
    obtain ⟨s4, q5, hh⟩ := db hh
    obtain ⟨h6, e7, hR, f8⟩ := rs_sI_ok hR q5
    refine rx_w e7 f8 ?_
    obtain ⟨s9, q10, hh⟩ := db hh
    obtain ⟨h11, e12, hR, f13⟩ := rs_pI_ok (rs_m60 _ _) (by decide) hR q10
    refine rx_w e12 f13 ?_
    obtain ⟨s14, q15, hh⟩ := db hh
    obtain ⟨h16, e17, hR, f18⟩ := rs_pI_ok (rs_m61 _ _) (by decide) hR q15
    refine rx_w e17 f18 ?_
    obtain ⟨x19, q20, hh⟩ := db hh
    obtain ⟨h21, e22, hR, f23⟩ := rs_cI hD hR q20
    refine rx_c e22 f23 ?_
    rcases di hh with ⟨q24, hh⟩ | ⟨q24, hh⟩
    · refine rx_t q24 ?_
      exact r362_158 hD _ _ _ _ hR hh
    · refine rx_f q24 ?_
      exact r362_158 hD _ _ _ _ hR hh
  · refine rx_f q1 ?_
    refine rx_b (rs_gR hR 18 51 rfl) ?_
    obtain ⟨x25, q26, hh⟩ := db hh
    refine rx_b (rs_aI_ok hR q26) ?_
    obtain ⟨x27, q28, hh⟩ := db hh
    obtain ⟨h29, e30, hR, f31⟩ := rs_vI hD hR q28
    refine rx_c e30 f31 ?_
    exact rx_I hR hh
def s362_0 (E : rE) (w : Nat) (i1 : Int32) (i2 : Int32) (i3 : Int32) (s : rS) : Option rA :=
  ((E 354 [.ref 36, .int i2, .int i3] s).bind rxI).bind fun x1 =>
  if mx_f2 .ne x1.1 (-1) = true then
    (rs_aJ x1.2 56 i1).bind fun y7 =>
    ((E 356 [.ref 36, .int x1.1, .long y7] x1.2).bind rxI).bind fun x9 =>
    if mx_f2 .ne x9.1 (-1) = true then
      (rs_aI x9.2 69 x9.1).bind fun x15 =>
      (rs_aI x9.2 60 x15).bind fun x17 =>
      ((E 333 [.int x17] x9.2).bind rxI).bind fun x19 =>
      if mx_f1 .eq x19.1 = true then
        s362_87 E w i1 x1.1 x9.1 x17 0 x19.2
      else
        ((E 355 [.ref 36, .int i3] x19.2).bind rxI).bind fun x25 =>
        ((E 291 [.int x25.1, .int (x17 - x17 / 8 * 8)] x25.2).bind rxI).bind fun x30 =>
        s362_87 E w i1 x1.1 x9.1 x17 x30.1 x30.2
    else
      (rs_aI x9.2 51 i1).bind fun x35 =>
      ((E 347 [.ref 36, .int 3, .int x35] x9.2).bind rxI).bind fun x37 =>
      rrI (some .int) x37.1 x37.2
  else
    rrI (some .int) (-1) x1.2
theorem r362_0 {L : Nat} {xs : Nat → Int32} {zf : Value} {D : dD} {E : rE} {w : Nat} (hD : rO D E L xs) : ∀ (i1 : Int32) (i2 : Int32) (i3 : Int32) (h : rm_H) (s : rS) (r : rA), RS h s → s362_0 E w i1 i2 i3 s = some r → rx (b362_0 L xs zf D w (some 36) i1 i2 i3 h) h r := by
  intro i1 i2 i3 h s r hR hh
  unfold s362_0 at hh
  unfold b362_0
  obtain ⟨x1, q2, hh⟩ := db hh
  obtain ⟨h3, e4, hR, f5⟩ := rs_vI hD hR q2
  refine rx_c e4 f5 ?_
  rcases di hh with ⟨q6, hh⟩ | ⟨q6, hh⟩
  · refine rx_t q6 ?_
    refine rx_b (rs_gR hR 23 56 rfl) ?_
    obtain ⟨y7, q8, hh⟩ := db hh
    refine rx_b (rs_aJ_ok hR q8) ?_
    obtain ⟨x9, q10, hh⟩ := db hh
    obtain ⟨h11, e12, hR, f13⟩ := rs_vI hD hR q10
    refine rx_c e12 f13 ?_
    rcases di hh with ⟨q14, hh⟩ | ⟨q14, hh⟩
    · refine rx_t q14 ?_
      refine rx_b (rs_gR hR 30 60 rfl) ?_
      refine rx_b (rs_gR hR 41 69 rfl) ?_
      obtain ⟨x15, q16, hh⟩ := db hh
      refine rx_b (rs_aI_ok hR q16) ?_
      obtain ⟨x17, q18, hh⟩ := db hh
      refine rx_b (rs_aI_ok hR q18) ?_
      obtain ⟨x19, q20, hh⟩ := db hh
      obtain ⟨h21, e22, hR, f23⟩ := rs_cI hD hR q20
      refine rx_c e22 f23 ?_
      rcases di hh with ⟨q24, hh⟩ | ⟨q24, hh⟩
      · refine rx_t q24 ?_
        exact r362_87 hD _ _ _ _ _ _ _ _ hR hh
      · refine rx_f q24 ?_
        obtain ⟨x25, q26, hh⟩ := db hh
        obtain ⟨h27, e28, hR, f29⟩ := rs_vI hD hR q26
        refine rx_c e28 f29 ?_
        obtain ⟨x30, q31, hh⟩ := db hh
        obtain ⟨h32, e33, hR, f34⟩ := rs_cI hD hR q31
        refine rx_c e33 f34 ?_
        exact r362_87 hD _ _ _ _ _ _ _ _ hR hh
    · refine rx_f q14 ?_
      refine rx_b (rs_gR hR 18 51 rfl) ?_
      obtain ⟨x35, q36, hh⟩ := db hh
      refine rx_b (rs_aI_ok hR q36) ?_
      obtain ⟨x37, q38, hh⟩ := db hh
      obtain ⟨h39, e40, hR, f41⟩ := rs_vI hD hR q38
      refine rx_c e40 f41 ?_
      exact rx_I hR hh
  · refine rx_f q6 ?_
    exact rx_I hR hh
def g362 (E : rE) (w : Nat) (As : List Value) (s : rS) : Option rA := match As with
  | [.ref 36, .int i1, .int i2, .int i3] => s362_0 E w i1 i2 i3 s
  | _ => none
theorem t362 {L : Nat} {xs : Nat → Int32} {zf : Value} {D : dD} {E : rE} {w : Nat} (hD : rO D E L xs) (As : List Value) (h : rm_H) (s : rS) (r : rA) (hR : RS h s) (hh : g362 E w As s = some r) : rx (f362 L xs zf D w As h) h r := by
  unfold g362 at hh
  split at hh
  · unfold f362
    dsimp only
    refine rx_b (a := some 36) rfl ?_
    exact r362_0 hD _ _ _ _ _ _ hR hh
  · cases hh
