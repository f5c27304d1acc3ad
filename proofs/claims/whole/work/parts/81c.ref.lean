/-! THE REFERENCE'S METHODS OVER ITS STATE, printed by wip/whole/gen_ref.py -/
def s323_0 (E : rE) (w : Nat) (i1 : Int32) (i2 : Int32) (s : rS) : Option rA :=
  (rs_sI s 49 i2 i1).bind fun s1 =>
  rrI (some .int) i2 s1
theorem r323_0 {L : Nat} {xs : Nat → Int32} {zf : Value} {D : dD} {E : rE} {w : Nat} (hD : rO D E L xs) : ∀ (i1 : Int32) (i2 : Int32) (h : rm_H) (s : rS) (r : rA), RS h s → s323_0 E w i1 i2 s = some r → rx (b323_0 L xs zf D w (some 36) i1 i2 h) h r := by
  intro i1 i2 h s r hR hh
  unfold s323_0 at hh
  unfold b323_0
  refine rx_b (rs_gR hR 16 49 rfl) ?_
  obtain ⟨s1, q2, hh⟩ := db hh
  obtain ⟨h3, e4, hR, f5⟩ := rs_sI_ok hR q2
  refine rx_w e4 f5 ?_
  exact rx_I hR hh
def g323 (E : rE) (w : Nat) (As : List Value) (s : rS) : Option rA := match As with
  | [.ref 36, .int i1, .int i2] => s323_0 E w i1 i2 s
  | _ => none
theorem t323 {L : Nat} {xs : Nat → Int32} {zf : Value} {D : dD} {E : rE} {w : Nat} (hD : rO D E L xs) (As : List Value) (h : rm_H) (s : rS) (r : rA) (hR : RS h s) (hh : g323 E w As s = some r) : rx (f323 L xs zf D w As h) h r := by
  unfold g323 at hh
  split at hh
  · unfold f323
    dsimp only
    refine rx_b (a := some 36) rfl ?_
    exact r323_0 hD _ _ _ _ _ hR hh
  · cases hh
def s324_99 (E : rE) (w : Nat) (K31 : Int32 → Int32 → Int32 → Int32 → rS → Option rA) (i1 : Int32) (i2 : Int32) (i5 : Int32) (s : rS) : Option rA :=
  ((E 309 [.ref 36, .int 44] s).bind rxI).bind fun x1 =>
  K31 i1 i2 x1.1 i5 x1.2
theorem r324_99 {L : Nat} {xs : Nat → Int32} {zf : Value} {D : dD} {E : rE} {w : Nat} {K31 : Int32 → Int32 → Int32 → Int32 → rS → Option rA} {B31 : Option Nat → Int32 → Int32 → Int32 → Int32 → rm_H → Option dR} (hD : rO D E L xs) (hK31 : ∀ (i1 : Int32) (i2 : Int32) (i3 : Int32) (i4 : Int32) (h : rm_H) (s : rS) (r : rA), RS h s → K31 i1 i2 i3 i4 s = some r → rx (B31 (some 36) i1 i2 i3 i4 h) h r) : ∀ (i1 : Int32) (i2 : Int32) (i5 : Int32) (h : rm_H) (s : rS) (r : rA), RS h s → s324_99 E w K31 i1 i2 i5 s = some r → rx (b324_99 L xs zf D w B31 (some 36) i1 i2 i5 h) h r := by
  intro i1 i2 i5 h s r hR hh
  unfold s324_99 at hh
  unfold b324_99
  obtain ⟨x1, q2, hh⟩ := db hh
  obtain ⟨h3, e4, hR, f5⟩ := rs_vI hD hR q2
  refine rx_c e4 f5 ?_
  exact hK31 _ _ _ _ _ _ _ hR hh
def s324_50 (E : rE) (w : Nat) (K31 : Int32 → Int32 → Int32 → Int32 → rS → Option rA) (i1 : Int32) (i2 : Int32) (i4 : Int32) (s : rS) : Option rA :=
  ((E 320 [.ref 36, .int (i2 + 1)] s).bind rxI).bind fun x1 =>
  ((E 323 [.ref 36, .int i1, .int x1.1] x1.2).bind rxI).bind fun x6 =>
  (rs_aI x6.2 52 i1).bind fun x11 =>
  (rs_sI x6.2 52 i1 (x11 + 1)).bind fun s13 =>
  if mx_f1 .ne i4 = true then
    (rs_sI s13 48 i4 x6.1).bind fun s19 =>
    s324_99 E w K31 i1 i2 x6.1 s19
  else
    (rs_sI s13 45 i1 x6.1).bind fun s24 =>
    s324_99 E w K31 i1 i2 x6.1 s24
theorem r324_50 {L : Nat} {xs : Nat → Int32} {zf : Value} {D : dD} {E : rE} {w : Nat} {K31 : Int32 → Int32 → Int32 → Int32 → rS → Option rA} {B31 : Option Nat → Int32 → Int32 → Int32 → Int32 → rm_H → Option dR} (hD : rO D E L xs) (hK31 : ∀ (i1 : Int32) (i2 : Int32) (i3 : Int32) (i4 : Int32) (h : rm_H) (s : rS) (r : rA), RS h s → K31 i1 i2 i3 i4 s = some r → rx (B31 (some 36) i1 i2 i3 i4 h) h r) : ∀ (i1 : Int32) (i2 : Int32) (i4 : Int32) (h : rm_H) (s : rS) (r : rA), RS h s → s324_50 E w K31 i1 i2 i4 s = some r → rx (b324_50 L xs zf D w B31 (some 36) i1 i2 i4 h) h r := by
  intro i1 i2 i4 h s r hR hh
  unfold s324_50 at hh
  unfold b324_50
  obtain ⟨x1, q2, hh⟩ := db hh
  obtain ⟨h3, e4, hR, f5⟩ := rs_vI hD hR q2
  refine rx_c e4 f5 ?_
  obtain ⟨x6, q7, hh⟩ := db hh
  obtain ⟨h8, e9, hR, f10⟩ := rs_vI hD hR q7
  refine rx_c e9 f10 ?_
  refine rx_b (rs_gR hR 19 52 rfl) ?_
  obtain ⟨x11, q12, hh⟩ := db hh
  refine rx_b (rs_aI_ok hR q12) ?_
  obtain ⟨s13, q14, hh⟩ := db hh
  obtain ⟨h15, e16, hR, f17⟩ := rs_sI_ok hR q14
  refine rx_w e16 f17 ?_
  rcases di hh with ⟨q18, hh⟩ | ⟨q18, hh⟩
  · refine rx_t q18 ?_
    refine rx_b (rs_gR hR 15 48 rfl) ?_
    obtain ⟨s19, q20, hh⟩ := db hh
    obtain ⟨h21, e22, hR, f23⟩ := rs_sI_ok hR q20
    refine rx_w e22 f23 ?_
    exact r324_99 hD hK31 _ _ _ _ _ _ hR hh
  · refine rx_f q18 ?_
    refine rx_b (rs_gR hR 12 45 rfl) ?_
    obtain ⟨s24, q25, hh⟩ := db hh
    obtain ⟨h26, e27, hR, f28⟩ := rs_sI_ok hR q25
    refine rx_w e27 f28 ?_
    exact r324_99 hD hK31 _ _ _ _ _ _ hR hh
def s324_31 (E : rE) (w : Nat) : Nat → Int32 → Int32 → Int32 → Int32 → rS → Option rA
  | 0, _, _, _, _, _ => none
  | n + 1, i1, i2, i3, i4, s =>
    if mx_f1 .eq i3 = true then
      ((E 308 [.ref 36, .int 41] s).bind rxV).bind fun s2 =>
      some (none, s2)
    else
      (rs_aI s 52 i1).bind fun x7 =>
      if mx_f2 .ne x7 6 = true then
        s324_50 E w (s324_31 E w n) i1 i2 i4 s
      else
        ((E 304 [.ref 36] s).bind rxV).bind fun s10 =>
        s324_50 E w (s324_31 E w n) i1 i2 i4 s10
theorem r324_31 {L : Nat} {xs : Nat → Int32} {zf : Value} {D : dD} {E : rE} {w : Nat} (hD : rO D E L xs) : ∀ (n : Nat) (i1 : Int32) (i2 : Int32) (i3 : Int32) (i4 : Int32) (h : rm_H) (s : rS) (r : rA), RS h s → s324_31 E w n i1 i2 i3 i4 s = some r → rx (b324_31 L xs zf D w n (some 36) i1 i2 i3 i4 h) h r := by
  intro n
  induction n with
  | zero =>
    intro i1 i2 i3 i4 h s r hR hh
    cases hh
  | succ n ih =>
    intro i1 i2 i3 i4 h s r hR hh
    rw [s324_31] at hh
    rw [b324_31]
    rcases di hh with ⟨q1, hh⟩ | ⟨q1, hh⟩
    · refine rx_t q1 ?_
      obtain ⟨s2, q3, hh⟩ := db hh
      obtain ⟨h4, e5, hR, f6⟩ := rs_vV hD hR q3
      refine rx_w e5 f6 ?_
      cases hh
      exact rx_0 hR
    · refine rx_f q1 ?_
      refine rx_b (rs_gR hR 19 52 rfl) ?_
      obtain ⟨x7, q8, hh⟩ := db hh
      refine rx_b (rs_aI_ok hR q8) ?_
      rcases di hh with ⟨q9, hh⟩ | ⟨q9, hh⟩
      · refine rx_t q9 ?_
        exact r324_50 hD ih _ _ _ _ _ _ hR hh
      · refine rx_f q9 ?_
        obtain ⟨s10, q11, hh⟩ := db hh
        obtain ⟨h12, e13, hR, f14⟩ := rs_vV hD hR q11
        refine rx_w e13 f14 ?_
        exact r324_50 hD ih _ _ _ _ _ _ hR hh
def s324_27 (E : rE) (w : Nat) (i1 : Int32) (i2 : Int32) (s0 : Int32) (s : rS) : Option rA :=
  s324_31 E w w i1 i2 s0 0 s
theorem r324_27 {L : Nat} {xs : Nat → Int32} {zf : Value} {D : dD} {E : rE} {w : Nat} (hD : rO D E L xs) : ∀ (i1 : Int32) (i2 : Int32) (s0 : Int32) (h : rm_H) (s : rS) (r : rA), RS h s → s324_27 E w i1 i2 s0 s = some r → rx (b324_27 L xs zf D w (some 36) i1 i2 s0 h) h r := by
  intro i1 i2 s0 h s r hR hh
  unfold s324_27 at hh
  unfold b324_27
  exact r324_31 hD _ _ _ _ _ _ _ _ hR hh
def s324_26 (E : rE) (w : Nat) (i1 : Int32) (i2 : Int32) (s : rS) : Option rA :=
  s324_27 E w i1 i2 0 s
theorem r324_26 {L : Nat} {xs : Nat → Int32} {zf : Value} {D : dD} {E : rE} {w : Nat} (hD : rO D E L xs) : ∀ (i1 : Int32) (i2 : Int32) (h : rm_H) (s : rS) (r : rA), RS h s → s324_26 E w i1 i2 s = some r → rx (b324_26 L xs zf D w (some 36) i1 i2 h) h r := by
  intro i1 i2 h s r hR hh
  unfold s324_26 at hh
  unfold b324_26
  exact r324_27 hD _ _ _ _ _ _ hR hh
def s324_0 (E : rE) (w : Nat) (i1 : Int32) (i2 : Int32) (s : rS) : Option rA :=
  ((E 308 [.ref 36, .int 40] s).bind rxV).bind fun s1 =>
  if mx_f1 .ne (s1.1 57) = true then
    s324_26 E w i1 i2 s1
  else
    ((E 310 [.ref 36, .int 41] s1).bind rxI).bind fun x7 =>
    if mx_f1 .ne x7.1 = true then
      s324_26 E w i1 i2 x7.2
    else
      s324_27 E w i1 i2 1 x7.2
theorem r324_0 {L : Nat} {xs : Nat → Int32} {zf : Value} {D : dD} {E : rE} {w : Nat} (hD : rO D E L xs) : ∀ (i1 : Int32) (i2 : Int32) (h : rm_H) (s : rS) (r : rA), RS h s → s324_0 E w i1 i2 s = some r → rx (b324_0 L xs zf D w (some 36) i1 i2 h) h r := by
  intro i1 i2 h s r hR hh
  unfold s324_0 at hh
  unfold b324_0
  obtain ⟨s1, q2, hh⟩ := db hh
  obtain ⟨h3, e4, hR, f5⟩ := rs_vV hD hR q2
  refine rx_w e4 f5 ?_
  refine rx_b (rs_gI hR 57 _ rfl) ?_
  rcases di hh with ⟨q6, hh⟩ | ⟨q6, hh⟩
  · refine rx_t q6 ?_
    exact r324_26 hD _ _ _ _ _ hR hh
  · refine rx_f q6 ?_
    obtain ⟨x7, q8, hh⟩ := db hh
    obtain ⟨h9, e10, hR, f11⟩ := rs_vI hD hR q8
    refine rx_c e10 f11 ?_
    rcases di hh with ⟨q12, hh⟩ | ⟨q12, hh⟩
    · refine rx_t q12 ?_
      exact r324_26 hD _ _ _ _ _ hR hh
    · refine rx_f q12 ?_
      exact r324_27 hD _ _ _ _ _ _ hR hh
def g324 (E : rE) (w : Nat) (As : List Value) (s : rS) : Option rA := match As with
  | [.ref 36, .int i1, .int i2] => s324_0 E w i1 i2 s
  | _ => none
theorem t324 {L : Nat} {xs : Nat → Int32} {zf : Value} {D : dD} {E : rE} {w : Nat} (hD : rO D E L xs) (As : List Value) (h : rm_H) (s : rS) (r : rA) (hR : RS h s) (hh : g324 E w As s = some r) : rx (f324 L xs zf D w As h) h r := by
  unfold g324 at hh
  split at hh
  · unfold f324
    dsimp only
    refine rx_b (a := some 36) rfl ?_
    exact r324_0 hD _ _ _ _ _ hR hh
  · cases hh
def s325_51 (E : rE) (w : Nat) (s0 : Int32) (s : rS) : Option rA :=
  rrI (some .boolean) s0 s
theorem r325_51 {L : Nat} {xs : Nat → Int32} {zf : Value} {D : dD} {E : rE} {w : Nat} (hD : rO D E L xs) : ∀ (s0 : Int32) (h : rm_H) (s : rS) (r : rA), RS h s → s325_51 E w s0 s = some r → rx (b325_51 L xs zf D w s0 h) h r := by
  intro s0 h s r hR hh
  unfold s325_51 at hh
  unfold b325_51
  exact rx_I hR hh
def s325_46 (E : rE) (w : Nat) (s : rS) : Option rA :=
  s325_51 E w 1 s
theorem r325_46 {L : Nat} {xs : Nat → Int32} {zf : Value} {D : dD} {E : rE} {w : Nat} (hD : rO D E L xs) : ∀ (h : rm_H) (s : rS) (r : rA), RS h s → s325_46 E w s = some r → rx (b325_46 L xs zf D w h) h r := by
  intro h s r hR hh
  unfold s325_46 at hh
  unfold b325_46
  exact r325_51 hD _ _ _ _ hR hh
def s325_0 (E : rE) (w : Nat) (s : rS) : Option rA :=
  ((E 310 [.ref 36, .int 43] s).bind rxI).bind fun x1 =>
  if mx_f1 .ne x1.1 = true then
    s325_46 E w x1.2
  else
    ((E 310 [.ref 36, .int 45] x1.2).bind rxI).bind fun x7 =>
    if mx_f1 .ne x7.1 = true then
      s325_46 E w x7.2
    else
      ((E 310 [.ref 36, .int 42] x7.2).bind rxI).bind fun x13 =>
      if mx_f1 .ne x13.1 = true then
        s325_46 E w x13.2
      else
        ((E 310 [.ref 36, .int 60] x13.2).bind rxI).bind fun x19 =>
        if mx_f1 .ne x19.1 = true then
          s325_46 E w x19.2
        else
          ((E 310 [.ref 36, .int 256] x19.2).bind rxI).bind fun x25 =>
          if mx_f1 .eq x25.1 = true then
            s325_51 E w 0 x25.2
          else
            s325_46 E w x25.2
theorem r325_0 {L : Nat} {xs : Nat → Int32} {zf : Value} {D : dD} {E : rE} {w : Nat} (hD : rO D E L xs) : ∀ (h : rm_H) (s : rS) (r : rA), RS h s → s325_0 E w s = some r → rx (b325_0 L xs zf D w (some 36) h) h r := by
  intro h s r hR hh
  unfold s325_0 at hh
  unfold b325_0
  obtain ⟨x1, q2, hh⟩ := db hh
  obtain ⟨h3, e4, hR, f5⟩ := rs_vI hD hR q2
  refine rx_c e4 f5 ?_
  rcases di hh with ⟨q6, hh⟩ | ⟨q6, hh⟩
  · refine rx_t q6 ?_
    exact r325_46 hD  _ _ _ hR hh
  · refine rx_f q6 ?_
    obtain ⟨x7, q8, hh⟩ := db hh
    obtain ⟨h9, e10, hR, f11⟩ := rs_vI hD hR q8
    refine rx_c e10 f11 ?_
    rcases di hh with ⟨q12, hh⟩ | ⟨q12, hh⟩
    · refine rx_t q12 ?_
      exact r325_46 hD  _ _ _ hR hh
    · refine rx_f q12 ?_
      obtain ⟨x13, q14, hh⟩ := db hh
      obtain ⟨h15, e16, hR, f17⟩ := rs_vI hD hR q14
      refine rx_c e16 f17 ?_
      rcases di hh with ⟨q18, hh⟩ | ⟨q18, hh⟩
      · refine rx_t q18 ?_
        exact r325_46 hD  _ _ _ hR hh
      · refine rx_f q18 ?_
        obtain ⟨x19, q20, hh⟩ := db hh
        obtain ⟨h21, e22, hR, f23⟩ := rs_vI hD hR q20
        refine rx_c e22 f23 ?_
        rcases di hh with ⟨q24, hh⟩ | ⟨q24, hh⟩
        · refine rx_t q24 ?_
          exact r325_46 hD  _ _ _ hR hh
        · refine rx_f q24 ?_
          obtain ⟨x25, q26, hh⟩ := db hh
          obtain ⟨h27, e28, hR, f29⟩ := rs_vI hD hR q26
          refine rx_c e28 f29 ?_
          rcases di hh with ⟨q30, hh⟩ | ⟨q30, hh⟩
          · refine rx_t q30 ?_
            exact r325_51 hD _ _ _ _ hR hh
          · refine rx_f q30 ?_
            exact r325_46 hD  _ _ _ hR hh
def g325 (E : rE) (w : Nat) (As : List Value) (s : rS) : Option rA := match As with
  | [.ref 36] => s325_0 E w s
  | _ => none
theorem t325 {L : Nat} {xs : Nat → Int32} {zf : Value} {D : dD} {E : rE} {w : Nat} (hD : rO D E L xs) (As : List Value) (h : rm_H) (s : rS) (r : rA) (hR : RS h s) (hh : g325 E w As s = some r) : rx (f325 L xs zf D w As h) h r := by
  unfold g325 at hh
  split at hh
  · unfold f325
    dsimp only
    refine rx_b (a := some 36) rfl ?_
    exact r325_0 hD  _ _ _ hR hh
  · cases hh
def s326_71 (E : rE) (w : Nat) (K29 : Int32 → rS → Option rA) (K39 : Int32 → Int32 → rS → Option rA) (i1 : Int32) (i2 : Int32) (s : rS) : Option rA :=
  K39 i1 (i2 + 1) s
theorem r326_71 {L : Nat} {xs : Nat → Int32} {zf : Value} {D : dD} {E : rE} {w : Nat} {K29 : Int32 → rS → Option rA} {B29 : Option Nat → Int32 → rm_H → Option dR} {K39 : Int32 → Int32 → rS → Option rA} {B39 : Option Nat → Int32 → Int32 → rm_H → Option dR} (hD : rO D E L xs) (hK29 : ∀ (i1 : Int32) (h : rm_H) (s : rS) (r : rA), RS h s → K29 i1 s = some r → rx (B29 (some 36) i1 h) h r) (hK39 : ∀ (i1 : Int32) (i2 : Int32) (h : rm_H) (s : rS) (r : rA), RS h s → K39 i1 i2 s = some r → rx (B39 (some 36) i1 i2 h) h r) : ∀ (i1 : Int32) (i2 : Int32) (h : rm_H) (s : rS) (r : rA), RS h s → s326_71 E w K29 K39 i1 i2 s = some r → rx (b326_71 L xs zf D w B29 B39 (some 36) i1 i2 h) h r := by
  intro i1 i2 h s r hR hh
  unfold s326_71 at hh
  unfold b326_71
  exact hK39 _ _ _ _ _ hR hh
def s326_135 (E : rE) (w : Nat) (K29 : Int32 → rS → Option rA) (K84 : Int32 → Int32 → rS → Option rA) (K103 : Int32 → Int32 → Int32 → rS → Option rA) (i1 : Int32) (i2 : Int32) (i3 : Int32) (s : rS) : Option rA :=
  K103 i1 i2 (i3 + 1) s
theorem r326_135 {L : Nat} {xs : Nat → Int32} {zf : Value} {D : dD} {E : rE} {w : Nat} {K29 : Int32 → rS → Option rA} {B29 : Option Nat → Int32 → rm_H → Option dR} {K84 : Int32 → Int32 → rS → Option rA} {B84 : Option Nat → Int32 → Int32 → rm_H → Option dR} {K103 : Int32 → Int32 → Int32 → rS → Option rA} {B103 : Option Nat → Int32 → Int32 → Int32 → rm_H → Option dR} (hD : rO D E L xs) (hK29 : ∀ (i1 : Int32) (h : rm_H) (s : rS) (r : rA), RS h s → K29 i1 s = some r → rx (B29 (some 36) i1 h) h r) (hK84 : ∀ (i1 : Int32) (i2 : Int32) (h : rm_H) (s : rS) (r : rA), RS h s → K84 i1 i2 s = some r → rx (B84 (some 36) i1 i2 h) h r) (hK103 : ∀ (i1 : Int32) (i2 : Int32) (i3 : Int32) (h : rm_H) (s : rS) (r : rA), RS h s → K103 i1 i2 i3 s = some r → rx (B103 (some 36) i1 i2 i3 h) h r) : ∀ (i1 : Int32) (i2 : Int32) (i3 : Int32) (h : rm_H) (s : rS) (r : rA), RS h s → s326_135 E w K29 K84 K103 i1 i2 i3 s = some r → rx (b326_135 L xs zf D w B29 B84 B103 (some 36) i1 i2 i3 h) h r := by
  intro i1 i2 i3 h s r hR hh
  unfold s326_135 at hh
  unfold b326_135
  exact hK103 _ _ _ _ _ _ hR hh
def s326_103 (E : rE) (w : Nat) (K29 : Int32 → rS → Option rA) (K84 : Int32 → Int32 → rS → Option rA) : Nat → Int32 → Int32 → Int32 → rS → Option rA
  | 0, _, _, _, _ => none
  | n + 1, i1, i2, i3, s =>
    if mx_f2 .ge i3 i2 = true then
      K84 i1 (i2 + 1) s
    else
      (rs_aJ s 67 i3).bind fun y2 =>
      (rs_aJ s 67 i2).bind fun y4 =>
      if mx_f1 .ne (lg_cmp y2 y4) = true then
        s326_135 E w K29 K84 (s326_103 E w K29 K84 n) i1 i2 i3 s
      else
        (rs_aI s 68 i2).bind fun x7 =>
        ((E 329 [.ref 36, .int 2, .int x7] s).bind rxV).bind fun s9 =>
        s326_135 E w K29 K84 (s326_103 E w K29 K84 n) i1 i2 i3 s9
theorem r326_103 {L : Nat} {xs : Nat → Int32} {zf : Value} {D : dD} {E : rE} {w : Nat} {K29 : Int32 → rS → Option rA} {B29 : Option Nat → Int32 → rm_H → Option dR} {K84 : Int32 → Int32 → rS → Option rA} {B84 : Option Nat → Int32 → Int32 → rm_H → Option dR} (hD : rO D E L xs) (hK29 : ∀ (i1 : Int32) (h : rm_H) (s : rS) (r : rA), RS h s → K29 i1 s = some r → rx (B29 (some 36) i1 h) h r) (hK84 : ∀ (i1 : Int32) (i2 : Int32) (h : rm_H) (s : rS) (r : rA), RS h s → K84 i1 i2 s = some r → rx (B84 (some 36) i1 i2 h) h r) : ∀ (n : Nat) (i1 : Int32) (i2 : Int32) (i3 : Int32) (h : rm_H) (s : rS) (r : rA), RS h s → s326_103 E w K29 K84 n i1 i2 i3 s = some r → rx (b326_103 L xs zf D w B29 B84 n (some 36) i1 i2 i3 h) h r := by
  intro n
  induction n with
  | zero =>
    intro i1 i2 i3 h s r hR hh
    cases hh
  | succ n ih =>
    intro i1 i2 i3 h s r hR hh
    rw [s326_103] at hh
    rw [b326_103]
    rcases di hh with ⟨q1, hh⟩ | ⟨q1, hh⟩
    · refine rx_t q1 ?_
      exact hK84 _ _ _ _ _ hR hh
    · refine rx_f q1 ?_
      refine rx_b (rs_gR hR 39 67 rfl) ?_
      obtain ⟨y2, q3, hh⟩ := db hh
      refine rx_b (rs_aJ_ok hR q3) ?_
      refine rx_b (rs_gR hR 39 67 rfl) ?_
      obtain ⟨y4, q5, hh⟩ := db hh
      refine rx_b (rs_aJ_ok hR q5) ?_
      rcases di hh with ⟨q6, hh⟩ | ⟨q6, hh⟩
      · refine rx_t q6 ?_
        exact r326_135 hD hK29 hK84 ih _ _ _ _ _ _ hR hh
      · refine rx_f q6 ?_
        refine rx_b (rs_gR hR 40 68 rfl) ?_
        obtain ⟨x7, q8, hh⟩ := db hh
        refine rx_b (rs_aI_ok hR q8) ?_
        obtain ⟨s9, q10, hh⟩ := db hh
        obtain ⟨h11, e12, hR, f13⟩ := rs_vV hD hR q10
        refine rx_w e12 f13 ?_
        exact r326_135 hD hK29 hK84 ih _ _ _ _ _ _ hR hh
def s326_209 (E : rE) (w : Nat) (K29 : Int32 → rS → Option rA) (K156 : Int32 → Int32 → rS → Option rA) (K177 : Int32 → Int32 → Int32 → rS → Option rA) (i1 : Int32) (i2 : Int32) (i3 : Int32) (s : rS) : Option rA :=
  K177 i1 i2 (i3 + 1) s
theorem r326_209 {L : Nat} {xs : Nat → Int32} {zf : Value} {D : dD} {E : rE} {w : Nat} {K29 : Int32 → rS → Option rA} {B29 : Option Nat → Int32 → rm_H → Option dR} {K156 : Int32 → Int32 → rS → Option rA} {B156 : Option Nat → Int32 → Int32 → rm_H → Option dR} {K177 : Int32 → Int32 → Int32 → rS → Option rA} {B177 : Option Nat → Int32 → Int32 → Int32 → rm_H → Option dR} (hD : rO D E L xs) (hK29 : ∀ (i1 : Int32) (h : rm_H) (s : rS) (r : rA), RS h s → K29 i1 s = some r → rx (B29 (some 36) i1 h) h r) (hK156 : ∀ (i1 : Int32) (i2 : Int32) (h : rm_H) (s : rS) (r : rA), RS h s → K156 i1 i2 s = some r → rx (B156 (some 36) i1 i2 h) h r) (hK177 : ∀ (i1 : Int32) (i2 : Int32) (i3 : Int32) (h : rm_H) (s : rS) (r : rA), RS h s → K177 i1 i2 i3 s = some r → rx (B177 (some 36) i1 i2 i3 h) h r) : ∀ (i1 : Int32) (i2 : Int32) (i3 : Int32) (h : rm_H) (s : rS) (r : rA), RS h s → s326_209 E w K29 K156 K177 i1 i2 i3 s = some r → rx (b326_209 L xs zf D w B29 B156 B177 (some 36) i1 i2 i3 h) h r := by
  intro i1 i2 i3 h s r hR hh
  unfold s326_209 at hh
  unfold b326_209
  exact hK177 _ _ _ _ _ _ hR hh
def s326_177 (E : rE) (w : Nat) (K29 : Int32 → rS → Option rA) (K156 : Int32 → Int32 → rS → Option rA) : Nat → Int32 → Int32 → Int32 → rS → Option rA
  | 0, _, _, _, _ => none
  | n + 1, i1, i2, i3, s =>
    if mx_f2 .ge i3 i2 = true then
      K156 i1 (i2 + 1) s
    else
      (rs_aJ s 78 i3).bind fun y2 =>
      (rs_aJ s 78 i2).bind fun y4 =>
      if mx_f1 .ne (lg_cmp y2 y4) = true then
        s326_209 E w K29 K156 (s326_177 E w K29 K156 n) i1 i2 i3 s
      else
        (rs_aI s 74 i2).bind fun x7 =>
        ((E 329 [.ref 36, .int 2, .int x7] s).bind rxV).bind fun s9 =>
        s326_209 E w K29 K156 (s326_177 E w K29 K156 n) i1 i2 i3 s9
theorem r326_177 {L : Nat} {xs : Nat → Int32} {zf : Value} {D : dD} {E : rE} {w : Nat} {K29 : Int32 → rS → Option rA} {B29 : Option Nat → Int32 → rm_H → Option dR} {K156 : Int32 → Int32 → rS → Option rA} {B156 : Option Nat → Int32 → Int32 → rm_H → Option dR} (hD : rO D E L xs) (hK29 : ∀ (i1 : Int32) (h : rm_H) (s : rS) (r : rA), RS h s → K29 i1 s = some r → rx (B29 (some 36) i1 h) h r) (hK156 : ∀ (i1 : Int32) (i2 : Int32) (h : rm_H) (s : rS) (r : rA), RS h s → K156 i1 i2 s = some r → rx (B156 (some 36) i1 i2 h) h r) : ∀ (n : Nat) (i1 : Int32) (i2 : Int32) (i3 : Int32) (h : rm_H) (s : rS) (r : rA), RS h s → s326_177 E w K29 K156 n i1 i2 i3 s = some r → rx (b326_177 L xs zf D w B29 B156 n (some 36) i1 i2 i3 h) h r := by
  intro n
  induction n with
  | zero =>
    intro i1 i2 i3 h s r hR hh
    cases hh
  | succ n ih =>
    intro i1 i2 i3 h s r hR hh
    rw [s326_177] at hh
    rw [b326_177]
    rcases di hh with ⟨q1, hh⟩ | ⟨q1, hh⟩
    · refine rx_t q1 ?_
      exact hK156 _ _ _ _ _ hR hh
    · refine rx_f q1 ?_
      refine rx_b (rs_gR hR 51 78 rfl) ?_
      obtain ⟨y2, q3, hh⟩ := db hh
      refine rx_b (rs_aJ_ok hR q3) ?_
      refine rx_b (rs_gR hR 51 78 rfl) ?_
      obtain ⟨y4, q5, hh⟩ := db hh
      refine rx_b (rs_aJ_ok hR q5) ?_
      rcases di hh with ⟨q6, hh⟩ | ⟨q6, hh⟩
      · refine rx_t q6 ?_
        exact r326_209 hD hK29 hK156 ih _ _ _ _ _ _ hR hh
      · refine rx_f q6 ?_
        refine rx_b (rs_gR hR 47 74 rfl) ?_
        obtain ⟨x7, q8, hh⟩ := db hh
        refine rx_b (rs_aI_ok hR q8) ?_
        obtain ⟨s9, q10, hh⟩ := db hh
        obtain ⟨h11, e12, hR, f13⟩ := rs_vV hD hR q10
        refine rx_w e12 f13 ?_
        exact r326_209 hD hK29 hK156 ih _ _ _ _ _ _ hR hh
def s326_156 (E : rE) (w : Nat) (K29 : Int32 → rS → Option rA) : Nat → Int32 → Int32 → rS → Option rA
  | 0, _, _, _ => none
  | n + 1, i1, i2, s =>
    (rs_aI s 65 (i1 + 1)).bind fun x1 =>
    if mx_f2 .ge i2 x1 = true then
      K29 (i1 + 1) s
    else
      (rs_aI s 65 i1).bind fun x4 =>
      s326_177 E w K29 (s326_156 E w K29 n) w i1 i2 (x4 + 1) s
theorem r326_156 {L : Nat} {xs : Nat → Int32} {zf : Value} {D : dD} {E : rE} {w : Nat} {K29 : Int32 → rS → Option rA} {B29 : Option Nat → Int32 → rm_H → Option dR} (hD : rO D E L xs) (hK29 : ∀ (i1 : Int32) (h : rm_H) (s : rS) (r : rA), RS h s → K29 i1 s = some r → rx (B29 (some 36) i1 h) h r) : ∀ (n : Nat) (i1 : Int32) (i2 : Int32) (h : rm_H) (s : rS) (r : rA), RS h s → s326_156 E w K29 n i1 i2 s = some r → rx (b326_156 L xs zf D w B29 n (some 36) i1 i2 h) h r := by
  intro n
  induction n with
  | zero =>
    intro i1 i2 h s r hR hh
    cases hh
  | succ n ih =>
    intro i1 i2 h s r hR hh
    rw [s326_156] at hh
    rw [b326_156]
    refine rx_b (rs_gR hR 36 65 rfl) ?_
    obtain ⟨x1, q2, hh⟩ := db hh
    refine rx_b (rs_aI_ok hR q2) ?_
    rcases di hh with ⟨q3, hh⟩ | ⟨q3, hh⟩
    · refine rx_t q3 ?_
      exact hK29 _ _ _ _ hR hh
    · refine rx_f q3 ?_
      refine rx_b (rs_gR hR 36 65 rfl) ?_
      obtain ⟨x4, q5, hh⟩ := db hh
      refine rx_b (rs_aI_ok hR q5) ?_
      exact r326_177 hD hK29 ih _ _ _ _ _ _ _ hR hh
def s326_84 (E : rE) (w : Nat) (K29 : Int32 → rS → Option rA) : Nat → Int32 → Int32 → rS → Option rA
  | 0, _, _, _ => none
  | n + 1, i1, i2, s =>
    (rs_aI s 64 (i1 + 1)).bind fun x1 =>
    if mx_f2 .ge i2 x1 = true then
      (rs_aI s 65 i1).bind fun x4 =>
      s326_156 E w K29 w i1 (x4 + 1) s
    else
      (rs_aI s 64 i1).bind fun x6 =>
      s326_103 E w K29 (s326_84 E w K29 n) w i1 i2 x6 s
theorem r326_84 {L : Nat} {xs : Nat → Int32} {zf : Value} {D : dD} {E : rE} {w : Nat} {K29 : Int32 → rS → Option rA} {B29 : Option Nat → Int32 → rm_H → Option dR} (hD : rO D E L xs) (hK29 : ∀ (i1 : Int32) (h : rm_H) (s : rS) (r : rA), RS h s → K29 i1 s = some r → rx (B29 (some 36) i1 h) h r) : ∀ (n : Nat) (i1 : Int32) (i2 : Int32) (h : rm_H) (s : rS) (r : rA), RS h s → s326_84 E w K29 n i1 i2 s = some r → rx (b326_84 L xs zf D w B29 n (some 36) i1 i2 h) h r := by
  intro n
  induction n with
  | zero =>
    intro i1 i2 h s r hR hh
    cases hh
  | succ n ih =>
    intro i1 i2 h s r hR hh
    rw [s326_84] at hh
    rw [b326_84]
    refine rx_b (rs_gR hR 35 64 rfl) ?_
    obtain ⟨x1, q2, hh⟩ := db hh
    refine rx_b (rs_aI_ok hR q2) ?_
    rcases di hh with ⟨q3, hh⟩ | ⟨q3, hh⟩
    · refine rx_t q3 ?_
      refine rx_b (rs_gR hR 36 65 rfl) ?_
      obtain ⟨x4, q5, hh⟩ := db hh
      refine rx_b (rs_aI_ok hR q5) ?_
      exact r326_156 hD hK29 _ _ _ _ _ _ hR hh
    · refine rx_f q3 ?_
      refine rx_b (rs_gR hR 35 64 rfl) ?_
      obtain ⟨x6, q7, hh⟩ := db hh
      refine rx_b (rs_aI_ok hR q7) ?_
      exact r326_103 hD hK29 ih _ _ _ _ _ _ _ hR hh
def s326_39 (E : rE) (w : Nat) (K29 : Int32 → rS → Option rA) : Nat → Int32 → Int32 → rS → Option rA
  | 0, _, _, _ => none
  | n + 1, i1, i2, s =>
    if mx_f2 .ge i2 i1 = true then
      (rs_aI s 64 i1).bind fun x2 =>
      s326_84 E w K29 w i1 x2 s
    else
      (rs_aJ s 62 i2).bind fun y4 =>
      (rs_aJ s 62 i1).bind fun y6 =>
      if mx_f1 .ne (lg_cmp y4 y6) = true then
        s326_71 E w K29 (s326_39 E w K29 n) i1 i2 s
      else
        (rs_aI s 63 i1).bind fun x9 =>
        ((E 329 [.ref 36, .int 2, .int x9] s).bind rxV).bind fun s11 =>
        s326_71 E w K29 (s326_39 E w K29 n) i1 i2 s11
theorem r326_39 {L : Nat} {xs : Nat → Int32} {zf : Value} {D : dD} {E : rE} {w : Nat} {K29 : Int32 → rS → Option rA} {B29 : Option Nat → Int32 → rm_H → Option dR} (hD : rO D E L xs) (hK29 : ∀ (i1 : Int32) (h : rm_H) (s : rS) (r : rA), RS h s → K29 i1 s = some r → rx (B29 (some 36) i1 h) h r) : ∀ (n : Nat) (i1 : Int32) (i2 : Int32) (h : rm_H) (s : rS) (r : rA), RS h s → s326_39 E w K29 n i1 i2 s = some r → rx (b326_39 L xs zf D w B29 n (some 36) i1 i2 h) h r := by
  intro n
  induction n with
  | zero =>
    intro i1 i2 h s r hR hh
    cases hh
  | succ n ih =>
    intro i1 i2 h s r hR hh
    rw [s326_39] at hh
    rw [b326_39]
    rcases di hh with ⟨q1, hh⟩ | ⟨q1, hh⟩
    · refine rx_t q1 ?_
      refine rx_b (rs_gR hR 35 64 rfl) ?_
      obtain ⟨x2, q3, hh⟩ := db hh
      refine rx_b (rs_aI_ok hR q3) ?_
      exact r326_84 hD hK29 _ _ _ _ _ _ hR hh
    · refine rx_f q1 ?_
      refine rx_b (rs_gR hR 33 62 rfl) ?_
      obtain ⟨y4, q5, hh⟩ := db hh
      refine rx_b (rs_aJ_ok hR q5) ?_
      refine rx_b (rs_gR hR 33 62 rfl) ?_
      obtain ⟨y6, q7, hh⟩ := db hh
      refine rx_b (rs_aJ_ok hR q7) ?_
      rcases di hh with ⟨q8, hh⟩ | ⟨q8, hh⟩
      · refine rx_t q8 ?_
        exact r326_71 hD hK29 ih _ _ _ _ _ hR hh
      · refine rx_f q8 ?_
        refine rx_b (rs_gR hR 34 63 rfl) ?_
        obtain ⟨x9, q10, hh⟩ := db hh
        refine rx_b (rs_aI_ok hR q10) ?_
        obtain ⟨s11, q12, hh⟩ := db hh
        obtain ⟨h13, e14, hR, f15⟩ := rs_vV hD hR q12
        refine rx_w e14 f15 ?_
        exact r326_71 hD hK29 ih _ _ _ _ _ hR hh
def s326_339 (E : rE) (w : Nat) (K250 : Int32 → rS → Option rA) (i1 : Int32) (s : rS) : Option rA :=
  K250 (i1 + 1) s
theorem r326_339 {L : Nat} {xs : Nat → Int32} {zf : Value} {D : dD} {E : rE} {w : Nat} {K250 : Int32 → rS → Option rA} {B250 : Option Nat → Int32 → rm_H → Option dR} (hD : rO D E L xs) (hK250 : ∀ (i1 : Int32) (h : rm_H) (s : rS) (r : rA), RS h s → K250 i1 s = some r → rx (B250 (some 36) i1 h) h r) : ∀ (i1 : Int32) (h : rm_H) (s : rS) (r : rA), RS h s → s326_339 E w K250 i1 s = some r → rx (b326_339 L xs zf D w B250 (some 36) i1 h) h r := by
  intro i1 h s r hR hh
  unfold s326_339 at hh
  unfold b326_339
  exact hK250 _ _ _ _ hR hh
def s326_332 (E : rE) (w : Nat) (K250 : Int32 → rS → Option rA) (i1 : Int32) (i2 : Int32) (s : rS) : Option rA :=
  (rs_sI s 53 i1 i2).bind fun s1 =>
  s326_339 E w K250 i1 s1
theorem r326_332 {L : Nat} {xs : Nat → Int32} {zf : Value} {D : dD} {E : rE} {w : Nat} {K250 : Int32 → rS → Option rA} {B250 : Option Nat → Int32 → rm_H → Option dR} (hD : rO D E L xs) (hK250 : ∀ (i1 : Int32) (h : rm_H) (s : rS) (r : rA), RS h s → K250 i1 s = some r → rx (B250 (some 36) i1 h) h r) : ∀ (i1 : Int32) (i2 : Int32) (h : rm_H) (s : rS) (r : rA), RS h s → s326_332 E w K250 i1 i2 s = some r → rx (b326_332 L xs zf D w B250 (some 36) i1 i2 h) h r := by
  intro i1 i2 h s r hR hh
  unfold s326_332 at hh
  unfold b326_332
  refine rx_b (rs_gR hR 20 53 rfl) ?_
  obtain ⟨s1, q2, hh⟩ := db hh
  obtain ⟨h3, e4, hR, f5⟩ := rs_sI_ok hR q2
  refine rx_w e4 f5 ?_
  exact r326_339 hD hK250 _ _ _ _ hR hh
def s326_403 (E : rE) (w : Nat) (s : rS) : Option rA :=
  some (none, s)
theorem r326_403 {L : Nat} {xs : Nat → Int32} {zf : Value} {D : dD} {E : rE} {w : Nat} (hD : rO D E L xs) : ∀ (h : rm_H) (s : rS) (r : rA), RS h s → s326_403 E w s = some r → rx (b326_403 L xs zf D w h) h r := by
  intro h s r hR hh
  unfold s326_403 at hh
  unfold b326_403
  cases hh
  exact rx_0 hR
def s326_394 (E : rE) (w : Nat) (s : rS) : Option rA :=
  ((E 329 [.ref 36, .int 3, .int (s.1 3)] s).bind rxV).bind fun s1 =>
  s326_403 E w s1
theorem r326_394 {L : Nat} {xs : Nat → Int32} {zf : Value} {D : dD} {E : rE} {w : Nat} (hD : rO D E L xs) : ∀ (h : rm_H) (s : rS) (r : rA), RS h s → s326_394 E w s = some r → rx (b326_394 L xs zf D w (some 36) h) h r := by
  intro h s r hR hh
  unfold s326_394 at hh
  unfold b326_394
  refine rx_b (rs_gI hR 3 _ rfl) ?_
  obtain ⟨s1, q2, hh⟩ := db hh
  obtain ⟨h3, e4, hR, f5⟩ := rs_vV hD hR q2
  refine rx_w e4 f5 ?_
  exact r326_403 hD  _ _ _ hR hh
def s326_250 (E : rE) (w : Nat) : Nat → Int32 → rS → Option rA
  | 0, _, _ => none
  | n + 1, i1, s =>
    if mx_f2 .ge i1 (s.1 10) = true then
      ((E 328 [.ref 36, .long 1298229614] s).bind rxI).bind fun x2 =>
      if mx_f2 .eq x2.1 (-1) = true then
        s326_394 E w x2.2
      else
        (rs_aB x2.2 66 x2.1).bind fun x8 =>
        if mx_f1 .eq x8 = true then
          s326_394 E w x2.2
        else
          (rs_aI x2.2 65 x2.1).bind fun x11 =>
          (rs_aI x2.2 77 (x11 + 1)).bind fun x13 =>
          (rs_aI x2.2 65 x2.1).bind fun x15 =>
          (rs_aI x2.2 77 x15).bind fun x17 =>
          if mx_f2 .le x13 x17 = true then
            s326_403 E w x2.2
          else
            s326_394 E w x2.2
    else
      (rs_aI s 44 i1).bind fun x20 =>
      if mx_f2 .eq x20 8 = true then
        (rs_aJ s 56 i1).bind fun y23 =>
        ((E 328 [.ref 36, .long y23] s).bind rxI).bind fun x25 =>
        if mx_f2 .ne x25.1 (-1) = true then
          (rs_aB x25.2 66 x25.1).bind fun x31 =>
          if mx_f1 .eq x31 = true then
            s326_332 E w (s326_250 E w n) i1 x25.1 x25.2
          else
            (rs_aI x25.2 54 i1).bind fun x34 =>
            if mx_f2 .eq x34 (-1) = true then
              s326_332 E w (s326_250 E w n) i1 x25.1 x25.2
            else
              (rs_aI x25.2 55 i1).bind fun x37 =>
              ((E 329 [.ref 36, .int 4, .int x37] x25.2).bind rxV).bind fun s39 =>
              s326_332 E w (s326_250 E w n) i1 x25.1 s39
        else
          (rs_aI x25.2 51 i1).bind fun x44 =>
          ((E 329 [.ref 36, .int 3, .int x44] x25.2).bind rxV).bind fun s46 =>
          s326_332 E w (s326_250 E w n) i1 x25.1 s46
      else
        s326_339 E w (s326_250 E w n) i1 s
theorem r326_250 {L : Nat} {xs : Nat → Int32} {zf : Value} {D : dD} {E : rE} {w : Nat} (hD : rO D E L xs) : ∀ (n : Nat) (i1 : Int32) (h : rm_H) (s : rS) (r : rA), RS h s → s326_250 E w n i1 s = some r → rx (b326_250 L xs zf D w n (some 36) i1 h) h r := by
  intro n
  induction n with
  | zero =>
    intro i1 h s r hR hh
    cases hh
  | succ n ih =>
    intro i1 h s r hR hh
    rw [s326_250] at hh
    rw [b326_250]
    refine rx_b (rs_gI hR 10 _ rfl) ?_
    rcases di hh with ⟨q1, hh⟩ | ⟨q1, hh⟩
    · refine rx_t q1 ?_
      obtain ⟨x2, q3, hh⟩ := db hh
      obtain ⟨h4, e5, hR, f6⟩ := rs_vI hD hR q3
      refine rx_c e5 f6 ?_
      rcases di hh with ⟨q7, hh⟩ | ⟨q7, hh⟩
      · refine rx_t q7 ?_
        exact r326_394 hD  _ _ _ hR hh
      · refine rx_f q7 ?_
        refine rx_b (rs_gR hR 37 66 rfl) ?_
        obtain ⟨x8, q9, hh⟩ := db hh
        refine rx_b (rs_aB_ok hR q9) ?_
        rcases di hh with ⟨q10, hh⟩ | ⟨q10, hh⟩
        · refine rx_t q10 ?_
          exact r326_394 hD  _ _ _ hR hh
        · refine rx_f q10 ?_
          refine rx_b (rs_gR hR 50 77 rfl) ?_
          refine rx_b (rs_gR hR 36 65 rfl) ?_
          obtain ⟨x11, q12, hh⟩ := db hh
          refine rx_b (rs_aI_ok hR q12) ?_
          obtain ⟨x13, q14, hh⟩ := db hh
          refine rx_b (rs_aI_ok hR q14) ?_
          refine rx_b (rs_gR hR 50 77 rfl) ?_
          refine rx_b (rs_gR hR 36 65 rfl) ?_
          obtain ⟨x15, q16, hh⟩ := db hh
          refine rx_b (rs_aI_ok hR q16) ?_
          obtain ⟨x17, q18, hh⟩ := db hh
          refine rx_b (rs_aI_ok hR q18) ?_
          rcases di hh with ⟨q19, hh⟩ | ⟨q19, hh⟩
          · refine rx_t q19 ?_
            exact r326_403 hD  _ _ _ hR hh
          · refine rx_f q19 ?_
            exact r326_394 hD  _ _ _ hR hh
    · refine rx_f q1 ?_
      refine rx_b (rs_gR hR 11 44 rfl) ?_
      obtain ⟨x20, q21, hh⟩ := db hh
      refine rx_b (rs_aI_ok hR q21) ?_
      rcases di hh with ⟨q22, hh⟩ | ⟨q22, hh⟩
      · refine rx_t q22 ?_
        refine rx_b (rs_gR hR 23 56 rfl) ?_
        obtain ⟨y23, q24, hh⟩ := db hh
        refine rx_b (rs_aJ_ok hR q24) ?_
        obtain ⟨x25, q26, hh⟩ := db hh
        obtain ⟨h27, e28, hR, f29⟩ := rs_vI hD hR q26
        refine rx_c e28 f29 ?_
        rcases di hh with ⟨q30, hh⟩ | ⟨q30, hh⟩
        · refine rx_t q30 ?_
          refine rx_b (rs_gR hR 37 66 rfl) ?_
          obtain ⟨x31, q32, hh⟩ := db hh
          refine rx_b (rs_aB_ok hR q32) ?_
          rcases di hh with ⟨q33, hh⟩ | ⟨q33, hh⟩
          · refine rx_t q33 ?_
            exact r326_332 hD ih _ _ _ _ _ hR hh
          · refine rx_f q33 ?_
            refine rx_b (rs_gR hR 21 54 rfl) ?_
            obtain ⟨x34, q35, hh⟩ := db hh
            refine rx_b (rs_aI_ok hR q35) ?_
            rcases di hh with ⟨q36, hh⟩ | ⟨q36, hh⟩
            · refine rx_t q36 ?_
              exact r326_332 hD ih _ _ _ _ _ hR hh
            · refine rx_f q36 ?_
              refine rx_b (rs_gR hR 22 55 rfl) ?_
              obtain ⟨x37, q38, hh⟩ := db hh
              refine rx_b (rs_aI_ok hR q38) ?_
              obtain ⟨s39, q40, hh⟩ := db hh
              obtain ⟨h41, e42, hR, f43⟩ := rs_vV hD hR q40
              refine rx_w e42 f43 ?_
              exact r326_332 hD ih _ _ _ _ _ hR hh
        · refine rx_f q30 ?_
          refine rx_b (rs_gR hR 18 51 rfl) ?_
          obtain ⟨x44, q45, hh⟩ := db hh
          refine rx_b (rs_aI_ok hR q45) ?_
          obtain ⟨s46, q47, hh⟩ := db hh
          obtain ⟨h48, e49, hR, f50⟩ := rs_vV hD hR q47
          refine rx_w e49 f50 ?_
          exact r326_332 hD ih _ _ _ _ _ hR hh
      · refine rx_f q22 ?_
        exact r326_339 hD ih _ _ _ _ hR hh
def s326_229 (E : rE) (w : Nat) : Nat → Int32 → rS → Option rA
  | 0, _, _ => none
  | n + 1, i1, s =>
    if mx_f2 .ge i1 (s.1 42) = true then
      s326_250 E w w 1 s
    else
      ((E 330 [.ref 36, .int i1] s).bind rxV).bind fun s2 =>
      s326_229 E w n (i1 + 1) s2
theorem r326_229 {L : Nat} {xs : Nat → Int32} {zf : Value} {D : dD} {E : rE} {w : Nat} (hD : rO D E L xs) : ∀ (n : Nat) (i1 : Int32) (h : rm_H) (s : rS) (r : rA), RS h s → s326_229 E w n i1 s = some r → rx (b326_229 L xs zf D w n (some 36) i1 h) h r := by
  intro n
  induction n with
  | zero =>
    intro i1 h s r hR hh
    cases hh
  | succ n ih =>
    intro i1 h s r hR hh
    rw [s326_229] at hh
    rw [b326_229]
    refine rx_b (rs_gI hR 42 _ rfl) ?_
    rcases di hh with ⟨q1, hh⟩ | ⟨q1, hh⟩
    · refine rx_t q1 ?_
      exact r326_250 hD _ _ _ _ _ hR hh
    · refine rx_f q1 ?_
      obtain ⟨s2, q3, hh⟩ := db hh
      obtain ⟨h4, e5, hR, f6⟩ := rs_vV hD hR q3
      refine rx_w e5 f6 ?_
      exact ih _ _ _ _ hR hh
def s326_29 (E : rE) (w : Nat) : Nat → Int32 → rS → Option rA
  | 0, _, _ => none
  | n + 1, i1, s =>
    if mx_f2 .ge i1 (s.1 32) = true then
      s326_229 E w w 0 s
    else
      s326_39 E w (s326_29 E w n) w i1 0 s
theorem r326_29 {L : Nat} {xs : Nat → Int32} {zf : Value} {D : dD} {E : rE} {w : Nat} (hD : rO D E L xs) : ∀ (n : Nat) (i1 : Int32) (h : rm_H) (s : rS) (r : rA), RS h s → s326_29 E w n i1 s = some r → rx (b326_29 L xs zf D w n (some 36) i1 h) h r := by
  intro n
  induction n with
  | zero =>
    intro i1 h s r hR hh
    cases hh
  | succ n ih =>
    intro i1 h s r hR hh
    rw [s326_29] at hh
    rw [b326_29]
    refine rx_b (rs_gI hR 32 _ rfl) ?_
    rcases di hh with ⟨q1, hh⟩ | ⟨q1, hh⟩
    · refine rx_t q1 ?_
      exact r326_229 hD _ _ _ _ _ hR hh
    · refine rx_f q1 ?_
      exact r326_39 hD ih _ _ _ _ _ _ hR hh
def s326_2 (E : rE) (w : Nat) : Nat → Int32 → rS → Option rA
  | 0, _, _ => none
  | n + 1, i1, s =>
    if mx_f2 .ge i1 (s.1 26) = true then
      s326_29 E w w 0 s
    else
      ((E 327 [.ref 36, .int i1] s).bind rxI).bind fun x2 =>
      (rs_sI x2.2 60 i1 x2.1).bind fun s7 =>
      s326_2 E w n (i1 + 1) s7
theorem r326_2 {L : Nat} {xs : Nat → Int32} {zf : Value} {D : dD} {E : rE} {w : Nat} (hD : rO D E L xs) : ∀ (n : Nat) (i1 : Int32) (h : rm_H) (s : rS) (r : rA), RS h s → s326_2 E w n i1 s = some r → rx (b326_2 L xs zf D w n (some 36) i1 h) h r := by
  intro n
  induction n with
  | zero =>
    intro i1 h s r hR hh
    cases hh
  | succ n ih =>
    intro i1 h s r hR hh
    rw [s326_2] at hh
    rw [b326_2]
    refine rx_b (rs_gI hR 26 _ rfl) ?_
    rcases di hh with ⟨q1, hh⟩ | ⟨q1, hh⟩
    · refine rx_t q1 ?_
      exact r326_29 hD _ _ _ _ _ hR hh
    · refine rx_f q1 ?_
      refine rx_b (rs_gR hR 30 60 rfl) ?_
      obtain ⟨x2, q3, hh⟩ := db hh
      obtain ⟨h4, e5, hR, f6⟩ := rs_vI hD hR q3
      refine rx_c e5 f6 ?_
      obtain ⟨s7, q8, hh⟩ := db hh
      obtain ⟨h9, e10, hR, f11⟩ := rs_sI_ok hR q8
      refine rx_w e10 f11 ?_
      exact ih _ _ _ _ hR hh
def s326_0 (E : rE) (w : Nat) (s : rS) : Option rA :=
  s326_2 E w w 0 s
theorem r326_0 {L : Nat} {xs : Nat → Int32} {zf : Value} {D : dD} {E : rE} {w : Nat} (hD : rO D E L xs) : ∀ (h : rm_H) (s : rS) (r : rA), RS h s → s326_0 E w s = some r → rx (b326_0 L xs zf D w (some 36) h) h r := by
  intro h s r hR hh
  unfold s326_0 at hh
  unfold b326_0
  exact r326_2 hD _ _ _ _ _ hR hh
def g326 (E : rE) (w : Nat) (As : List Value) (s : rS) : Option rA := match As with
  | [.ref 36] => s326_0 E w s
  | _ => none
theorem t326 {L : Nat} {xs : Nat → Int32} {zf : Value} {D : dD} {E : rE} {w : Nat} (hD : rO D E L xs) (As : List Value) (h : rm_H) (s : rS) (r : rA) (hR : RS h s) (hh : g326 E w As s = some r) : rx (f326 L xs zf D w As h) h r := by
  unfold g326 at hh
  split at hh
  · unfold f326
    dsimp only
    refine rx_b (a := some 36) rfl ?_
    exact r326_0 hD  _ _ _ hR hh
  · cases hh
def s327_89 (E : rE) (w : Nat) (s0 : Int32) (s1 : Int32) (s : rS) : Option rA :=
  ((E 329 [.ref 36, .int s1, .int s0] s).bind rxV).bind fun s1 =>
  rrI (some .int) (-1) s1
theorem r327_89 {L : Nat} {xs : Nat → Int32} {zf : Value} {D : dD} {E : rE} {w : Nat} (hD : rO D E L xs) : ∀ (s0 : Int32) (s1 : Int32) (h : rm_H) (s : rS) (r : rA), RS h s → s327_89 E w s0 s1 s = some r → rx (b327_89 L xs zf D w s0 s1 (some 36) h) h r := by
  intro s0 s1 h s r hR hh
  unfold s327_89 at hh
  unfold b327_89
  obtain ⟨s1, q2, hh⟩ := db hh
  obtain ⟨h3, e4, hR, f5⟩ := rs_vV hD hR q2
  refine rx_w e4 f5 ?_
  exact rx_I hR hh
def s327_114 (E : rE) (w : Nat) (s0 : Int32) (s1 : Int32) (s : rS) : Option rA :=
  rrI (some .int) (s1 + s0) s
theorem r327_114 {L : Nat} {xs : Nat → Int32} {zf : Value} {D : dD} {E : rE} {w : Nat} (hD : rO D E L xs) : ∀ (s0 : Int32) (s1 : Int32) (h : rm_H) (s : rS) (r : rA), RS h s → s327_114 E w s0 s1 s = some r → rx (b327_114 L xs zf D w s0 s1 h) h r := by
  intro s0 s1 h s r hR hh
  unfold s327_114 at hh
  unfold b327_114
  exact rx_I hR hh
def s327_57 (E : rE) (w : Nat) (i1 : Int32) (i2 : Int32) (s0 : Int32) (s : rS) : Option rA :=
  (rs_aB s 66 i2).bind fun x1 =>
  if mx_f2 .eq x1 s0 = true then
    if mx_f1 .eq s0 = true then
      (rs_aI s 57 i1).bind fun x5 =>
      s327_114 E w x5 (8 * (i2 + 1)) s
    else
      s327_114 E w 5 (8 * (i2 + 1)) s
  else
    if mx_f1 .eq s0 = true then
      (rs_aI s 58 i1).bind fun x8 =>
      s327_89 E w x8 4 s
    else
      (rs_aI s 59 i1).bind fun x10 =>
      s327_89 E w x10 4 s
theorem r327_57 {L : Nat} {xs : Nat → Int32} {zf : Value} {D : dD} {E : rE} {w : Nat} (hD : rO D E L xs) : ∀ (i1 : Int32) (i2 : Int32) (s0 : Int32) (h : rm_H) (s : rS) (r : rA), RS h s → s327_57 E w i1 i2 s0 s = some r → rx (b327_57 L xs zf D w (some 36) i1 i2 s0 h) h r := by
  intro i1 i2 s0 h s r hR hh
  unfold s327_57 at hh
  unfold b327_57
  refine rx_b (rs_gR hR 37 66 rfl) ?_
  obtain ⟨x1, q2, hh⟩ := db hh
  refine rx_b (rs_aB_ok hR q2) ?_
  rcases di hh with ⟨q3, hh⟩ | ⟨q3, hh⟩
  · refine rx_t q3 ?_
    rcases di hh with ⟨q4, hh⟩ | ⟨q4, hh⟩
    · refine rx_t q4 ?_
      refine rx_b (rs_gR hR 27 57 rfl) ?_
      obtain ⟨x5, q6, hh⟩ := db hh
      refine rx_b (rs_aI_ok hR q6) ?_
      exact r327_114 hD _ _ _ _ _ hR hh
    · refine rx_f q4 ?_
      exact r327_114 hD _ _ _ _ _ hR hh
  · refine rx_f q3 ?_
    rcases di hh with ⟨q7, hh⟩ | ⟨q7, hh⟩
    · refine rx_t q7 ?_
      refine rx_b (rs_gR hR 28 58 rfl) ?_
      obtain ⟨x8, q9, hh⟩ := db hh
      refine rx_b (rs_aI_ok hR q9) ?_
      exact r327_89 hD _ _ _ _ _ hR hh
    · refine rx_f q7 ?_
      refine rx_b (rs_gR hR 29 59 rfl) ?_
      obtain ⟨x10, q11, hh⟩ := db hh
      refine rx_b (rs_aI_ok hR q11) ?_
      exact r327_89 hD _ _ _ _ _ hR hh
def s327_0 (E : rE) (w : Nat) (i1 : Int32) (s : rS) : Option rA :=
  (rs_aI s 57 i1).bind fun x1 =>
  if mx_f2 .ne x1 6 = true then
    (rs_aJ s 61 i1).bind fun y4 =>
    ((E 328 [.ref 36, .long y4] s).bind rxI).bind fun x6 =>
    if mx_f2 .ne x6.1 (-1) = true then
      (rs_aI x6.2 57 i1).bind fun x12 =>
      if mx_f2 .ne x12 5 = true then
        s327_57 E w i1 x6.1 0 x6.2
      else
        s327_57 E w i1 x6.1 1 x6.2
    else
      (rs_aI x6.2 59 i1).bind fun x15 =>
      ((E 329 [.ref 36, .int 3, .int x15] x6.2).bind rxV).bind fun s17 =>
      rrI (some .int) (-1) s17
  else
    rrI (some .int) 0 s
theorem r327_0 {L : Nat} {xs : Nat → Int32} {zf : Value} {D : dD} {E : rE} {w : Nat} (hD : rO D E L xs) : ∀ (i1 : Int32) (h : rm_H) (s : rS) (r : rA), RS h s → s327_0 E w i1 s = some r → rx (b327_0 L xs zf D w (some 36) i1 h) h r := by
  intro i1 h s r hR hh
  unfold s327_0 at hh
  unfold b327_0
  refine rx_b (rs_gR hR 27 57 rfl) ?_
  obtain ⟨x1, q2, hh⟩ := db hh
  refine rx_b (rs_aI_ok hR q2) ?_
  rcases di hh with ⟨q3, hh⟩ | ⟨q3, hh⟩
  · refine rx_t q3 ?_
    refine rx_b (rs_gR hR 31 61 rfl) ?_
    obtain ⟨y4, q5, hh⟩ := db hh
    refine rx_b (rs_aJ_ok hR q5) ?_
    obtain ⟨x6, q7, hh⟩ := db hh
    obtain ⟨h8, e9, hR, f10⟩ := rs_vI hD hR q7
    refine rx_c e9 f10 ?_
    rcases di hh with ⟨q11, hh⟩ | ⟨q11, hh⟩
    · refine rx_t q11 ?_
      refine rx_b (rs_gR hR 27 57 rfl) ?_
      obtain ⟨x12, q13, hh⟩ := db hh
      refine rx_b (rs_aI_ok hR q13) ?_
      rcases di hh with ⟨q14, hh⟩ | ⟨q14, hh⟩
      · refine rx_t q14 ?_
        exact r327_57 hD _ _ _ _ _ _ hR hh
      · refine rx_f q14 ?_
        exact r327_57 hD _ _ _ _ _ _ hR hh
    · refine rx_f q11 ?_
      refine rx_b (rs_gR hR 29 59 rfl) ?_
      obtain ⟨x15, q16, hh⟩ := db hh
      refine rx_b (rs_aI_ok hR q16) ?_
      obtain ⟨s17, q18, hh⟩ := db hh
      obtain ⟨h19, e20, hR, f21⟩ := rs_vV hD hR q18
      refine rx_w e20 f21 ?_
      exact rx_I hR hh
  · refine rx_f q3 ?_
    exact rx_I hR hh
def g327 (E : rE) (w : Nat) (As : List Value) (s : rS) : Option rA := match As with
  | [.ref 36, .int i1] => s327_0 E w i1 s
  | _ => none
theorem t327 {L : Nat} {xs : Nat → Int32} {zf : Value} {D : dD} {E : rE} {w : Nat} (hD : rO D E L xs) (As : List Value) (h : rm_H) (s : rS) (r : rA) (hR : RS h s) (hh : g327 E w As s = some r) : rx (f327 L xs zf D w As h) h r := by
  unfold g327 at hh
  split at hh
  · unfold f327
    dsimp only
    refine rx_b (a := some 36) rfl ?_
    exact r327_0 hD _ _ _ _ hR hh
  · cases hh
def s328_2 (E : rE) (w : Nat) : Nat → Int64 → Int32 → rS → Option rA
  | 0, _, _, _ => none
  | n + 1, j1, i3, s =>
    if mx_f2 .ge i3 (s.1 32) = true then
      rrI (some .int) (-1) s
    else
      (rs_aJ s 62 i3).bind fun y2 =>
      if mx_f1 .ne (lg_cmp y2 j1) = true then
        s328_2 E w n j1 (i3 + 1) s
      else
        rrI (some .int) i3 s
theorem r328_2 {L : Nat} {xs : Nat → Int32} {zf : Value} {D : dD} {E : rE} {w : Nat} (hD : rO D E L xs) : ∀ (n : Nat) (j1 : Int64) (i3 : Int32) (h : rm_H) (s : rS) (r : rA), RS h s → s328_2 E w n j1 i3 s = some r → rx (b328_2 L xs zf D w n (some 36) j1 i3 h) h r := by
  intro n
  induction n with
  | zero =>
    intro j1 i3 h s r hR hh
    cases hh
  | succ n ih =>
    intro j1 i3 h s r hR hh
    rw [s328_2] at hh
    rw [b328_2]
    refine rx_b (rs_gI hR 32 _ rfl) ?_
    rcases di hh with ⟨q1, hh⟩ | ⟨q1, hh⟩
    · refine rx_t q1 ?_
      exact rx_I hR hh
    · refine rx_f q1 ?_
      refine rx_b (rs_gR hR 33 62 rfl) ?_
      obtain ⟨y2, q3, hh⟩ := db hh
      refine rx_b (rs_aJ_ok hR q3) ?_
      rcases di hh with ⟨q4, hh⟩ | ⟨q4, hh⟩
      · refine rx_t q4 ?_
        exact ih _ _ _ _ _ hR hh
      · refine rx_f q4 ?_
        exact rx_I hR hh
def s328_0 (E : rE) (w : Nat) (j1 : Int64) (s : rS) : Option rA :=
  s328_2 E w w j1 0 s
theorem r328_0 {L : Nat} {xs : Nat → Int32} {zf : Value} {D : dD} {E : rE} {w : Nat} (hD : rO D E L xs) : ∀ (j1 : Int64) (h : rm_H) (s : rS) (r : rA), RS h s → s328_0 E w j1 s = some r → rx (b328_0 L xs zf D w (some 36) j1 h) h r := by
  intro j1 h s r hR hh
  unfold s328_0 at hh
  unfold b328_0
  exact r328_2 hD _ _ _ _ _ _ hR hh
def g328 (E : rE) (w : Nat) (As : List Value) (s : rS) : Option rA := match As with
  | [.ref 36, .long j1] => s328_0 E w j1 s
  | _ => none
theorem t328 {L : Nat} {xs : Nat → Int32} {zf : Value} {D : dD} {E : rE} {w : Nat} (hD : rO D E L xs) (As : List Value) (h : rm_H) (s : rS) (r : rA) (hR : RS h s) (hh : g328 E w As s = some r) : rx (f328 L xs zf D w As h) h r := by
  unfold g328 at hh
  split at hh
  · unfold f328
    dsimp only
    refine rx_b (a := some 36) rfl ?_
    exact r328_0 hD _ _ _ _ hR hh
  · cases hh
def s329_31 (E : rE) (w : Nat) (s : rS) : Option rA :=
  some (none, s)
theorem r329_31 {L : Nat} {xs : Nat → Int32} {zf : Value} {D : dD} {E : rE} {w : Nat} (hD : rO D E L xs) : ∀ (h : rm_H) (s : rS) (r : rA), RS h s → s329_31 E w s = some r → rx (b329_31 L xs zf D w h) h r := by
  intro h s r hR hh
  unfold s329_31 at hh
  unfold b329_31
  cases hh
  exact rx_0 hR
def s329_32 (E : rE) (w : Nat) (i1 : Int32) (i2 : Int32) (s : rS) : Option rA :=
  (rs_pI s 57 i1).bind fun s1 =>
  (rs_pI s1 58 i2).bind fun s6 =>
  some (none, s6)
theorem r329_32 {L : Nat} {xs : Nat → Int32} {zf : Value} {D : dD} {E : rE} {w : Nat} (hD : rO D E L xs) : ∀ (i1 : Int32) (i2 : Int32) (h : rm_H) (s : rS) (r : rA), RS h s → s329_32 E w i1 i2 s = some r → rx (b329_32 L xs zf D w (some 36) i1 i2 h) h r := by
  intro i1 i2 h s r hR hh
  unfold s329_32 at hh
  unfold b329_32
  obtain ⟨s1, q2, hh⟩ := db hh
  obtain ⟨h3, e4, hR, f5⟩ := rs_pI_ok (rs_m57 _ _) (by decide) hR q2
  refine rx_w e4 f5 ?_
  obtain ⟨s6, q7, hh⟩ := db hh
  obtain ⟨h8, e9, hR, f10⟩ := rs_pI_ok (rs_m58 _ _) (by decide) hR q7
  refine rx_w e9 f10 ?_
  cases hh
  exact rx_0 hR
def s329_0 (E : rE) (w : Nat) (i1 : Int32) (i2 : Int32) (s : rS) : Option rA :=
  if mx_f1 .le (s.1 57) = true then
    s329_32 E w i1 i2 s
  else
    if mx_f2 .gt i2 (s.1 58) = true then
      s329_31 E w s
    else
      if mx_f2 .ne i2 (s.1 58) = true then
        s329_32 E w i1 i2 s
      else
        if mx_f2 .lt i1 (s.1 57) = true then
          s329_32 E w i1 i2 s
        else
          s329_31 E w s
theorem r329_0 {L : Nat} {xs : Nat → Int32} {zf : Value} {D : dD} {E : rE} {w : Nat} (hD : rO D E L xs) : ∀ (i1 : Int32) (i2 : Int32) (h : rm_H) (s : rS) (r : rA), RS h s → s329_0 E w i1 i2 s = some r → rx (b329_0 L xs zf D w (some 36) i1 i2 h) h r := by
  intro i1 i2 h s r hR hh
  unfold s329_0 at hh
  unfold b329_0
  refine rx_b (rs_gI hR 57 _ rfl) ?_
  rcases di hh with ⟨q1, hh⟩ | ⟨q1, hh⟩
  · refine rx_t q1 ?_
    exact r329_32 hD _ _ _ _ _ hR hh
  · refine rx_f q1 ?_
    refine rx_b (rs_gI hR 58 _ rfl) ?_
    rcases di hh with ⟨q2, hh⟩ | ⟨q2, hh⟩
    · refine rx_t q2 ?_
      exact r329_31 hD  _ _ _ hR hh
    · refine rx_f q2 ?_
      refine rx_b (rs_gI hR 58 _ rfl) ?_
      rcases di hh with ⟨q3, hh⟩ | ⟨q3, hh⟩
      · refine rx_t q3 ?_
        exact r329_32 hD _ _ _ _ _ hR hh
      · refine rx_f q3 ?_
        refine rx_b (rs_gI hR 57 _ rfl) ?_
        rcases di hh with ⟨q4, hh⟩ | ⟨q4, hh⟩
        · refine rx_t q4 ?_
          exact r329_32 hD _ _ _ _ _ hR hh
        · refine rx_f q4 ?_
          exact r329_31 hD  _ _ _ hR hh
def g329 (E : rE) (w : Nat) (As : List Value) (s : rS) : Option rA := match As with
  | [.ref 36, .int i1, .int i2] => s329_0 E w i1 i2 s
  | _ => none
theorem t329 {L : Nat} {xs : Nat → Int32} {zf : Value} {D : dD} {E : rE} {w : Nat} (hD : rO D E L xs) (As : List Value) (h : rm_H) (s : rS) (r : rA) (hR : RS h s) (hh : g329 E w As s = some r) : rx (f329 L xs zf D w As h) h r := by
  unfold g329 at hh
  split at hh
  · unfold f329
    dsimp only
    refine rx_b (a := some 36) rfl ?_
    exact r329_0 hD _ _ _ _ _ hR hh
  · cases hh
def s330_108 (E : rE) (w : Nat) (K54 : Int32 → Int32 → Int32 → rS → Option rA) (K74 : Int32 → Int32 → Int32 → Int32 → rS → Option rA) (i1 : Int32) (i2 : Int32) (i3 : Int32) (i4 : Int32) (s : rS) : Option rA :=
  K74 i1 i2 i3 (i4 + 1) s
theorem r330_108 {L : Nat} {xs : Nat → Int32} {zf : Value} {D : dD} {E : rE} {w : Nat} {K54 : Int32 → Int32 → Int32 → rS → Option rA} {B54 : Option Nat → Int32 → Int32 → Int32 → rm_H → Option dR} {K74 : Int32 → Int32 → Int32 → Int32 → rS → Option rA} {B74 : Option Nat → Int32 → Int32 → Int32 → Int32 → rm_H → Option dR} (hD : rO D E L xs) (hK54 : ∀ (i1 : Int32) (i2 : Int32) (i3 : Int32) (h : rm_H) (s : rS) (r : rA), RS h s → K54 i1 i2 i3 s = some r → rx (B54 (some 36) i1 i2 i3 h) h r) (hK74 : ∀ (i1 : Int32) (i2 : Int32) (i3 : Int32) (i4 : Int32) (h : rm_H) (s : rS) (r : rA), RS h s → K74 i1 i2 i3 i4 s = some r → rx (B74 (some 36) i1 i2 i3 i4 h) h r) : ∀ (i1 : Int32) (i2 : Int32) (i3 : Int32) (i4 : Int32) (h : rm_H) (s : rS) (r : rA), RS h s → s330_108 E w K54 K74 i1 i2 i3 i4 s = some r → rx (b330_108 L xs zf D w B54 B74 (some 36) i1 i2 i3 i4 h) h r := by
  intro i1 i2 i3 i4 h s r hR hh
  unfold s330_108 at hh
  unfold b330_108
  exact hK74 _ _ _ _ _ _ _ hR hh
def s330_166 (E : rE) (w : Nat) (K54 : Int32 → Int32 → Int32 → rS → Option rA) (i1 : Int32) (i2 : Int32) (i3 : Int32) (s : rS) : Option rA :=
  K54 i1 i2 (i3 + 1) s
theorem r330_166 {L : Nat} {xs : Nat → Int32} {zf : Value} {D : dD} {E : rE} {w : Nat} {K54 : Int32 → Int32 → Int32 → rS → Option rA} {B54 : Option Nat → Int32 → Int32 → Int32 → rm_H → Option dR} (hD : rO D E L xs) (hK54 : ∀ (i1 : Int32) (i2 : Int32) (i3 : Int32) (h : rm_H) (s : rS) (r : rA), RS h s → K54 i1 i2 i3 s = some r → rx (B54 (some 36) i1 i2 i3 h) h r) : ∀ (i1 : Int32) (i2 : Int32) (i3 : Int32) (h : rm_H) (s : rS) (r : rA), RS h s → s330_166 E w K54 i1 i2 i3 s = some r → rx (b330_166 L xs zf D w B54 (some 36) i1 i2 i3 h) h r := by
  intro i1 i2 i3 h s r hR hh
  unfold s330_166 at hh
  unfold b330_166
  exact hK54 _ _ _ _ _ _ hR hh
def s330_74 (E : rE) (w : Nat) (K54 : Int32 → Int32 → Int32 → rS → Option rA) : Nat → Int32 → Int32 → Int32 → Int32 → rS → Option rA
  | 0, _, _, _, _, _ => none
  | n + 1, i1, i2, i3, i4, s =>
    if mx_f2 .ge i4 i3 = true then
      (rs_aI s 81 i3).bind fun x2 =>
      (rs_aI s 60 x2).bind fun x4 =>
      if mx_f1 .eq i2 = true then
        s330_166 E w K54 i1 i2 i3 s
      else
        (rs_aI s 70 i1).bind fun x7 =>
        if mx_f2 .eq x7 1 = true then
          s330_166 E w K54 i1 i2 i3 s
        else
          if mx_f2 .eq x4 (-1) = true then
            s330_166 E w K54 i1 i2 i3 s
          else
            ((E 331 [.int x4] s).bind rxI).bind fun x11 =>
            if mx_f1 .ne x11.1 = true then
              s330_166 E w K54 i1 i2 i3 x11.2
            else
              (rs_aI x11.2 80 i3).bind fun x17 =>
              ((E 329 [.ref 36, .int 4, .int x17] x11.2).bind rxV).bind fun s19 =>
              s330_166 E w K54 i1 i2 i3 s19
    else
      (rs_aJ s 79 i4).bind fun y24 =>
      (rs_aJ s 79 i3).bind fun y26 =>
      if mx_f1 .ne (lg_cmp y24 y26) = true then
        s330_108 E w K54 (s330_74 E w K54 n) i1 i2 i3 i4 s
      else
        (rs_aI s 80 i3).bind fun x29 =>
        ((E 329 [.ref 36, .int 2, .int x29] s).bind rxV).bind fun s31 =>
        s330_108 E w K54 (s330_74 E w K54 n) i1 i2 i3 i4 s31
theorem r330_74 {L : Nat} {xs : Nat → Int32} {zf : Value} {D : dD} {E : rE} {w : Nat} {K54 : Int32 → Int32 → Int32 → rS → Option rA} {B54 : Option Nat → Int32 → Int32 → Int32 → rm_H → Option dR} (hD : rO D E L xs) (hK54 : ∀ (i1 : Int32) (i2 : Int32) (i3 : Int32) (h : rm_H) (s : rS) (r : rA), RS h s → K54 i1 i2 i3 s = some r → rx (B54 (some 36) i1 i2 i3 h) h r) : ∀ (n : Nat) (i1 : Int32) (i2 : Int32) (i3 : Int32) (i4 : Int32) (h : rm_H) (s : rS) (r : rA), RS h s → s330_74 E w K54 n i1 i2 i3 i4 s = some r → rx (b330_74 L xs zf D w B54 n (some 36) i1 i2 i3 i4 h) h r := by
  intro n
  induction n with
  | zero =>
    intro i1 i2 i3 i4 h s r hR hh
    cases hh
  | succ n ih =>
    intro i1 i2 i3 i4 h s r hR hh
    rw [s330_74] at hh
    rw [b330_74]
    rcases di hh with ⟨q1, hh⟩ | ⟨q1, hh⟩
    · refine rx_t q1 ?_
      refine rx_b (rs_gR hR 30 60 rfl) ?_
      refine rx_b (rs_gR hR 55 81 rfl) ?_
      obtain ⟨x2, q3, hh⟩ := db hh
      refine rx_b (rs_aI_ok hR q3) ?_
      obtain ⟨x4, q5, hh⟩ := db hh
      refine rx_b (rs_aI_ok hR q5) ?_
      rcases di hh with ⟨q6, hh⟩ | ⟨q6, hh⟩
      · refine rx_t q6 ?_
        exact r330_166 hD hK54 _ _ _ _ _ _ hR hh
      · refine rx_f q6 ?_
        refine rx_b (rs_gR hR 43 70 rfl) ?_
        obtain ⟨x7, q8, hh⟩ := db hh
        refine rx_b (rs_aI_ok hR q8) ?_
        rcases di hh with ⟨q9, hh⟩ | ⟨q9, hh⟩
        · refine rx_t q9 ?_
          exact r330_166 hD hK54 _ _ _ _ _ _ hR hh
        · refine rx_f q9 ?_
          rcases di hh with ⟨q10, hh⟩ | ⟨q10, hh⟩
          · refine rx_t q10 ?_
            exact r330_166 hD hK54 _ _ _ _ _ _ hR hh
          · refine rx_f q10 ?_
            obtain ⟨x11, q12, hh⟩ := db hh
            obtain ⟨h13, e14, hR, f15⟩ := rs_cI hD hR q12
            refine rx_c e14 f15 ?_
            rcases di hh with ⟨q16, hh⟩ | ⟨q16, hh⟩
            · refine rx_t q16 ?_
              exact r330_166 hD hK54 _ _ _ _ _ _ hR hh
            · refine rx_f q16 ?_
              refine rx_b (rs_gR hR 54 80 rfl) ?_
              obtain ⟨x17, q18, hh⟩ := db hh
              refine rx_b (rs_aI_ok hR q18) ?_
              obtain ⟨s19, q20, hh⟩ := db hh
              obtain ⟨h21, e22, hR, f23⟩ := rs_vV hD hR q20
              refine rx_w e22 f23 ?_
              exact r330_166 hD hK54 _ _ _ _ _ _ hR hh
    · refine rx_f q1 ?_
      refine rx_b (rs_gR hR 53 79 rfl) ?_
      obtain ⟨y24, q25, hh⟩ := db hh
      refine rx_b (rs_aJ_ok hR q25) ?_
      refine rx_b (rs_gR hR 53 79 rfl) ?_
      obtain ⟨y26, q27, hh⟩ := db hh
      refine rx_b (rs_aJ_ok hR q27) ?_
      rcases di hh with ⟨q28, hh⟩ | ⟨q28, hh⟩
      · refine rx_t q28 ?_
        exact r330_108 hD hK54 ih _ _ _ _ _ _ _ hR hh
      · refine rx_f q28 ?_
        refine rx_b (rs_gR hR 54 80 rfl) ?_
        obtain ⟨x29, q30, hh⟩ := db hh
        refine rx_b (rs_aI_ok hR q30) ?_
        obtain ⟨s31, q32, hh⟩ := db hh
        obtain ⟨h33, e34, hR, f35⟩ := rs_vV hD hR q32
        refine rx_w e34 f35 ?_
        exact r330_108 hD hK54 ih _ _ _ _ _ _ _ hR hh
def s330_54 (E : rE) (w : Nat) : Nat → Int32 → Int32 → Int32 → rS → Option rA
  | 0, _, _, _, _ => none
  | n + 1, i1, i2, i3, s =>
    (rs_aI s 77 (i1 + 1)).bind fun x1 =>
    if mx_f2 .ge i3 x1 = true then
      some (none, s)
    else
      (rs_aI s 77 i1).bind fun x4 =>
      s330_74 E w (s330_54 E w n) w i1 i2 i3 x4 s
theorem r330_54 {L : Nat} {xs : Nat → Int32} {zf : Value} {D : dD} {E : rE} {w : Nat} (hD : rO D E L xs) : ∀ (n : Nat) (i1 : Int32) (i2 : Int32) (i3 : Int32) (h : rm_H) (s : rS) (r : rA), RS h s → s330_54 E w n i1 i2 i3 s = some r → rx (b330_54 L xs zf D w n (some 36) i1 i2 i3 h) h r := by
  intro n
  induction n with
  | zero =>
    intro i1 i2 i3 h s r hR hh
    cases hh
  | succ n ih =>
    intro i1 i2 i3 h s r hR hh
    rw [s330_54] at hh
    rw [b330_54]
    refine rx_b (rs_gR hR 50 77 rfl) ?_
    obtain ⟨x1, q2, hh⟩ := db hh
    refine rx_b (rs_aI_ok hR q2) ?_
    rcases di hh with ⟨q3, hh⟩ | ⟨q3, hh⟩
    · refine rx_t q3 ?_
      cases hh
      exact rx_0 hR
    · refine rx_f q3 ?_
      refine rx_b (rs_gR hR 50 77 rfl) ?_
      obtain ⟨x4, q5, hh⟩ := db hh
      refine rx_b (rs_aI_ok hR q5) ?_
      exact r330_74 hD ih _ _ _ _ _ _ _ _ hR hh
def s330_47 (E : rE) (w : Nat) (i1 : Int32) (i2 : Int32) (s : rS) : Option rA :=
  (rs_aI s 77 i1).bind fun x1 =>
  s330_54 E w w i1 i2 x1 s
theorem r330_47 {L : Nat} {xs : Nat → Int32} {zf : Value} {D : dD} {E : rE} {w : Nat} (hD : rO D E L xs) : ∀ (i1 : Int32) (i2 : Int32) (h : rm_H) (s : rS) (r : rA), RS h s → s330_47 E w i1 i2 s = some r → rx (b330_47 L xs zf D w (some 36) i1 i2 h) h r := by
  intro i1 i2 h s r hR hh
  unfold s330_47 at hh
  unfold b330_47
  refine rx_b (rs_gR hR 50 77 rfl) ?_
  obtain ⟨x1, q2, hh⟩ := db hh
  refine rx_b (rs_aI_ok hR q2) ?_
  exact r330_54 hD _ _ _ _ _ _ _ hR hh
def s330_0 (E : rE) (w : Nat) (i1 : Int32) (s : rS) : Option rA :=
  (rs_aI s 71 i1).bind fun x1 =>
  (rs_aB s 66 x1).bind fun x3 =>
  if mx_f1 .eq x3 = true then
    s330_47 E w i1 x3 s
  else
    (rs_aI s 70 i1).bind fun x6 =>
    if mx_f2 .ne x6 1 = true then
      s330_47 E w i1 x3 s
    else
      (rs_aI s 72 i1).bind fun x9 =>
      if mx_f2 .eq x9 2 = true then
        s330_47 E w i1 x3 s
      else
        (rs_aI s 73 i1).bind fun x12 =>
        ((E 329 [.ref 36, .int 4, .int x12] s).bind rxV).bind fun s14 =>
        s330_47 E w i1 x3 s14
theorem r330_0 {L : Nat} {xs : Nat → Int32} {zf : Value} {D : dD} {E : rE} {w : Nat} (hD : rO D E L xs) : ∀ (i1 : Int32) (h : rm_H) (s : rS) (r : rA), RS h s → s330_0 E w i1 s = some r → rx (b330_0 L xs zf D w (some 36) i1 h) h r := by
  intro i1 h s r hR hh
  unfold s330_0 at hh
  unfold b330_0
  refine rx_b (rs_gR hR 37 66 rfl) ?_
  refine rx_b (rs_gR hR 44 71 rfl) ?_
  obtain ⟨x1, q2, hh⟩ := db hh
  refine rx_b (rs_aI_ok hR q2) ?_
  obtain ⟨x3, q4, hh⟩ := db hh
  refine rx_b (rs_aB_ok hR q4) ?_
  rcases di hh with ⟨q5, hh⟩ | ⟨q5, hh⟩
  · refine rx_t q5 ?_
    exact r330_47 hD _ _ _ _ _ hR hh
  · refine rx_f q5 ?_
    refine rx_b (rs_gR hR 43 70 rfl) ?_
    obtain ⟨x6, q7, hh⟩ := db hh
    refine rx_b (rs_aI_ok hR q7) ?_
    rcases di hh with ⟨q8, hh⟩ | ⟨q8, hh⟩
    · refine rx_t q8 ?_
      exact r330_47 hD _ _ _ _ _ hR hh
    · refine rx_f q8 ?_
      refine rx_b (rs_gR hR 45 72 rfl) ?_
      obtain ⟨x9, q10, hh⟩ := db hh
      refine rx_b (rs_aI_ok hR q10) ?_
      rcases di hh with ⟨q11, hh⟩ | ⟨q11, hh⟩
      · refine rx_t q11 ?_
        exact r330_47 hD _ _ _ _ _ hR hh
      · refine rx_f q11 ?_
        refine rx_b (rs_gR hR 46 73 rfl) ?_
        obtain ⟨x12, q13, hh⟩ := db hh
        refine rx_b (rs_aI_ok hR q13) ?_
        obtain ⟨s14, q15, hh⟩ := db hh
        obtain ⟨h16, e17, hR, f18⟩ := rs_vV hD hR q15
        refine rx_w e17 f18 ?_
        exact r330_47 hD _ _ _ _ _ hR hh
def g330 (E : rE) (w : Nat) (As : List Value) (s : rS) : Option rA := match As with
  | [.ref 36, .int i1] => s330_0 E w i1 s
  | _ => none
theorem t330 {L : Nat} {xs : Nat → Int32} {zf : Value} {D : dD} {E : rE} {w : Nat} (hD : rO D E L xs) (As : List Value) (h : rm_H) (s : rS) (r : rA) (hR : RS h s) (hh : g330 E w As s = some r) : rx (f330 L xs zf D w As h) h r := by
  unfold g330 at hh
  split at hh
  · unfold f330
    dsimp only
    refine rx_b (a := some 36) rfl ?_
    exact r330_0 hD _ _ _ _ hR hh
  · cases hh
def s331_38 (E : rE) (w : Nat) (s0 : Int32) (s : rS) : Option rA :=
  rrI (some .boolean) s0 s
theorem r331_38 {L : Nat} {xs : Nat → Int32} {zf : Value} {D : dD} {E : rE} {w : Nat} (hD : rO D E L xs) : ∀ (s0 : Int32) (h : rm_H) (s : rS) (r : rA), RS h s → s331_38 E w s0 s = some r → rx (b331_38 L xs zf D w s0 h) h r := by
  intro s0 h s r hR hh
  unfold s331_38 at hh
  unfold b331_38
  exact rx_I hR hh
def s331_33 (E : rE) (w : Nat) (s : rS) : Option rA :=
  s331_38 E w 1 s
theorem r331_33 {L : Nat} {xs : Nat → Int32} {zf : Value} {D : dD} {E : rE} {w : Nat} (hD : rO D E L xs) : ∀ (h : rm_H) (s : rS) (r : rA), RS h s → s331_33 E w s = some r → rx (b331_33 L xs zf D w h) h r := by
  intro h s r hR hh
  unfold s331_33 at hh
  unfold b331_33
  exact r331_38 hD _ _ _ _ hR hh
def s331_37 (E : rE) (w : Nat) (s : rS) : Option rA :=
  s331_38 E w 0 s
theorem r331_37 {L : Nat} {xs : Nat → Int32} {zf : Value} {D : dD} {E : rE} {w : Nat} (hD : rO D E L xs) : ∀ (h : rm_H) (s : rS) (r : rA), RS h s → s331_37 E w s = some r → rx (b331_37 L xs zf D w h) h r := by
  intro h s r hR hh
  unfold s331_37 at hh
  unfold b331_37
  exact r331_38 hD _ _ _ _ hR hh
def s331_0 (E : rE) (w : Nat) (i0 : Int32) (s : rS) : Option rA :=
  if mx_f1 .eq i0 = true then
    s331_33 E w s
  else
    ((E 332 [.int i0] s).bind rxI).bind fun x2 =>
    if mx_f1 .ne x2.1 = true then
      s331_33 E w x2.2
    else
      ((E 333 [.int i0] x2.2).bind rxI).bind fun x8 =>
      if mx_f1 .eq x8.1 = true then
        s331_37 E w x8.2
      else
        if mx_f1 .eq (i0 - i0 / 8 * 8) = true then
          s331_33 E w x8.2
        else
          if mx_f2 .ne (i0 - i0 / 8 * 8) 3 = true then
            s331_37 E w x8.2
          else
            s331_33 E w x8.2
theorem r331_0 {L : Nat} {xs : Nat → Int32} {zf : Value} {D : dD} {E : rE} {w : Nat} (hD : rO D E L xs) : ∀ (i0 : Int32) (h : rm_H) (s : rS) (r : rA), RS h s → s331_0 E w i0 s = some r → rx (b331_0 L xs zf D w i0 h) h r := by
  intro i0 h s r hR hh
  unfold s331_0 at hh
  unfold b331_0
  rcases di hh with ⟨q1, hh⟩ | ⟨q1, hh⟩
  · refine rx_t q1 ?_
    exact r331_33 hD  _ _ _ hR hh
  · refine rx_f q1 ?_
    obtain ⟨x2, q3, hh⟩ := db hh
    obtain ⟨h4, e5, hR, f6⟩ := rs_cI hD hR q3
    refine rx_c e5 f6 ?_
    rcases di hh with ⟨q7, hh⟩ | ⟨q7, hh⟩
    · refine rx_t q7 ?_
      exact r331_33 hD  _ _ _ hR hh
    · refine rx_f q7 ?_
      obtain ⟨x8, q9, hh⟩ := db hh
      obtain ⟨h10, e11, hR, f12⟩ := rs_cI hD hR q9
      refine rx_c e11 f12 ?_
      rcases di hh with ⟨q13, hh⟩ | ⟨q13, hh⟩
      · refine rx_t q13 ?_
        exact r331_37 hD  _ _ _ hR hh
      · refine rx_f q13 ?_
        rcases di hh with ⟨q14, hh⟩ | ⟨q14, hh⟩
        · refine rx_t q14 ?_
          exact r331_33 hD  _ _ _ hR hh
        · refine rx_f q14 ?_
          rcases di hh with ⟨q15, hh⟩ | ⟨q15, hh⟩
          · refine rx_t q15 ?_
            exact r331_37 hD  _ _ _ hR hh
          · refine rx_f q15 ?_
            exact r331_33 hD  _ _ _ hR hh
def g331 (E : rE) (w : Nat) (As : List Value) (s : rS) : Option rA := match As with
  | [.int i0] => s331_0 E w i0 s
  | _ => none
theorem t331 {L : Nat} {xs : Nat → Int32} {zf : Value} {D : dD} {E : rE} {w : Nat} (hD : rO D E L xs) (As : List Value) (h : rm_H) (s : rS) (r : rA) (hR : RS h s) (hh : g331 E w As s = some r) : rx (f331 L xs zf D w As h) h r := by
  unfold g331 at hh
  split at hh
  · unfold f331
    dsimp only
    exact r331_0 hD _ _ _ _ hR hh
  · cases hh
def s332_19 (E : rE) (w : Nat) (s0 : Int32) (s : rS) : Option rA :=
  rrI (some .boolean) s0 s
theorem r332_19 {L : Nat} {xs : Nat → Int32} {zf : Value} {D : dD} {E : rE} {w : Nat} (hD : rO D E L xs) : ∀ (s0 : Int32) (h : rm_H) (s : rS) (r : rA), RS h s → s332_19 E w s0 s = some r → rx (b332_19 L xs zf D w s0 h) h r := by
  intro s0 h s r hR hh
  unfold s332_19 at hh
  unfold b332_19
  exact rx_I hR hh
def s332_18 (E : rE) (w : Nat) (s : rS) : Option rA :=
  s332_19 E w 0 s
theorem r332_18 {L : Nat} {xs : Nat → Int32} {zf : Value} {D : dD} {E : rE} {w : Nat} (hD : rO D E L xs) : ∀ (h : rm_H) (s : rS) (r : rA), RS h s → s332_18 E w s = some r → rx (b332_18 L xs zf D w h) h r := by
  intro h s r hR hh
  unfold s332_18 at hh
  unfold b332_18
  exact r332_19 hD _ _ _ _ hR hh
def s332_0 (E : rE) (w : Nat) (i0 : Int32) (s : rS) : Option rA :=
  if mx_f2 .lt i0 8 = true then
    s332_18 E w s
  else
    if mx_f2 .ne (i0 - i0 / 8 * 8) 5 = true then
      s332_18 E w s
    else
      s332_19 E w 1 s
theorem r332_0 {L : Nat} {xs : Nat → Int32} {zf : Value} {D : dD} {E : rE} {w : Nat} (hD : rO D E L xs) : ∀ (i0 : Int32) (h : rm_H) (s : rS) (r : rA), RS h s → s332_0 E w i0 s = some r → rx (b332_0 L xs zf D w i0 h) h r := by
  intro i0 h s r hR hh
  unfold s332_0 at hh
  unfold b332_0
  rcases di hh with ⟨q1, hh⟩ | ⟨q1, hh⟩
  · refine rx_t q1 ?_
    exact r332_18 hD  _ _ _ hR hh
  · refine rx_f q1 ?_
    rcases di hh with ⟨q2, hh⟩ | ⟨q2, hh⟩
    · refine rx_t q2 ?_
      exact r332_18 hD  _ _ _ hR hh
    · refine rx_f q2 ?_
      exact r332_19 hD _ _ _ _ hR hh
def g332 (E : rE) (w : Nat) (As : List Value) (s : rS) : Option rA := match As with
  | [.int i0] => s332_0 E w i0 s
  | _ => none
theorem t332 {L : Nat} {xs : Nat → Int32} {zf : Value} {D : dD} {E : rE} {w : Nat} (hD : rO D E L xs) (As : List Value) (h : rm_H) (s : rS) (r : rA) (hR : RS h s) (hh : g332 E w As s = some r) : rx (f332 L xs zf D w As h) h r := by
  unfold g332 at hh
  split at hh
  · unfold f332
    dsimp only
    exact r332_0 hD _ _ _ _ hR hh
  · cases hh
def s333_19 (E : rE) (w : Nat) (s0 : Int32) (s : rS) : Option rA :=
  rrI (some .boolean) s0 s
theorem r333_19 {L : Nat} {xs : Nat → Int32} {zf : Value} {D : dD} {E : rE} {w : Nat} (hD : rO D E L xs) : ∀ (s0 : Int32) (h : rm_H) (s : rS) (r : rA), RS h s → s333_19 E w s0 s = some r → rx (b333_19 L xs zf D w s0 h) h r := by
  intro s0 h s r hR hh
  unfold s333_19 at hh
  unfold b333_19
  exact rx_I hR hh
def s333_18 (E : rE) (w : Nat) (s : rS) : Option rA :=
  s333_19 E w 0 s
theorem r333_18 {L : Nat} {xs : Nat → Int32} {zf : Value} {D : dD} {E : rE} {w : Nat} (hD : rO D E L xs) : ∀ (h : rm_H) (s : rS) (r : rA), RS h s → s333_18 E w s = some r → rx (b333_18 L xs zf D w h) h r := by
  intro h s r hR hh
  unfold s333_18 at hh
  unfold b333_18
  exact r333_19 hD _ _ _ _ hR hh
def s333_0 (E : rE) (w : Nat) (i0 : Int32) (s : rS) : Option rA :=
  if mx_f2 .lt i0 8 = true then
    s333_18 E w s
  else
    if mx_f2 .ge (i0 - i0 / 8 * 8) 5 = true then
      s333_18 E w s
    else
      s333_19 E w 1 s
theorem r333_0 {L : Nat} {xs : Nat → Int32} {zf : Value} {D : dD} {E : rE} {w : Nat} (hD : rO D E L xs) : ∀ (i0 : Int32) (h : rm_H) (s : rS) (r : rA), RS h s → s333_0 E w i0 s = some r → rx (b333_0 L xs zf D w i0 h) h r := by
  intro i0 h s r hR hh
  unfold s333_0 at hh
  unfold b333_0
  rcases di hh with ⟨q1, hh⟩ | ⟨q1, hh⟩
  · refine rx_t q1 ?_
    exact r333_18 hD  _ _ _ hR hh
  · refine rx_f q1 ?_
    rcases di hh with ⟨q2, hh⟩ | ⟨q2, hh⟩
    · refine rx_t q2 ?_
      exact r333_18 hD  _ _ _ hR hh
    · refine rx_f q2 ?_
      exact r333_19 hD _ _ _ _ hR hh
def g333 (E : rE) (w : Nat) (As : List Value) (s : rS) : Option rA := match As with
  | [.int i0] => s333_0 E w i0 s
  | _ => none
theorem t333 {L : Nat} {xs : Nat → Int32} {zf : Value} {D : dD} {E : rE} {w : Nat} (hD : rO D E L xs) (As : List Value) (h : rm_H) (s : rS) (r : rA) (hR : RS h s) (hh : g333 E w As s = some r) : rx (f333 L xs zf D w As h) h r := by
  unfold g333 at hh
  split at hh
  · unfold f333
    dsimp only
    exact r333_0 hD _ _ _ _ hR hh
  · cases hh
def s334_111 (E : rE) (w : Nat) (s0 : Int32) (s1 : Int32) (s : rS) : Option rA :=
  ((E 336 [.ref 36, .int s1, .int s0] s).bind rxV).bind fun s1 =>
  some (none, s1)
theorem r334_111 {L : Nat} {xs : Nat → Int32} {zf : Value} {D : dD} {E : rE} {w : Nat} (hD : rO D E L xs) : ∀ (s0 : Int32) (s1 : Int32) (h : rm_H) (s : rS) (r : rA), RS h s → s334_111 E w s0 s1 s = some r → rx (b334_111 L xs zf D w s0 s1 (some 36) h) h r := by
  intro s0 s1 h s r hR hh
  unfold s334_111 at hh
  unfold b334_111
  obtain ⟨s1, q2, hh⟩ := db hh
  obtain ⟨h3, e4, hR, f5⟩ := rs_vV hD hR q2
  refine rx_w e4 f5 ?_
  cases hh
  exact rx_0 hR
def s334_110 (E : rE) (w : Nat) (s0 : Int32) (s : rS) : Option rA :=
  s334_111 E w 0 s0 s
theorem r334_110 {L : Nat} {xs : Nat → Int32} {zf : Value} {D : dD} {E : rE} {w : Nat} (hD : rO D E L xs) : ∀ (s0 : Int32) (h : rm_H) (s : rS) (r : rA), RS h s → s334_110 E w s0 s = some r → rx (b334_110 L xs zf D w s0 (some 36) h) h r := by
  intro s0 h s r hR hh
  unfold s334_110 at hh
  unfold b334_110
  exact r334_111 hD _ _ _ _ _ hR hh
def s334_27 (E : rE) (w : Nat) : Nat → Int32 → Int32 → rS → Option rA
  | 0, _, _, _ => none
  | n + 1, i1, i2, s =>
    (rs_aI s 77 (i1 + 1)).bind fun x1 =>
    if mx_f2 .ge i2 x1 = true then
      (rs_aI s 76 i1).bind fun x4 =>
      (rs_aI s 45 x4).bind fun x6 =>
      (rs_aI s 70 i1).bind fun x8 =>
      if mx_f2 .ne x8 1 = true then
        s334_110 E w x6 s
      else
        (rs_aI s 75 i1).bind fun x11 =>
        if mx_f2 .eq x11 (-1) = true then
          s334_110 E w x6 s
        else
          s334_111 E w 1 x6 s
    else
      (rs_aJ s 79 i2).bind fun y14 =>
      (rs_aI s 77 i1).bind fun x16 =>
      (rs_aI s 81 i2).bind fun x18 =>
      (rs_aI s 60 x18).bind fun x20 =>
      ((E 335 [.ref 36, .long y14, .int (i2 - x16), .int x20] s).bind rxV).bind fun s22 =>
      s334_27 E w n i1 (i2 + 1) s22
theorem r334_27 {L : Nat} {xs : Nat → Int32} {zf : Value} {D : dD} {E : rE} {w : Nat} (hD : rO D E L xs) : ∀ (n : Nat) (i1 : Int32) (i2 : Int32) (h : rm_H) (s : rS) (r : rA), RS h s → s334_27 E w n i1 i2 s = some r → rx (b334_27 L xs zf D w n (some 36) i1 i2 h) h r := by
  intro n
  induction n with
  | zero =>
    intro i1 i2 h s r hR hh
    cases hh
  | succ n ih =>
    intro i1 i2 h s r hR hh
    rw [s334_27] at hh
    rw [b334_27]
    refine rx_b (rs_gR hR 50 77 rfl) ?_
    obtain ⟨x1, q2, hh⟩ := db hh
    refine rx_b (rs_aI_ok hR q2) ?_
    rcases di hh with ⟨q3, hh⟩ | ⟨q3, hh⟩
    · refine rx_t q3 ?_
      refine rx_b (rs_gR hR 12 45 rfl) ?_
      refine rx_b (rs_gR hR 49 76 rfl) ?_
      obtain ⟨x4, q5, hh⟩ := db hh
      refine rx_b (rs_aI_ok hR q5) ?_
      obtain ⟨x6, q7, hh⟩ := db hh
      refine rx_b (rs_aI_ok hR q7) ?_
      refine rx_b (rs_gR hR 43 70 rfl) ?_
      obtain ⟨x8, q9, hh⟩ := db hh
      refine rx_b (rs_aI_ok hR q9) ?_
      rcases di hh with ⟨q10, hh⟩ | ⟨q10, hh⟩
      · refine rx_t q10 ?_
        exact r334_110 hD _ _ _ _ hR hh
      · refine rx_f q10 ?_
        refine rx_b (rs_gR hR 48 75 rfl) ?_
        obtain ⟨x11, q12, hh⟩ := db hh
        refine rx_b (rs_aI_ok hR q12) ?_
        rcases di hh with ⟨q13, hh⟩ | ⟨q13, hh⟩
        · refine rx_t q13 ?_
          exact r334_110 hD _ _ _ _ hR hh
        · refine rx_f q13 ?_
          exact r334_111 hD _ _ _ _ _ hR hh
    · refine rx_f q3 ?_
      refine rx_b (rs_gR hR 53 79 rfl) ?_
      obtain ⟨y14, q15, hh⟩ := db hh
      refine rx_b (rs_aJ_ok hR q15) ?_
      refine rx_b (rs_gR hR 50 77 rfl) ?_
      obtain ⟨x16, q17, hh⟩ := db hh
      refine rx_b (rs_aI_ok hR q17) ?_
      refine rx_b (rs_gR hR 30 60 rfl) ?_
      refine rx_b (rs_gR hR 55 81 rfl) ?_
      obtain ⟨x18, q19, hh⟩ := db hh
      refine rx_b (rs_aI_ok hR q19) ?_
      obtain ⟨x20, q21, hh⟩ := db hh
      refine rx_b (rs_aI_ok hR q21) ?_
      obtain ⟨s22, q23, hh⟩ := db hh
      obtain ⟨h24, e25, hR, f26⟩ := rs_vV hD hR q23
      refine rx_w e25 f26 ?_
      exact ih _ _ _ _ _ hR hh
def s334_0 (E : rE) (w : Nat) (i1 : Int32) (s : rS) : Option rA :=
  (rs_pI s 66 i1).bind fun s1 =>
  (rs_pI s1 62 0).bind fun s6 =>
  (rs_pI s6 63 0).bind fun s11 =>
  (rs_pI s11 64 0).bind fun s16 =>
  (rs_aI s16 77 i1).bind fun x21 =>
  s334_27 E w w i1 x21 s16
theorem r334_0 {L : Nat} {xs : Nat → Int32} {zf : Value} {D : dD} {E : rE} {w : Nat} (hD : rO D E L xs) : ∀ (i1 : Int32) (h : rm_H) (s : rS) (r : rA), RS h s → s334_0 E w i1 s = some r → rx (b334_0 L xs zf D w (some 36) i1 h) h r := by
  intro i1 h s r hR hh
  unfold s334_0 at hh
  unfold b334_0
  obtain ⟨s1, q2, hh⟩ := db hh
  obtain ⟨h3, e4, hR, f5⟩ := rs_pI_ok (rs_m66 _ _) (by decide) hR q2
  refine rx_w e4 f5 ?_
  obtain ⟨s6, q7, hh⟩ := db hh
  obtain ⟨h8, e9, hR, f10⟩ := rs_pI_ok (rs_m62 _ _) (by decide) hR q7
  refine rx_w e9 f10 ?_
  obtain ⟨s11, q12, hh⟩ := db hh
  obtain ⟨h13, e14, hR, f15⟩ := rs_pI_ok (rs_m63 _ _) (by decide) hR q12
  refine rx_w e14 f15 ?_
  obtain ⟨s16, q17, hh⟩ := db hh
  obtain ⟨h18, e19, hR, f20⟩ := rs_pI_ok (rs_m64 _ _) (by decide) hR q17
  refine rx_w e19 f20 ?_
  refine rx_b (rs_gR hR 50 77 rfl) ?_
  obtain ⟨x21, q22, hh⟩ := db hh
  refine rx_b (rs_aI_ok hR q22) ?_
  exact r334_27 hD _ _ _ _ _ _ hR hh
def g334 (E : rE) (w : Nat) (As : List Value) (s : rS) : Option rA := match As with
  | [.ref 36, .int i1] => s334_0 E w i1 s
  | _ => none
theorem t334 {L : Nat} {xs : Nat → Int32} {zf : Value} {D : dD} {E : rE} {w : Nat} (hD : rO D E L xs) (As : List Value) (h : rm_H) (s : rS) (r : rA) (hR : RS h s) (hh : g334 E w As s = some r) : rx (f334 L xs zf D w As h) h r := by
  unfold g334 at hh
  split at hh
  · unfold f334
    dsimp only
    refine rx_b (a := some 36) rfl ?_
    exact r334_0 hD _ _ _ _ hR hh
  · cases hh
def s335_0 (E : rE) (w : Nat) (j1 : Int64) (i3 : Int32) (i4 : Int32) (s : rS) : Option rA :=
  (rs_sJ s 82 (s.1 62) j1).bind fun s1 =>
  (rs_sI s1 83 (s1.1 62) i3).bind fun s6 =>
  (rs_sI s6 84 (s6.1 62) i4).bind fun s11 =>
  (rs_sI s11 85 (s11.1 62) (s11.1 63)).bind fun s16 =>
  (rs_pI s16 64 ((s16.1 64) &&& (((1 : Int32) <<< (i3 &&& 31)) ^^^ (-1)))).bind fun s21 =>
  (rs_pI s21 62 ((s21.1 62) + 1)).bind fun s26 =>
  some (none, s26)
theorem r335_0 {L : Nat} {xs : Nat → Int32} {zf : Value} {D : dD} {E : rE} {w : Nat} (hD : rO D E L xs) : ∀ (j1 : Int64) (i3 : Int32) (i4 : Int32) (h : rm_H) (s : rS) (r : rA), RS h s → s335_0 E w j1 i3 i4 s = some r → rx (b335_0 L xs zf D w (some 36) j1 i3 i4 h) h r := by
  intro j1 i3 i4 h s r hR hh
  unfold s335_0 at hh
  unfold b335_0
  refine rx_b (rs_gR hR 67 82 rfl) ?_
  refine rx_b (rs_gI hR 62 _ rfl) ?_
  obtain ⟨s1, q2, hh⟩ := db hh
  obtain ⟨h3, e4, hR, f5⟩ := rs_sJ_ok hR q2
  refine rx_w e4 f5 ?_
  refine rx_b (rs_gR hR 68 83 rfl) ?_
  refine rx_b (rs_gI hR 62 _ rfl) ?_
  obtain ⟨s6, q7, hh⟩ := db hh
  obtain ⟨h8, e9, hR, f10⟩ := rs_sI_ok hR q7
  refine rx_w e9 f10 ?_
  refine rx_b (rs_gR hR 69 84 rfl) ?_
  refine rx_b (rs_gI hR 62 _ rfl) ?_
  obtain ⟨s11, q12, hh⟩ := db hh
  obtain ⟨h13, e14, hR, f15⟩ := rs_sI_ok hR q12
  refine rx_w e14 f15 ?_
  refine rx_b (rs_gR hR 70 85 rfl) ?_
  refine rx_b (rs_gI hR 62 _ rfl) ?_
  refine rx_b (rs_gI hR 63 _ rfl) ?_
  obtain ⟨s16, q17, hh⟩ := db hh
  obtain ⟨h18, e19, hR, f20⟩ := rs_sI_ok hR q17
  refine rx_w e19 f20 ?_
  refine rx_b (rs_gI hR 64 _ rfl) ?_
  obtain ⟨s21, q22, hh⟩ := db hh
  obtain ⟨h23, e24, hR, f25⟩ := rs_pI_ok (rs_m64 _ _) (by decide) hR q22
  refine rx_w e24 f25 ?_
  refine rx_b (rs_gI hR 62 _ rfl) ?_
  obtain ⟨s26, q27, hh⟩ := db hh
  obtain ⟨h28, e29, hR, f30⟩ := rs_pI_ok (rs_m62 _ _) (by decide) hR q27
  refine rx_w e29 f30 ?_
  cases hh
  exact rx_0 hR
def g335 (E : rE) (w : Nat) (As : List Value) (s : rS) : Option rA := match As with
  | [.ref 36, .long j1, .int i3, .int i4] => s335_0 E w j1 i3 i4 s
  | _ => none
theorem t335 {L : Nat} {xs : Nat → Int32} {zf : Value} {D : dD} {E : rE} {w : Nat} (hD : rO D E L xs) (As : List Value) (h : rm_H) (s : rS) (r : rA) (hR : RS h s) (hh : g335 E w As s = some r) : rx (f335 L xs zf D w As h) h r := by
  unfold g335 at hh
  split at hh
  · unfold f335
    dsimp only
    refine rx_b (a := some 36) rfl ?_
    exact r335_0 hD _ _ _ _ _ _ hR hh
  · cases hh
def s336_50 (E : rE) (w : Nat) (K16 : Int32 → Int32 → Int32 → Int32 → Int32 → rS → Option rA) (i1 : Int32) (i2 : Int32) (i3 : Int32) (i4 : Int32) (i5 : Int32) (s0 : Int32) (s1 : Int32) (s : rS) : Option rA :=
  ((E 337 [.ref 36, .int s1, .int s0] s).bind rxV).bind fun s1 =>
  (rs_aI s1 48 i5).bind fun x6 =>
  K16 i1 i2 i3 i4 x6 s1
theorem r336_50 {L : Nat} {xs : Nat → Int32} {zf : Value} {D : dD} {E : rE} {w : Nat} {K16 : Int32 → Int32 → Int32 → Int32 → Int32 → rS → Option rA} {B16 : Option Nat → Int32 → Int32 → Int32 → Int32 → Int32 → rm_H → Option dR} (hD : rO D E L xs) (hK16 : ∀ (i1 : Int32) (i2 : Int32) (i3 : Int32) (i4 : Int32) (i5 : Int32) (h : rm_H) (s : rS) (r : rA), RS h s → K16 i1 i2 i3 i4 i5 s = some r → rx (B16 (some 36) i1 i2 i3 i4 i5 h) h r) : ∀ (i1 : Int32) (i2 : Int32) (i3 : Int32) (i4 : Int32) (i5 : Int32) (s0 : Int32) (s1 : Int32) (h : rm_H) (s : rS) (r : rA), RS h s → s336_50 E w K16 i1 i2 i3 i4 i5 s0 s1 s = some r → rx (b336_50 L xs zf D w B16 (some 36) i1 i2 i3 i4 i5 s0 s1 (some 36) h) h r := by
  intro i1 i2 i3 i4 i5 s0 s1 h s r hR hh
  unfold s336_50 at hh
  unfold b336_50
  obtain ⟨s1, q2, hh⟩ := db hh
  obtain ⟨h3, e4, hR, f5⟩ := rs_vV hD hR q2
  refine rx_w e4 f5 ?_
  refine rx_b (rs_gR hR 15 48 rfl) ?_
  obtain ⟨x6, q7, hh⟩ := db hh
  refine rx_b (rs_aI_ok hR q7) ?_
  exact hK16 _ _ _ _ _ _ _ _ hR hh
def s336_124 (E : rE) (w : Nat) (s : rS) : Option rA :=
  some (none, s)
theorem r336_124 {L : Nat} {xs : Nat → Int32} {zf : Value} {D : dD} {E : rE} {w : Nat} (hD : rO D E L xs) : ∀ (h : rm_H) (s : rS) (r : rA), RS h s → s336_124 E w s = some r → rx (b336_124 L xs zf D w h) h r := by
  intro h s r hR hh
  unfold s336_124 at hh
  unfold b336_124
  cases hh
  exact rx_0 hR
def s336_112 (E : rE) (w : Nat) (i1 : Int32) (s : rS) : Option rA :=
  (rs_aI s 55 i1).bind fun x1 =>
  ((E 305 [.ref 36, .int 8, .int x1] s).bind rxV).bind fun s3 =>
  s336_124 E w s3
theorem r336_112 {L : Nat} {xs : Nat → Int32} {zf : Value} {D : dD} {E : rE} {w : Nat} (hD : rO D E L xs) : ∀ (i1 : Int32) (h : rm_H) (s : rS) (r : rA), RS h s → s336_112 E w i1 s = some r → rx (b336_112 L xs zf D w (some 36) i1 h) h r := by
  intro i1 h s r hR hh
  unfold s336_112 at hh
  unfold b336_112
  refine rx_b (rs_gR hR 22 55 rfl) ?_
  obtain ⟨x1, q2, hh⟩ := db hh
  refine rx_b (rs_aI_ok hR q2) ?_
  obtain ⟨s3, q4, hh⟩ := db hh
  obtain ⟨h5, e6, hR, f7⟩ := rs_vV hD hR q4
  refine rx_w e6 f7 ?_
  exact r336_124 hD  _ _ _ hR hh
def s336_82 (E : rE) (w : Nat) (i1 : Int32) (i2 : Int32) (i4 : Int32) (s0 : Int32) (s : rS) : Option rA :=
  if mx_f1 .ne (s.1 57) = true then
    s336_124 E w s
  else
    if mx_f1 .le i2 = true then
      s336_124 E w s
    else
      if mx_f1 .eq i4 = true then
        s336_112 E w i1 s
      else
        (rs_aI s 44 i4).bind fun x4 =>
        if mx_f2 .eq x4 s0 = true then
          s336_124 E w s
        else
          s336_112 E w i1 s
theorem r336_82 {L : Nat} {xs : Nat → Int32} {zf : Value} {D : dD} {E : rE} {w : Nat} (hD : rO D E L xs) : ∀ (i1 : Int32) (i2 : Int32) (i4 : Int32) (s0 : Int32) (h : rm_H) (s : rS) (r : rA), RS h s → s336_82 E w i1 i2 i4 s0 s = some r → rx (b336_82 L xs zf D w (some 36) i1 i2 i4 s0 h) h r := by
  intro i1 i2 i4 s0 h s r hR hh
  unfold s336_82 at hh
  unfold b336_82
  refine rx_b (rs_gI hR 57 _ rfl) ?_
  rcases di hh with ⟨q1, hh⟩ | ⟨q1, hh⟩
  · refine rx_t q1 ?_
    exact r336_124 hD  _ _ _ hR hh
  · refine rx_f q1 ?_
    rcases di hh with ⟨q2, hh⟩ | ⟨q2, hh⟩
    · refine rx_t q2 ?_
      exact r336_124 hD  _ _ _ hR hh
    · refine rx_f q2 ?_
      rcases di hh with ⟨q3, hh⟩ | ⟨q3, hh⟩
      · refine rx_t q3 ?_
        exact r336_112 hD _ _ _ _ hR hh
      · refine rx_f q3 ?_
        refine rx_b (rs_gR hR 11 44 rfl) ?_
        obtain ⟨x4, q5, hh⟩ := db hh
        refine rx_b (rs_aI_ok hR q5) ?_
        rcases di hh with ⟨q6, hh⟩ | ⟨q6, hh⟩
        · refine rx_t q6 ?_
          exact r336_124 hD  _ _ _ hR hh
        · refine rx_f q6 ?_
          exact r336_112 hD _ _ _ _ hR hh
def s336_65 (E : rE) (w : Nat) (i1 : Int32) (i2 : Int32) (i3 : Int32) (i4 : Int32) (s : rS) : Option rA :=
  (rs_pI s 62 i3).bind fun s1 =>
  if mx_f2 .ne i2 1 = true then
    s336_82 E w i1 i2 i4 25 s1
  else
    s336_82 E w i1 i2 i4 24 s1
theorem r336_65 {L : Nat} {xs : Nat → Int32} {zf : Value} {D : dD} {E : rE} {w : Nat} (hD : rO D E L xs) : ∀ (i1 : Int32) (i2 : Int32) (i3 : Int32) (i4 : Int32) (h : rm_H) (s : rS) (r : rA), RS h s → s336_65 E w i1 i2 i3 i4 s = some r → rx (b336_65 L xs zf D w (some 36) i1 i2 i3 i4 h) h r := by
  intro i1 i2 i3 i4 h s r hR hh
  unfold s336_65 at hh
  unfold b336_65
  obtain ⟨s1, q2, hh⟩ := db hh
  obtain ⟨h3, e4, hR, f5⟩ := rs_pI_ok (rs_m62 _ _) (by decide) hR q2
  refine rx_w e4 f5 ?_
  rcases di hh with ⟨q6, hh⟩ | ⟨q6, hh⟩
  · refine rx_t q6 ?_
    exact r336_82 hD _ _ _ _ _ _ _ hR hh
  · refine rx_f q6 ?_
    exact r336_82 hD _ _ _ _ _ _ _ hR hh
def s336_16 (E : rE) (w : Nat) : Nat → Int32 → Int32 → Int32 → Int32 → Int32 → rS → Option rA
  | 0, _, _, _, _, _, _ => none
  | n + 1, i1, i2, i3, i4, i5, s =>
    if mx_f1 .eq i5 = true then
      s336_65 E w i1 i2 i3 i4 s
    else
      if mx_f1 .ne (s.1 57) = true then
        s336_65 E w i1 i2 i3 i4 s
      else
        (rs_aI s 48 i5).bind fun x3 =>
        if mx_f1 .ne x3 = true then
          s336_50 E w (s336_16 E w n) i1 i2 i3 i5 i5 0 i5 s
        else
          s336_50 E w (s336_16 E w n) i1 i2 i3 i5 i5 i2 i5 s
theorem r336_16 {L : Nat} {xs : Nat → Int32} {zf : Value} {D : dD} {E : rE} {w : Nat} (hD : rO D E L xs) : ∀ (n : Nat) (i1 : Int32) (i2 : Int32) (i3 : Int32) (i4 : Int32) (i5 : Int32) (h : rm_H) (s : rS) (r : rA), RS h s → s336_16 E w n i1 i2 i3 i4 i5 s = some r → rx (b336_16 L xs zf D w n (some 36) i1 i2 i3 i4 i5 h) h r := by
  intro n
  induction n with
  | zero =>
    intro i1 i2 i3 i4 i5 h s r hR hh
    cases hh
  | succ n ih =>
    intro i1 i2 i3 i4 i5 h s r hR hh
    rw [s336_16] at hh
    rw [b336_16]
    rcases di hh with ⟨q1, hh⟩ | ⟨q1, hh⟩
    · refine rx_t q1 ?_
      exact r336_65 hD _ _ _ _ _ _ _ hR hh
    · refine rx_f q1 ?_
      refine rx_b (rs_gI hR 57 _ rfl) ?_
      rcases di hh with ⟨q2, hh⟩ | ⟨q2, hh⟩
      · refine rx_t q2 ?_
        exact r336_65 hD _ _ _ _ _ _ _ hR hh
      · refine rx_f q2 ?_
        refine rx_b (rs_gR hR 15 48 rfl) ?_
        obtain ⟨x3, q4, hh⟩ := db hh
        refine rx_b (rs_aI_ok hR q4) ?_
        rcases di hh with ⟨q5, hh⟩ | ⟨q5, hh⟩
        · refine rx_t q5 ?_
          exact r336_50 hD ih _ _ _ _ _ _ _ _ _ _ hR hh
        · refine rx_f q5 ?_
          exact r336_50 hD ih _ _ _ _ _ _ _ _ _ _ hR hh
def s336_0 (E : rE) (w : Nat) (i1 : Int32) (i2 : Int32) (s : rS) : Option rA :=
  (rs_aI s 45 i1).bind fun x1 =>
  s336_16 E w w i1 i2 (s.1 62) 0 x1 s
theorem r336_0 {L : Nat} {xs : Nat → Int32} {zf : Value} {D : dD} {E : rE} {w : Nat} (hD : rO D E L xs) : ∀ (i1 : Int32) (i2 : Int32) (h : rm_H) (s : rS) (r : rA), RS h s → s336_0 E w i1 i2 s = some r → rx (b336_0 L xs zf D w (some 36) i1 i2 h) h r := by
  intro i1 i2 h s r hR hh
  unfold s336_0 at hh
  unfold b336_0
  refine rx_b (rs_gI hR 62 _ rfl) ?_
  refine rx_b (rs_gR hR 12 45 rfl) ?_
  obtain ⟨x1, q2, hh⟩ := db hh
  refine rx_b (rs_aI_ok hR q2) ?_
  exact r336_16 hD _ _ _ _ _ _ _ _ _ hR hh
def g336 (E : rE) (w : Nat) (As : List Value) (s : rS) : Option rA := match As with
  | [.ref 36, .int i1, .int i2] => s336_0 E w i1 i2 s
  | _ => none
theorem t336 {L : Nat} {xs : Nat → Int32} {zf : Value} {D : dD} {E : rE} {w : Nat} (hD : rO D E L xs) (As : List Value) (h : rm_H) (s : rS) (r : rA) (hR : RS h s) (hh : g336 E w As s = some r) : rx (f336 L xs zf D w As h) h r := by
  unfold g336 at hh
  split at hh
  · unfold f336
    dsimp only
    refine rx_b (a := some 36) rfl ?_
    exact r336_0 hD _ _ _ _ _ hR hh
  · cases hh
def s337_288 (E : rE) (w : Nat) (s : rS) : Option rA :=
  some (none, s)
theorem r337_288 {L : Nat} {xs : Nat → Int32} {zf : Value} {D : dD} {E : rE} {w : Nat} (hD : rO D E L xs) : ∀ (h : rm_H) (s : rS) (r : rA), RS h s → s337_288 E w s = some r → rx (b337_288 L xs zf D w h) h r := by
  intro h s r hR hh
  unfold s337_288 at hh
  unfold b337_288
  cases hh
  exact rx_0 hR
def s337_0 (E : rE) (w : Nat) (i1 : Int32) (i2 : Int32) (s : rS) : Option rA :=
  (rs_aI s 45 i1).bind fun x1 =>
  (rs_aI s 44 i1).bind fun x3 =>
  if dsw 20 26 x3 = true then
    ((E 339 [.ref 36, .int x1] s).bind rxI).bind fun x6 =>
    s337_288 E w x6.2
  else if x3 = 20 then
    ((E 338 [.ref 36, .int x1] s).bind rxI).bind fun x12 =>
    if mx_f1 .le (x12.2.1 57) = true then
      (rs_aJ x12.2 56 i1).bind fun y18 =>
      ((E 349 [.ref 36, .long y18] x12.2).bind rxI).bind fun x20 =>
      if mx_f2 .eq x20.1 (-1) = true then
        (rs_aI x20.2 54 i1).bind fun x26 =>
        (rs_aI x20.2 60 x26).bind fun x28 =>
        ((E 353 [.ref 36, .int x1, .int x12.1, .int x28] x20.2).bind rxI).bind fun x30 =>
        if mx_f1 .eq x30.1 = true then
          s337_288 E w x30.2
        else
          (rs_aJ x30.2 56 i1).bind fun y36 =>
          (rs_aI x30.2 53 i1).bind fun x38 =>
          (rs_aI x30.2 54 i1).bind fun x40 =>
          (rs_aI x30.2 60 x40).bind fun x42 =>
          ((E 335 [.ref 36, .long y36, .int x38, .int x42] x30.2).bind rxV).bind fun s44 =>
          s337_288 E w s44
      else
        (rs_aI x20.2 51 i1).bind fun x49 =>
        ((E 305 [.ref 36, .int 2, .int x49] x20.2).bind rxV).bind fun s51 =>
        s337_288 E w s51
    else
      some (none, x12.2)
  else if x3 = 21 then
    ((E 368 [.ref 36, .int i1] s).bind rxV).bind fun s57 =>
    s337_288 E w s57
  else if x3 = 22 then
    ((E 369 [.ref 36, .int i1] s).bind rxV).bind fun s63 =>
    s337_288 E w s63
  else if x3 = 23 then
    ((E 339 [.ref 36, .int x1] s).bind rxI).bind fun x69 =>
    ((E 367 [.ref 36, .int x1, .int x69.1] x69.2).bind rxV).bind fun s74 =>
    s337_288 E w s74
  else if x3 = 24 then
    if mx_f2 .eq i2 1 = true then
      ((E 338 [.ref 36, .int x1] s).bind rxI).bind fun x81 =>
      if mx_f1 .ne (x81.2.1 57) = true then
        s337_288 E w x81.2
      else
        (rs_aI x81.2 75 (x81.2.1 66)).bind fun x87 =>
        (rs_aI x81.2 60 x87).bind fun x89 =>
        ((E 353 [.ref 36, .int x1, .int x81.1, .int x89] x81.2).bind rxI).bind fun x91 =>
        s337_288 E w x91.2
    else
      (rs_aI s 50 i1).bind fun x96 =>
      ((E 305 [.ref 36, .int 8, .int x96] s).bind rxV).bind fun s98 =>
      some (none, s98)
  else if x3 = 25 then
    if mx_f2 .eq i2 2 = true then
      ((E 338 [.ref 36, .int x1] s).bind rxI).bind fun x105 =>
      (rs_pI x105.2 65 x105.1).bind fun s110 =>
      s337_288 E w s110
    else
      (rs_aI s 50 i1).bind fun x115 =>
      ((E 305 [.ref 36, .int 8, .int x115] s).bind rxV).bind fun s117 =>
      some (none, s117)
  else if x3 = 26 then
    (rs_aI s 46 i1).bind fun x123 =>
    ((E 351 [.ref 36, .int x1, .int x123, .int 0] s).bind rxI).bind fun x125 =>
    s337_288 E w x125.2
  else none
theorem r337_0 {L : Nat} {xs : Nat → Int32} {zf : Value} {D : dD} {E : rE} {w : Nat} (hD : rO D E L xs) : ∀ (i1 : Int32) (i2 : Int32) (h : rm_H) (s : rS) (r : rA), RS h s → s337_0 E w i1 i2 s = some r → rx (b337_0 L xs zf D w (some 36) i1 i2 h) h r := by
  intro i1 i2 h s r hR hh
  unfold s337_0 at hh
  unfold b337_0
  refine rx_b (rs_gR hR 12 45 rfl) ?_
  obtain ⟨x1, q2, hh⟩ := db hh
  refine rx_b (rs_aI_ok hR q2) ?_
  refine rx_b (rs_gR hR 11 44 rfl) ?_
  obtain ⟨x3, q4, hh⟩ := db hh
  refine rx_b (rs_aI_ok hR q4) ?_
  rcases di hh with ⟨q5, hh⟩ | ⟨q5, hh⟩
  · refine rx_t q5 ?_
    obtain ⟨x6, q7, hh⟩ := db hh
    obtain ⟨h8, e9, hR, f10⟩ := rs_vI hD hR q7
    refine rx_c e9 f10 ?_
    exact r337_288 hD  _ _ _ hR hh
  refine rx_f q5 ?_
  rcases dp hh with ⟨q11, hh⟩ | ⟨q11, hh⟩
  · refine rx_pt q11 ?_
    obtain ⟨x12, q13, hh⟩ := db hh
    obtain ⟨h14, e15, hR, f16⟩ := rs_vI hD hR q13
    refine rx_c e15 f16 ?_
    refine rx_b (rs_gI hR 57 _ rfl) ?_
    rcases di hh with ⟨q17, hh⟩ | ⟨q17, hh⟩
    · refine rx_t q17 ?_
      refine rx_b (rs_gR hR 23 56 rfl) ?_
      obtain ⟨y18, q19, hh⟩ := db hh
      refine rx_b (rs_aJ_ok hR q19) ?_
      obtain ⟨x20, q21, hh⟩ := db hh
      obtain ⟨h22, e23, hR, f24⟩ := rs_vI hD hR q21
      refine rx_c e23 f24 ?_
      rcases di hh with ⟨q25, hh⟩ | ⟨q25, hh⟩
      · refine rx_t q25 ?_
        refine rx_b (rs_gR hR 30 60 rfl) ?_
        refine rx_b (rs_gR hR 21 54 rfl) ?_
        obtain ⟨x26, q27, hh⟩ := db hh
        refine rx_b (rs_aI_ok hR q27) ?_
        obtain ⟨x28, q29, hh⟩ := db hh
        refine rx_b (rs_aI_ok hR q29) ?_
        obtain ⟨x30, q31, hh⟩ := db hh
        obtain ⟨h32, e33, hR, f34⟩ := rs_vI hD hR q31
        refine rx_c e33 f34 ?_
        rcases di hh with ⟨q35, hh⟩ | ⟨q35, hh⟩
        · refine rx_t q35 ?_
          exact r337_288 hD  _ _ _ hR hh
        · refine rx_f q35 ?_
          refine rx_b (rs_gR hR 23 56 rfl) ?_
          obtain ⟨y36, q37, hh⟩ := db hh
          refine rx_b (rs_aJ_ok hR q37) ?_
          refine rx_b (rs_gR hR 20 53 rfl) ?_
          obtain ⟨x38, q39, hh⟩ := db hh
          refine rx_b (rs_aI_ok hR q39) ?_
          refine rx_b (rs_gR hR 30 60 rfl) ?_
          refine rx_b (rs_gR hR 21 54 rfl) ?_
          obtain ⟨x40, q41, hh⟩ := db hh
          refine rx_b (rs_aI_ok hR q41) ?_
          obtain ⟨x42, q43, hh⟩ := db hh
          refine rx_b (rs_aI_ok hR q43) ?_
          obtain ⟨s44, q45, hh⟩ := db hh
          obtain ⟨h46, e47, hR, f48⟩ := rs_vV hD hR q45
          refine rx_w e47 f48 ?_
          exact r337_288 hD  _ _ _ hR hh
      · refine rx_f q25 ?_
        refine rx_b (rs_gR hR 18 51 rfl) ?_
        obtain ⟨x49, q50, hh⟩ := db hh
        refine rx_b (rs_aI_ok hR q50) ?_
        obtain ⟨s51, q52, hh⟩ := db hh
        obtain ⟨h53, e54, hR, f55⟩ := rs_vV hD hR q52
        refine rx_w e54 f55 ?_
        exact r337_288 hD  _ _ _ hR hh
    · refine rx_f q17 ?_
      cases hh
      exact rx_0 hR
  refine rx_pf q11 ?_
  rcases dp hh with ⟨q56, hh⟩ | ⟨q56, hh⟩
  · refine rx_pt q56 ?_
    obtain ⟨s57, q58, hh⟩ := db hh
    obtain ⟨h59, e60, hR, f61⟩ := rs_vV hD hR q58
    refine rx_w e60 f61 ?_
    exact r337_288 hD  _ _ _ hR hh
  refine rx_pf q56 ?_
  rcases dp hh with ⟨q62, hh⟩ | ⟨q62, hh⟩
  · refine rx_pt q62 ?_
    obtain ⟨s63, q64, hh⟩ := db hh
    obtain ⟨h65, e66, hR, f67⟩ := rs_vV hD hR q64
    refine rx_w e66 f67 ?_
    exact r337_288 hD  _ _ _ hR hh
  refine rx_pf q62 ?_
  rcases dp hh with ⟨q68, hh⟩ | ⟨q68, hh⟩
  · refine rx_pt q68 ?_
    obtain ⟨x69, q70, hh⟩ := db hh
    obtain ⟨h71, e72, hR, f73⟩ := rs_vI hD hR q70
    refine rx_c e72 f73 ?_
    obtain ⟨s74, q75, hh⟩ := db hh
    obtain ⟨h76, e77, hR, f78⟩ := rs_vV hD hR q75
    refine rx_w e77 f78 ?_
    exact r337_288 hD  _ _ _ hR hh
  refine rx_pf q68 ?_
  rcases dp hh with ⟨q79, hh⟩ | ⟨q79, hh⟩
  · refine rx_pt q79 ?_
    rcases di hh with ⟨q80, hh⟩ | ⟨q80, hh⟩
    · refine rx_t q80 ?_
      obtain ⟨x81, q82, hh⟩ := db hh
      obtain ⟨h83, e84, hR, f85⟩ := rs_vI hD hR q82
      refine rx_c e84 f85 ?_
      refine rx_b (rs_gI hR 57 _ rfl) ?_
      rcases di hh with ⟨q86, hh⟩ | ⟨q86, hh⟩
      · refine rx_t q86 ?_
        exact r337_288 hD  _ _ _ hR hh
      · refine rx_f q86 ?_
        refine rx_b (rs_gR hR 30 60 rfl) ?_
        refine rx_b (rs_gR hR 48 75 rfl) ?_
        refine rx_b (rs_gI hR 66 _ rfl) ?_
        obtain ⟨x87, q88, hh⟩ := db hh
        refine rx_b (rs_aI_ok hR q88) ?_
        obtain ⟨x89, q90, hh⟩ := db hh
        refine rx_b (rs_aI_ok hR q90) ?_
        obtain ⟨x91, q92, hh⟩ := db hh
        obtain ⟨h93, e94, hR, f95⟩ := rs_vI hD hR q92
        refine rx_c e94 f95 ?_
        exact r337_288 hD  _ _ _ hR hh
    · refine rx_f q80 ?_
      refine rx_b (rs_gR hR 17 50 rfl) ?_
      obtain ⟨x96, q97, hh⟩ := db hh
      refine rx_b (rs_aI_ok hR q97) ?_
      obtain ⟨s98, q99, hh⟩ := db hh
      obtain ⟨h100, e101, hR, f102⟩ := rs_vV hD hR q99
      refine rx_w e101 f102 ?_
      cases hh
      exact rx_0 hR
  refine rx_pf q79 ?_
  rcases dp hh with ⟨q103, hh⟩ | ⟨q103, hh⟩
  · refine rx_pt q103 ?_
    rcases di hh with ⟨q104, hh⟩ | ⟨q104, hh⟩
    · refine rx_t q104 ?_
      obtain ⟨x105, q106, hh⟩ := db hh
      obtain ⟨h107, e108, hR, f109⟩ := rs_vI hD hR q106
      refine rx_c e108 f109 ?_
      obtain ⟨s110, q111, hh⟩ := db hh
      obtain ⟨h112, e113, hR, f114⟩ := rs_pI_ok (rs_m65 _ _) (by decide) hR q111
      refine rx_w e113 f114 ?_
      exact r337_288 hD  _ _ _ hR hh
    · refine rx_f q104 ?_
      refine rx_b (rs_gR hR 17 50 rfl) ?_
      obtain ⟨x115, q116, hh⟩ := db hh
      refine rx_b (rs_aI_ok hR q116) ?_
      obtain ⟨s117, q118, hh⟩ := db hh
      obtain ⟨h119, e120, hR, f121⟩ := rs_vV hD hR q118
      refine rx_w e120 f121 ?_
      cases hh
      exact rx_0 hR
  refine rx_pf q103 ?_
  rcases dp hh with ⟨q122, hh⟩ | ⟨q122, hh⟩
  · refine rx_pt q122 ?_
    refine rx_b (rs_gR hR 13 46 rfl) ?_
    obtain ⟨x123, q124, hh⟩ := db hh
    refine rx_b (rs_aI_ok hR q124) ?_
    obtain ⟨x125, q126, hh⟩ := db hh
    obtain ⟨h127, e128, hR, f129⟩ := rs_vI hD hR q126
    refine rx_c e128 f129 ?_
    exact r337_288 hD  _ _ _ hR hh
  refine rx_pf q122 ?_
  cases hh
def g337 (E : rE) (w : Nat) (As : List Value) (s : rS) : Option rA := match As with
  | [.ref 36, .int i1, .int i2] => s337_0 E w i1 i2 s
  | _ => none
theorem t337 {L : Nat} {xs : Nat → Int32} {zf : Value} {D : dD} {E : rE} {w : Nat} (hD : rO D E L xs) (As : List Value) (h : rm_H) (s : rS) (r : rA) (hR : RS h s) (hh : g337 E w As s = some r) : rx (f337 L xs zf D w As h) h r := by
  unfold g337 at hh
  split at hh
  · unfold f337
    dsimp only
    refine rx_b (a := some 36) rfl ?_
    exact r337_0 hD _ _ _ _ _ hR hh
  · cases hh
def s338_31 (E : rE) (w : Nat) (i2 : Int32) (s : rS) : Option rA :=
  rrI (some .int) i2 s
theorem r338_31 {L : Nat} {xs : Nat → Int32} {zf : Value} {D : dD} {E : rE} {w : Nat} (hD : rO D E L xs) : ∀ (i2 : Int32) (h : rm_H) (s : rS) (r : rA), RS h s → s338_31 E w i2 s = some r → rx (b338_31 L xs zf D w i2 h) h r := by
  intro i2 h s r hR hh
  unfold s338_31 at hh
  unfold b338_31
  exact rx_I hR hh
def s338_70 (E : rE) (w : Nat) (s0 : Int32) (s : rS) : Option rA :=
  rrI (some .int) s0 s
theorem r338_70 {L : Nat} {xs : Nat → Int32} {zf : Value} {D : dD} {E : rE} {w : Nat} (hD : rO D E L xs) : ∀ (s0 : Int32) (h : rm_H) (s : rS) (r : rA), RS h s → s338_70 E w s0 s = some r → rx (b338_70 L xs zf D w s0 h) h r := by
  intro s0 h s r hR hh
  unfold s338_70 at hh
  unfold b338_70
  exact rx_I hR hh
def s338_0 (E : rE) (w : Nat) (i1 : Int32) (s : rS) : Option rA :=
  ((E 339 [.ref 36, .int i1] s).bind rxI).bind fun x1 =>
  ((E 350 [.ref 36, .int i1, .int x1.1] x1.2).bind rxI).bind fun x6 =>
  if mx_f1 .ne x6.1 = true then
    if mx_f1 .eq (x6.2.1 60) = true then
      s338_31 E w x1.1 x6.2
    else
      ((E 333 [.int x1.1] x6.2).bind rxI).bind fun x13 =>
      if mx_f1 .ne x13.1 = true then
        if mx_f1 .ne (x1.1 - x1.1 / 8 * 8) = true then
          if mx_f2 .ne (x1.1 - x1.1 / 8 * 8) 1 = true then
            s338_70 E w x1.1 x13.2
          else
            s338_70 E w ((x1.1 - 1) + 4) x13.2
        else
          (rs_aI x13.2 50 i1).bind fun x21 =>
          ((E 347 [.ref 36, .int 6, .int x21] x13.2).bind rxI).bind fun x23 =>
          rrI (some .int) x23.1 x23.2
      else
        s338_31 E w x1.1 x13.2
  else
    rrI (some .int) (-1) x6.2
theorem r338_0 {L : Nat} {xs : Nat → Int32} {zf : Value} {D : dD} {E : rE} {w : Nat} (hD : rO D E L xs) : ∀ (i1 : Int32) (h : rm_H) (s : rS) (r : rA), RS h s → s338_0 E w i1 s = some r → rx (b338_0 L xs zf D w (some 36) i1 h) h r := by
  intro i1 h s r hR hh
  unfold s338_0 at hh
  unfold b338_0
  obtain ⟨x1, q2, hh⟩ := db hh
  obtain ⟨h3, e4, hR, f5⟩ := rs_vI hD hR q2
  refine rx_c e4 f5 ?_
  obtain ⟨x6, q7, hh⟩ := db hh
  obtain ⟨h8, e9, hR, f10⟩ := rs_vI hD hR q7
  refine rx_c e9 f10 ?_
  rcases di hh with ⟨q11, hh⟩ | ⟨q11, hh⟩
  · refine rx_t q11 ?_
    refine rx_b (rs_gI hR 60 _ rfl) ?_
    rcases di hh with ⟨q12, hh⟩ | ⟨q12, hh⟩
    · refine rx_t q12 ?_
      exact r338_31 hD _ _ _ _ hR hh
    · refine rx_f q12 ?_
      obtain ⟨x13, q14, hh⟩ := db hh
      obtain ⟨h15, e16, hR, f17⟩ := rs_cI hD hR q14
      refine rx_c e16 f17 ?_
      rcases di hh with ⟨q18, hh⟩ | ⟨q18, hh⟩
      · refine rx_t q18 ?_
        rcases di hh with ⟨q19, hh⟩ | ⟨q19, hh⟩
        · refine rx_t q19 ?_
          rcases di hh with ⟨q20, hh⟩ | ⟨q20, hh⟩
          · refine rx_t q20 ?_
            exact r338_70 hD _ _ _ _ hR hh
          · refine rx_f q20 ?_
            exact r338_70 hD _ _ _ _ hR hh
        · refine rx_f q19 ?_
          refine rx_b (rs_gR hR 17 50 rfl) ?_
          obtain ⟨x21, q22, hh⟩ := db hh
          refine rx_b (rs_aI_ok hR q22) ?_
          obtain ⟨x23, q24, hh⟩ := db hh
          obtain ⟨h25, e26, hR, f27⟩ := rs_vI hD hR q24
          refine rx_c e26 f27 ?_
          exact rx_I hR hh
      · refine rx_f q18 ?_
        exact r338_31 hD _ _ _ _ hR hh
  · refine rx_f q11 ?_
    exact rx_I hR hh
def g338 (E : rE) (w : Nat) (As : List Value) (s : rS) : Option rA := match As with
  | [.ref 36, .int i1] => s338_0 E w i1 s
  | _ => none
theorem t338 {L : Nat} {xs : Nat → Int32} {zf : Value} {D : dD} {E : rE} {w : Nat} (hD : rO D E L xs) (As : List Value) (h : rm_H) (s : rS) (r : rA) (hR : RS h s) (hh : g338 E w As s = some r) : rx (f338 L xs zf D w As h) h r := by
  unfold g338 at hh
  split at hh
  · unfold f338
    dsimp only
    refine rx_b (a := some 36) rfl ?_
    exact r338_0 hD _ _ _ _ hR hh
  · cases hh
def s339_44 (E : rE) (w : Nat) (K2 : Int32 → Int32 → rS → Option rA) (i1 : Int32) (i2 : Int32) (s : rS) : Option rA :=
  ((E 342 [.ref 36, .int i2] s).bind rxI).bind fun x1 =>
  K2 i1 x1.1 x1.2
theorem r339_44 {L : Nat} {xs : Nat → Int32} {zf : Value} {D : dD} {E : rE} {w : Nat} {K2 : Int32 → Int32 → rS → Option rA} {B2 : Option Nat → Int32 → Int32 → rm_H → Option dR} (hD : rO D E L xs) (hK2 : ∀ (i1 : Int32) (i2 : Int32) (h : rm_H) (s : rS) (r : rA), RS h s → K2 i1 i2 s = some r → rx (B2 (some 36) i1 i2 h) h r) : ∀ (i1 : Int32) (i2 : Int32) (h : rm_H) (s : rS) (r : rA), RS h s → s339_44 E w K2 i1 i2 s = some r → rx (b339_44 L xs zf D w B2 (some 36) i1 i2 h) h r := by
  intro i1 i2 h s r hR hh
  unfold s339_44 at hh
  unfold b339_44
  obtain ⟨x1, q2, hh⟩ := db hh
  obtain ⟨h3, e4, hR, f5⟩ := rs_vI hD hR q2
  refine rx_c e4 f5 ?_
  exact hK2 _ _ _ _ _ hR hh
def s339_39 (E : rE) (w : Nat) (K2 : Int32 → Int32 → rS → Option rA) (i1 : Int32) (i2 : Int32) (s : rS) : Option rA :=
  ((E 341 [.ref 36, .int i2] s).bind rxV).bind fun s1 =>
  s339_44 E w K2 i1 i2 s1
theorem r339_39 {L : Nat} {xs : Nat → Int32} {zf : Value} {D : dD} {E : rE} {w : Nat} {K2 : Int32 → Int32 → rS → Option rA} {B2 : Option Nat → Int32 → Int32 → rm_H → Option dR} (hD : rO D E L xs) (hK2 : ∀ (i1 : Int32) (i2 : Int32) (h : rm_H) (s : rS) (r : rA), RS h s → K2 i1 i2 s = some r → rx (B2 (some 36) i1 i2 h) h r) : ∀ (i1 : Int32) (i2 : Int32) (h : rm_H) (s : rS) (r : rA), RS h s → s339_39 E w K2 i1 i2 s = some r → rx (b339_39 L xs zf D w B2 (some 36) i1 i2 h) h r := by
  intro i1 i2 h s r hR hh
  unfold s339_39 at hh
  unfold b339_39
  obtain ⟨s1, q2, hh⟩ := db hh
  obtain ⟨h3, e4, hR, f5⟩ := rs_vV hD hR q2
  refine rx_w e4 f5 ?_
  exact r339_44 hD hK2 _ _ _ _ _ hR hh
def s339_116 (E : rE) (w : Nat) (s0 : Int32) (s : rS) : Option rA :=
  rrI (some .int) s0 s
theorem r339_116 {L : Nat} {xs : Nat → Int32} {zf : Value} {D : dD} {E : rE} {w : Nat} (hD : rO D E L xs) : ∀ (s0 : Int32) (h : rm_H) (s : rS) (r : rA), RS h s → s339_116 E w s0 s = some r → rx (b339_116 L xs zf D w s0 h) h r := by
  intro s0 h s r hR hh
  unfold s339_116 at hh
  unfold b339_116
  exact rx_I hR hh
def s339_104 (E : rE) (w : Nat) (i3 : Int32) (s : rS) : Option rA :=
  if mx_f1 .le (s.1 57) = true then
    s339_116 E w i3 s
  else
    s339_116 E w (-1) s
theorem r339_104 {L : Nat} {xs : Nat → Int32} {zf : Value} {D : dD} {E : rE} {w : Nat} (hD : rO D E L xs) : ∀ (i3 : Int32) (h : rm_H) (s : rS) (r : rA), RS h s → s339_104 E w i3 s = some r → rx (b339_104 L xs zf D w (some 36) i3 h) h r := by
  intro i3 h s r hR hh
  unfold s339_104 at hh
  unfold b339_104
  refine rx_b (rs_gI hR 57 _ rfl) ?_
  rcases di hh with ⟨q1, hh⟩ | ⟨q1, hh⟩
  · refine rx_t q1 ?_
    exact r339_116 hD _ _ _ _ hR hh
  · refine rx_f q1 ?_
    exact r339_116 hD _ _ _ _ hR hh
def s339_70 (E : rE) (w : Nat) : Nat → Int32 → Int32 → Int32 → rS → Option rA
  | 0, _, _, _, _ => none
  | n + 1, i1, i2, i3, s =>
    if mx_f2 .eq i2 i1 = true then
      s339_104 E w i3 s
    else
      if mx_f1 .ne (s.1 57) = true then
        s339_104 E w i3 s
      else
        (rs_aI s 49 i2).bind fun x3 =>
        ((E 361 [.ref 36, .int x3, .int i2, .int i3] s).bind rxI).bind fun x5 =>
        s339_70 E w n i1 x3 x5.1 x5.2
theorem r339_70 {L : Nat} {xs : Nat → Int32} {zf : Value} {D : dD} {E : rE} {w : Nat} (hD : rO D E L xs) : ∀ (n : Nat) (i1 : Int32) (i2 : Int32) (i3 : Int32) (h : rm_H) (s : rS) (r : rA), RS h s → s339_70 E w n i1 i2 i3 s = some r → rx (b339_70 L xs zf D w n (some 36) i1 i2 i3 h) h r := by
  intro n
  induction n with
  | zero =>
    intro i1 i2 i3 h s r hR hh
    cases hh
  | succ n ih =>
    intro i1 i2 i3 h s r hR hh
    rw [s339_70] at hh
    rw [b339_70]
    rcases di hh with ⟨q1, hh⟩ | ⟨q1, hh⟩
    · refine rx_t q1 ?_
      exact r339_104 hD _ _ _ _ hR hh
    · refine rx_f q1 ?_
      refine rx_b (rs_gI hR 57 _ rfl) ?_
      rcases di hh with ⟨q2, hh⟩ | ⟨q2, hh⟩
      · refine rx_t q2 ?_
        exact r339_104 hD _ _ _ _ hR hh
      · refine rx_f q2 ?_
        refine rx_b (rs_gR hR 16 49 rfl) ?_
        obtain ⟨x3, q4, hh⟩ := db hh
        refine rx_b (rs_aI_ok hR q4) ?_
        obtain ⟨x5, q6, hh⟩ := db hh
        obtain ⟨h7, e8, hR, f9⟩ := rs_vI hD hR q6
        refine rx_c e8 f9 ?_
        exact ih _ _ _ _ _ _ hR hh
def s339_69 (E : rE) (w : Nat) (i1 : Int32) (i2 : Int32) (s0 : Int32) (s : rS) : Option rA :=
  s339_70 E w w i1 i2 s0 s
theorem r339_69 {L : Nat} {xs : Nat → Int32} {zf : Value} {D : dD} {E : rE} {w : Nat} (hD : rO D E L xs) : ∀ (i1 : Int32) (i2 : Int32) (s0 : Int32) (h : rm_H) (s : rS) (r : rA), RS h s → s339_69 E w i1 i2 s0 s = some r → rx (b339_69 L xs zf D w (some 36) i1 i2 s0 h) h r := by
  intro i1 i2 s0 h s r hR hh
  unfold s339_69 at hh
  unfold b339_69
  exact r339_70 hD _ _ _ _ _ _ _ hR hh
def s339_53 (E : rE) (w : Nat) (i1 : Int32) (i2 : Int32) (s : rS) : Option rA :=
  if mx_f1 .le (s.1 57) = true then
    ((E 343 [.ref 36, .int i2] s).bind rxI).bind fun x2 =>
    s339_69 E w i1 i2 x2.1 x2.2
  else
    s339_69 E w i1 i2 (-1) s
theorem r339_53 {L : Nat} {xs : Nat → Int32} {zf : Value} {D : dD} {E : rE} {w : Nat} (hD : rO D E L xs) : ∀ (i1 : Int32) (i2 : Int32) (h : rm_H) (s : rS) (r : rA), RS h s → s339_53 E w i1 i2 s = some r → rx (b339_53 L xs zf D w (some 36) i1 i2 h) h r := by
  intro i1 i2 h s r hR hh
  unfold s339_53 at hh
  unfold b339_53
  refine rx_b (rs_gI hR 57 _ rfl) ?_
  rcases di hh with ⟨q1, hh⟩ | ⟨q1, hh⟩
  · refine rx_t q1 ?_
    obtain ⟨x2, q3, hh⟩ := db hh
    obtain ⟨h4, e5, hR, f6⟩ := rs_vI hD hR q3
    refine rx_c e5 f6 ?_
    exact r339_69 hD _ _ _ _ _ _ hR hh
  · refine rx_f q1 ?_
    exact r339_69 hD _ _ _ _ _ _ hR hh
def s339_2 (E : rE) (w : Nat) : Nat → Int32 → Int32 → rS → Option rA
  | 0, _, _, _ => none
  | n + 1, i1, i2, s =>
    if mx_f1 .ne (s.1 57) = true then
      s339_53 E w i1 i2 s
    else
      ((E 340 [.ref 36, .int i2] s).bind rxI).bind fun x2 =>
      if mx_f1 .eq x2.1 = true then
        s339_53 E w i1 i2 x2.2
      else
        (rs_aI x2.2 44 i2).bind fun x8 =>
        if mx_f2 .eq x8 11 = true then
          s339_39 E w (s339_2 E w n) i1 i2 x2.2
        else
          (rs_aI x2.2 44 i2).bind fun x11 =>
          if mx_f2 .ne x11 12 = true then
            s339_44 E w (s339_2 E w n) i1 i2 x2.2
          else
            s339_39 E w (s339_2 E w n) i1 i2 x2.2
theorem r339_2 {L : Nat} {xs : Nat → Int32} {zf : Value} {D : dD} {E : rE} {w : Nat} (hD : rO D E L xs) : ∀ (n : Nat) (i1 : Int32) (i2 : Int32) (h : rm_H) (s : rS) (r : rA), RS h s → s339_2 E w n i1 i2 s = some r → rx (b339_2 L xs zf D w n (some 36) i1 i2 h) h r := by
  intro n
  induction n with
  | zero =>
    intro i1 i2 h s r hR hh
    cases hh
  | succ n ih =>
    intro i1 i2 h s r hR hh
    rw [s339_2] at hh
    rw [b339_2]
    refine rx_b (rs_gI hR 57 _ rfl) ?_
    rcases di hh with ⟨q1, hh⟩ | ⟨q1, hh⟩
    · refine rx_t q1 ?_
      exact r339_53 hD _ _ _ _ _ hR hh
    · refine rx_f q1 ?_
      obtain ⟨x2, q3, hh⟩ := db hh
      obtain ⟨h4, e5, hR, f6⟩ := rs_vI hD hR q3
      refine rx_c e5 f6 ?_
      rcases di hh with ⟨q7, hh⟩ | ⟨q7, hh⟩
      · refine rx_t q7 ?_
        exact r339_53 hD _ _ _ _ _ hR hh
      · refine rx_f q7 ?_
        refine rx_b (rs_gR hR 11 44 rfl) ?_
        obtain ⟨x8, q9, hh⟩ := db hh
        refine rx_b (rs_aI_ok hR q9) ?_
        rcases di hh with ⟨q10, hh⟩ | ⟨q10, hh⟩
        · refine rx_t q10 ?_
          exact r339_39 hD ih _ _ _ _ _ hR hh
        · refine rx_f q10 ?_
          refine rx_b (rs_gR hR 11 44 rfl) ?_
          obtain ⟨x11, q12, hh⟩ := db hh
          refine rx_b (rs_aI_ok hR q12) ?_
          rcases di hh with ⟨q13, hh⟩ | ⟨q13, hh⟩
          · refine rx_t q13 ?_
            exact r339_44 hD ih _ _ _ _ _ hR hh
          · refine rx_f q13 ?_
            exact r339_39 hD ih _ _ _ _ _ hR hh
def s339_0 (E : rE) (w : Nat) (i1 : Int32) (s : rS) : Option rA :=
  s339_2 E w w i1 i1 s
theorem r339_0 {L : Nat} {xs : Nat → Int32} {zf : Value} {D : dD} {E : rE} {w : Nat} (hD : rO D E L xs) : ∀ (i1 : Int32) (h : rm_H) (s : rS) (r : rA), RS h s → s339_0 E w i1 s = some r → rx (b339_0 L xs zf D w (some 36) i1 h) h r := by
  intro i1 h s r hR hh
  unfold s339_0 at hh
  unfold b339_0
  exact r339_2 hD _ _ _ _ _ _ hR hh
def g339 (E : rE) (w : Nat) (As : List Value) (s : rS) : Option rA := match As with
  | [.ref 36, .int i1] => s339_0 E w i1 s
  | _ => none
theorem t339 {L : Nat} {xs : Nat → Int32} {zf : Value} {D : dD} {E : rE} {w : Nat} (hD : rO D E L xs) (As : List Value) (h : rm_H) (s : rS) (r : rA) (hR : RS h s) (hh : g339 E w As s = some r) : rx (f339 L xs zf D w As h) h r := by
  unfold g339 at hh
  split at hh
  · unfold f339
    dsimp only
    refine rx_b (a := some 36) rfl ?_
    exact r339_0 hD _ _ _ _ hR hh
  · cases hh
