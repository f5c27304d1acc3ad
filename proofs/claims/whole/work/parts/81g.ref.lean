/-! THE REFERENCE'S METHODS OVER ITS STATE, printed by wip/whole/gen_ref.py -/
def s406_7 (E : rE) (w : Nat) : Nat → Int32 → rS → Option rA
  | 0, _, _ => none
  | n + 1, i1, s =>
    if mx_f2 .gt i1 400 = true then
      some (none, s)
    else
      (rs_sB s 112 i1 0).bind fun s2 =>
      s406_7 E w n (i1 + 1) s2
theorem r406_7 {L : Nat} {xs : Nat → Int32} {zf : Value} {D : dD} {E : rE} {w : Nat} (hD : rO D E L xs) : ∀ (n : Nat) (i1 : Int32) (h : rm_H) (s : rS) (r : rA), RS h s → s406_7 E w n i1 s = some r → rx (b406_7 L xs zf D w n (some 36) i1 h) h r := by
  intro n
  induction n with
  | zero =>
    intro i1 h s r hR hh
    cases hh
  | succ n ih =>
    intro i1 h s r hR hh
    rw [s406_7] at hh
    rw [b406_7]
    rcases di hh with ⟨q1, hh⟩ | ⟨q1, hh⟩
    · refine rx_t q1 ?_
      cases hh
      exact rx_0 hR
    · refine rx_f q1 ?_
      refine rx_b (rs_gR hR 112 112 rfl) ?_
      obtain ⟨s2, q3, hh⟩ := db hh
      obtain ⟨h4, e5, hR, f6⟩ := rs_sB_ok hR q3
      refine rx_w e5 f6 ?_
      exact ih _ _ _ _ hR hh
def s406_0 (E : rE) (w : Nat) (s : rS) : Option rA :=
  (rs_pI s 111 0).bind fun s1 =>
  s406_7 E w w 0 s1
theorem r406_0 {L : Nat} {xs : Nat → Int32} {zf : Value} {D : dD} {E : rE} {w : Nat} (hD : rO D E L xs) : ∀ (h : rm_H) (s : rS) (r : rA), RS h s → s406_0 E w s = some r → rx (b406_0 L xs zf D w (some 36) h) h r := by
  intro h s r hR hh
  unfold s406_0 at hh
  unfold b406_0
  obtain ⟨s1, q2, hh⟩ := db hh
  obtain ⟨h3, e4, hR, f5⟩ := rs_pI_ok (rs_m111 _ _) (by decide) hR q2
  refine rx_w e4 f5 ?_
  exact r406_7 hD _ _ _ _ _ hR hh
def g406 (E : rE) (w : Nat) (As : List Value) (s : rS) : Option rA := match As with
  | [.ref 36] => s406_0 E w s
  | _ => none
theorem t406 {L : Nat} {xs : Nat → Int32} {zf : Value} {D : dD} {E : rE} {w : Nat} (hD : rO D E L xs) (As : List Value) (h : rm_H) (s : rS) (r : rA) (hR : RS h s) (hh : g406 E w As s = some r) : rx (f406 L xs zf D w As h) h r := by
  unfold g406 at hh
  split at hh
  · unfold f406
    dsimp only
    refine rx_b (a := some 36) rfl ?_
    exact r406_0 hD  _ _ _ hR hh
  · cases hh
def s407_184 (E : rE) (w : Nat) (K29 : Option Nat → Int32 → Int32 → rS → Option rA) (o3 : Option Nat) (i4 : Int32) (i5 : Int32) (s : rS) : Option rA :=
  K29 o3 i4 i5 s
theorem r407_184 {L : Nat} {xs : Nat → Int32} {zf : Value} {D : dD} {E : rE} {w : Nat} {K29 : Option Nat → Int32 → Int32 → rS → Option rA} {B29 : Option Nat → Option Nat → Int32 → Int32 → rm_H → Option dR} (hD : rO D E L xs) (hK29 : ∀ (o3 : Option Nat) (i4 : Int32) (i5 : Int32) (h : rm_H) (s : rS) (r : rA), RS h s → K29 o3 i4 i5 s = some r → rx (B29 (some 36) o3 i4 i5 h) h r) : ∀ (o3 : Option Nat) (i4 : Int32) (i5 : Int32) (h : rm_H) (s : rS) (r : rA), RS h s → s407_184 E w K29 o3 i4 i5 s = some r → rx (b407_184 L xs zf D w B29 (some 36) o3 i4 i5 h) h r := by
  intro o3 i4 i5 h s r hR hh
  unfold s407_184 at hh
  unfold b407_184
  exact hK29 _ _ _ _ _ _ hR hh
def s407_112 (E : rE) (w : Nat) (K29 : Option Nat → Int32 → Int32 → rS → Option rA) (o3 : Option Nat) (i4 : Int32) (i5 : Int32) (i6 : Int32) (i7 : Int32) (i8 : Int32) (s : rS) : Option rA :=
  (rs_aI s 64 i8).bind fun x1 =>
  (rs_aJ s 67 (x1 + i7)).bind fun y3 =>
  ((E 409 [.ref 36, .long y3] s).bind rxV).bind fun s5 =>
  ((E 410 [.ref 36, .int 58] s5).bind rxV).bind fun s10 =>
  (rs_aI s10 88 i6).bind fun x15 =>
  (rs_aJo s10 o3 ((i4 + x15) + i7)).bind fun y17 =>
  ((E 408 [.ref 36, .long y17] s10).bind rxI).bind fun x19 =>
  if mx_f1 .eq x19.1 = true then
    s407_184 E w K29 o3 i4 i5 x19.2
  else
    (rs_sI x19.2 113 i5 (Int64.toInt32 y17)).bind fun s25 =>
    (rs_sI s25 114 i5 0).bind fun s30 =>
    s407_184 E w K29 o3 i4 (i5 + 1) s30
theorem r407_112 {L : Nat} {xs : Nat → Int32} {zf : Value} {D : dD} {E : rE} {w : Nat} {K29 : Option Nat → Int32 → Int32 → rS → Option rA} {B29 : Option Nat → Option Nat → Int32 → Int32 → rm_H → Option dR} (hD : rO D E L xs) (hK29 : ∀ (o3 : Option Nat) (i4 : Int32) (i5 : Int32) (h : rm_H) (s : rS) (r : rA), RS h s → K29 o3 i4 i5 s = some r → rx (B29 (some 36) o3 i4 i5 h) h r) : ∀ (o3 : Option Nat) (i4 : Int32) (i5 : Int32) (i6 : Int32) (i7 : Int32) (i8 : Int32) (h : rm_H) (s : rS) (r : rA), RS h s → s407_112 E w K29 o3 i4 i5 i6 i7 i8 s = some r → rx (b407_112 L xs zf D w B29 (some 36) o3 i4 i5 i6 i7 i8 h) h r := by
  intro o3 i4 i5 i6 i7 i8 h s r hR hh
  unfold s407_112 at hh
  unfold b407_112
  refine rx_b (rs_gR hR 39 67 rfl) ?_
  refine rx_b (rs_gR hR 35 64 rfl) ?_
  obtain ⟨x1, q2, hh⟩ := db hh
  refine rx_b (rs_aI_ok hR q2) ?_
  obtain ⟨y3, q4, hh⟩ := db hh
  refine rx_b (rs_aJ_ok hR q4) ?_
  obtain ⟨s5, q6, hh⟩ := db hh
  obtain ⟨h7, e8, hR, f9⟩ := rs_vV hD hR q6
  refine rx_w e8 f9 ?_
  obtain ⟨s10, q11, hh⟩ := db hh
  obtain ⟨h12, e13, hR, f14⟩ := rs_vV hD hR q11
  refine rx_w e13 f14 ?_
  refine rx_b (rs_gR hR 86 88 rfl) ?_
  obtain ⟨x15, q16, hh⟩ := db hh
  refine rx_b (rs_aI_ok hR q16) ?_
  obtain ⟨y17, q18, hh⟩ := db hh
  refine rx_b (rs_aJo_ok hR q18) ?_
  obtain ⟨x19, q20, hh⟩ := db hh
  obtain ⟨h21, e22, hR, f23⟩ := rs_vI hD hR q20
  refine rx_c e22 f23 ?_
  rcases di hh with ⟨q24, hh⟩ | ⟨q24, hh⟩
  · refine rx_t q24 ?_
    exact r407_184 hD hK29 _ _ _ _ _ _ hR hh
  · refine rx_f q24 ?_
    refine rx_b (rs_gR hR 113 113 rfl) ?_
    obtain ⟨s25, q26, hh⟩ := db hh
    obtain ⟨h27, e28, hR, f29⟩ := rs_sI_ok hR q26
    refine rx_w e28 f29 ?_
    refine rx_b (rs_gR hR 114 114 rfl) ?_
    obtain ⟨s30, q31, hh⟩ := db hh
    obtain ⟨h32, e33, hR, f34⟩ := rs_sI_ok hR q31
    refine rx_w e33 f34 ?_
    exact r407_184 hD hK29 _ _ _ _ _ _ hR hh
def s407_29 (E : rE) (w : Nat) : Nat → Option Nat → Int32 → Int32 → rS → Option rA
  | 0, _, _, _, _ => none
  | n + 1, o3, i4, i5, s =>
    if mx_f1 .le i5 = true then
      some (none, s)
    else
      (rs_aI s 113 (i5 - 1)).bind fun x2 =>
      (rs_aI s 114 (i5 - 1)).bind fun x4 =>
      (rs_aI s 87 x2).bind fun x6 =>
      ((E 373 [.ref 36, .int x6] s).bind rxI).bind fun x8 =>
      if mx_f2 .ne x4 x8.1 = true then
        (rs_aI x8.2 114 (i5 - 1)).bind fun x14 =>
        (rs_sI x8.2 114 (i5 - 1) (x14 + 1)).bind fun s16 =>
        if mx_f1 .le x4 = true then
          s407_112 E w (s407_29 E w n) o3 i4 i5 x2 x4 x6 s16
        else
          ((E 410 [.ref 36, .int 44] s16).bind rxV).bind fun s22 =>
          s407_112 E w (s407_29 E w n) o3 i4 i5 x2 x4 x6 s22
      else
        ((E 410 [.ref 36, .int 125] x8.2).bind rxV).bind fun s27 =>
        s407_29 E w n o3 i4 (i5 + (-1)) s27
theorem r407_29 {L : Nat} {xs : Nat → Int32} {zf : Value} {D : dD} {E : rE} {w : Nat} (hD : rO D E L xs) : ∀ (n : Nat) (o3 : Option Nat) (i4 : Int32) (i5 : Int32) (h : rm_H) (s : rS) (r : rA), RS h s → s407_29 E w n o3 i4 i5 s = some r → rx (b407_29 L xs zf D w n (some 36) o3 i4 i5 h) h r := by
  intro n
  induction n with
  | zero =>
    intro o3 i4 i5 h s r hR hh
    cases hh
  | succ n ih =>
    intro o3 i4 i5 h s r hR hh
    rw [s407_29] at hh
    rw [b407_29]
    rcases di hh with ⟨q1, hh⟩ | ⟨q1, hh⟩
    · refine rx_t q1 ?_
      cases hh
      exact rx_0 hR
    · refine rx_f q1 ?_
      refine rx_b (rs_gR hR 113 113 rfl) ?_
      obtain ⟨x2, q3, hh⟩ := db hh
      refine rx_b (rs_aI_ok hR q3) ?_
      refine rx_b (rs_gR hR 114 114 rfl) ?_
      obtain ⟨x4, q5, hh⟩ := db hh
      refine rx_b (rs_aI_ok hR q5) ?_
      refine rx_b (rs_gR hR 85 87 rfl) ?_
      obtain ⟨x6, q7, hh⟩ := db hh
      refine rx_b (rs_aI_ok hR q7) ?_
      obtain ⟨x8, q9, hh⟩ := db hh
      obtain ⟨h10, e11, hR, f12⟩ := rs_vI hD hR q9
      refine rx_c e11 f12 ?_
      rcases di hh with ⟨q13, hh⟩ | ⟨q13, hh⟩
      · refine rx_t q13 ?_
        refine rx_b (rs_gR hR 114 114 rfl) ?_
        obtain ⟨x14, q15, hh⟩ := db hh
        refine rx_b (rs_aI_ok hR q15) ?_
        obtain ⟨s16, q17, hh⟩ := db hh
        obtain ⟨h18, e19, hR, f20⟩ := rs_sI_ok hR q17
        refine rx_w e19 f20 ?_
        rcases di hh with ⟨q21, hh⟩ | ⟨q21, hh⟩
        · refine rx_t q21 ?_
          exact r407_112 hD ih _ _ _ _ _ _ _ _ _ hR hh
        · refine rx_f q21 ?_
          obtain ⟨s22, q23, hh⟩ := db hh
          obtain ⟨h24, e25, hR, f26⟩ := rs_vV hD hR q23
          refine rx_w e25 f26 ?_
          exact r407_112 hD ih _ _ _ _ _ _ _ _ _ hR hh
      · refine rx_f q13 ?_
        obtain ⟨s27, q28, hh⟩ := db hh
        obtain ⟨h29, e30, hR, f31⟩ := rs_vV hD hR q28
        refine rx_w e30 f31 ?_
        exact ih _ _ _ _ _ _ hR hh
def s407_0 (E : rE) (w : Nat) (j1 : Int64) (o3 : Option Nat) (i4 : Int32) (s : rS) : Option rA :=
  ((E 408 [.ref 36, .long j1] s).bind rxI).bind fun x1 =>
  if mx_f1 .eq x1.1 = true then
    s407_29 E w w o3 i4 0 x1.2
  else
    (rs_sI x1.2 113 0 (Int64.toInt32 j1)).bind fun s7 =>
    (rs_sI s7 114 0 0).bind fun s12 =>
    s407_29 E w w o3 i4 1 s12
theorem r407_0 {L : Nat} {xs : Nat → Int32} {zf : Value} {D : dD} {E : rE} {w : Nat} (hD : rO D E L xs) : ∀ (j1 : Int64) (o3 : Option Nat) (i4 : Int32) (h : rm_H) (s : rS) (r : rA), RS h s → s407_0 E w j1 o3 i4 s = some r → rx (b407_0 L xs zf D w (some 36) j1 o3 i4 h) h r := by
  intro j1 o3 i4 h s r hR hh
  unfold s407_0 at hh
  unfold b407_0
  obtain ⟨x1, q2, hh⟩ := db hh
  obtain ⟨h3, e4, hR, f5⟩ := rs_vI hD hR q2
  refine rx_c e4 f5 ?_
  rcases di hh with ⟨q6, hh⟩ | ⟨q6, hh⟩
  · refine rx_t q6 ?_
    exact r407_29 hD _ _ _ _ _ _ _ hR hh
  · refine rx_f q6 ?_
    refine rx_b (rs_gR hR 113 113 rfl) ?_
    obtain ⟨s7, q8, hh⟩ := db hh
    obtain ⟨h9, e10, hR, f11⟩ := rs_sI_ok hR q8
    refine rx_w e10 f11 ?_
    refine rx_b (rs_gR hR 114 114 rfl) ?_
    obtain ⟨s12, q13, hh⟩ := db hh
    obtain ⟨h14, e15, hR, f16⟩ := rs_sI_ok hR q13
    refine rx_w e15 f16 ?_
    exact r407_29 hD _ _ _ _ _ _ _ hR hh
def g407 (E : rE) (w : Nat) (As : List Value) (s : rS) : Option rA := match As with
  | [.ref 36, .long j1, v3, .int i4] => (rm_rf v3).bind fun o3 => s407_0 E w j1 o3 i4 s
  | _ => none
theorem t407 {L : Nat} {xs : Nat → Int32} {zf : Value} {D : dD} {E : rE} {w : Nat} (hD : rO D E L xs) (As : List Value) (h : rm_H) (s : rS) (r : rA) (hR : RS h s) (hh : g407 E w As s = some r) : rx (f407 L xs zf D w As h) h r := by
  unfold g407 at hh
  split at hh
  · obtain ⟨o3, z3, hb3⟩ := db hh
    unfold f407
    dsimp only
    refine rx_b (a := some 36) rfl ?_
    refine rx_b z3 ?_
    exact r407_0 hD _ _ _ _ _ _ hR hb3
  · cases hh
def s408_64 (E : rE) (w : Nat) (i3 : Int32) (i4 : Int32) (s : rS) : Option rA :=
  if mx_f2 .eq i3 2 = true then
    (rs_aI s 87 i4).bind fun x2 =>
    (rs_aJ s 62 x2).bind fun y4 =>
    ((E 409 [.ref 36, .long y4] s).bind rxV).bind fun s6 =>
    ((E 410 [.ref 36, .int 35] s6).bind rxV).bind fun s11 =>
    ((E 411 [.ref 36, .int i4] s11).bind rxV).bind fun s16 =>
    (rs_aB s16 112 i4).bind fun x21 =>
    if mx_f1 .eq x21 = true then
      (rs_sB s16 112 i4 1).bind fun s24 =>
      ((E 410 [.ref 36, .int 123] s24).bind rxV).bind fun s29 =>
      rrI (some .boolean) 1 s29
    else
      rrI (some .boolean) 0 s16
  else
    rrI (some .boolean) 0 s
theorem r408_64 {L : Nat} {xs : Nat → Int32} {zf : Value} {D : dD} {E : rE} {w : Nat} (hD : rO D E L xs) : ∀ (i3 : Int32) (i4 : Int32) (h : rm_H) (s : rS) (r : rA), RS h s → s408_64 E w i3 i4 s = some r → rx (b408_64 L xs zf D w (some 36) i3 i4 h) h r := by
  intro i3 i4 h s r hR hh
  unfold s408_64 at hh
  unfold b408_64
  rcases di hh with ⟨q1, hh⟩ | ⟨q1, hh⟩
  · refine rx_t q1 ?_
    refine rx_b (rs_gR hR 33 62 rfl) ?_
    refine rx_b (rs_gR hR 85 87 rfl) ?_
    obtain ⟨x2, q3, hh⟩ := db hh
    refine rx_b (rs_aI_ok hR q3) ?_
    obtain ⟨y4, q5, hh⟩ := db hh
    refine rx_b (rs_aJ_ok hR q5) ?_
    obtain ⟨s6, q7, hh⟩ := db hh
    obtain ⟨h8, e9, hR, f10⟩ := rs_vV hD hR q7
    refine rx_w e9 f10 ?_
    obtain ⟨s11, q12, hh⟩ := db hh
    obtain ⟨h13, e14, hR, f15⟩ := rs_vV hD hR q12
    refine rx_w e14 f15 ?_
    obtain ⟨s16, q17, hh⟩ := db hh
    obtain ⟨h18, e19, hR, f20⟩ := rs_vV hD hR q17
    refine rx_w e19 f20 ?_
    refine rx_b (rs_gR hR 112 112 rfl) ?_
    obtain ⟨x21, q22, hh⟩ := db hh
    refine rx_b (rs_aB_ok hR q22) ?_
    rcases di hh with ⟨q23, hh⟩ | ⟨q23, hh⟩
    · refine rx_t q23 ?_
      refine rx_b (rs_gR hR 112 112 rfl) ?_
      obtain ⟨s24, q25, hh⟩ := db hh
      obtain ⟨h26, e27, hR, f28⟩ := rs_sB_ok hR q25
      refine rx_w e27 f28 ?_
      obtain ⟨s29, q30, hh⟩ := db hh
      obtain ⟨h31, e32, hR, f33⟩ := rs_vV hD hR q30
      refine rx_w e32 f33 ?_
      exact rx_I hR hh
    · refine rx_f q23 ?_
      exact rx_I hR hh
  · refine rx_f q1 ?_
    exact rx_I hR hh
def s408_31 (E : rE) (w : Nat) (i3 : Int32) (i4 : Int32) (s : rS) : Option rA :=
  if mx_f2 .ne i3 3 = true then
    s408_64 E w i3 i4 s
  else
    (rs_aI s 89 i4).bind fun x2 =>
    (rs_aJ s 62 x2).bind fun y4 =>
    ((E 409 [.ref 36, .long y4] s).bind rxV).bind fun s6 =>
    ((E 410 [.ref 36, .int 64] s6).bind rxV).bind fun s11 =>
    ((E 411 [.ref 36, .int i4] s11).bind rxV).bind fun s16 =>
    s408_64 E w i3 i4 s16
theorem r408_31 {L : Nat} {xs : Nat → Int32} {zf : Value} {D : dD} {E : rE} {w : Nat} (hD : rO D E L xs) : ∀ (i3 : Int32) (i4 : Int32) (h : rm_H) (s : rS) (r : rA), RS h s → s408_31 E w i3 i4 s = some r → rx (b408_31 L xs zf D w (some 36) i3 i4 h) h r := by
  intro i3 i4 h s r hR hh
  unfold s408_31 at hh
  unfold b408_31
  rcases di hh with ⟨q1, hh⟩ | ⟨q1, hh⟩
  · refine rx_t q1 ?_
    exact r408_64 hD _ _ _ _ _ hR hh
  · refine rx_f q1 ?_
    refine rx_b (rs_gR hR 33 62 rfl) ?_
    refine rx_b (rs_gR hR 88 89 rfl) ?_
    obtain ⟨x2, q3, hh⟩ := db hh
    refine rx_b (rs_aI_ok hR q3) ?_
    obtain ⟨y4, q5, hh⟩ := db hh
    refine rx_b (rs_aJ_ok hR q5) ?_
    obtain ⟨s6, q7, hh⟩ := db hh
    obtain ⟨h8, e9, hR, f10⟩ := rs_vV hD hR q7
    refine rx_w e9 f10 ?_
    obtain ⟨s11, q12, hh⟩ := db hh
    obtain ⟨h13, e14, hR, f15⟩ := rs_vV hD hR q12
    refine rx_w e14 f15 ?_
    obtain ⟨s16, q17, hh⟩ := db hh
    obtain ⟨h18, e19, hR, f20⟩ := rs_vV hD hR q17
    refine rx_w e19 f20 ?_
    exact r408_64 hD _ _ _ _ _ hR hh
def s408_20 (E : rE) (w : Nat) (i3 : Int32) (i4 : Int32) (s : rS) : Option rA :=
  if mx_f2 .ne i3 1 = true then
    s408_31 E w i3 i4 s
  else
    ((E 411 [.ref 36, .int i4] s).bind rxV).bind fun s2 =>
    s408_31 E w i3 i4 s2
theorem r408_20 {L : Nat} {xs : Nat → Int32} {zf : Value} {D : dD} {E : rE} {w : Nat} (hD : rO D E L xs) : ∀ (i3 : Int32) (i4 : Int32) (h : rm_H) (s : rS) (r : rA), RS h s → s408_20 E w i3 i4 s = some r → rx (b408_20 L xs zf D w (some 36) i3 i4 h) h r := by
  intro i3 i4 h s r hR hh
  unfold s408_20 at hh
  unfold b408_20
  rcases di hh with ⟨q1, hh⟩ | ⟨q1, hh⟩
  · refine rx_t q1 ?_
    exact r408_31 hD _ _ _ _ _ hR hh
  · refine rx_f q1 ?_
    obtain ⟨s2, q3, hh⟩ := db hh
    obtain ⟨h4, e5, hR, f6⟩ := rs_vV hD hR q3
    refine rx_w e5 f6 ?_
    exact r408_31 hD _ _ _ _ _ hR hh
def s408_0 (E : rE) (w : Nat) (j1 : Int64) (s : rS) : Option rA :=
  ((E 379 [.long j1] s).bind rxI).bind fun x1 =>
  if mx_f1 .ne x1.1 = true then
    s408_20 E w x1.1 (Int64.toInt32 j1) x1.2
  else
    ((E 409 [.ref 36, .long 1852796517] x1.2).bind rxV).bind fun s7 =>
    s408_20 E w x1.1 (Int64.toInt32 j1) s7
theorem r408_0 {L : Nat} {xs : Nat → Int32} {zf : Value} {D : dD} {E : rE} {w : Nat} (hD : rO D E L xs) : ∀ (j1 : Int64) (h : rm_H) (s : rS) (r : rA), RS h s → s408_0 E w j1 s = some r → rx (b408_0 L xs zf D w (some 36) j1 h) h r := by
  intro j1 h s r hR hh
  unfold s408_0 at hh
  unfold b408_0
  obtain ⟨x1, q2, hh⟩ := db hh
  obtain ⟨h3, e4, hR, f5⟩ := rs_cI hD hR q2
  refine rx_c e4 f5 ?_
  rcases di hh with ⟨q6, hh⟩ | ⟨q6, hh⟩
  · refine rx_t q6 ?_
    exact r408_20 hD _ _ _ _ _ hR hh
  · refine rx_f q6 ?_
    obtain ⟨s7, q8, hh⟩ := db hh
    obtain ⟨h9, e10, hR, f11⟩ := rs_vV hD hR q8
    refine rx_w e10 f11 ?_
    exact r408_20 hD _ _ _ _ _ hR hh
def g408 (E : rE) (w : Nat) (As : List Value) (s : rS) : Option rA := match As with
  | [.ref 36, .long j1] => s408_0 E w j1 s
  | _ => none
theorem t408 {L : Nat} {xs : Nat → Int32} {zf : Value} {D : dD} {E : rE} {w : Nat} (hD : rO D E L xs) (As : List Value) (h : rm_H) (s : rS) (r : rA) (hR : RS h s) (hh : g408 E w As s = some r) : rx (f408 L xs zf D w As h) h r := by
  unfold g408 at hh
  split at hh
  · unfold f408
    dsimp only
    refine rx_b (a := some 36) rfl ?_
    exact r408_0 hD _ _ _ _ hR hh
  · cases hh
def s409_31 (E : rE) (w : Nat) (K3 : Int64 → Int32 → rS → Option rA) (j1 : Int64) (i3 : Int32) (s : rS) : Option rA :=
  K3 j1 (i3 + (-8)) s
theorem r409_31 {L : Nat} {xs : Nat → Int32} {zf : Value} {D : dD} {E : rE} {w : Nat} {K3 : Int64 → Int32 → rS → Option rA} {B3 : Option Nat → Int64 → Int32 → rm_H → Option dR} (hD : rO D E L xs) (hK3 : ∀ (j1 : Int64) (i3 : Int32) (h : rm_H) (s : rS) (r : rA), RS h s → K3 j1 i3 s = some r → rx (B3 (some 36) j1 i3 h) h r) : ∀ (j1 : Int64) (i3 : Int32) (h : rm_H) (s : rS) (r : rA), RS h s → s409_31 E w K3 j1 i3 s = some r → rx (b409_31 L xs zf D w B3 (some 36) j1 i3 h) h r := by
  intro j1 i3 h s r hR hh
  unfold s409_31 at hh
  unfold b409_31
  exact hK3 _ _ _ _ _ hR hh
def s409_3 (E : rE) (w : Nat) : Nat → Int64 → Int32 → rS → Option rA
  | 0, _, _, _ => none
  | n + 1, j1, i3, s =>
    if mx_f1 .lt i3 = true then
      some (none, s)
    else
      if mx_f1 .eq (lg_cmp ((j1 >>> ((i3 : Int32).toInt64 &&& 63)) &&& 255) 0) = true then
        s409_31 E w (s409_3 E w n) j1 i3 s
      else
        ((E 410 [.ref 36, .int (Int64.toInt32 ((j1 >>> ((i3 : Int32).toInt64 &&& 63)) &&& 255))] s).bind rxV).bind fun s3 =>
        s409_31 E w (s409_3 E w n) j1 i3 s3
theorem r409_3 {L : Nat} {xs : Nat → Int32} {zf : Value} {D : dD} {E : rE} {w : Nat} (hD : rO D E L xs) : ∀ (n : Nat) (j1 : Int64) (i3 : Int32) (h : rm_H) (s : rS) (r : rA), RS h s → s409_3 E w n j1 i3 s = some r → rx (b409_3 L xs zf D w n (some 36) j1 i3 h) h r := by
  intro n
  induction n with
  | zero =>
    intro j1 i3 h s r hR hh
    cases hh
  | succ n ih =>
    intro j1 i3 h s r hR hh
    rw [s409_3] at hh
    rw [b409_3]
    rcases di hh with ⟨q1, hh⟩ | ⟨q1, hh⟩
    · refine rx_t q1 ?_
      cases hh
      exact rx_0 hR
    · refine rx_f q1 ?_
      rcases di hh with ⟨q2, hh⟩ | ⟨q2, hh⟩
      · refine rx_t q2 ?_
        exact r409_31 hD ih _ _ _ _ _ hR hh
      · refine rx_f q2 ?_
        obtain ⟨s3, q4, hh⟩ := db hh
        obtain ⟨h5, e6, hR, f7⟩ := rs_vV hD hR q4
        refine rx_w e6 f7 ?_
        exact r409_31 hD ih _ _ _ _ _ hR hh
def s409_0 (E : rE) (w : Nat) (j1 : Int64) (s : rS) : Option rA :=
  s409_3 E w w j1 56 s
theorem r409_0 {L : Nat} {xs : Nat → Int32} {zf : Value} {D : dD} {E : rE} {w : Nat} (hD : rO D E L xs) : ∀ (j1 : Int64) (h : rm_H) (s : rS) (r : rA), RS h s → s409_0 E w j1 s = some r → rx (b409_0 L xs zf D w (some 36) j1 h) h r := by
  intro j1 h s r hR hh
  unfold s409_0 at hh
  unfold b409_0
  exact r409_3 hD _ _ _ _ _ _ hR hh
def g409 (E : rE) (w : Nat) (As : List Value) (s : rS) : Option rA := match As with
  | [.ref 36, .long j1] => s409_0 E w j1 s
  | _ => none
theorem t409 {L : Nat} {xs : Nat → Int32} {zf : Value} {D : dD} {E : rE} {w : Nat} (hD : rO D E L xs) (As : List Value) (h : rm_H) (s : rS) (r : rA) (hR : RS h s) (hh : g409 E w As s = some r) : rx (f409 L xs zf D w As h) h r := by
  unfold g409 at hh
  split at hh
  · unfold f409
    dsimp only
    refine rx_b (a := some 36) rfl ?_
    exact r409_0 hD _ _ _ _ hR hh
  · cases hh
def s410_20 (E : rE) (w : Nat) (s : rS) : Option rA :=
  (rs_pI s 111 ((s.1 111) + 1)).bind fun s1 =>
  some (none, s1)
theorem r410_20 {L : Nat} {xs : Nat → Int32} {zf : Value} {D : dD} {E : rE} {w : Nat} (hD : rO D E L xs) : ∀ (h : rm_H) (s : rS) (r : rA), RS h s → s410_20 E w s = some r → rx (b410_20 L xs zf D w (some 36) h) h r := by
  intro h s r hR hh
  unfold s410_20 at hh
  unfold b410_20
  refine rx_b (rs_gI hR 111 _ rfl) ?_
  obtain ⟨s1, q2, hh⟩ := db hh
  obtain ⟨h3, e4, hR, f5⟩ := rs_pI_ok (rs_m111 _ _) (by decide) hR q2
  refine rx_w e4 f5 ?_
  cases hh
  exact rx_0 hR
def s410_0 (E : rE) (w : Nat) (i1 : Int32) (s : rS) : Option rA :=
  if mx_f2 .ge (s.1 111) 3000 = true then
    s410_20 E w s
  else
    (rs_sI s 111 (s.1 111) i1).bind fun s2 =>
    s410_20 E w s2
theorem r410_0 {L : Nat} {xs : Nat → Int32} {zf : Value} {D : dD} {E : rE} {w : Nat} (hD : rO D E L xs) : ∀ (i1 : Int32) (h : rm_H) (s : rS) (r : rA), RS h s → s410_0 E w i1 s = some r → rx (b410_0 L xs zf D w (some 36) i1 h) h r := by
  intro i1 h s r hR hh
  unfold s410_0 at hh
  unfold b410_0
  refine rx_b (rs_gI hR 111 _ rfl) ?_
  rcases di hh with ⟨q1, hh⟩ | ⟨q1, hh⟩
  · refine rx_t q1 ?_
    exact r410_20 hD  _ _ _ hR hh
  · refine rx_f q1 ?_
    refine rx_b (rs_gR hR 110 111 rfl) ?_
    refine rx_b (rs_gI hR 111 _ rfl) ?_
    obtain ⟨s2, q3, hh⟩ := db hh
    obtain ⟨h4, e5, hR, f6⟩ := rs_sI_ok hR q3
    refine rx_w e5 f6 ?_
    exact r410_20 hD  _ _ _ hR hh
def g410 (E : rE) (w : Nat) (As : List Value) (s : rS) : Option rA := match As with
  | [.ref 36, .int i1] => s410_0 E w i1 s
  | _ => none
theorem t410 {L : Nat} {xs : Nat → Int32} {zf : Value} {D : dD} {E : rE} {w : Nat} (hD : rO D E L xs) (As : List Value) (h : rm_H) (s : rS) (r : rA) (hR : RS h s) (hh : g410 E w As s = some r) : rx (f410 L xs zf D w As h) h r := by
  unfold g410 at hh
  split at hh
  · unfold f410
    dsimp only
    refine rx_b (a := some 36) rfl ?_
    exact r410_0 hD _ _ _ _ hR hh
  · cases hh
def s411_43 (E : rE) (w : Nat) : Nat → Int64 → Int64 → rS → Option rA
  | 0, _, _, _ => none
  | n + 1, j2, j4, s =>
    if mx_f1 .le (lg_cmp j4 0) = true then
      some (none, s)
    else
      if (j4 : Int64) = 0 then none else
      ((E 410 [.ref 36, .int (48 + (Int64.toInt32 ((j2 / j4) - (j2 / j4) / 10 * 10)))] s).bind rxV).bind fun s3 =>
      s411_43 E w n j2 (j4 / 10) s3
theorem r411_43 {L : Nat} {xs : Nat → Int32} {zf : Value} {D : dD} {E : rE} {w : Nat} (hD : rO D E L xs) : ∀ (n : Nat) (j2 : Int64) (j4 : Int64) (h : rm_H) (s : rS) (r : rA), RS h s → s411_43 E w n j2 j4 s = some r → rx (b411_43 L xs zf D w n (some 36) j2 j4 h) h r := by
  intro n
  induction n with
  | zero =>
    intro j2 j4 h s r hR hh
    cases hh
  | succ n ih =>
    intro j2 j4 h s r hR hh
    rw [s411_43] at hh
    rw [b411_43]
    rcases di hh with ⟨q1, hh⟩ | ⟨q1, hh⟩
    · refine rx_t q1 ?_
      cases hh
      exact rx_0 hR
    · refine rx_f q1 ?_
      rcases dp hh with ⟨_, hh⟩ | ⟨q2, hh⟩
      · cases hh
      refine rx_pf q2 ?_
      obtain ⟨s3, q4, hh⟩ := db hh
      obtain ⟨h5, e6, hR, f7⟩ := rs_vV hD hR q4
      refine rx_w e6 f7 ?_
      exact ih _ _ _ _ _ hR hh
def s411_21 (E : rE) (w : Nat) : Nat → Int64 → Int64 → rS → Option rA
  | 0, _, _, _ => none
  | n + 1, j2, j4, s =>
    if (j4 : Int64) = 0 then none else
    if mx_f1 .le (lg_cmp (j2 / j4) 9) = true then
      s411_43 E w w j2 j4 s
    else
      s411_21 E w n j2 (10 * j4) s
theorem r411_21 {L : Nat} {xs : Nat → Int32} {zf : Value} {D : dD} {E : rE} {w : Nat} (hD : rO D E L xs) : ∀ (n : Nat) (j2 : Int64) (j4 : Int64) (h : rm_H) (s : rS) (r : rA), RS h s → s411_21 E w n j2 j4 s = some r → rx (b411_21 L xs zf D w n (some 36) j2 j4 h) h r := by
  intro n
  induction n with
  | zero =>
    intro j2 j4 h s r hR hh
    cases hh
  | succ n ih =>
    intro j2 j4 h s r hR hh
    rw [s411_21] at hh
    rw [b411_21]
    rcases dp hh with ⟨_, hh⟩ | ⟨q1, hh⟩
    · cases hh
    refine rx_pf q1 ?_
    rcases di hh with ⟨q2, hh⟩ | ⟨q2, hh⟩
    · refine rx_t q2 ?_
      exact r411_43 hD _ _ _ _ _ _ hR hh
    · refine rx_f q2 ?_
      exact ih _ _ _ _ _ hR hh
def s411_18 (E : rE) (w : Nat) (j2 : Int64) (s : rS) : Option rA :=
  s411_21 E w w j2 1 s
theorem r411_18 {L : Nat} {xs : Nat → Int32} {zf : Value} {D : dD} {E : rE} {w : Nat} (hD : rO D E L xs) : ∀ (j2 : Int64) (h : rm_H) (s : rS) (r : rA), RS h s → s411_18 E w j2 s = some r → rx (b411_18 L xs zf D w (some 36) j2 h) h r := by
  intro j2 h s r hR hh
  unfold s411_18 at hh
  unfold b411_18
  exact r411_21 hD _ _ _ _ _ _ hR hh
def s411_0 (E : rE) (w : Nat) (i1 : Int32) (s : rS) : Option rA :=
  if mx_f1 .ge (lg_cmp (Int32.toInt64 i1) 0) = true then
    s411_18 E w (Int32.toInt64 i1) s
  else
    ((E 410 [.ref 36, .int 45] s).bind rxV).bind fun s2 =>
    s411_18 E w (-(Int32.toInt64 i1)) s2
theorem r411_0 {L : Nat} {xs : Nat → Int32} {zf : Value} {D : dD} {E : rE} {w : Nat} (hD : rO D E L xs) : ∀ (i1 : Int32) (h : rm_H) (s : rS) (r : rA), RS h s → s411_0 E w i1 s = some r → rx (b411_0 L xs zf D w (some 36) i1 h) h r := by
  intro i1 h s r hR hh
  unfold s411_0 at hh
  unfold b411_0
  rcases di hh with ⟨q1, hh⟩ | ⟨q1, hh⟩
  · refine rx_t q1 ?_
    exact r411_18 hD _ _ _ _ hR hh
  · refine rx_f q1 ?_
    obtain ⟨s2, q3, hh⟩ := db hh
    obtain ⟨h4, e5, hR, f6⟩ := rs_vV hD hR q3
    refine rx_w e5 f6 ?_
    exact r411_18 hD _ _ _ _ hR hh
def g411 (E : rE) (w : Nat) (As : List Value) (s : rS) : Option rA := match As with
  | [.ref 36, .int i1] => s411_0 E w i1 s
  | _ => none
theorem t411 {L : Nat} {xs : Nat → Int32} {zf : Value} {D : dD} {E : rE} {w : Nat} (hD : rO D E L xs) (As : List Value) (h : rm_H) (s : rS) (r : rA) (hR : RS h s) (hh : g411 E w As s = some r) : rx (f411 L xs zf D w As h) h r := by
  unfold g411 at hh
  split at hh
  · unfold f411
    dsimp only
    refine rx_b (a := some 36) rfl ?_
    exact r411_0 hD _ _ _ _ hR hh
  · cases hh
def s412_26 (E : rE) (w : Nat) (s : rS) : Option rA :=
  rrI (some .int) (-1) s
theorem r412_26 {L : Nat} {xs : Nat → Int32} {zf : Value} {D : dD} {E : rE} {w : Nat} (hD : rO D E L xs) : ∀ (h : rm_H) (s : rS) (r : rA), RS h s → s412_26 E w s = some r → rx (b412_26 L xs zf D w h) h r := by
  intro h s r hR hh
  unfold s412_26 at hh
  unfold b412_26
  exact rx_I hR hh
def s412_120 (E : rE) (w : Nat) (K87 : Int32 → Int32 → Int32 → rS → Option rA) (i3 : Int32) (i4 : Int32) (i5 : Int32) (s : rS) : Option rA :=
  (rs_aJ s 106 ((6 * i3) + i5)).bind fun y1 =>
  ((E 407 [.ref 36, .long y1, .ref 107, .int (400 * i3)] s).bind rxV).bind fun s3 =>
  K87 i3 i4 (i5 + 1) s3
theorem r412_120 {L : Nat} {xs : Nat → Int32} {zf : Value} {D : dD} {E : rE} {w : Nat} {K87 : Int32 → Int32 → Int32 → rS → Option rA} {B87 : Option Nat → Int32 → Int32 → Int32 → rm_H → Option dR} (hD : rO D E L xs) (hK87 : ∀ (i3 : Int32) (i4 : Int32) (i5 : Int32) (h : rm_H) (s : rS) (r : rA), RS h s → K87 i3 i4 i5 s = some r → rx (B87 (some 36) i3 i4 i5 h) h r) : ∀ (i3 : Int32) (i4 : Int32) (i5 : Int32) (h : rm_H) (s : rS) (r : rA), RS h s → s412_120 E w K87 i3 i4 i5 s = some r → rx (b412_120 L xs zf D w B87 (some 36) i3 i4 i5 h) h r := by
  intro i3 i4 i5 h s r hR hh
  unfold s412_120 at hh
  unfold b412_120
  refine rx_b (rs_gR hR 105 106 rfl) ?_
  obtain ⟨y1, q2, hh⟩ := db hh
  refine rx_b (rs_aJ_ok hR q2) ?_
  refine rx_b (rs_gR hR 106 107 rfl) ?_
  obtain ⟨s3, q4, hh⟩ := db hh
  obtain ⟨h5, e6, hR, f7⟩ := rs_vV hD hR q4
  refine rx_w e6 f7 ?_
  exact hK87 _ _ _ _ _ _ hR hh
def s412_87 (E : rE) (w : Nat) : Nat → Int32 → Int32 → Int32 → rS → Option rA
  | 0, _, _, _, _ => none
  | n + 1, i3, i4, i5, s =>
    (rs_aI s 77 (i4 + 1)).bind fun x1 =>
    (rs_aI s 77 i4).bind fun x3 =>
    if mx_f2 .ge i5 (x1 - x3) = true then
      ((E 410 [.ref 36, .int 41] s).bind rxV).bind fun s6 =>
      rrI (some .int) (s6.1 111) s6
    else
      if mx_f1 .le i5 = true then
        s412_120 E w (s412_87 E w n) i3 i4 i5 s
      else
        ((E 410 [.ref 36, .int 44] s).bind rxV).bind fun s12 =>
        s412_120 E w (s412_87 E w n) i3 i4 i5 s12
theorem r412_87 {L : Nat} {xs : Nat → Int32} {zf : Value} {D : dD} {E : rE} {w : Nat} (hD : rO D E L xs) : ∀ (n : Nat) (i3 : Int32) (i4 : Int32) (i5 : Int32) (h : rm_H) (s : rS) (r : rA), RS h s → s412_87 E w n i3 i4 i5 s = some r → rx (b412_87 L xs zf D w n (some 36) i3 i4 i5 h) h r := by
  intro n
  induction n with
  | zero =>
    intro i3 i4 i5 h s r hR hh
    cases hh
  | succ n ih =>
    intro i3 i4 i5 h s r hR hh
    rw [s412_87] at hh
    rw [b412_87]
    refine rx_b (rs_gR hR 50 77 rfl) ?_
    obtain ⟨x1, q2, hh⟩ := db hh
    refine rx_b (rs_aI_ok hR q2) ?_
    refine rx_b (rs_gR hR 50 77 rfl) ?_
    obtain ⟨x3, q4, hh⟩ := db hh
    refine rx_b (rs_aI_ok hR q4) ?_
    rcases di hh with ⟨q5, hh⟩ | ⟨q5, hh⟩
    · refine rx_t q5 ?_
      obtain ⟨s6, q7, hh⟩ := db hh
      obtain ⟨h8, e9, hR, f10⟩ := rs_vV hD hR q7
      refine rx_w e9 f10 ?_
      refine rx_b (rs_gI hR 111 _ rfl) ?_
      exact rx_I hR hh
    · refine rx_f q5 ?_
      rcases di hh with ⟨q11, hh⟩ | ⟨q11, hh⟩
      · refine rx_t q11 ?_
        exact r412_120 hD ih _ _ _ _ _ _ hR hh
      · refine rx_f q11 ?_
        obtain ⟨s12, q13, hh⟩ := db hh
        obtain ⟨h14, e15, hR, f16⟩ := rs_vV hD hR q13
        refine rx_w e15 f16 ?_
        exact r412_120 hD ih _ _ _ _ _ _ hR hh
def s412_75 (E : rE) (w : Nat) (i3 : Int32) (i4 : Int32) (s0 : Int64) (s : rS) : Option rA :=
  ((E 409 [.ref 36, .long s0] s).bind rxV).bind fun s1 =>
  ((E 410 [.ref 36, .int 40] s1).bind rxV).bind fun s6 =>
  s412_87 E w w i3 i4 0 s6
theorem r412_75 {L : Nat} {xs : Nat → Int32} {zf : Value} {D : dD} {E : rE} {w : Nat} (hD : rO D E L xs) : ∀ (i3 : Int32) (i4 : Int32) (s0 : Int64) (h : rm_H) (s : rS) (r : rA), RS h s → s412_75 E w i3 i4 s0 s = some r → rx (b412_75 L xs zf D w (some 36) i3 i4 s0 (some 36) h) h r := by
  intro i3 i4 s0 h s r hR hh
  unfold s412_75 at hh
  unfold b412_75
  obtain ⟨s1, q2, hh⟩ := db hh
  obtain ⟨h3, e4, hR, f5⟩ := rs_vV hD hR q2
  refine rx_w e4 f5 ?_
  obtain ⟨s6, q7, hh⟩ := db hh
  obtain ⟨h8, e9, hR, f10⟩ := rs_vV hD hR q7
  refine rx_w e9 f10 ?_
  exact r412_87 hD _ _ _ _ _ _ _ hR hh
def s412_0 (E : rE) (w : Nat) (i1 : Int32) (i2 : Int32) (s : rS) : Option rA :=
  ((E 406 [.ref 36] s).bind rxV).bind fun s1 =>
  ((E 381 [.ref 36, .int i1] s1).bind rxI).bind fun x6 =>
  if mx_f1 .eq x6.1 = true then
    s412_26 E w x6.2
  else
    if mx_f1 .lt i2 = true then
      s412_26 E w x6.2
    else
      (rs_aI x6.2 94 i1).bind fun x13 =>
      if mx_f2 .lt i2 x13 = true then
        (rs_aI x6.2 102 ((6 * i1) + i2)).bind fun x16 =>
        (rs_aI x6.2 103 x16).bind fun x18 =>
        (rs_aI x6.2 70 x18).bind fun x20 =>
        if mx_f1 .ne x20 = true then
          (rs_aJ x6.2 78 x18).bind fun y23 =>
          s412_75 E w x16 x18 y23 x6.2
        else
          (rs_aJ x6.2 39 2).bind fun y25 =>
          s412_75 E w x16 x18 y25 x6.2
      else
        s412_26 E w x6.2
theorem r412_0 {L : Nat} {xs : Nat → Int32} {zf : Value} {D : dD} {E : rE} {w : Nat} (hD : rO D E L xs) : ∀ (i1 : Int32) (i2 : Int32) (h : rm_H) (s : rS) (r : rA), RS h s → s412_0 E w i1 i2 s = some r → rx (b412_0 L xs zf D w (some 36) i1 i2 h) h r := by
  intro i1 i2 h s r hR hh
  unfold s412_0 at hh
  unfold b412_0
  obtain ⟨s1, q2, hh⟩ := db hh
  obtain ⟨h3, e4, hR, f5⟩ := rs_vV hD hR q2
  refine rx_w e4 f5 ?_
  obtain ⟨x6, q7, hh⟩ := db hh
  obtain ⟨h8, e9, hR, f10⟩ := rs_vI hD hR q7
  refine rx_c e9 f10 ?_
  rcases di hh with ⟨q11, hh⟩ | ⟨q11, hh⟩
  · refine rx_t q11 ?_
    exact r412_26 hD  _ _ _ hR hh
  · refine rx_f q11 ?_
    rcases di hh with ⟨q12, hh⟩ | ⟨q12, hh⟩
    · refine rx_t q12 ?_
      exact r412_26 hD  _ _ _ hR hh
    · refine rx_f q12 ?_
      refine rx_b (rs_gR hR 93 94 rfl) ?_
      obtain ⟨x13, q14, hh⟩ := db hh
      refine rx_b (rs_aI_ok hR q14) ?_
      rcases di hh with ⟨q15, hh⟩ | ⟨q15, hh⟩
      · refine rx_t q15 ?_
        refine rx_b (rs_gR hR 101 102 rfl) ?_
        obtain ⟨x16, q17, hh⟩ := db hh
        refine rx_b (rs_aI_ok hR q17) ?_
        refine rx_b (rs_gR hR 102 103 rfl) ?_
        obtain ⟨x18, q19, hh⟩ := db hh
        refine rx_b (rs_aI_ok hR q19) ?_
        refine rx_b (rs_gR hR 43 70 rfl) ?_
        obtain ⟨x20, q21, hh⟩ := db hh
        refine rx_b (rs_aI_ok hR q21) ?_
        rcases di hh with ⟨q22, hh⟩ | ⟨q22, hh⟩
        · refine rx_t q22 ?_
          refine rx_b (rs_gR hR 51 78 rfl) ?_
          obtain ⟨y23, q24, hh⟩ := db hh
          refine rx_b (rs_aJ_ok hR q24) ?_
          exact r412_75 hD _ _ _ _ _ _ hR hh
        · refine rx_f q22 ?_
          refine rx_b (rs_gR hR 4 39 rfl) ?_
          obtain ⟨y25, q26, hh⟩ := db hh
          refine rx_b (rs_aJ_ok hR q26) ?_
          exact r412_75 hD _ _ _ _ _ _ hR hh
      · refine rx_f q15 ?_
        exact r412_26 hD  _ _ _ hR hh
def g412 (E : rE) (w : Nat) (As : List Value) (s : rS) : Option rA := match As with
  | [.ref 36, .int i1, .int i2] => s412_0 E w i1 i2 s
  | _ => none
theorem t412 {L : Nat} {xs : Nat → Int32} {zf : Value} {D : dD} {E : rE} {w : Nat} (hD : rO D E L xs) (As : List Value) (h : rm_H) (s : rS) (r : rA) (hR : RS h s) (hh : g412 E w As s = some r) : rx (f412 L xs zf D w As h) h r := by
  unfold g412 at hh
  split at hh
  · unfold f412
    dsimp only
    refine rx_b (a := some 36) rfl ?_
    exact r412_0 hD _ _ _ _ _ hR hh
  · cases hh
def s413_29 (E : rE) (w : Nat) (s0 : Int32) (s : rS) : Option rA :=
  rrI (some .int) s0 s
theorem r413_29 {L : Nat} {xs : Nat → Int32} {zf : Value} {D : dD} {E : rE} {w : Nat} (hD : rO D E L xs) : ∀ (s0 : Int32) (h : rm_H) (s : rS) (r : rA), RS h s → s413_29 E w s0 s = some r → rx (b413_29 L xs zf D w s0 h) h r := by
  intro s0 h s r hR hh
  unfold s413_29 at hh
  unfold b413_29
  exact rx_I hR hh
def s413_19 (E : rE) (w : Nat) (s : rS) : Option rA :=
  s413_29 E w 0 s
theorem r413_19 {L : Nat} {xs : Nat → Int32} {zf : Value} {D : dD} {E : rE} {w : Nat} (hD : rO D E L xs) : ∀ (h : rm_H) (s : rS) (r : rA), RS h s → s413_19 E w s = some r → rx (b413_19 L xs zf D w h) h r := by
  intro h s r hR hh
  unfold s413_19 at hh
  unfold b413_19
  exact r413_29 hD _ _ _ _ hR hh
def s413_0 (E : rE) (w : Nat) (i1 : Int32) (s : rS) : Option rA :=
  if mx_f1 .lt i1 = true then
    s413_19 E w s
  else
    if mx_f2 .ge i1 (s.1 111) = true then
      s413_19 E w s
    else
      if mx_f2 .lt i1 3000 = true then
        (rs_aI s 111 i1).bind fun x4 =>
        s413_29 E w x4 s
      else
        s413_19 E w s
theorem r413_0 {L : Nat} {xs : Nat → Int32} {zf : Value} {D : dD} {E : rE} {w : Nat} (hD : rO D E L xs) : ∀ (i1 : Int32) (h : rm_H) (s : rS) (r : rA), RS h s → s413_0 E w i1 s = some r → rx (b413_0 L xs zf D w (some 36) i1 h) h r := by
  intro i1 h s r hR hh
  unfold s413_0 at hh
  unfold b413_0
  rcases di hh with ⟨q1, hh⟩ | ⟨q1, hh⟩
  · refine rx_t q1 ?_
    exact r413_19 hD  _ _ _ hR hh
  · refine rx_f q1 ?_
    refine rx_b (rs_gI hR 111 _ rfl) ?_
    rcases di hh with ⟨q2, hh⟩ | ⟨q2, hh⟩
    · refine rx_t q2 ?_
      exact r413_19 hD  _ _ _ hR hh
    · refine rx_f q2 ?_
      rcases di hh with ⟨q3, hh⟩ | ⟨q3, hh⟩
      · refine rx_t q3 ?_
        refine rx_b (rs_gR hR 110 111 rfl) ?_
        obtain ⟨x4, q5, hh⟩ := db hh
        refine rx_b (rs_aI_ok hR q5) ?_
        exact r413_29 hD _ _ _ _ hR hh
      · refine rx_f q3 ?_
        exact r413_19 hD  _ _ _ hR hh
def g413 (E : rE) (w : Nat) (As : List Value) (s : rS) : Option rA := match As with
  | [.ref 36, .int i1] => s413_0 E w i1 s
  | _ => none
theorem t413 {L : Nat} {xs : Nat → Int32} {zf : Value} {D : dD} {E : rE} {w : Nat} (hD : rO D E L xs) (As : List Value) (h : rm_H) (s : rS) (r : rA) (hR : RS h s) (hh : g413 E w As s = some r) : rx (f413 L xs zf D w As h) h r := by
  unfold g413 at hh
  split at hh
  · unfold f413
    dsimp only
    refine rx_b (a := some 36) rfl ?_
    exact r413_0 hD _ _ _ _ hR hh
  · cases hh
