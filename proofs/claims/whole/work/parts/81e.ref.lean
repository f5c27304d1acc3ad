/-! THE REFERENCE'S METHODS OVER ITS STATE, printed by wip/whole/gen_ref.py -/
def s363_237 (E : rE) (w : Nat) (s0 : Int32) (s : rS) : Option rA :=
  ((E 344 [.ref 36, .int s0] s).bind rxI).bind fun x1 =>
  rrI (some .int) x1.1 x1.2
theorem r363_237 {L : Nat} {xs : Nat → Int32} {zf : Value} {D : dD} {E : rE} {w : Nat} (hD : rO D E L xs) : ∀ (s0 : Int32) (h : rm_H) (s : rS) (r : rA), RS h s → s363_237 E w s0 s = some r → rx (b363_237 L xs zf D w s0 (some 36) h) h r := by
  intro s0 h s r hR hh
  unfold s363_237 at hh
  unfold b363_237
  obtain ⟨x1, q2, hh⟩ := db hh
  obtain ⟨h3, e4, hR, f5⟩ := rs_vI hD hR q2
  refine rx_c e4 f5 ?_
  exact rx_I hR hh
def s363_183 (E : rE) (w : Nat) (i1 : Int32) (i2 : Int32) (i7 : Int32) (i9 : Int32) (s : rS) : Option rA :=
  if mx_f1 .ne i9 = true then
    (rs_sI s 53 i1 i7).bind fun s2 =>
    (rs_aI s2 75 i7).bind fun x7 =>
    if mx_f2 .ne x7 (-1) = true then
      (rs_aI s2 75 i7).bind fun x10 =>
      (rs_aI s2 60 x10).bind fun x12 =>
      s363_237 E w x12 s2
    else
      s363_237 E w (-1) s2
  else
    (rs_aI s 50 i2).bind fun x14 =>
    ((E 347 [.ref 36, .int 6, .int x14] s).bind rxI).bind fun x16 =>
    rrI (some .int) x16.1 x16.2
theorem r363_183 {L : Nat} {xs : Nat → Int32} {zf : Value} {D : dD} {E : rE} {w : Nat} (hD : rO D E L xs) : ∀ (i1 : Int32) (i2 : Int32) (i7 : Int32) (i9 : Int32) (h : rm_H) (s : rS) (r : rA), RS h s → s363_183 E w i1 i2 i7 i9 s = some r → rx (b363_183 L xs zf D w (some 36) i1 i2 i7 i9 h) h r := by
  intro i1 i2 i7 i9 h s r hR hh
  unfold s363_183 at hh
  unfold b363_183
  rcases di hh with ⟨q1, hh⟩ | ⟨q1, hh⟩
  · refine rx_t q1 ?_
    refine rx_b (rs_gR hR 20 53 rfl) ?_
    obtain ⟨s2, q3, hh⟩ := db hh
    obtain ⟨h4, e5, hR, f6⟩ := rs_sI_ok hR q3
    refine rx_w e5 f6 ?_
    refine rx_b (rs_gR hR 48 75 rfl) ?_
    obtain ⟨x7, q8, hh⟩ := db hh
    refine rx_b (rs_aI_ok hR q8) ?_
    rcases di hh with ⟨q9, hh⟩ | ⟨q9, hh⟩
    · refine rx_t q9 ?_
      refine rx_b (rs_gR hR 30 60 rfl) ?_
      refine rx_b (rs_gR hR 48 75 rfl) ?_
      obtain ⟨x10, q11, hh⟩ := db hh
      refine rx_b (rs_aI_ok hR q11) ?_
      obtain ⟨x12, q13, hh⟩ := db hh
      refine rx_b (rs_aI_ok hR q13) ?_
      exact r363_237 hD _ _ _ _ hR hh
    · refine rx_f q9 ?_
      exact r363_237 hD _ _ _ _ hR hh
  · refine rx_f q1 ?_
    refine rx_b (rs_gR hR 17 50 rfl) ?_
    obtain ⟨x14, q15, hh⟩ := db hh
    refine rx_b (rs_aI_ok hR q15) ?_
    obtain ⟨x16, q17, hh⟩ := db hh
    obtain ⟨h18, e19, hR, f20⟩ := rs_vI hD hR q17
    refine rx_c e19 f20 ?_
    exact rx_I hR hh
def s363_181 (E : rE) (w : Nat) (i1 : Int32) (i2 : Int32) (i7 : Int32) (s0 : Int32) (s : rS) : Option rA :=
  s363_183 E w i1 i2 i7 s0 s
theorem r363_181 {L : Nat} {xs : Nat → Int32} {zf : Value} {D : dD} {E : rE} {w : Nat} (hD : rO D E L xs) : ∀ (i1 : Int32) (i2 : Int32) (i7 : Int32) (s0 : Int32) (h : rm_H) (s : rS) (r : rA), RS h s → s363_181 E w i1 i2 i7 s0 s = some r → rx (b363_181 L xs zf D w (some 36) i1 i2 i7 s0 h) h r := by
  intro i1 i2 i7 s0 h s r hR hh
  unfold s363_181 at hh
  unfold b363_181
  exact r363_183 hD _ _ _ _ _ _ _ hR hh
def s363_180 (E : rE) (w : Nat) (i1 : Int32) (i2 : Int32) (i7 : Int32) (s : rS) : Option rA :=
  s363_181 E w i1 i2 i7 0 s
theorem r363_180 {L : Nat} {xs : Nat → Int32} {zf : Value} {D : dD} {E : rE} {w : Nat} (hD : rO D E L xs) : ∀ (i1 : Int32) (i2 : Int32) (i7 : Int32) (h : rm_H) (s : rS) (r : rA), RS h s → s363_180 E w i1 i2 i7 s = some r → rx (b363_180 L xs zf D w (some 36) i1 i2 i7 h) h r := by
  intro i1 i2 i7 h s r hR hh
  unfold s363_180 at hh
  unfold b363_180
  exact r363_181 hD _ _ _ _ _ _ _ hR hh
def s363_167 (E : rE) (w : Nat) (i1 : Int32) (i2 : Int32) (i7 : Int32) (s : rS) : Option rA :=
  ((E 365 [.ref 36, .int i7] s).bind rxI).bind fun x1 =>
  if mx_f1 .eq x1.1 = true then
    s363_180 E w i1 i2 i7 x1.2
  else
    s363_181 E w i1 i2 i7 1 x1.2
theorem r363_167 {L : Nat} {xs : Nat → Int32} {zf : Value} {D : dD} {E : rE} {w : Nat} (hD : rO D E L xs) : ∀ (i1 : Int32) (i2 : Int32) (i7 : Int32) (h : rm_H) (s : rS) (r : rA), RS h s → s363_167 E w i1 i2 i7 s = some r → rx (b363_167 L xs zf D w (some 36) i1 i2 i7 h) h r := by
  intro i1 i2 i7 h s r hR hh
  unfold s363_167 at hh
  unfold b363_167
  obtain ⟨x1, q2, hh⟩ := db hh
  obtain ⟨h3, e4, hR, f5⟩ := rs_vI hD hR q2
  refine rx_c e4 f5 ?_
  rcases di hh with ⟨q6, hh⟩ | ⟨q6, hh⟩
  · refine rx_t q6 ?_
    exact r363_180 hD _ _ _ _ _ _ hR hh
  · refine rx_f q6 ?_
    exact r363_181 hD _ _ _ _ _ _ _ hR hh
def s363_145 (E : rE) (w : Nat) (i1 : Int32) (i2 : Int32) (i5 : Int32) (i6 : Int32) (i7 : Int32) (i8 : Int32) (i9 : Int32) (s : rS) : Option rA :=
  if mx_f1 .eq i5 = true then
    s363_183 E w i1 i2 i7 i9 s
  else
    if mx_f1 .ne i6 = true then
      s363_183 E w i1 i2 i7 i9 s
    else
      if mx_f2 .eq i8 4 = true then
        s363_167 E w i1 i2 i7 s
      else
        if mx_f2 .ne i8 2 = true then
          s363_180 E w i1 i2 i7 s
        else
          s363_167 E w i1 i2 i7 s
theorem r363_145 {L : Nat} {xs : Nat → Int32} {zf : Value} {D : dD} {E : rE} {w : Nat} (hD : rO D E L xs) : ∀ (i1 : Int32) (i2 : Int32) (i5 : Int32) (i6 : Int32) (i7 : Int32) (i8 : Int32) (i9 : Int32) (h : rm_H) (s : rS) (r : rA), RS h s → s363_145 E w i1 i2 i5 i6 i7 i8 i9 s = some r → rx (b363_145 L xs zf D w (some 36) i1 i2 i5 i6 i7 i8 i9 h) h r := by
  intro i1 i2 i5 i6 i7 i8 i9 h s r hR hh
  unfold s363_145 at hh
  unfold b363_145
  rcases di hh with ⟨q1, hh⟩ | ⟨q1, hh⟩
  · refine rx_t q1 ?_
    exact r363_183 hD _ _ _ _ _ _ _ hR hh
  · refine rx_f q1 ?_
    rcases di hh with ⟨q2, hh⟩ | ⟨q2, hh⟩
    · refine rx_t q2 ?_
      exact r363_183 hD _ _ _ _ _ _ _ hR hh
    · refine rx_f q2 ?_
      rcases di hh with ⟨q3, hh⟩ | ⟨q3, hh⟩
      · refine rx_t q3 ?_
        exact r363_167 hD _ _ _ _ _ _ hR hh
      · refine rx_f q3 ?_
        rcases di hh with ⟨q4, hh⟩ | ⟨q4, hh⟩
        · refine rx_t q4 ?_
          exact r363_180 hD _ _ _ _ _ _ hR hh
        · refine rx_f q4 ?_
          exact r363_167 hD _ _ _ _ _ _ hR hh
def s363_143 (E : rE) (w : Nat) (i1 : Int32) (i2 : Int32) (i5 : Int32) (i6 : Int32) (i7 : Int32) (i8 : Int32) (s0 : Int32) (s : rS) : Option rA :=
  s363_145 E w i1 i2 i5 i6 i7 i8 s0 s
theorem r363_143 {L : Nat} {xs : Nat → Int32} {zf : Value} {D : dD} {E : rE} {w : Nat} (hD : rO D E L xs) : ∀ (i1 : Int32) (i2 : Int32) (i5 : Int32) (i6 : Int32) (i7 : Int32) (i8 : Int32) (s0 : Int32) (h : rm_H) (s : rS) (r : rA), RS h s → s363_143 E w i1 i2 i5 i6 i7 i8 s0 s = some r → rx (b363_143 L xs zf D w (some 36) i1 i2 i5 i6 i7 i8 s0 h) h r := by
  intro i1 i2 i5 i6 i7 i8 s0 h s r hR hh
  unfold s363_143 at hh
  unfold b363_143
  exact r363_145 hD _ _ _ _ _ _ _ _ _ _ hR hh
def s363_138 (E : rE) (w : Nat) (i1 : Int32) (i2 : Int32) (i5 : Int32) (i6 : Int32) (i7 : Int32) (i8 : Int32) (s : rS) : Option rA :=
  s363_143 E w i1 i2 i5 i6 i7 i8 1 s
theorem r363_138 {L : Nat} {xs : Nat → Int32} {zf : Value} {D : dD} {E : rE} {w : Nat} (hD : rO D E L xs) : ∀ (i1 : Int32) (i2 : Int32) (i5 : Int32) (i6 : Int32) (i7 : Int32) (i8 : Int32) (h : rm_H) (s : rS) (r : rA), RS h s → s363_138 E w i1 i2 i5 i6 i7 i8 s = some r → rx (b363_138 L xs zf D w (some 36) i1 i2 i5 i6 i7 i8 h) h r := by
  intro i1 i2 i5 i6 i7 i8 h s r hR hh
  unfold s363_138 at hh
  unfold b363_138
  exact r363_143 hD _ _ _ _ _ _ _ _ _ _ hR hh
def s363_142 (E : rE) (w : Nat) (i1 : Int32) (i2 : Int32) (i5 : Int32) (i6 : Int32) (i7 : Int32) (i8 : Int32) (s : rS) : Option rA :=
  s363_143 E w i1 i2 i5 i6 i7 i8 0 s
theorem r363_142 {L : Nat} {xs : Nat → Int32} {zf : Value} {D : dD} {E : rE} {w : Nat} (hD : rO D E L xs) : ∀ (i1 : Int32) (i2 : Int32) (i5 : Int32) (i6 : Int32) (i7 : Int32) (i8 : Int32) (h : rm_H) (s : rS) (r : rA), RS h s → s363_142 E w i1 i2 i5 i6 i7 i8 s = some r → rx (b363_142 L xs zf D w (some 36) i1 i2 i5 i6 i7 i8 h) h r := by
  intro i1 i2 i5 i6 i7 i8 h s r hR hh
  unfold s363_142 at hh
  unfold b363_142
  exact r363_143 hD _ _ _ _ _ _ _ _ _ _ hR hh
def s363_28 (E : rE) (w : Nat) (i1 : Int32) (i2 : Int32) (i3 : Int32) (i4 : Int32) (s0 : Int32) (s : rS) : Option rA :=
  ((E 355 [.ref 36, .int i3] s).bind rxI).bind fun x1 =>
  (rs_aJ x1.2 56 i1).bind fun y6 =>
  ((E 364 [.ref 36, .int i4, .int 1, .long y6] x1.2).bind rxI).bind fun x8 =>
  if mx_f2 .ne x8.1 (-1) = true then
    (rs_aI x8.2 51 i1).bind fun x14 =>
    ((E 358 [.ref 36, .int i1, .int x8.1, .int x14] x8.2).bind rxI).bind fun x16 =>
    if mx_f1 .ne x16.1 = true then
      (rs_aI x16.2 72 x8.1).bind fun x22 =>
      ((E 290 [.int x1.1, .int x22] x16.2).bind rxI).bind fun x24 =>
      if mx_f1 .eq s0 = true then
        s363_145 E w i1 i2 s0 x1.1 x8.1 x22 x24.1 x24.2
      else
        if mx_f2 .ne x1.1 1 = true then
          s363_145 E w i1 i2 s0 x1.1 x8.1 x22 x24.1 x24.2
        else
          if mx_f2 .eq x22 4 = true then
            s363_138 E w i1 i2 s0 x1.1 x8.1 x22 x24.2
          else
            if mx_f2 .ne x22 2 = true then
              s363_142 E w i1 i2 s0 x1.1 x8.1 x22 x24.2
            else
              ((E 365 [.ref 36, .int x8.1] x24.2).bind rxI).bind fun x33 =>
              if mx_f1 .eq x33.1 = true then
                s363_142 E w i1 i2 s0 x1.1 x8.1 x22 x33.2
              else
                s363_138 E w i1 i2 s0 x1.1 x8.1 x22 x33.2
    else
      rrI (some .int) (-1) x16.2
  else
    (rs_aI x8.2 51 i1).bind fun x39 =>
    ((E 347 [.ref 36, .int 3, .int x39] x8.2).bind rxI).bind fun x41 =>
    rrI (some .int) x41.1 x41.2
theorem r363_28 {L : Nat} {xs : Nat → Int32} {zf : Value} {D : dD} {E : rE} {w : Nat} (hD : rO D E L xs) : ∀ (i1 : Int32) (i2 : Int32) (i3 : Int32) (i4 : Int32) (s0 : Int32) (h : rm_H) (s : rS) (r : rA), RS h s → s363_28 E w i1 i2 i3 i4 s0 s = some r → rx (b363_28 L xs zf D w (some 36) i1 i2 i3 i4 s0 h) h r := by
  intro i1 i2 i3 i4 s0 h s r hR hh
  unfold s363_28 at hh
  unfold b363_28
  obtain ⟨x1, q2, hh⟩ := db hh
  obtain ⟨h3, e4, hR, f5⟩ := rs_vI hD hR q2
  refine rx_c e4 f5 ?_
  refine rx_b (rs_gR hR 23 56 rfl) ?_
  obtain ⟨y6, q7, hh⟩ := db hh
  refine rx_b (rs_aJ_ok hR q7) ?_
  obtain ⟨x8, q9, hh⟩ := db hh
  obtain ⟨h10, e11, hR, f12⟩ := rs_vI hD hR q9
  refine rx_c e11 f12 ?_
  rcases di hh with ⟨q13, hh⟩ | ⟨q13, hh⟩
  · refine rx_t q13 ?_
    refine rx_b (rs_gR hR 18 51 rfl) ?_
    obtain ⟨x14, q15, hh⟩ := db hh
    refine rx_b (rs_aI_ok hR q15) ?_
    obtain ⟨x16, q17, hh⟩ := db hh
    obtain ⟨h18, e19, hR, f20⟩ := rs_vI hD hR q17
    refine rx_c e19 f20 ?_
    rcases di hh with ⟨q21, hh⟩ | ⟨q21, hh⟩
    · refine rx_t q21 ?_
      refine rx_b (rs_gR hR 45 72 rfl) ?_
      obtain ⟨x22, q23, hh⟩ := db hh
      refine rx_b (rs_aI_ok hR q23) ?_
      obtain ⟨x24, q25, hh⟩ := db hh
      obtain ⟨h26, e27, hR, f28⟩ := rs_cI hD hR q25
      refine rx_c e27 f28 ?_
      rcases di hh with ⟨q29, hh⟩ | ⟨q29, hh⟩
      · refine rx_t q29 ?_
        exact r363_145 hD _ _ _ _ _ _ _ _ _ _ hR hh
      · refine rx_f q29 ?_
        rcases di hh with ⟨q30, hh⟩ | ⟨q30, hh⟩
        · refine rx_t q30 ?_
          exact r363_145 hD _ _ _ _ _ _ _ _ _ _ hR hh
        · refine rx_f q30 ?_
          rcases di hh with ⟨q31, hh⟩ | ⟨q31, hh⟩
          · refine rx_t q31 ?_
            exact r363_138 hD _ _ _ _ _ _ _ _ _ hR hh
          · refine rx_f q31 ?_
            rcases di hh with ⟨q32, hh⟩ | ⟨q32, hh⟩
            · refine rx_t q32 ?_
              exact r363_142 hD _ _ _ _ _ _ _ _ _ hR hh
            · refine rx_f q32 ?_
              obtain ⟨x33, q34, hh⟩ := db hh
              obtain ⟨h35, e36, hR, f37⟩ := rs_vI hD hR q34
              refine rx_c e36 f37 ?_
              rcases di hh with ⟨q38, hh⟩ | ⟨q38, hh⟩
              · refine rx_t q38 ?_
                exact r363_142 hD _ _ _ _ _ _ _ _ _ hR hh
              · refine rx_f q38 ?_
                exact r363_138 hD _ _ _ _ _ _ _ _ _ hR hh
    · refine rx_f q21 ?_
      exact rx_I hR hh
  · refine rx_f q13 ?_
    refine rx_b (rs_gR hR 18 51 rfl) ?_
    obtain ⟨x39, q40, hh⟩ := db hh
    refine rx_b (rs_aI_ok hR q40) ?_
    obtain ⟨x41, q42, hh⟩ := db hh
    obtain ⟨h43, e44, hR, f45⟩ := rs_vI hD hR q42
    refine rx_c e44 f45 ?_
    exact rx_I hR hh
def s363_0 (E : rE) (w : Nat) (i1 : Int32) (i2 : Int32) (i3 : Int32) (s : rS) : Option rA :=
  ((E 354 [.ref 36, .int i2, .int i3] s).bind rxI).bind fun x1 =>
  if mx_f2 .ne x1.1 (-1) = true then
    if mx_f1 .le (x1.2.1 60) = true then
      s363_28 E w i1 i2 i3 x1.1 0 x1.2
    else
      s363_28 E w i1 i2 i3 x1.1 1 x1.2
  else
    rrI (some .int) (-1) x1.2
theorem r363_0 {L : Nat} {xs : Nat → Int32} {zf : Value} {D : dD} {E : rE} {w : Nat} (hD : rO D E L xs) : ∀ (i1 : Int32) (i2 : Int32) (i3 : Int32) (h : rm_H) (s : rS) (r : rA), RS h s → s363_0 E w i1 i2 i3 s = some r → rx (b363_0 L xs zf D w (some 36) i1 i2 i3 h) h r := by
  intro i1 i2 i3 h s r hR hh
  unfold s363_0 at hh
  unfold b363_0
  obtain ⟨x1, q2, hh⟩ := db hh
  obtain ⟨h3, e4, hR, f5⟩ := rs_vI hD hR q2
  refine rx_c e4 f5 ?_
  rcases di hh with ⟨q6, hh⟩ | ⟨q6, hh⟩
  · refine rx_t q6 ?_
    refine rx_b (rs_gI hR 60 _ rfl) ?_
    rcases di hh with ⟨q7, hh⟩ | ⟨q7, hh⟩
    · refine rx_t q7 ?_
      exact r363_28 hD _ _ _ _ _ _ _ _ hR hh
    · refine rx_f q7 ?_
      exact r363_28 hD _ _ _ _ _ _ _ _ hR hh
  · refine rx_f q6 ?_
    exact rx_I hR hh
def g363 (E : rE) (w : Nat) (As : List Value) (s : rS) : Option rA := match As with
  | [.ref 36, .int i1, .int i2, .int i3] => s363_0 E w i1 i2 i3 s
  | _ => none
theorem t363 {L : Nat} {xs : Nat → Int32} {zf : Value} {D : dD} {E : rE} {w : Nat} (hD : rO D E L xs) (As : List Value) (h : rm_H) (s : rS) (r : rA) (hR : RS h s) (hh : g363 E w As s = some r) : rx (f363 L xs zf D w As h) h r := by
  unfold g363 at hh
  split at hh
  · unfold f363
    dsimp only
    refine rx_b (a := some 36) rfl ?_
    exact r363_0 hD _ _ _ _ _ _ hR hh
  · cases hh
def s364_49 (E : rE) (w : Nat) (K10 : Int32 → Int32 → Int64 → Int32 → rS → Option rA) (i1 : Int32) (i2 : Int32) (j3 : Int64) (i5 : Int32) (s : rS) : Option rA :=
  K10 i1 i2 j3 (i5 + 1) s
theorem r364_49 {L : Nat} {xs : Nat → Int32} {zf : Value} {D : dD} {E : rE} {w : Nat} {K10 : Int32 → Int32 → Int64 → Int32 → rS → Option rA} {B10 : Option Nat → Int32 → Int32 → Int64 → Int32 → rm_H → Option dR} (hD : rO D E L xs) (hK10 : ∀ (i1 : Int32) (i2 : Int32) (j3 : Int64) (i5 : Int32) (h : rm_H) (s : rS) (r : rA), RS h s → K10 i1 i2 j3 i5 s = some r → rx (B10 (some 36) i1 i2 j3 i5 h) h r) : ∀ (i1 : Int32) (i2 : Int32) (j3 : Int64) (i5 : Int32) (h : rm_H) (s : rS) (r : rA), RS h s → s364_49 E w K10 i1 i2 j3 i5 s = some r → rx (b364_49 L xs zf D w B10 (some 36) i1 i2 j3 i5 h) h r := by
  intro i1 i2 j3 i5 h s r hR hh
  unfold s364_49 at hh
  unfold b364_49
  exact hK10 _ _ _ _ _ _ _ hR hh
def s364_10 (E : rE) (w : Nat) : Nat → Int32 → Int32 → Int64 → Int32 → rS → Option rA
  | 0, _, _, _, _, _ => none
  | n + 1, i1, i2, j3, i5, s =>
    (rs_aI s 65 (i1 + 1)).bind fun x1 =>
    if mx_f2 .ge i5 x1 = true then
      rrI (some .int) (-1) s
    else
      (rs_aI s 70 i5).bind fun x4 =>
      if mx_f2 .ne x4 i2 = true then
        s364_49 E w (s364_10 E w n) i1 i2 j3 i5 s
      else
        (rs_aJ s 78 i5).bind fun y7 =>
        if mx_f1 .ne (lg_cmp y7 j3) = true then
          s364_49 E w (s364_10 E w n) i1 i2 j3 i5 s
        else
          rrI (some .int) i5 s
theorem r364_10 {L : Nat} {xs : Nat → Int32} {zf : Value} {D : dD} {E : rE} {w : Nat} (hD : rO D E L xs) : ∀ (n : Nat) (i1 : Int32) (i2 : Int32) (j3 : Int64) (i5 : Int32) (h : rm_H) (s : rS) (r : rA), RS h s → s364_10 E w n i1 i2 j3 i5 s = some r → rx (b364_10 L xs zf D w n (some 36) i1 i2 j3 i5 h) h r := by
  intro n
  induction n with
  | zero =>
    intro i1 i2 j3 i5 h s r hR hh
    cases hh
  | succ n ih =>
    intro i1 i2 j3 i5 h s r hR hh
    rw [s364_10] at hh
    rw [b364_10]
    refine rx_b (rs_gR hR 36 65 rfl) ?_
    obtain ⟨x1, q2, hh⟩ := db hh
    refine rx_b (rs_aI_ok hR q2) ?_
    rcases di hh with ⟨q3, hh⟩ | ⟨q3, hh⟩
    · refine rx_t q3 ?_
      exact rx_I hR hh
    · refine rx_f q3 ?_
      refine rx_b (rs_gR hR 43 70 rfl) ?_
      obtain ⟨x4, q5, hh⟩ := db hh
      refine rx_b (rs_aI_ok hR q5) ?_
      rcases di hh with ⟨q6, hh⟩ | ⟨q6, hh⟩
      · refine rx_t q6 ?_
        exact r364_49 hD ih _ _ _ _ _ _ _ hR hh
      · refine rx_f q6 ?_
        refine rx_b (rs_gR hR 51 78 rfl) ?_
        obtain ⟨y7, q8, hh⟩ := db hh
        refine rx_b (rs_aJ_ok hR q8) ?_
        rcases di hh with ⟨q9, hh⟩ | ⟨q9, hh⟩
        · refine rx_t q9 ?_
          exact r364_49 hD ih _ _ _ _ _ _ _ hR hh
        · refine rx_f q9 ?_
          exact rx_I hR hh
def s364_0 (E : rE) (w : Nat) (i1 : Int32) (i2 : Int32) (j3 : Int64) (s : rS) : Option rA :=
  (rs_aI s 65 i1).bind fun x1 =>
  s364_10 E w w i1 i2 j3 (x1 + 1) s
theorem r364_0 {L : Nat} {xs : Nat → Int32} {zf : Value} {D : dD} {E : rE} {w : Nat} (hD : rO D E L xs) : ∀ (i1 : Int32) (i2 : Int32) (j3 : Int64) (h : rm_H) (s : rS) (r : rA), RS h s → s364_0 E w i1 i2 j3 s = some r → rx (b364_0 L xs zf D w (some 36) i1 i2 j3 h) h r := by
  intro i1 i2 j3 h s r hR hh
  unfold s364_0 at hh
  unfold b364_0
  refine rx_b (rs_gR hR 36 65 rfl) ?_
  obtain ⟨x1, q2, hh⟩ := db hh
  refine rx_b (rs_aI_ok hR q2) ?_
  exact r364_10 hD _ _ _ _ _ _ _ _ hR hh
def g364 (E : rE) (w : Nat) (As : List Value) (s : rS) : Option rA := match As with
  | [.ref 36, .int i1, .int i2, .long j3] => s364_0 E w i1 i2 j3 s
  | _ => none
theorem t364 {L : Nat} {xs : Nat → Int32} {zf : Value} {D : dD} {E : rE} {w : Nat} (hD : rO D E L xs) (As : List Value) (h : rm_H) (s : rS) (r : rA) (hR : RS h s) (hh : g364 E w As s = some r) : rx (f364 L xs zf D w As h) h r := by
  unfold g364 at hh
  split at hh
  · unfold f364
    dsimp only
    refine rx_b (a := some 36) rfl ?_
    exact r364_0 hD _ _ _ _ _ _ hR hh
  · cases hh
def s365_40 (E : rE) (w : Nat) (s0 : Int32) (s : rS) : Option rA :=
  rrI (some .boolean) s0 s
theorem r365_40 {L : Nat} {xs : Nat → Int32} {zf : Value} {D : dD} {E : rE} {w : Nat} (hD : rO D E L xs) : ∀ (s0 : Int32) (h : rm_H) (s : rS) (r : rA), RS h s → s365_40 E w s0 s = some r → rx (b365_40 L xs zf D w s0 h) h r := by
  intro s0 h s r hR hh
  unfold s365_40 at hh
  unfold b365_40
  exact rx_I hR hh
def s365_35 (E : rE) (w : Nat) (s : rS) : Option rA :=
  s365_40 E w 1 s
theorem r365_35 {L : Nat} {xs : Nat → Int32} {zf : Value} {D : dD} {E : rE} {w : Nat} (hD : rO D E L xs) : ∀ (h : rm_H) (s : rS) (r : rA), RS h s → s365_35 E w s = some r → rx (b365_35 L xs zf D w h) h r := by
  intro h s r hR hh
  unfold s365_35 at hh
  unfold b365_35
  exact r365_40 hD _ _ _ _ hR hh
def s365_39 (E : rE) (w : Nat) (s : rS) : Option rA :=
  s365_40 E w 0 s
theorem r365_39 {L : Nat} {xs : Nat → Int32} {zf : Value} {D : dD} {E : rE} {w : Nat} (hD : rO D E L xs) : ∀ (h : rm_H) (s : rS) (r : rA), RS h s → s365_39 E w s = some r → rx (b365_39 L xs zf D w h) h r := by
  intro h s r hR hh
  unfold s365_39 at hh
  unfold b365_39
  exact r365_40 hD _ _ _ _ hR hh
def s365_0 (E : rE) (w : Nat) (i1 : Int32) (s : rS) : Option rA :=
  ((E 359 [.ref 36, .int i1] s).bind rxI).bind fun x1 =>
  if mx_f1 .eq x1.1 = true then
    s365_39 E w x1.2
  else
    (rs_aI x1.2 75 i1).bind fun x7 =>
    if mx_f2 .eq x7 (-1) = true then
      s365_35 E w x1.2
    else
      (rs_aI x1.2 75 i1).bind fun x10 =>
      (rs_aI x1.2 60 x10).bind fun x12 =>
      ((E 331 [.int x12] x1.2).bind rxI).bind fun x14 =>
      if mx_f1 .eq x14.1 = true then
        s365_39 E w x14.2
      else
        s365_35 E w x14.2
theorem r365_0 {L : Nat} {xs : Nat → Int32} {zf : Value} {D : dD} {E : rE} {w : Nat} (hD : rO D E L xs) : ∀ (i1 : Int32) (h : rm_H) (s : rS) (r : rA), RS h s → s365_0 E w i1 s = some r → rx (b365_0 L xs zf D w (some 36) i1 h) h r := by
  intro i1 h s r hR hh
  unfold s365_0 at hh
  unfold b365_0
  obtain ⟨x1, q2, hh⟩ := db hh
  obtain ⟨h3, e4, hR, f5⟩ := rs_vI hD hR q2
  refine rx_c e4 f5 ?_
  rcases di hh with ⟨q6, hh⟩ | ⟨q6, hh⟩
  · refine rx_t q6 ?_
    exact r365_39 hD  _ _ _ hR hh
  · refine rx_f q6 ?_
    refine rx_b (rs_gR hR 48 75 rfl) ?_
    obtain ⟨x7, q8, hh⟩ := db hh
    refine rx_b (rs_aI_ok hR q8) ?_
    rcases di hh with ⟨q9, hh⟩ | ⟨q9, hh⟩
    · refine rx_t q9 ?_
      exact r365_35 hD  _ _ _ hR hh
    · refine rx_f q9 ?_
      refine rx_b (rs_gR hR 30 60 rfl) ?_
      refine rx_b (rs_gR hR 48 75 rfl) ?_
      obtain ⟨x10, q11, hh⟩ := db hh
      refine rx_b (rs_aI_ok hR q11) ?_
      obtain ⟨x12, q13, hh⟩ := db hh
      refine rx_b (rs_aI_ok hR q13) ?_
      obtain ⟨x14, q15, hh⟩ := db hh
      obtain ⟨h16, e17, hR, f18⟩ := rs_cI hD hR q15
      refine rx_c e17 f18 ?_
      rcases di hh with ⟨q19, hh⟩ | ⟨q19, hh⟩
      · refine rx_t q19 ?_
        exact r365_39 hD  _ _ _ hR hh
      · refine rx_f q19 ?_
        exact r365_35 hD  _ _ _ hR hh
def g365 (E : rE) (w : Nat) (As : List Value) (s : rS) : Option rA := match As with
  | [.ref 36, .int i1] => s365_0 E w i1 s
  | _ => none
theorem t365 {L : Nat} {xs : Nat → Int32} {zf : Value} {D : dD} {E : rE} {w : Nat} (hD : rO D E L xs) (As : List Value) (h : rm_H) (s : rS) (r : rA) (hR : RS h s) (hh : g365 E w As s = some r) : rx (f365 L xs zf D w As h) h r := by
  unfold g365 at hh
  split at hh
  · unfold f365
    dsimp only
    refine rx_b (a := some 36) rfl ?_
    exact r365_0 hD _ _ _ _ hR hh
  · cases hh
def s366_0 (E : rE) (w : Nat) (i1 : Int32) (i2 : Int32) (i3 : Int32) (s : rS) : Option rA :=
  ((E 350 [.ref 36, .int i2, .int i3] s).bind rxI).bind fun x1 =>
  if mx_f1 .ne x1.1 = true then
    ((E 332 [.int i3] x1.2).bind rxI).bind fun x7 =>
    if mx_f1 .ne x7.1 = true then
      (rs_aJ x7.2 56 i1).bind fun y13 =>
      ((E 364 [.ref 36, .int ((i3 / 8) - 1), .int 2, .long y13] x7.2).bind rxI).bind fun x15 =>
      if mx_f2 .ne x15.1 (-1) = true then
        (rs_aI x15.2 51 i1).bind fun x21 =>
        ((E 358 [.ref 36, .int i1, .int x15.1, .int x21] x15.2).bind rxI).bind fun x23 =>
        if mx_f1 .ne x23.1 = true then
          (rs_sI x23.2 53 i1 x15.1).bind fun s29 =>
          ((E 344 [.ref 36, .int (-1)] s29).bind rxI).bind fun x34 =>
          rrI (some .int) x34.1 x34.2
        else
          rrI (some .int) (-1) x23.2
      else
        (rs_aI x15.2 51 i1).bind fun x39 =>
        ((E 347 [.ref 36, .int 3, .int x39] x15.2).bind rxI).bind fun x41 =>
        rrI (some .int) x41.1 x41.2
    else
      (rs_aI x7.2 50 i2).bind fun x46 =>
      ((E 347 [.ref 36, .int 5, .int x46] x7.2).bind rxI).bind fun x48 =>
      rrI (some .int) x48.1 x48.2
  else
    rrI (some .int) (-1) x1.2
theorem r366_0 {L : Nat} {xs : Nat → Int32} {zf : Value} {D : dD} {E : rE} {w : Nat} (hD : rO D E L xs) : ∀ (i1 : Int32) (i2 : Int32) (i3 : Int32) (h : rm_H) (s : rS) (r : rA), RS h s → s366_0 E w i1 i2 i3 s = some r → rx (b366_0 L xs zf D w (some 36) i1 i2 i3 h) h r := by
  intro i1 i2 i3 h s r hR hh
  unfold s366_0 at hh
  unfold b366_0
  obtain ⟨x1, q2, hh⟩ := db hh
  obtain ⟨h3, e4, hR, f5⟩ := rs_vI hD hR q2
  refine rx_c e4 f5 ?_
  rcases di hh with ⟨q6, hh⟩ | ⟨q6, hh⟩
  · refine rx_t q6 ?_
    obtain ⟨x7, q8, hh⟩ := db hh
    obtain ⟨h9, e10, hR, f11⟩ := rs_cI hD hR q8
    refine rx_c e10 f11 ?_
    rcases di hh with ⟨q12, hh⟩ | ⟨q12, hh⟩
    · refine rx_t q12 ?_
      refine rx_b (rs_gR hR 23 56 rfl) ?_
      obtain ⟨y13, q14, hh⟩ := db hh
      refine rx_b (rs_aJ_ok hR q14) ?_
      obtain ⟨x15, q16, hh⟩ := db hh
      obtain ⟨h17, e18, hR, f19⟩ := rs_vI hD hR q16
      refine rx_c e18 f19 ?_
      rcases di hh with ⟨q20, hh⟩ | ⟨q20, hh⟩
      · refine rx_t q20 ?_
        refine rx_b (rs_gR hR 18 51 rfl) ?_
        obtain ⟨x21, q22, hh⟩ := db hh
        refine rx_b (rs_aI_ok hR q22) ?_
        obtain ⟨x23, q24, hh⟩ := db hh
        obtain ⟨h25, e26, hR, f27⟩ := rs_vI hD hR q24
        refine rx_c e26 f27 ?_
        rcases di hh with ⟨q28, hh⟩ | ⟨q28, hh⟩
        · refine rx_t q28 ?_
          refine rx_b (rs_gR hR 20 53 rfl) ?_
          obtain ⟨s29, q30, hh⟩ := db hh
          obtain ⟨h31, e32, hR, f33⟩ := rs_sI_ok hR q30
          refine rx_w e32 f33 ?_
          obtain ⟨x34, q35, hh⟩ := db hh
          obtain ⟨h36, e37, hR, f38⟩ := rs_vI hD hR q35
          refine rx_c e37 f38 ?_
          exact rx_I hR hh
        · refine rx_f q28 ?_
          exact rx_I hR hh
      · refine rx_f q20 ?_
        refine rx_b (rs_gR hR 18 51 rfl) ?_
        obtain ⟨x39, q40, hh⟩ := db hh
        refine rx_b (rs_aI_ok hR q40) ?_
        obtain ⟨x41, q42, hh⟩ := db hh
        obtain ⟨h43, e44, hR, f45⟩ := rs_vI hD hR q42
        refine rx_c e44 f45 ?_
        exact rx_I hR hh
    · refine rx_f q12 ?_
      refine rx_b (rs_gR hR 17 50 rfl) ?_
      obtain ⟨x46, q47, hh⟩ := db hh
      refine rx_b (rs_aI_ok hR q47) ?_
      obtain ⟨x48, q49, hh⟩ := db hh
      obtain ⟨h50, e51, hR, f52⟩ := rs_vI hD hR q49
      refine rx_c e51 f52 ?_
      exact rx_I hR hh
  · refine rx_f q6 ?_
    exact rx_I hR hh
def g366 (E : rE) (w : Nat) (As : List Value) (s : rS) : Option rA := match As with
  | [.ref 36, .int i1, .int i2, .int i3] => s366_0 E w i1 i2 i3 s
  | _ => none
theorem t366 {L : Nat} {xs : Nat → Int32} {zf : Value} {D : dD} {E : rE} {w : Nat} (hD : rO D E L xs) (As : List Value) (h : rm_H) (s : rS) (r : rA) (hR : RS h s) (hh : g366 E w As s = some r) : rx (f366 L xs zf D w As h) h r := by
  unfold g366 at hh
  split at hh
  · unfold f366
    dsimp only
    refine rx_b (a := some 36) rfl ?_
    exact r366_0 hD _ _ _ _ _ _ hR hh
  · cases hh
def s367_24 (E : rE) (w : Nat) (s : rS) : Option rA :=
  some (none, s)
theorem r367_24 {L : Nat} {xs : Nat → Int32} {zf : Value} {D : dD} {E : rE} {w : Nat} (hD : rO D E L xs) : ∀ (h : rm_H) (s : rS) (r : rA), RS h s → s367_24 E w s = some r → rx (b367_24 L xs zf D w h) h r := by
  intro h s r hR hh
  unfold s367_24 at hh
  unfold b367_24
  cases hh
  exact rx_0 hR
def s367_0 (E : rE) (w : Nat) (i1 : Int32) (i2 : Int32) (s : rS) : Option rA :=
  ((E 350 [.ref 36, .int i1, .int i2] s).bind rxI).bind fun x1 =>
  if mx_f1 .eq x1.1 = true then
    s367_24 E w x1.2
  else
    if mx_f1 .eq i2 = true then
      s367_24 E w x1.2
    else
      (rs_aI x1.2 50 i1).bind fun x8 =>
      ((E 305 [.ref 36, .int 5, .int x8] x1.2).bind rxV).bind fun s10 =>
      s367_24 E w s10
theorem r367_0 {L : Nat} {xs : Nat → Int32} {zf : Value} {D : dD} {E : rE} {w : Nat} (hD : rO D E L xs) : ∀ (i1 : Int32) (i2 : Int32) (h : rm_H) (s : rS) (r : rA), RS h s → s367_0 E w i1 i2 s = some r → rx (b367_0 L xs zf D w (some 36) i1 i2 h) h r := by
  intro i1 i2 h s r hR hh
  unfold s367_0 at hh
  unfold b367_0
  obtain ⟨x1, q2, hh⟩ := db hh
  obtain ⟨h3, e4, hR, f5⟩ := rs_vI hD hR q2
  refine rx_c e4 f5 ?_
  rcases di hh with ⟨q6, hh⟩ | ⟨q6, hh⟩
  · refine rx_t q6 ?_
    exact r367_24 hD  _ _ _ hR hh
  · refine rx_f q6 ?_
    rcases di hh with ⟨q7, hh⟩ | ⟨q7, hh⟩
    · refine rx_t q7 ?_
      exact r367_24 hD  _ _ _ hR hh
    · refine rx_f q7 ?_
      refine rx_b (rs_gR hR 17 50 rfl) ?_
      obtain ⟨x8, q9, hh⟩ := db hh
      refine rx_b (rs_aI_ok hR q9) ?_
      obtain ⟨s10, q11, hh⟩ := db hh
      obtain ⟨h12, e13, hR, f14⟩ := rs_vV hD hR q11
      refine rx_w e13 f14 ?_
      exact r367_24 hD  _ _ _ hR hh
def g367 (E : rE) (w : Nat) (As : List Value) (s : rS) : Option rA := match As with
  | [.ref 36, .int i1, .int i2] => s367_0 E w i1 i2 s
  | _ => none
theorem t367 {L : Nat} {xs : Nat → Int32} {zf : Value} {D : dD} {E : rE} {w : Nat} (hD : rO D E L xs) (As : List Value) (h : rm_H) (s : rS) (r : rA) (hR : RS h s) (hh : g367 E w As s = some r) : rx (f367 L xs zf D w As h) h r := by
  unfold g367 at hh
  split at hh
  · unfold f367
    dsimp only
    refine rx_b (a := some 36) rfl ?_
    exact r367_0 hD _ _ _ _ _ hR hh
  · cases hh
def s368_82 (E : rE) (w : Nat) (i3 : Int32) (s : rS) : Option rA :=
  (rs_pI s 64 ((s.1 64) ||| i3)).bind fun s1 =>
  some (none, s1)
theorem r368_82 {L : Nat} {xs : Nat → Int32} {zf : Value} {D : dD} {E : rE} {w : Nat} (hD : rO D E L xs) : ∀ (i3 : Int32) (h : rm_H) (s : rS) (r : rA), RS h s → s368_82 E w i3 s = some r → rx (b368_82 L xs zf D w (some 36) i3 h) h r := by
  intro i3 h s r hR hh
  unfold s368_82 at hh
  unfold b368_82
  refine rx_b (rs_gI hR 64 _ rfl) ?_
  obtain ⟨s1, q2, hh⟩ := db hh
  obtain ⟨h3, e4, hR, f5⟩ := rs_pI_ok (rs_m64 _ _) (by decide) hR q2
  refine rx_w e4 f5 ?_
  cases hh
  exact rx_0 hR
def s368_0 (E : rE) (w : Nat) (i1 : Int32) (s : rS) : Option rA :=
  (rs_aI s 45 i1).bind fun x1 =>
  (rs_aI s 45 i1).bind fun x3 =>
  ((E 339 [.ref 36, .int x3] s).bind rxI).bind fun x5 =>
  ((E 367 [.ref 36, .int x1, .int x5.1] x5.2).bind rxV).bind fun s10 =>
  if mx_f1 .le (s10.1 57) = true then
    (rs_aI s10 46 i1).bind fun x16 =>
    ((E 336 [.ref 36, .int x16, .int 0] s10).bind rxV).bind fun s18 =>
    if mx_f1 .le (s18.1 57) = true then
      (rs_pI s18 64 (s10.1 64)).bind fun s24 =>
      (rs_aI s24 47 i1).bind fun x29 =>
      if mx_f1 .eq x29 = true then
        s368_82 E w (s18.1 64) s24
      else
        (rs_aI s24 47 i1).bind fun x32 =>
        ((E 336 [.ref 36, .int x32, .int 0] s24).bind rxV).bind fun s34 =>
        s368_82 E w (s18.1 64) s34
    else
      some (none, s18)
  else
    some (none, s10)
theorem r368_0 {L : Nat} {xs : Nat → Int32} {zf : Value} {D : dD} {E : rE} {w : Nat} (hD : rO D E L xs) : ∀ (i1 : Int32) (h : rm_H) (s : rS) (r : rA), RS h s → s368_0 E w i1 s = some r → rx (b368_0 L xs zf D w (some 36) i1 h) h r := by
  intro i1 h s r hR hh
  unfold s368_0 at hh
  unfold b368_0
  refine rx_b (rs_gR hR 12 45 rfl) ?_
  obtain ⟨x1, q2, hh⟩ := db hh
  refine rx_b (rs_aI_ok hR q2) ?_
  refine rx_b (rs_gR hR 12 45 rfl) ?_
  obtain ⟨x3, q4, hh⟩ := db hh
  refine rx_b (rs_aI_ok hR q4) ?_
  obtain ⟨x5, q6, hh⟩ := db hh
  obtain ⟨h7, e8, hR, f9⟩ := rs_vI hD hR q6
  refine rx_c e8 f9 ?_
  obtain ⟨s10, q11, hh⟩ := db hh
  obtain ⟨h12, e13, hR, f14⟩ := rs_vV hD hR q11
  refine rx_w e13 f14 ?_
  refine rx_b (rs_gI hR 57 _ rfl) ?_
  rcases di hh with ⟨q15, hh⟩ | ⟨q15, hh⟩
  · refine rx_t q15 ?_
    refine rx_b (rs_gI hR 64 _ rfl) ?_
    refine rx_b (rs_gR hR 13 46 rfl) ?_
    obtain ⟨x16, q17, hh⟩ := db hh
    refine rx_b (rs_aI_ok hR q17) ?_
    obtain ⟨s18, q19, hh⟩ := db hh
    obtain ⟨h20, e21, hR, f22⟩ := rs_vV hD hR q19
    refine rx_w e21 f22 ?_
    refine rx_b (rs_gI hR 57 _ rfl) ?_
    rcases di hh with ⟨q23, hh⟩ | ⟨q23, hh⟩
    · refine rx_t q23 ?_
      refine rx_b (rs_gI hR 64 _ rfl) ?_
      obtain ⟨s24, q25, hh⟩ := db hh
      obtain ⟨h26, e27, hR, f28⟩ := rs_pI_ok (rs_m64 _ _) (by decide) hR q25
      refine rx_w e27 f28 ?_
      refine rx_b (rs_gR hR 14 47 rfl) ?_
      obtain ⟨x29, q30, hh⟩ := db hh
      refine rx_b (rs_aI_ok hR q30) ?_
      rcases di hh with ⟨q31, hh⟩ | ⟨q31, hh⟩
      · refine rx_t q31 ?_
        exact r368_82 hD _ _ _ _ hR hh
      · refine rx_f q31 ?_
        refine rx_b (rs_gR hR 14 47 rfl) ?_
        obtain ⟨x32, q33, hh⟩ := db hh
        refine rx_b (rs_aI_ok hR q33) ?_
        obtain ⟨s34, q35, hh⟩ := db hh
        obtain ⟨h36, e37, hR, f38⟩ := rs_vV hD hR q35
        refine rx_w e37 f38 ?_
        exact r368_82 hD _ _ _ _ hR hh
    · refine rx_f q23 ?_
      cases hh
      exact rx_0 hR
  · refine rx_f q15 ?_
    cases hh
    exact rx_0 hR
def g368 (E : rE) (w : Nat) (As : List Value) (s : rS) : Option rA := match As with
  | [.ref 36, .int i1] => s368_0 E w i1 s
  | _ => none
theorem t368 {L : Nat} {xs : Nat → Int32} {zf : Value} {D : dD} {E : rE} {w : Nat} (hD : rO D E L xs) (As : List Value) (h : rm_H) (s : rS) (r : rA) (hR : RS h s) (hh : g368 E w As s = some r) : rx (f368 L xs zf D w As h) h r := by
  unfold g368 at hh
  split at hh
  · unfold f368
    dsimp only
    refine rx_b (a := some 36) rfl ?_
    exact r368_0 hD _ _ _ _ hR hh
  · cases hh
def s369_102 (E : rE) (w : Nat) (K60 : Int32 → Int32 → Int32 → Int32 → rS → Option rA) (i1 : Int32) (i2 : Int32) (i3 : Int32) (i4 : Int32) (s : rS) : Option rA :=
  K60 i1 i2 i3 (i4 + 1) s
theorem r369_102 {L : Nat} {xs : Nat → Int32} {zf : Value} {D : dD} {E : rE} {w : Nat} {K60 : Int32 → Int32 → Int32 → Int32 → rS → Option rA} {B60 : Option Nat → Int32 → Int32 → Int32 → Int32 → rm_H → Option dR} (hD : rO D E L xs) (hK60 : ∀ (i1 : Int32) (i2 : Int32) (i3 : Int32) (i4 : Int32) (h : rm_H) (s : rS) (r : rA), RS h s → K60 i1 i2 i3 i4 s = some r → rx (B60 (some 36) i1 i2 i3 i4 h) h r) : ∀ (i1 : Int32) (i2 : Int32) (i3 : Int32) (i4 : Int32) (h : rm_H) (s : rS) (r : rA), RS h s → s369_102 E w K60 i1 i2 i3 i4 s = some r → rx (b369_102 L xs zf D w B60 (some 36) i1 i2 i3 i4 h) h r := by
  intro i1 i2 i3 i4 h s r hR hh
  unfold s369_102 at hh
  unfold b369_102
  exact hK60 _ _ _ _ _ _ _ hR hh
def s369_60 (E : rE) (w : Nat) : Nat → Int32 → Int32 → Int32 → Int32 → rS → Option rA
  | 0, _, _, _, _, _ => none
  | n + 1, i1, i2, i3, i4, s =>
    if mx_f2 .ge i4 (s.1 62) = true then
      (rs_pI s 64 i3).bind fun s2 =>
      some (none, s2)
    else
      (rs_aI s 83 i4).bind fun x7 =>
      if mx_f1 .eq (((s.1 64) &&& (i2 ^^^ (-1))) &&& ((1 : Int32) <<< (x7 &&& 31))) = true then
        s369_102 E w (s369_60 E w n) i1 i2 i3 i4 s
      else
        (rs_aI s 50 i1).bind fun x10 =>
        ((E 305 [.ref 36, .int 7, .int x10] s).bind rxV).bind fun s12 =>
        s369_102 E w (s369_60 E w n) i1 i2 i3 i4 s12
theorem r369_60 {L : Nat} {xs : Nat → Int32} {zf : Value} {D : dD} {E : rE} {w : Nat} (hD : rO D E L xs) : ∀ (n : Nat) (i1 : Int32) (i2 : Int32) (i3 : Int32) (i4 : Int32) (h : rm_H) (s : rS) (r : rA), RS h s → s369_60 E w n i1 i2 i3 i4 s = some r → rx (b369_60 L xs zf D w n (some 36) i1 i2 i3 i4 h) h r := by
  intro n
  induction n with
  | zero =>
    intro i1 i2 i3 i4 h s r hR hh
    cases hh
  | succ n ih =>
    intro i1 i2 i3 i4 h s r hR hh
    rw [s369_60] at hh
    rw [b369_60]
    refine rx_b (rs_gI hR 62 _ rfl) ?_
    rcases di hh with ⟨q1, hh⟩ | ⟨q1, hh⟩
    · refine rx_t q1 ?_
      obtain ⟨s2, q3, hh⟩ := db hh
      obtain ⟨h4, e5, hR, f6⟩ := rs_pI_ok (rs_m64 _ _) (by decide) hR q3
      refine rx_w e5 f6 ?_
      cases hh
      exact rx_0 hR
    · refine rx_f q1 ?_
      refine rx_b (rs_gI hR 64 _ rfl) ?_
      refine rx_b (rs_gR hR 68 83 rfl) ?_
      obtain ⟨x7, q8, hh⟩ := db hh
      refine rx_b (rs_aI_ok hR q8) ?_
      rcases di hh with ⟨q9, hh⟩ | ⟨q9, hh⟩
      · refine rx_t q9 ?_
        exact r369_102 hD ih _ _ _ _ _ _ _ hR hh
      · refine rx_f q9 ?_
        refine rx_b (rs_gR hR 17 50 rfl) ?_
        obtain ⟨x10, q11, hh⟩ := db hh
        refine rx_b (rs_aI_ok hR q11) ?_
        obtain ⟨s12, q13, hh⟩ := db hh
        obtain ⟨h14, e15, hR, f16⟩ := rs_vV hD hR q13
        refine rx_w e15 f16 ?_
        exact r369_102 hD ih _ _ _ _ _ _ _ hR hh
def s369_0 (E : rE) (w : Nat) (i1 : Int32) (s : rS) : Option rA :=
  (rs_aI s 45 i1).bind fun x1 =>
  (rs_aI s 45 i1).bind fun x3 =>
  ((E 339 [.ref 36, .int x3] s).bind rxI).bind fun x5 =>
  ((E 367 [.ref 36, .int x1, .int x5.1] x5.2).bind rxV).bind fun s10 =>
  if mx_f1 .le (s10.1 57) = true then
    (rs_aI s10 46 i1).bind fun x16 =>
    ((E 336 [.ref 36, .int x16, .int 0] s10).bind rxV).bind fun s18 =>
    if mx_f1 .le (s18.1 57) = true then
      s369_60 E w w i1 (s.1 64) (s10.1 64) 0 s18
    else
      some (none, s18)
  else
    some (none, s10)
theorem r369_0 {L : Nat} {xs : Nat → Int32} {zf : Value} {D : dD} {E : rE} {w : Nat} (hD : rO D E L xs) : ∀ (i1 : Int32) (h : rm_H) (s : rS) (r : rA), RS h s → s369_0 E w i1 s = some r → rx (b369_0 L xs zf D w (some 36) i1 h) h r := by
  intro i1 h s r hR hh
  unfold s369_0 at hh
  unfold b369_0
  refine rx_b (rs_gI hR 64 _ rfl) ?_
  refine rx_b (rs_gR hR 12 45 rfl) ?_
  obtain ⟨x1, q2, hh⟩ := db hh
  refine rx_b (rs_aI_ok hR q2) ?_
  refine rx_b (rs_gR hR 12 45 rfl) ?_
  obtain ⟨x3, q4, hh⟩ := db hh
  refine rx_b (rs_aI_ok hR q4) ?_
  obtain ⟨x5, q6, hh⟩ := db hh
  obtain ⟨h7, e8, hR, f9⟩ := rs_vI hD hR q6
  refine rx_c e8 f9 ?_
  obtain ⟨s10, q11, hh⟩ := db hh
  obtain ⟨h12, e13, hR, f14⟩ := rs_vV hD hR q11
  refine rx_w e13 f14 ?_
  refine rx_b (rs_gI hR 57 _ rfl) ?_
  rcases di hh with ⟨q15, hh⟩ | ⟨q15, hh⟩
  · refine rx_t q15 ?_
    refine rx_b (rs_gI hR 64 _ rfl) ?_
    refine rx_b (rs_gR hR 13 46 rfl) ?_
    obtain ⟨x16, q17, hh⟩ := db hh
    refine rx_b (rs_aI_ok hR q17) ?_
    obtain ⟨s18, q19, hh⟩ := db hh
    obtain ⟨h20, e21, hR, f22⟩ := rs_vV hD hR q19
    refine rx_w e21 f22 ?_
    refine rx_b (rs_gI hR 57 _ rfl) ?_
    rcases di hh with ⟨q23, hh⟩ | ⟨q23, hh⟩
    · refine rx_t q23 ?_
      exact r369_60 hD _ _ _ _ _ _ _ _ hR hh
    · refine rx_f q23 ?_
      cases hh
      exact rx_0 hR
  · refine rx_f q15 ?_
    cases hh
    exact rx_0 hR
def g369 (E : rE) (w : Nat) (As : List Value) (s : rS) : Option rA := match As with
  | [.ref 36, .int i1] => s369_0 E w i1 s
  | _ => none
theorem t369 {L : Nat} {xs : Nat → Int32} {zf : Value} {D : dD} {E : rE} {w : Nat} (hD : rO D E L xs) (As : List Value) (h : rm_H) (s : rS) (r : rA) (hR : RS h s) (hh : g369 E w As s = some r) : rx (f369 L xs zf D w As h) h r := by
  unfold g369 at hh
  split at hh
  · unfold f369
    dsimp only
    refine rx_b (a := some 36) rfl ?_
    exact r369_0 hD _ _ _ _ hR hh
  · cases hh
def s370_35 (E : rE) (w : Nat) (s0 : Int32) (s : rS) : Option rA :=
  rrI (some .int) s0 s
theorem r370_35 {L : Nat} {xs : Nat → Int32} {zf : Value} {D : dD} {E : rE} {w : Nat} (hD : rO D E L xs) : ∀ (s0 : Int32) (h : rm_H) (s : rS) (r : rA), RS h s → s370_35 E w s0 s = some r → rx (b370_35 L xs zf D w s0 h) h r := by
  intro s0 h s r hR hh
  unfold s370_35 at hh
  unfold b370_35
  exact rx_I hR hh
def s370_16 (E : rE) (w : Nat) (s : rS) : Option rA :=
  s370_35 E w (-1) s
theorem r370_16 {L : Nat} {xs : Nat → Int32} {zf : Value} {D : dD} {E : rE} {w : Nat} (hD : rO D E L xs) : ∀ (h : rm_H) (s : rS) (r : rA), RS h s → s370_16 E w s = some r → rx (b370_16 L xs zf D w h) h r := by
  intro h s r hR hh
  unfold s370_16 at hh
  unfold b370_16
  exact r370_35 hD _ _ _ _ hR hh
def s370_0 (E : rE) (w : Nat) (i1 : Int32) (s : rS) : Option rA :=
  if mx_f1 .eq (s.1 72) = true then
    s370_16 E w s
  else
    if mx_f1 .lt i1 = true then
      s370_16 E w s
    else
      if mx_f2 .le i1 1 = true then
        if mx_f1 .ne i1 = true then
          s370_35 E w (s.1 58) s
        else
          s370_35 E w (s.1 57) s
      else
        s370_16 E w s
theorem r370_0 {L : Nat} {xs : Nat → Int32} {zf : Value} {D : dD} {E : rE} {w : Nat} (hD : rO D E L xs) : ∀ (i1 : Int32) (h : rm_H) (s : rS) (r : rA), RS h s → s370_0 E w i1 s = some r → rx (b370_0 L xs zf D w (some 36) i1 h) h r := by
  intro i1 h s r hR hh
  unfold s370_0 at hh
  unfold b370_0
  refine rx_b (rs_gI hR 72 _ rfl) ?_
  rcases di hh with ⟨q1, hh⟩ | ⟨q1, hh⟩
  · refine rx_t q1 ?_
    exact r370_16 hD  _ _ _ hR hh
  · refine rx_f q1 ?_
    rcases di hh with ⟨q2, hh⟩ | ⟨q2, hh⟩
    · refine rx_t q2 ?_
      exact r370_16 hD  _ _ _ hR hh
    · refine rx_f q2 ?_
      rcases di hh with ⟨q3, hh⟩ | ⟨q3, hh⟩
      · refine rx_t q3 ?_
        rcases di hh with ⟨q4, hh⟩ | ⟨q4, hh⟩
        · refine rx_t q4 ?_
          refine rx_b (rs_gI hR 58 _ rfl) ?_
          exact r370_35 hD _ _ _ _ hR hh
        · refine rx_f q4 ?_
          refine rx_b (rs_gI hR 57 _ rfl) ?_
          exact r370_35 hD _ _ _ _ hR hh
      · refine rx_f q3 ?_
        exact r370_16 hD  _ _ _ hR hh
def g370 (E : rE) (w : Nat) (As : List Value) (s : rS) : Option rA := match As with
  | [.ref 36, .int i1] => s370_0 E w i1 s
  | _ => none
theorem t370 {L : Nat} {xs : Nat → Int32} {zf : Value} {D : dD} {E : rE} {w : Nat} (hD : rO D E L xs) (As : List Value) (h : rm_H) (s : rS) (r : rA) (hR : RS h s) (hh : g370 E w As s = some r) : rx (f370 L xs zf D w As h) h r := by
  unfold g370 at hh
  split at hh
  · unfold f370
    dsimp only
    refine rx_b (a := some 36) rfl ?_
    exact r370_0 hD _ _ _ _ hR hh
  · cases hh
def s371_0 (E : rE) (w : Nat) (i1 : Int32) (s : rS) : Option rA :=
  if mx_f1 .ne (s.1 73) = true then
    if dsw 0 4 i1 = true then
      rrI (some .int) (-1) s
    else if i1 = 0 then
      rrI (some .int) (s.1 32) s
    else if i1 = 1 then
      rrI (some .int) (s.1 38) s
    else if i1 = 2 then
      rrI (some .int) ((s.1 42) - (s.1 32)) s
    else if i1 = 3 then
      rrI (some .int) (s.1 24) s
    else if i1 = 4 then
      rrI (some .int) (s.1 25) s
    else none
  else
    rrI (some .int) (-1) s
theorem r371_0 {L : Nat} {xs : Nat → Int32} {zf : Value} {D : dD} {E : rE} {w : Nat} (hD : rO D E L xs) : ∀ (i1 : Int32) (h : rm_H) (s : rS) (r : rA), RS h s → s371_0 E w i1 s = some r → rx (b371_0 L xs zf D w (some 36) i1 h) h r := by
  intro i1 h s r hR hh
  unfold s371_0 at hh
  unfold b371_0
  refine rx_b (rs_gI hR 73 _ rfl) ?_
  rcases di hh with ⟨q1, hh⟩ | ⟨q1, hh⟩
  · refine rx_t q1 ?_
    rcases di hh with ⟨q2, hh⟩ | ⟨q2, hh⟩
    · refine rx_t q2 ?_
      exact rx_I hR hh
    refine rx_f q2 ?_
    rcases dp hh with ⟨q3, hh⟩ | ⟨q3, hh⟩
    · refine rx_pt q3 ?_
      refine rx_b (rs_gI hR 32 _ rfl) ?_
      exact rx_I hR hh
    refine rx_pf q3 ?_
    rcases dp hh with ⟨q4, hh⟩ | ⟨q4, hh⟩
    · refine rx_pt q4 ?_
      refine rx_b (rs_gI hR 38 _ rfl) ?_
      exact rx_I hR hh
    refine rx_pf q4 ?_
    rcases dp hh with ⟨q5, hh⟩ | ⟨q5, hh⟩
    · refine rx_pt q5 ?_
      refine rx_b (rs_gI hR 42 _ rfl) ?_
      refine rx_b (rs_gI hR 32 _ rfl) ?_
      exact rx_I hR hh
    refine rx_pf q5 ?_
    rcases dp hh with ⟨q6, hh⟩ | ⟨q6, hh⟩
    · refine rx_pt q6 ?_
      refine rx_b (rs_gI hR 24 _ rfl) ?_
      exact rx_I hR hh
    refine rx_pf q6 ?_
    rcases dp hh with ⟨q7, hh⟩ | ⟨q7, hh⟩
    · refine rx_pt q7 ?_
      refine rx_b (rs_gI hR 25 _ rfl) ?_
      exact rx_I hR hh
    refine rx_pf q7 ?_
    cases hh
  · refine rx_f q1 ?_
    exact rx_I hR hh
def g371 (E : rE) (w : Nat) (As : List Value) (s : rS) : Option rA := match As with
  | [.ref 36, .int i1] => s371_0 E w i1 s
  | _ => none
theorem t371 {L : Nat} {xs : Nat → Int32} {zf : Value} {D : dD} {E : rE} {w : Nat} (hD : rO D E L xs) (As : List Value) (h : rm_H) (s : rS) (r : rA) (hR : RS h s) (hh : g371 E w As s = some r) : rx (f371 L xs zf D w As h) h r := by
  unfold g371 at hh
  split at hh
  · unfold f371
    dsimp only
    refine rx_b (a := some 36) rfl ?_
    exact r371_0 hD _ _ _ _ hR hh
  · cases hh
def s372_30 (E : rE) (w : Nat) (s : rS) : Option rA :=
  rrI (some .boolean) 0 s
theorem r372_30 {L : Nat} {xs : Nat → Int32} {zf : Value} {D : dD} {E : rE} {w : Nat} (hD : rO D E L xs) : ∀ (h : rm_H) (s : rS) (r : rA), RS h s → s372_30 E w s = some r → rx (b372_30 L xs zf D w h) h r := by
  intro h s r hR hh
  unfold s372_30 at hh
  unfold b372_30
  exact rx_I hR hh
def s372_0 (E : rE) (w : Nat) (i1 : Int32) (i2 : Int32) (s : rS) : Option rA :=
  if mx_f1 .eq (s.1 73) = true then
    s372_30 E w s
  else
    if mx_f2 .lt i1 1 = true then
      s372_30 E w s
    else
      if mx_f2 .gt i1 400 = true then
        s372_30 E w s
      else
        if mx_f2 .lt i2 1 = true then
          s372_30 E w s
        else
          if mx_f2 .le i2 6 = true then
            ((E 328 [.ref 36, .long 1298229614] s).bind rxI).bind fun x6 =>
            ((E 373 [.ref 36, .int x6.1] x6.2).bind rxI).bind fun x11 =>
            if mx_f2 .le (x11.1 + 1) i1 = true then
              (rs_pI x11.2 74 1).bind fun s17 =>
              (rs_pI s17 78 i1).bind fun s22 =>
              (rs_pI s22 79 i2).bind fun s27 =>
              (rs_pI s27 75 0).bind fun s32 =>
              (rs_pI s32 76 0).bind fun s37 =>
              (rs_pI s37 77 0).bind fun s42 =>
              (rs_pI s42 87 0).bind fun s47 =>
              (rs_pI s47 80 0).bind fun s52 =>
              (rs_pI s52 81 0).bind fun s57 =>
              (rs_pI s57 82 0).bind fun s62 =>
              (rs_pI s62 83 0).bind fun s67 =>
              (rs_pI s67 84 0).bind fun s72 =>
              (rs_pI s72 111 0).bind fun s77 =>
              ((E 374 [.ref 36, .int x6.1] s77).bind rxI).bind fun x82 =>
              (rs_aI x82.2 65 x6.1).bind fun x87 =>
              ((E 377 [.ref 36, .int x82.1, .int x87, .int x82.1, .int 0] x82.2).bind rxV).bind fun s89 =>
              rrI (some .boolean) 1 s89
            else
              rrI (some .boolean) 0 x11.2
          else
            s372_30 E w s
theorem r372_0 {L : Nat} {xs : Nat → Int32} {zf : Value} {D : dD} {E : rE} {w : Nat} (hD : rO D E L xs) : ∀ (i1 : Int32) (i2 : Int32) (h : rm_H) (s : rS) (r : rA), RS h s → s372_0 E w i1 i2 s = some r → rx (b372_0 L xs zf D w (some 36) i1 i2 h) h r := by
  intro i1 i2 h s r hR hh
  unfold s372_0 at hh
  unfold b372_0
  refine rx_b (rs_gI hR 73 _ rfl) ?_
  rcases di hh with ⟨q1, hh⟩ | ⟨q1, hh⟩
  · refine rx_t q1 ?_
    exact r372_30 hD  _ _ _ hR hh
  · refine rx_f q1 ?_
    rcases di hh with ⟨q2, hh⟩ | ⟨q2, hh⟩
    · refine rx_t q2 ?_
      exact r372_30 hD  _ _ _ hR hh
    · refine rx_f q2 ?_
      rcases di hh with ⟨q3, hh⟩ | ⟨q3, hh⟩
      · refine rx_t q3 ?_
        exact r372_30 hD  _ _ _ hR hh
      · refine rx_f q3 ?_
        rcases di hh with ⟨q4, hh⟩ | ⟨q4, hh⟩
        · refine rx_t q4 ?_
          exact r372_30 hD  _ _ _ hR hh
        · refine rx_f q4 ?_
          rcases di hh with ⟨q5, hh⟩ | ⟨q5, hh⟩
          · refine rx_t q5 ?_
            obtain ⟨x6, q7, hh⟩ := db hh
            obtain ⟨h8, e9, hR, f10⟩ := rs_vI hD hR q7
            refine rx_c e9 f10 ?_
            obtain ⟨x11, q12, hh⟩ := db hh
            obtain ⟨h13, e14, hR, f15⟩ := rs_vI hD hR q12
            refine rx_c e14 f15 ?_
            rcases di hh with ⟨q16, hh⟩ | ⟨q16, hh⟩
            · refine rx_t q16 ?_
              obtain ⟨s17, q18, hh⟩ := db hh
              obtain ⟨h19, e20, hR, f21⟩ := rs_pI_ok (rs_m74 _ _) (by decide) hR q18
              refine rx_w e20 f21 ?_
              obtain ⟨s22, q23, hh⟩ := db hh
              obtain ⟨h24, e25, hR, f26⟩ := rs_pI_ok (rs_m78 _ _) (by decide) hR q23
              refine rx_w e25 f26 ?_
              obtain ⟨s27, q28, hh⟩ := db hh
              obtain ⟨h29, e30, hR, f31⟩ := rs_pI_ok (rs_m79 _ _) (by decide) hR q28
              refine rx_w e30 f31 ?_
              obtain ⟨s32, q33, hh⟩ := db hh
              obtain ⟨h34, e35, hR, f36⟩ := rs_pI_ok (rs_m75 _ _) (by decide) hR q33
              refine rx_w e35 f36 ?_
              obtain ⟨s37, q38, hh⟩ := db hh
              obtain ⟨h39, e40, hR, f41⟩ := rs_pI_ok (rs_m76 _ _) (by decide) hR q38
              refine rx_w e40 f41 ?_
              obtain ⟨s42, q43, hh⟩ := db hh
              obtain ⟨h44, e45, hR, f46⟩ := rs_pI_ok (rs_m77 _ _) (by decide) hR q43
              refine rx_w e45 f46 ?_
              obtain ⟨s47, q48, hh⟩ := db hh
              obtain ⟨h49, e50, hR, f51⟩ := rs_pI_ok (rs_m87 _ _) (by decide) hR q48
              refine rx_w e50 f51 ?_
              obtain ⟨s52, q53, hh⟩ := db hh
              obtain ⟨h54, e55, hR, f56⟩ := rs_pI_ok (rs_m80 _ _) (by decide) hR q53
              refine rx_w e55 f56 ?_
              obtain ⟨s57, q58, hh⟩ := db hh
              obtain ⟨h59, e60, hR, f61⟩ := rs_pI_ok (rs_m81 _ _) (by decide) hR q58
              refine rx_w e60 f61 ?_
              obtain ⟨s62, q63, hh⟩ := db hh
              obtain ⟨h64, e65, hR, f66⟩ := rs_pI_ok (rs_m82 _ _) (by decide) hR q63
              refine rx_w e65 f66 ?_
              obtain ⟨s67, q68, hh⟩ := db hh
              obtain ⟨h69, e70, hR, f71⟩ := rs_pI_ok (rs_m83 _ _) (by decide) hR q68
              refine rx_w e70 f71 ?_
              obtain ⟨s72, q73, hh⟩ := db hh
              obtain ⟨h74, e75, hR, f76⟩ := rs_pI_ok (rs_m84 _ _) (by decide) hR q73
              refine rx_w e75 f76 ?_
              obtain ⟨s77, q78, hh⟩ := db hh
              obtain ⟨h79, e80, hR, f81⟩ := rs_pI_ok (rs_m111 _ _) (by decide) hR q78
              refine rx_w e80 f81 ?_
              obtain ⟨x82, q83, hh⟩ := db hh
              obtain ⟨h84, e85, hR, f86⟩ := rs_vI hD hR q83
              refine rx_c e85 f86 ?_
              refine rx_b (rs_gR hR 36 65 rfl) ?_
              obtain ⟨x87, q88, hh⟩ := db hh
              refine rx_b (rs_aI_ok hR q88) ?_
              obtain ⟨s89, q90, hh⟩ := db hh
              obtain ⟨h91, e92, hR, f93⟩ := rs_vV hD hR q90
              refine rx_w e92 f93 ?_
              exact rx_I hR hh
            · refine rx_f q16 ?_
              exact rx_I hR hh
          · refine rx_f q5 ?_
            exact r372_30 hD  _ _ _ hR hh
def g372 (E : rE) (w : Nat) (As : List Value) (s : rS) : Option rA := match As with
  | [.ref 36, .int i1, .int i2] => s372_0 E w i1 i2 s
  | _ => none
theorem t372 {L : Nat} {xs : Nat → Int32} {zf : Value} {D : dD} {E : rE} {w : Nat} (hD : rO D E L xs) (As : List Value) (h : rm_H) (s : rS) (r : rA) (hR : RS h s) (hh : g372 E w As s = some r) : rx (f372 L xs zf D w As h) h r := by
  unfold g372 at hh
  split at hh
  · unfold f372
    dsimp only
    refine rx_b (a := some 36) rfl ?_
    exact r372_0 hD _ _ _ _ _ hR hh
  · cases hh
def s373_0 (E : rE) (w : Nat) (i1 : Int32) (s : rS) : Option rA :=
  (rs_aI s 64 (i1 + 1)).bind fun x1 =>
  (rs_aI s 64 i1).bind fun x3 =>
  rrI (some .int) (x1 - x3) s
theorem r373_0 {L : Nat} {xs : Nat → Int32} {zf : Value} {D : dD} {E : rE} {w : Nat} (hD : rO D E L xs) : ∀ (i1 : Int32) (h : rm_H) (s : rS) (r : rA), RS h s → s373_0 E w i1 s = some r → rx (b373_0 L xs zf D w (some 36) i1 h) h r := by
  intro i1 h s r hR hh
  unfold s373_0 at hh
  unfold b373_0
  refine rx_b (rs_gR hR 35 64 rfl) ?_
  obtain ⟨x1, q2, hh⟩ := db hh
  refine rx_b (rs_aI_ok hR q2) ?_
  refine rx_b (rs_gR hR 35 64 rfl) ?_
  obtain ⟨x3, q4, hh⟩ := db hh
  refine rx_b (rs_aI_ok hR q4) ?_
  exact rx_I hR hh
def g373 (E : rE) (w : Nat) (As : List Value) (s : rS) : Option rA := match As with
  | [.ref 36, .int i1] => s373_0 E w i1 s
  | _ => none
theorem t373 {L : Nat} {xs : Nat → Int32} {zf : Value} {D : dD} {E : rE} {w : Nat} (hD : rO D E L xs) (As : List Value) (h : rm_H) (s : rS) (r : rA) (hR : RS h s) (hh : g373 E w As s = some r) : rx (f373 L xs zf D w As h) h r := by
  unfold g373 at hh
  split at hh
  · unfold f373
    dsimp only
    refine rx_b (a := some 36) rfl ?_
    exact r373_0 hD _ _ _ _ hR hh
  · cases hh
def s374_124 (E : rE) (w : Nat) : Nat → Int32 → Int32 → rS → Option rA
  | 0, _, _, _ => none
  | n + 1, i2, i3, s =>
    if mx_f2 .ge i3 6 = true then
      rrI (some .int) i2 s
    else
      (rs_sB s 104 ((6 * i2) + i3) 0).bind fun s2 =>
      s374_124 E w n i2 (i3 + 1) s2
theorem r374_124 {L : Nat} {xs : Nat → Int32} {zf : Value} {D : dD} {E : rE} {w : Nat} (hD : rO D E L xs) : ∀ (n : Nat) (i2 : Int32) (i3 : Int32) (h : rm_H) (s : rS) (r : rA), RS h s → s374_124 E w n i2 i3 s = some r → rx (b374_124 L xs zf D w n (some 36) i2 i3 h) h r := by
  intro n
  induction n with
  | zero =>
    intro i2 i3 h s r hR hh
    cases hh
  | succ n ih =>
    intro i2 i3 h s r hR hh
    rw [s374_124] at hh
    rw [b374_124]
    rcases di hh with ⟨q1, hh⟩ | ⟨q1, hh⟩
    · refine rx_t q1 ?_
      exact rx_I hR hh
    · refine rx_f q1 ?_
      refine rx_b (rs_gR hR 103 104 rfl) ?_
      obtain ⟨s2, q3, hh⟩ := db hh
      obtain ⟨h4, e5, hR, f6⟩ := rs_sB_ok hR q3
      refine rx_w e5 f6 ?_
      exact ih _ _ _ _ _ hR hh
def s374_75 (E : rE) (w : Nat) : Nat → Int32 → Int32 → Int32 → rS → Option rA
  | 0, _, _, _, _ => none
  | n + 1, i1, i2, i3, s =>
    ((E 373 [.ref 36, .int i1] s).bind rxI).bind fun x1 =>
    if mx_f2 .ge i3 x1.1 = true then
      s374_124 E w w i2 0 x1.2
    else
      (rs_aI x1.2 64 i1).bind fun x7 =>
      (rs_aI x1.2 69 (x7 + i3)).bind fun x9 =>
      (rs_aI x1.2 60 x9).bind fun x11 =>
      ((E 375 [.int x11] x1.2).bind rxJ).bind fun y13 =>
      (rs_sJ y13.2 95 ((8 * i2) + i3) y13.1).bind fun s18 =>
      s374_75 E w n i1 i2 (i3 + 1) s18
theorem r374_75 {L : Nat} {xs : Nat → Int32} {zf : Value} {D : dD} {E : rE} {w : Nat} (hD : rO D E L xs) : ∀ (n : Nat) (i1 : Int32) (i2 : Int32) (i3 : Int32) (h : rm_H) (s : rS) (r : rA), RS h s → s374_75 E w n i1 i2 i3 s = some r → rx (b374_75 L xs zf D w n (some 36) i1 i2 i3 h) h r := by
  intro n
  induction n with
  | zero =>
    intro i1 i2 i3 h s r hR hh
    cases hh
  | succ n ih =>
    intro i1 i2 i3 h s r hR hh
    rw [s374_75] at hh
    rw [b374_75]
    obtain ⟨x1, q2, hh⟩ := db hh
    obtain ⟨h3, e4, hR, f5⟩ := rs_vI hD hR q2
    refine rx_c e4 f5 ?_
    rcases di hh with ⟨q6, hh⟩ | ⟨q6, hh⟩
    · refine rx_t q6 ?_
      exact r374_124 hD _ _ _ _ _ _ hR hh
    · refine rx_f q6 ?_
      refine rx_b (rs_gR hR 94 95 rfl) ?_
      refine rx_b (rs_gR hR 30 60 rfl) ?_
      refine rx_b (rs_gR hR 41 69 rfl) ?_
      refine rx_b (rs_gR hR 35 64 rfl) ?_
      obtain ⟨x7, q8, hh⟩ := db hh
      refine rx_b (rs_aI_ok hR q8) ?_
      obtain ⟨x9, q10, hh⟩ := db hh
      refine rx_b (rs_aI_ok hR q10) ?_
      obtain ⟨x11, q12, hh⟩ := db hh
      refine rx_b (rs_aI_ok hR q12) ?_
      obtain ⟨y13, q14, hh⟩ := db hh
      obtain ⟨h15, e16, hR, f17⟩ := rs_cJ hD hR q14
      refine rx_c e16 f17 ?_
      obtain ⟨s18, q19, hh⟩ := db hh
      obtain ⟨h20, e21, hR, f22⟩ := rs_sJ_ok hR q19
      refine rx_w e21 f22 ?_
      exact ih _ _ _ _ _ _ hR hh
def s374_0 (E : rE) (w : Nat) (i1 : Int32) (s : rS) : Option rA :=
  (rs_pI s 75 ((s.1 75) + 1)).bind fun s1 =>
  ((E 373 [.ref 36, .int i1] s1).bind rxI).bind fun x6 =>
  (rs_pI x6.2 77 ((s1.1 77) + (x6.1 + 1))).bind fun s11 =>
  (rs_sI s11 89 (s.1 75) i1).bind fun s16 =>
  (rs_sI s16 90 (s.1 75) 0).bind fun s21 =>
  (rs_sI s21 91 (s.1 75) 0).bind fun s26 =>
  (rs_sI s26 92 (s.1 75) 0).bind fun s31 =>
  (rs_sI s31 93 (s.1 75) 0).bind fun s36 =>
  (rs_sI s36 94 (s.1 75) 0).bind fun s41 =>
  s374_75 E w w i1 (s.1 75) 0 s41
theorem r374_0 {L : Nat} {xs : Nat → Int32} {zf : Value} {D : dD} {E : rE} {w : Nat} (hD : rO D E L xs) : ∀ (i1 : Int32) (h : rm_H) (s : rS) (r : rA), RS h s → s374_0 E w i1 s = some r → rx (b374_0 L xs zf D w (some 36) i1 h) h r := by
  intro i1 h s r hR hh
  unfold s374_0 at hh
  unfold b374_0
  refine rx_b (rs_gI hR 75 _ rfl) ?_
  refine rx_b (rs_gI hR 75 _ rfl) ?_
  obtain ⟨s1, q2, hh⟩ := db hh
  obtain ⟨h3, e4, hR, f5⟩ := rs_pI_ok (rs_m75 _ _) (by decide) hR q2
  refine rx_w e4 f5 ?_
  refine rx_b (rs_gI hR 77 _ rfl) ?_
  obtain ⟨x6, q7, hh⟩ := db hh
  obtain ⟨h8, e9, hR, f10⟩ := rs_vI hD hR q7
  refine rx_c e9 f10 ?_
  obtain ⟨s11, q12, hh⟩ := db hh
  obtain ⟨h13, e14, hR, f15⟩ := rs_pI_ok (rs_m77 _ _) (by decide) hR q12
  refine rx_w e14 f15 ?_
  refine rx_b (rs_gR hR 88 89 rfl) ?_
  obtain ⟨s16, q17, hh⟩ := db hh
  obtain ⟨h18, e19, hR, f20⟩ := rs_sI_ok hR q17
  refine rx_w e19 f20 ?_
  refine rx_b (rs_gR hR 89 90 rfl) ?_
  obtain ⟨s21, q22, hh⟩ := db hh
  obtain ⟨h23, e24, hR, f25⟩ := rs_sI_ok hR q22
  refine rx_w e24 f25 ?_
  refine rx_b (rs_gR hR 90 91 rfl) ?_
  obtain ⟨s26, q27, hh⟩ := db hh
  obtain ⟨h28, e29, hR, f30⟩ := rs_sI_ok hR q27
  refine rx_w e29 f30 ?_
  refine rx_b (rs_gR hR 91 92 rfl) ?_
  obtain ⟨s31, q32, hh⟩ := db hh
  obtain ⟨h33, e34, hR, f35⟩ := rs_sI_ok hR q32
  refine rx_w e34 f35 ?_
  refine rx_b (rs_gR hR 92 93 rfl) ?_
  obtain ⟨s36, q37, hh⟩ := db hh
  obtain ⟨h38, e39, hR, f40⟩ := rs_sI_ok hR q37
  refine rx_w e39 f40 ?_
  refine rx_b (rs_gR hR 93 94 rfl) ?_
  obtain ⟨s41, q42, hh⟩ := db hh
  obtain ⟨h43, e44, hR, f45⟩ := rs_sI_ok hR q42
  refine rx_w e44 f45 ?_
  exact r374_75 hD _ _ _ _ _ _ _ hR hh
def g374 (E : rE) (w : Nat) (As : List Value) (s : rS) : Option rA := match As with
  | [.ref 36, .int i1] => s374_0 E w i1 s
  | _ => none
theorem t374 {L : Nat} {xs : Nat → Int32} {zf : Value} {D : dD} {E : rE} {w : Nat} (hD : rO D E L xs) (As : List Value) (h : rm_H) (s : rS) (r : rA) (hR : RS h s) (hh : g374 E w As s = some r) : rx (f374 L xs zf D w As h) h r := by
  unfold g374 at hh
  split at hh
  · unfold f374
    dsimp only
    refine rx_b (a := some 36) rfl ?_
    exact r374_0 hD _ _ _ _ hR hh
  · cases hh
def s375_13 (E : rE) (w : Nat) (s0 : Int64) (s : rS) : Option rA :=
  some (some (.long s0), s)
theorem r375_13 {L : Nat} {xs : Nat → Int32} {zf : Value} {D : dD} {E : rE} {w : Nat} (hD : rO D E L xs) : ∀ (s0 : Int64) (h : rm_H) (s : rS) (r : rA), RS h s → s375_13 E w s0 s = some r → rx (b375_13 L xs zf D w s0 h) h r := by
  intro s0 h s r hR hh
  unfold s375_13 at hh
  unfold b375_13
  cases hh
  exact rx_0 hR
def s375_0 (E : rE) (w : Nat) (i0 : Int32) (s : rS) : Option rA :=
  if mx_f1 .ne i0 = true then
    s375_13 E w 0 s
  else
    ((E 376 [.int 1, .int 0] s).bind rxJ).bind fun y2 =>
    s375_13 E w y2.1 y2.2
theorem r375_0 {L : Nat} {xs : Nat → Int32} {zf : Value} {D : dD} {E : rE} {w : Nat} (hD : rO D E L xs) : ∀ (i0 : Int32) (h : rm_H) (s : rS) (r : rA), RS h s → s375_0 E w i0 s = some r → rx (b375_0 L xs zf D w i0 h) h r := by
  intro i0 h s r hR hh
  unfold s375_0 at hh
  unfold b375_0
  rcases di hh with ⟨q1, hh⟩ | ⟨q1, hh⟩
  · refine rx_t q1 ?_
    exact r375_13 hD _ _ _ _ hR hh
  · refine rx_f q1 ?_
    obtain ⟨y2, q3, hh⟩ := db hh
    obtain ⟨h4, e5, hR, f6⟩ := rs_cJ hD hR q3
    refine rx_c e5 f6 ?_
    exact r375_13 hD _ _ _ _ hR hh
def g375 (E : rE) (w : Nat) (As : List Value) (s : rS) : Option rA := match As with
  | [.int i0] => s375_0 E w i0 s
  | _ => none
theorem t375 {L : Nat} {xs : Nat → Int32} {zf : Value} {D : dD} {E : rE} {w : Nat} (hD : rO D E L xs) (As : List Value) (h : rm_H) (s : rS) (r : rA) (hR : RS h s) (hh : g375 E w As s = some r) : rx (f375 L xs zf D w As h) h r := by
  unfold g375 at hh
  split at hh
  · unfold f375
    dsimp only
    exact r375_0 hD _ _ _ _ hR hh
  · cases hh
def s376_0 (E : rE) (w : Nat) (i0 : Int32) (i1 : Int32) (s : rS) : Option rA :=
  some (some (.long (((Int32.toInt64 i0) <<< ((32 : Int32).toInt64 &&& 63)) ||| ((Int32.toInt64 i1) &&& 4294967295))), s)
theorem r376_0 {L : Nat} {xs : Nat → Int32} {zf : Value} {D : dD} {E : rE} {w : Nat} (hD : rO D E L xs) : ∀ (i0 : Int32) (i1 : Int32) (h : rm_H) (s : rS) (r : rA), RS h s → s376_0 E w i0 i1 s = some r → rx (b376_0 L xs zf D w i0 i1 h) h r := by
  intro i0 i1 h s r hR hh
  unfold s376_0 at hh
  unfold b376_0
  cases hh
  exact rx_0 hR
def g376 (E : rE) (w : Nat) (As : List Value) (s : rS) : Option rA := match As with
  | [.int i0, .int i1] => s376_0 E w i0 i1 s
  | _ => none
theorem t376 {L : Nat} {xs : Nat → Int32} {zf : Value} {D : dD} {E : rE} {w : Nat} (hD : rO D E L xs) (As : List Value) (h : rm_H) (s : rS) (r : rA) (hR : RS h s) (hh : g376 E w As s = some r) : rx (f376 L xs zf D w As h) h r := by
  unfold g376 at hh
  split at hh
  · unfold f376
    dsimp only
    exact r376_0 hD _ _ _ _ _ hR hh
  · cases hh
def s377_215 (E : rE) (w : Nat) (K196 : Int32 → Int32 → Int32 → Int32 → Int32 → rS → Option rA) : Nat → Int32 → Int32 → Int32 → Int32 → Int32 → Int32 → Int32 → rS → Option rA
  | 0, _, _, _, _, _, _, _, _ => none
  | n + 1, i3, i5, i6, i7, i9, i10, i11, s =>
    (rs_aI s 87 i10).bind fun x1 =>
    ((E 373 [.ref 36, .int x1] s).bind rxI).bind fun x3 =>
    if mx_f2 .ge i11 x3.1 = true then
      K196 i3 i5 i6 i7 (i9 + 1) x3.2
    else
      (rs_aI x3.2 88 i10).bind fun x9 =>
      (rs_aJ x3.2 96 (((400 * i3) + x9) + i11)).bind fun y11 =>
      (rs_aI x3.2 88 i10).bind fun x13 =>
      (rs_sJ x3.2 107 (((400 * i5) + x13) + i11) y11).bind fun s15 =>
      ((E 378 [.ref 36, .int i6, .long y11, .int i7] s15).bind rxI).bind fun x20 =>
      s377_215 E w K196 n i3 i5 i6 x20.1 i9 i10 (i11 + 1) x20.2
theorem r377_215 {L : Nat} {xs : Nat → Int32} {zf : Value} {D : dD} {E : rE} {w : Nat} {K196 : Int32 → Int32 → Int32 → Int32 → Int32 → rS → Option rA} {B196 : Option Nat → Int32 → Int32 → Int32 → Int32 → Int32 → rm_H → Option dR} (hD : rO D E L xs) (hK196 : ∀ (i3 : Int32) (i5 : Int32) (i6 : Int32) (i7 : Int32) (i9 : Int32) (h : rm_H) (s : rS) (r : rA), RS h s → K196 i3 i5 i6 i7 i9 s = some r → rx (B196 (some 36) i3 i5 i6 i7 i9 h) h r) : ∀ (n : Nat) (i3 : Int32) (i5 : Int32) (i6 : Int32) (i7 : Int32) (i9 : Int32) (i10 : Int32) (i11 : Int32) (h : rm_H) (s : rS) (r : rA), RS h s → s377_215 E w K196 n i3 i5 i6 i7 i9 i10 i11 s = some r → rx (b377_215 L xs zf D w B196 n (some 36) i3 i5 i6 i7 i9 i10 i11 h) h r := by
  intro n
  induction n with
  | zero =>
    intro i3 i5 i6 i7 i9 i10 i11 h s r hR hh
    cases hh
  | succ n ih =>
    intro i3 i5 i6 i7 i9 i10 i11 h s r hR hh
    rw [s377_215] at hh
    rw [b377_215]
    refine rx_b (rs_gR hR 85 87 rfl) ?_
    obtain ⟨x1, q2, hh⟩ := db hh
    refine rx_b (rs_aI_ok hR q2) ?_
    obtain ⟨x3, q4, hh⟩ := db hh
    obtain ⟨h5, e6, hR, f7⟩ := rs_vI hD hR q4
    refine rx_c e6 f7 ?_
    rcases di hh with ⟨q8, hh⟩ | ⟨q8, hh⟩
    · refine rx_t q8 ?_
      exact hK196 _ _ _ _ _ _ _ _ hR hh
    · refine rx_f q8 ?_
      refine rx_b (rs_gR hR 95 96 rfl) ?_
      refine rx_b (rs_gR hR 86 88 rfl) ?_
      obtain ⟨x9, q10, hh⟩ := db hh
      refine rx_b (rs_aI_ok hR q10) ?_
      obtain ⟨y11, q12, hh⟩ := db hh
      refine rx_b (rs_aJ_ok hR q12) ?_
      refine rx_b (rs_gR hR 106 107 rfl) ?_
      refine rx_b (rs_gR hR 86 88 rfl) ?_
      obtain ⟨x13, q14, hh⟩ := db hh
      refine rx_b (rs_aI_ok hR q14) ?_
      obtain ⟨s15, q16, hh⟩ := db hh
      obtain ⟨h17, e18, hR, f19⟩ := rs_sJ_ok hR q16
      refine rx_w e18 f19 ?_
      obtain ⟨x20, q21, hh⟩ := db hh
      obtain ⟨h22, e23, hR, f24⟩ := rs_vI hD hR q21
      refine rx_c e23 f24 ?_
      exact ih _ _ _ _ _ _ _ _ _ _ hR hh
def s377_196 (E : rE) (w : Nat) : Nat → Int32 → Int32 → Int32 → Int32 → Int32 → rS → Option rA
  | 0, _, _, _, _, _, _ => none
  | n + 1, i3, i5, i6, i7, i9, s =>
    if mx_f2 .ge i9 i7 = true then
      some (none, s)
    else
      (rs_aI s 110 i9).bind fun x2 =>
      s377_215 E w (s377_196 E w n) w i3 i5 i6 i7 i9 x2 0 s
theorem r377_196 {L : Nat} {xs : Nat → Int32} {zf : Value} {D : dD} {E : rE} {w : Nat} (hD : rO D E L xs) : ∀ (n : Nat) (i3 : Int32) (i5 : Int32) (i6 : Int32) (i7 : Int32) (i9 : Int32) (h : rm_H) (s : rS) (r : rA), RS h s → s377_196 E w n i3 i5 i6 i7 i9 s = some r → rx (b377_196 L xs zf D w n (some 36) i3 i5 i6 i7 i9 h) h r := by
  intro n
  induction n with
  | zero =>
    intro i3 i5 i6 i7 i9 h s r hR hh
    cases hh
  | succ n ih =>
    intro i3 i5 i6 i7 i9 h s r hR hh
    rw [s377_196] at hh
    rw [b377_196]
    rcases di hh with ⟨q1, hh⟩ | ⟨q1, hh⟩
    · refine rx_t q1 ?_
      cases hh
      exact rx_0 hR
    · refine rx_f q1 ?_
      refine rx_b (rs_gR hR 109 110 rfl) ?_
      obtain ⟨x2, q3, hh⟩ := db hh
      refine rx_b (rs_aI_ok hR q3) ?_
      exact r377_215 hD ih _ _ _ _ _ _ _ _ _ _ _ hR hh
def s377_135 (E : rE) (w : Nat) : Nat → Int32 → Int32 → Int32 → Int32 → Int32 → Int32 → Int32 → rS → Option rA
  | 0, _, _, _, _, _, _, _, _ => none
  | n + 1, i3, i4, i5, i6, i7, i8, i9, s =>
    if mx_f2 .ge i9 i8 = true then
      s377_196 E w w i3 i5 i6 i7 0 s
    else
      (rs_aJ s 97 (((10100 * i3) + i4) + i9)).bind fun y2 =>
      (rs_sJ s 106 ((6 * i5) + i9) y2).bind fun s4 =>
      ((E 378 [.ref 36, .int i6, .long y2, .int i7] s4).bind rxI).bind fun x9 =>
      s377_135 E w n i3 i4 i5 i6 x9.1 i8 (i9 + 1) x9.2
theorem r377_135 {L : Nat} {xs : Nat → Int32} {zf : Value} {D : dD} {E : rE} {w : Nat} (hD : rO D E L xs) : ∀ (n : Nat) (i3 : Int32) (i4 : Int32) (i5 : Int32) (i6 : Int32) (i7 : Int32) (i8 : Int32) (i9 : Int32) (h : rm_H) (s : rS) (r : rA), RS h s → s377_135 E w n i3 i4 i5 i6 i7 i8 i9 s = some r → rx (b377_135 L xs zf D w n (some 36) i3 i4 i5 i6 i7 i8 i9 h) h r := by
  intro n
  induction n with
  | zero =>
    intro i3 i4 i5 i6 i7 i8 i9 h s r hR hh
    cases hh
  | succ n ih =>
    intro i3 i4 i5 i6 i7 i8 i9 h s r hR hh
    rw [s377_135] at hh
    rw [b377_135]
    rcases di hh with ⟨q1, hh⟩ | ⟨q1, hh⟩
    · refine rx_t q1 ?_
      exact r377_196 hD _ _ _ _ _ _ _ _ _ hR hh
    · refine rx_f q1 ?_
      refine rx_b (rs_gR hR 96 97 rfl) ?_
      obtain ⟨y2, q3, hh⟩ := db hh
      refine rx_b (rs_aJ_ok hR q3) ?_
      refine rx_b (rs_gR hR 105 106 rfl) ?_
      obtain ⟨s4, q5, hh⟩ := db hh
      obtain ⟨h6, e7, hR, f8⟩ := rs_sJ_ok hR q5
      refine rx_w e7 f8 ?_
      obtain ⟨x9, q10, hh⟩ := db hh
      obtain ⟨h11, e12, hR, f13⟩ := rs_vI hD hR q10
      refine rx_c e12 f13 ?_
      exact ih _ _ _ _ _ _ _ _ _ _ hR hh
def s377_87 (E : rE) (w : Nat) : Nat → Int32 → Int32 → Int32 → Int32 → Int32 → Int32 → rS → Option rA
  | 0, _, _, _, _, _, _, _ => none
  | n + 1, i2, i3, i4, i5, i6, i7, s =>
    if mx_f2 .gt i7 400 = true then
      (rs_aI s 77 (i2 + 1)).bind fun x2 =>
      (rs_aI s 77 i2).bind fun x4 =>
      s377_135 E w w i3 i4 i5 i6 0 (x2 - x4) 0 s
    else
      (rs_sB s 105 (i6 + i7) 0).bind fun s6 =>
      s377_87 E w n i2 i3 i4 i5 i6 (i7 + 1) s6
theorem r377_87 {L : Nat} {xs : Nat → Int32} {zf : Value} {D : dD} {E : rE} {w : Nat} (hD : rO D E L xs) : ∀ (n : Nat) (i2 : Int32) (i3 : Int32) (i4 : Int32) (i5 : Int32) (i6 : Int32) (i7 : Int32) (h : rm_H) (s : rS) (r : rA), RS h s → s377_87 E w n i2 i3 i4 i5 i6 i7 s = some r → rx (b377_87 L xs zf D w n (some 36) i2 i3 i4 i5 i6 i7 h) h r := by
  intro n
  induction n with
  | zero =>
    intro i2 i3 i4 i5 i6 i7 h s r hR hh
    cases hh
  | succ n ih =>
    intro i2 i3 i4 i5 i6 i7 h s r hR hh
    rw [s377_87] at hh
    rw [b377_87]
    rcases di hh with ⟨q1, hh⟩ | ⟨q1, hh⟩
    · refine rx_t q1 ?_
      refine rx_b (rs_gR hR 50 77 rfl) ?_
      obtain ⟨x2, q3, hh⟩ := db hh
      refine rx_b (rs_aI_ok hR q3) ?_
      refine rx_b (rs_gR hR 50 77 rfl) ?_
      obtain ⟨x4, q5, hh⟩ := db hh
      refine rx_b (rs_aI_ok hR q5) ?_
      exact r377_135 hD _ _ _ _ _ _ _ _ _ _ _ hR hh
    · refine rx_f q1 ?_
      refine rx_b (rs_gR hR 104 105 rfl) ?_
      obtain ⟨s6, q7, hh⟩ := db hh
      obtain ⟨h8, e9, hR, f10⟩ := rs_sB_ok hR q7
      refine rx_w e9 f10 ?_
      exact ih _ _ _ _ _ _ _ _ _ hR hh
def s377_6 (E : rE) (w : Nat) : Nat → Int32 → Int32 → Int32 → Int32 → Int32 → rS → Option rA
  | 0, _, _, _, _, _, _ => none
  | n + 1, i1, i2, i3, i4, i5, s =>
    (rs_aB s 104 i5).bind fun x1 =>
    if mx_f1 .eq x1 = true then
      (rs_sB s 104 i5 1).bind fun s4 =>
      (rs_aI s4 94 i1).bind fun x9 =>
      (rs_sI s4 102 ((6 * i1) + x9) i5).bind fun s11 =>
      (rs_aI s11 94 i1).bind fun x16 =>
      (rs_sI s11 94 i1 (x16 + 1)).bind fun s18 =>
      (rs_pI s18 82 ((s18.1 82) + 1)).bind fun s23 =>
      (rs_sI s23 103 i5 i2).bind fun s28 =>
      s377_87 E w w i2 i3 i4 i5 (401 * i5) 0 s28
    else
      s377_6 E w n i1 i2 i3 i4 (i5 + 1) s
theorem r377_6 {L : Nat} {xs : Nat → Int32} {zf : Value} {D : dD} {E : rE} {w : Nat} (hD : rO D E L xs) : ∀ (n : Nat) (i1 : Int32) (i2 : Int32) (i3 : Int32) (i4 : Int32) (i5 : Int32) (h : rm_H) (s : rS) (r : rA), RS h s → s377_6 E w n i1 i2 i3 i4 i5 s = some r → rx (b377_6 L xs zf D w n (some 36) i1 i2 i3 i4 i5 h) h r := by
  intro n
  induction n with
  | zero =>
    intro i1 i2 i3 i4 i5 h s r hR hh
    cases hh
  | succ n ih =>
    intro i1 i2 i3 i4 i5 h s r hR hh
    rw [s377_6] at hh
    rw [b377_6]
    refine rx_b (rs_gR hR 103 104 rfl) ?_
    obtain ⟨x1, q2, hh⟩ := db hh
    refine rx_b (rs_aB_ok hR q2) ?_
    rcases di hh with ⟨q3, hh⟩ | ⟨q3, hh⟩
    · refine rx_t q3 ?_
      refine rx_b (rs_gR hR 103 104 rfl) ?_
      obtain ⟨s4, q5, hh⟩ := db hh
      obtain ⟨h6, e7, hR, f8⟩ := rs_sB_ok hR q5
      refine rx_w e7 f8 ?_
      refine rx_b (rs_gR hR 101 102 rfl) ?_
      refine rx_b (rs_gR hR 93 94 rfl) ?_
      obtain ⟨x9, q10, hh⟩ := db hh
      refine rx_b (rs_aI_ok hR q10) ?_
      obtain ⟨s11, q12, hh⟩ := db hh
      obtain ⟨h13, e14, hR, f15⟩ := rs_sI_ok hR q12
      refine rx_w e14 f15 ?_
      refine rx_b (rs_gR hR 93 94 rfl) ?_
      obtain ⟨x16, q17, hh⟩ := db hh
      refine rx_b (rs_aI_ok hR q17) ?_
      obtain ⟨s18, q19, hh⟩ := db hh
      obtain ⟨h20, e21, hR, f22⟩ := rs_sI_ok hR q19
      refine rx_w e21 f22 ?_
      refine rx_b (rs_gI hR 82 _ rfl) ?_
      obtain ⟨s23, q24, hh⟩ := db hh
      obtain ⟨h25, e26, hR, f27⟩ := rs_pI_ok (rs_m82 _ _) (by decide) hR q24
      refine rx_w e26 f27 ?_
      refine rx_b (rs_gR hR 102 103 rfl) ?_
      obtain ⟨s28, q29, hh⟩ := db hh
      obtain ⟨h30, e31, hR, f32⟩ := rs_sI_ok hR q29
      refine rx_w e31 f32 ?_
      exact r377_87 hD _ _ _ _ _ _ _ _ _ _ hR hh
    · refine rx_f q3 ?_
      exact ih _ _ _ _ _ _ _ _ hR hh
def s377_0 (E : rE) (w : Nat) (i1 : Int32) (i2 : Int32) (i3 : Int32) (i4 : Int32) (s : rS) : Option rA :=
  s377_6 E w w i1 i2 i3 i4 (6 * i1) s
theorem r377_0 {L : Nat} {xs : Nat → Int32} {zf : Value} {D : dD} {E : rE} {w : Nat} (hD : rO D E L xs) : ∀ (i1 : Int32) (i2 : Int32) (i3 : Int32) (i4 : Int32) (h : rm_H) (s : rS) (r : rA), RS h s → s377_0 E w i1 i2 i3 i4 s = some r → rx (b377_0 L xs zf D w (some 36) i1 i2 i3 i4 h) h r := by
  intro i1 i2 i3 i4 h s r hR hh
  unfold s377_0 at hh
  unfold b377_0
  exact r377_6 hD _ _ _ _ _ _ _ _ _ hR hh
def g377 (E : rE) (w : Nat) (As : List Value) (s : rS) : Option rA := match As with
  | [.ref 36, .int i1, .int i2, .int i3, .int i4] => s377_0 E w i1 i2 i3 i4 s
  | _ => none
theorem t377 {L : Nat} {xs : Nat → Int32} {zf : Value} {D : dD} {E : rE} {w : Nat} (hD : rO D E L xs) (As : List Value) (h : rm_H) (s : rS) (r : rA) (hR : RS h s) (hh : g377 E w As s = some r) : rx (f377 L xs zf D w As h) h r := by
  unfold g377 at hh
  split at hh
  · unfold f377
    dsimp only
    refine rx_b (a := some 36) rfl ?_
    exact r377_0 hD _ _ _ _ _ _ _ hR hh
  · cases hh
def s378_20 (E : rE) (w : Nat) (i4 : Int32) (s : rS) : Option rA :=
  rrI (some .int) i4 s
theorem r378_20 {L : Nat} {xs : Nat → Int32} {zf : Value} {D : dD} {E : rE} {w : Nat} (hD : rO D E L xs) : ∀ (i4 : Int32) (h : rm_H) (s : rS) (r : rA), RS h s → s378_20 E w i4 s = some r → rx (b378_20 L xs zf D w i4 h) h r := by
  intro i4 h s r hR hh
  unfold s378_20 at hh
  unfold b378_20
  exact rx_I hR hh
def s378_0 (E : rE) (w : Nat) (i1 : Int32) (j2 : Int64) (i4 : Int32) (s : rS) : Option rA :=
  ((E 379 [.long j2] s).bind rxI).bind fun x1 =>
  if mx_f2 .ne x1.1 2 = true then
    s378_20 E w i4 x1.2
  else
    (rs_aB x1.2 105 (i1 + (Int64.toInt32 j2))).bind fun x7 =>
    if mx_f1 .eq x7 = true then
      (rs_sB x1.2 105 (i1 + (Int64.toInt32 j2)) 1).bind fun s10 =>
      (rs_sI s10 110 i4 (Int64.toInt32 j2)).bind fun s15 =>
      rrI (some .int) (i4 + 1) s15
    else
      s378_20 E w i4 x1.2
theorem r378_0 {L : Nat} {xs : Nat → Int32} {zf : Value} {D : dD} {E : rE} {w : Nat} (hD : rO D E L xs) : ∀ (i1 : Int32) (j2 : Int64) (i4 : Int32) (h : rm_H) (s : rS) (r : rA), RS h s → s378_0 E w i1 j2 i4 s = some r → rx (b378_0 L xs zf D w (some 36) i1 j2 i4 h) h r := by
  intro i1 j2 i4 h s r hR hh
  unfold s378_0 at hh
  unfold b378_0
  obtain ⟨x1, q2, hh⟩ := db hh
  obtain ⟨h3, e4, hR, f5⟩ := rs_cI hD hR q2
  refine rx_c e4 f5 ?_
  rcases di hh with ⟨q6, hh⟩ | ⟨q6, hh⟩
  · refine rx_t q6 ?_
    exact r378_20 hD _ _ _ _ hR hh
  · refine rx_f q6 ?_
    refine rx_b (rs_gR hR 104 105 rfl) ?_
    obtain ⟨x7, q8, hh⟩ := db hh
    refine rx_b (rs_aB_ok hR q8) ?_
    rcases di hh with ⟨q9, hh⟩ | ⟨q9, hh⟩
    · refine rx_t q9 ?_
      refine rx_b (rs_gR hR 104 105 rfl) ?_
      obtain ⟨s10, q11, hh⟩ := db hh
      obtain ⟨h12, e13, hR, f14⟩ := rs_sB_ok hR q11
      refine rx_w e13 f14 ?_
      refine rx_b (rs_gR hR 109 110 rfl) ?_
      obtain ⟨s15, q16, hh⟩ := db hh
      obtain ⟨h17, e18, hR, f19⟩ := rs_sI_ok hR q16
      refine rx_w e18 f19 ?_
      exact rx_I hR hh
    · refine rx_f q9 ?_
      exact r378_20 hD _ _ _ _ hR hh
def g378 (E : rE) (w : Nat) (As : List Value) (s : rS) : Option rA := match As with
  | [.ref 36, .int i1, .long j2, .int i4] => s378_0 E w i1 j2 i4 s
  | _ => none
theorem t378 {L : Nat} {xs : Nat → Int32} {zf : Value} {D : dD} {E : rE} {w : Nat} (hD : rO D E L xs) (As : List Value) (h : rm_H) (s : rS) (r : rA) (hR : RS h s) (hh : g378 E w As s = some r) : rx (f378 L xs zf D w As h) h r := by
  unfold g378 at hh
  split at hh
  · unfold f378
    dsimp only
    refine rx_b (a := some 36) rfl ?_
    exact r378_0 hD _ _ _ _ _ _ hR hh
  · cases hh
def s379_0 (E : rE) (w : Nat) (j0 : Int64) (s : rS) : Option rA :=
  rrI (some .int) (Int64.toInt32 (j0 >>> ((32 : Int32).toInt64 &&& 63))) s
theorem r379_0 {L : Nat} {xs : Nat → Int32} {zf : Value} {D : dD} {E : rE} {w : Nat} (hD : rO D E L xs) : ∀ (j0 : Int64) (h : rm_H) (s : rS) (r : rA), RS h s → s379_0 E w j0 s = some r → rx (b379_0 L xs zf D w j0 h) h r := by
  intro j0 h s r hR hh
  unfold s379_0 at hh
  unfold b379_0
  exact rx_I hR hh
def g379 (E : rE) (w : Nat) (As : List Value) (s : rS) : Option rA := match As with
  | [.long j0] => s379_0 E w j0 s
  | _ => none
theorem t379 {L : Nat} {xs : Nat → Int32} {zf : Value} {D : dD} {E : rE} {w : Nat} (hD : rO D E L xs) (As : List Value) (h : rm_H) (s : rS) (r : rA) (hR : RS h s) (hh : g379 E w As s = some r) : rx (f379 L xs zf D w As h) h r := by
  unfold g379 at hh
  split at hh
  · unfold f379
    dsimp only
    exact r379_0 hD _ _ _ _ hR hh
  · cases hh
def s380_20 (E : rE) (w : Nat) (s : rS) : Option rA :=
  rrI (some .int) (-1) s
theorem r380_20 {L : Nat} {xs : Nat → Int32} {zf : Value} {D : dD} {E : rE} {w : Nat} (hD : rO D E L xs) : ∀ (h : rm_H) (s : rS) (r : rA), RS h s → s380_20 E w s = some r → rx (b380_20 L xs zf D w h) h r := by
  intro h s r hR hh
  unfold s380_20 at hh
  unfold b380_20
  exact rx_I hR hh
def s380_48 (E : rE) (w : Nat) (i3 : Int32) (s : rS) : Option rA :=
  rrI (some .int) i3 s
theorem r380_48 {L : Nat} {xs : Nat → Int32} {zf : Value} {D : dD} {E : rE} {w : Nat} (hD : rO D E L xs) : ∀ (i3 : Int32) (h : rm_H) (s : rS) (r : rA), RS h s → s380_48 E w i3 s = some r → rx (b380_48 L xs zf D w i3 h) h r := by
  intro i3 h s r hR hh
  unfold s380_48 at hh
  unfold b380_48
  exact rx_I hR hh
def s380_24 (E : rE) (w : Nat) : Nat → Int32 → Int32 → Int32 → rS → Option rA
  | 0, _, _, _, _ => none
  | n + 1, i1, i2, i3, s =>
    if mx_f2 .ge i3 i2 = true then
      s380_48 E w i3 s
    else
      ((E 382 [.ref 36, .int i1] s).bind rxI).bind fun x2 =>
      if mx_f1 .eq x2.1 = true then
        s380_48 E w i3 x2.2
      else
        ((E 383 [.ref 36, .int i1] x2.2).bind rxV).bind fun s8 =>
        s380_24 E w n i1 i2 (i3 + 1) s8
theorem r380_24 {L : Nat} {xs : Nat → Int32} {zf : Value} {D : dD} {E : rE} {w : Nat} (hD : rO D E L xs) : ∀ (n : Nat) (i1 : Int32) (i2 : Int32) (i3 : Int32) (h : rm_H) (s : rS) (r : rA), RS h s → s380_24 E w n i1 i2 i3 s = some r → rx (b380_24 L xs zf D w n (some 36) i1 i2 i3 h) h r := by
  intro n
  induction n with
  | zero =>
    intro i1 i2 i3 h s r hR hh
    cases hh
  | succ n ih =>
    intro i1 i2 i3 h s r hR hh
    rw [s380_24] at hh
    rw [b380_24]
    rcases di hh with ⟨q1, hh⟩ | ⟨q1, hh⟩
    · refine rx_t q1 ?_
      exact r380_48 hD _ _ _ _ hR hh
    · refine rx_f q1 ?_
      obtain ⟨x2, q3, hh⟩ := db hh
      obtain ⟨h4, e5, hR, f6⟩ := rs_vI hD hR q3
      refine rx_c e5 f6 ?_
      rcases di hh with ⟨q7, hh⟩ | ⟨q7, hh⟩
      · refine rx_t q7 ?_
        exact r380_48 hD _ _ _ _ hR hh
      · refine rx_f q7 ?_
        obtain ⟨s8, q9, hh⟩ := db hh
        obtain ⟨h10, e11, hR, f12⟩ := rs_vV hD hR q9
        refine rx_w e11 f12 ?_
        exact ih _ _ _ _ _ _ hR hh
def s380_0 (E : rE) (w : Nat) (i1 : Int32) (i2 : Int32) (s : rS) : Option rA :=
  ((E 381 [.ref 36, .int i1] s).bind rxI).bind fun x1 =>
  if mx_f1 .eq x1.1 = true then
    s380_20 E w x1.2
  else
    if mx_f2 .lt i2 1 = true then
      s380_20 E w x1.2
    else
      if mx_f2 .le i2 200 = true then
        s380_24 E w w i1 i2 0 x1.2
      else
        s380_20 E w x1.2
theorem r380_0 {L : Nat} {xs : Nat → Int32} {zf : Value} {D : dD} {E : rE} {w : Nat} (hD : rO D E L xs) : ∀ (i1 : Int32) (i2 : Int32) (h : rm_H) (s : rS) (r : rA), RS h s → s380_0 E w i1 i2 s = some r → rx (b380_0 L xs zf D w (some 36) i1 i2 h) h r := by
  intro i1 i2 h s r hR hh
  unfold s380_0 at hh
  unfold b380_0
  obtain ⟨x1, q2, hh⟩ := db hh
  obtain ⟨h3, e4, hR, f5⟩ := rs_vI hD hR q2
  refine rx_c e4 f5 ?_
  rcases di hh with ⟨q6, hh⟩ | ⟨q6, hh⟩
  · refine rx_t q6 ?_
    exact r380_20 hD  _ _ _ hR hh
  · refine rx_f q6 ?_
    rcases di hh with ⟨q7, hh⟩ | ⟨q7, hh⟩
    · refine rx_t q7 ?_
      exact r380_20 hD  _ _ _ hR hh
    · refine rx_f q7 ?_
      rcases di hh with ⟨q8, hh⟩ | ⟨q8, hh⟩
      · refine rx_t q8 ?_
        exact r380_24 hD _ _ _ _ _ _ _ hR hh
      · refine rx_f q8 ?_
        exact r380_20 hD  _ _ _ hR hh
def g380 (E : rE) (w : Nat) (As : List Value) (s : rS) : Option rA := match As with
  | [.ref 36, .int i1, .int i2] => s380_0 E w i1 i2 s
  | _ => none
theorem t380 {L : Nat} {xs : Nat → Int32} {zf : Value} {D : dD} {E : rE} {w : Nat} (hD : rO D E L xs) (As : List Value) (h : rm_H) (s : rS) (r : rA) (hR : RS h s) (hh : g380 E w As s = some r) : rx (f380 L xs zf D w As h) h r := by
  unfold g380 at hh
  split at hh
  · unfold f380
    dsimp only
    refine rx_b (a := some 36) rfl ?_
    exact r380_0 hD _ _ _ _ _ hR hh
  · cases hh
def s381_24 (E : rE) (w : Nat) (s0 : Int32) (s : rS) : Option rA :=
  rrI (some .boolean) s0 s
theorem r381_24 {L : Nat} {xs : Nat → Int32} {zf : Value} {D : dD} {E : rE} {w : Nat} (hD : rO D E L xs) : ∀ (s0 : Int32) (h : rm_H) (s : rS) (r : rA), RS h s → s381_24 E w s0 s = some r → rx (b381_24 L xs zf D w s0 h) h r := by
  intro s0 h s r hR hh
  unfold s381_24 at hh
  unfold b381_24
  exact rx_I hR hh
def s381_23 (E : rE) (w : Nat) (s : rS) : Option rA :=
  s381_24 E w 0 s
theorem r381_23 {L : Nat} {xs : Nat → Int32} {zf : Value} {D : dD} {E : rE} {w : Nat} (hD : rO D E L xs) : ∀ (h : rm_H) (s : rS) (r : rA), RS h s → s381_23 E w s = some r → rx (b381_23 L xs zf D w h) h r := by
  intro h s r hR hh
  unfold s381_23 at hh
  unfold b381_23
  exact r381_24 hD _ _ _ _ hR hh
def s381_0 (E : rE) (w : Nat) (i1 : Int32) (s : rS) : Option rA :=
  if mx_f1 .eq (s.1 74) = true then
    s381_23 E w s
  else
    if mx_f1 .lt i1 = true then
      s381_23 E w s
    else
      if mx_f2 .ge i1 (s.1 75) = true then
        s381_23 E w s
      else
        s381_24 E w 1 s
theorem r381_0 {L : Nat} {xs : Nat → Int32} {zf : Value} {D : dD} {E : rE} {w : Nat} (hD : rO D E L xs) : ∀ (i1 : Int32) (h : rm_H) (s : rS) (r : rA), RS h s → s381_0 E w i1 s = some r → rx (b381_0 L xs zf D w (some 36) i1 h) h r := by
  intro i1 h s r hR hh
  unfold s381_0 at hh
  unfold b381_0
  refine rx_b (rs_gI hR 74 _ rfl) ?_
  rcases di hh with ⟨q1, hh⟩ | ⟨q1, hh⟩
  · refine rx_t q1 ?_
    exact r381_23 hD  _ _ _ hR hh
  · refine rx_f q1 ?_
    rcases di hh with ⟨q2, hh⟩ | ⟨q2, hh⟩
    · refine rx_t q2 ?_
      exact r381_23 hD  _ _ _ hR hh
    · refine rx_f q2 ?_
      refine rx_b (rs_gI hR 75 _ rfl) ?_
      rcases di hh with ⟨q3, hh⟩ | ⟨q3, hh⟩
      · refine rx_t q3 ?_
        exact r381_23 hD  _ _ _ hR hh
      · refine rx_f q3 ?_
        exact r381_24 hD _ _ _ _ hR hh
def g381 (E : rE) (w : Nat) (As : List Value) (s : rS) : Option rA := match As with
  | [.ref 36, .int i1] => s381_0 E w i1 s
  | _ => none
theorem t381 {L : Nat} {xs : Nat → Int32} {zf : Value} {D : dD} {E : rE} {w : Nat} (hD : rO D E L xs) (As : List Value) (h : rm_H) (s : rS) (r : rA) (hR : RS h s) (hh : g381 E w As s = some r) : rx (f381 L xs zf D w As h) h r := by
  unfold g381 at hh
  split at hh
  · unfold f381
    dsimp only
    refine rx_b (a := some 36) rfl ?_
    exact r381_0 hD _ _ _ _ hR hh
  · cases hh
def s382_23 (E : rE) (w : Nat) (s0 : Int32) (s : rS) : Option rA :=
  rrI (some .boolean) s0 s
theorem r382_23 {L : Nat} {xs : Nat → Int32} {zf : Value} {D : dD} {E : rE} {w : Nat} (hD : rO D E L xs) : ∀ (s0 : Int32) (h : rm_H) (s : rS) (r : rA), RS h s → s382_23 E w s0 s = some r → rx (b382_23 L xs zf D w s0 h) h r := by
  intro s0 h s r hR hh
  unfold s382_23 at hh
  unfold b382_23
  exact rx_I hR hh
def s382_18 (E : rE) (w : Nat) (s : rS) : Option rA :=
  s382_23 E w 1 s
theorem r382_18 {L : Nat} {xs : Nat → Int32} {zf : Value} {D : dD} {E : rE} {w : Nat} (hD : rO D E L xs) : ∀ (h : rm_H) (s : rS) (r : rA), RS h s → s382_18 E w s = some r → rx (b382_18 L xs zf D w h) h r := by
  intro h s r hR hh
  unfold s382_18 at hh
  unfold b382_18
  exact r382_23 hD _ _ _ _ hR hh
def s382_0 (E : rE) (w : Nat) (i1 : Int32) (s : rS) : Option rA :=
  (rs_aI s 92 i1).bind fun x1 =>
  if mx_f1 .gt x1 = true then
    s382_18 E w s
  else
    (rs_aI s 94 i1).bind fun x4 =>
    if mx_f1 .le x4 = true then
      s382_23 E w 0 s
    else
      s382_18 E w s
theorem r382_0 {L : Nat} {xs : Nat → Int32} {zf : Value} {D : dD} {E : rE} {w : Nat} (hD : rO D E L xs) : ∀ (i1 : Int32) (h : rm_H) (s : rS) (r : rA), RS h s → s382_0 E w i1 s = some r → rx (b382_0 L xs zf D w (some 36) i1 h) h r := by
  intro i1 h s r hR hh
  unfold s382_0 at hh
  unfold b382_0
  refine rx_b (rs_gR hR 91 92 rfl) ?_
  obtain ⟨x1, q2, hh⟩ := db hh
  refine rx_b (rs_aI_ok hR q2) ?_
  rcases di hh with ⟨q3, hh⟩ | ⟨q3, hh⟩
  · refine rx_t q3 ?_
    exact r382_18 hD  _ _ _ hR hh
  · refine rx_f q3 ?_
    refine rx_b (rs_gR hR 93 94 rfl) ?_
    obtain ⟨x4, q5, hh⟩ := db hh
    refine rx_b (rs_aI_ok hR q5) ?_
    rcases di hh with ⟨q6, hh⟩ | ⟨q6, hh⟩
    · refine rx_t q6 ?_
      exact r382_23 hD _ _ _ _ hR hh
    · refine rx_f q6 ?_
      exact r382_18 hD  _ _ _ hR hh
def g382 (E : rE) (w : Nat) (As : List Value) (s : rS) : Option rA := match As with
  | [.ref 36, .int i1] => s382_0 E w i1 s
  | _ => none
theorem t382 {L : Nat} {xs : Nat → Int32} {zf : Value} {D : dD} {E : rE} {w : Nat} (hD : rO D E L xs) (As : List Value) (h : rm_H) (s : rS) (r : rA) (hR : RS h s) (hh : g382 E w As s = some r) : rx (f382 L xs zf D w As h) h r := by
  unfold g382 at hh
  split at hh
  · unfold f382
    dsimp only
    refine rx_b (a := some 36) rfl ?_
    exact r382_0 hD _ _ _ _ hR hh
  · cases hh
def s383_0 (E : rE) (w : Nat) (i1 : Int32) (s : rS) : Option rA :=
  (rs_pI s 80 ((s.1 80) + 1)).bind fun s1 =>
  (rs_aI s1 90 i1).bind fun x6 =>
  (rs_sI s1 90 i1 (x6 + 1)).bind fun s8 =>
  (rs_aI s8 92 i1).bind fun x13 =>
  if mx_f1 .ne x13 = true then
    (rs_aI s8 92 i1).bind fun x16 =>
    (rs_aI s8 99 (((10 * i1) + x16) - 1)).bind fun x18 =>
    ((E 388 [.ref 36, .int i1, .int (((10 * i1) + x16) - 1), .int x18] s8).bind rxI).bind fun x20 =>
    if mx_f1 .ne x20.1 = true then
      (rs_pI x20.2 84 ((x20.2.1 84) + 1)).bind fun s26 =>
      (rs_sI s26 91 i1 x20.1).bind fun s31 =>
      (rs_sI s31 92 i1 0).bind fun s36 =>
      (rs_sI s36 93 i1 0).bind fun s41 =>
      some (none, s41)
    else
      some (none, x20.2)
  else
    ((E 384 [.ref 36, .int i1] s8).bind rxV).bind fun s46 =>
    some (none, s46)
theorem r383_0 {L : Nat} {xs : Nat → Int32} {zf : Value} {D : dD} {E : rE} {w : Nat} (hD : rO D E L xs) : ∀ (i1 : Int32) (h : rm_H) (s : rS) (r : rA), RS h s → s383_0 E w i1 s = some r → rx (b383_0 L xs zf D w (some 36) i1 h) h r := by
  intro i1 h s r hR hh
  unfold s383_0 at hh
  unfold b383_0
  refine rx_b (rs_gI hR 80 _ rfl) ?_
  obtain ⟨s1, q2, hh⟩ := db hh
  obtain ⟨h3, e4, hR, f5⟩ := rs_pI_ok (rs_m80 _ _) (by decide) hR q2
  refine rx_w e4 f5 ?_
  refine rx_b (rs_gR hR 89 90 rfl) ?_
  obtain ⟨x6, q7, hh⟩ := db hh
  refine rx_b (rs_aI_ok hR q7) ?_
  obtain ⟨s8, q9, hh⟩ := db hh
  obtain ⟨h10, e11, hR, f12⟩ := rs_sI_ok hR q9
  refine rx_w e11 f12 ?_
  refine rx_b (rs_gR hR 91 92 rfl) ?_
  obtain ⟨x13, q14, hh⟩ := db hh
  refine rx_b (rs_aI_ok hR q14) ?_
  rcases di hh with ⟨q15, hh⟩ | ⟨q15, hh⟩
  · refine rx_t q15 ?_
    refine rx_b (rs_gR hR 91 92 rfl) ?_
    obtain ⟨x16, q17, hh⟩ := db hh
    refine rx_b (rs_aI_ok hR q17) ?_
    refine rx_b (rs_gR hR 98 99 rfl) ?_
    obtain ⟨x18, q19, hh⟩ := db hh
    refine rx_b (rs_aI_ok hR q19) ?_
    obtain ⟨x20, q21, hh⟩ := db hh
    obtain ⟨h22, e23, hR, f24⟩ := rs_vI hD hR q21
    refine rx_c e23 f24 ?_
    rcases di hh with ⟨q25, hh⟩ | ⟨q25, hh⟩
    · refine rx_t q25 ?_
      refine rx_b (rs_gI hR 84 _ rfl) ?_
      obtain ⟨s26, q27, hh⟩ := db hh
      obtain ⟨h28, e29, hR, f30⟩ := rs_pI_ok (rs_m84 _ _) (by decide) hR q27
      refine rx_w e29 f30 ?_
      refine rx_b (rs_gR hR 90 91 rfl) ?_
      obtain ⟨s31, q32, hh⟩ := db hh
      obtain ⟨h33, e34, hR, f35⟩ := rs_sI_ok hR q32
      refine rx_w e34 f35 ?_
      refine rx_b (rs_gR hR 91 92 rfl) ?_
      obtain ⟨s36, q37, hh⟩ := db hh
      obtain ⟨h38, e39, hR, f40⟩ := rs_sI_ok hR q37
      refine rx_w e39 f40 ?_
      refine rx_b (rs_gR hR 92 93 rfl) ?_
      obtain ⟨s41, q42, hh⟩ := db hh
      obtain ⟨h43, e44, hR, f45⟩ := rs_sI_ok hR q42
      refine rx_w e44 f45 ?_
      cases hh
      exact rx_0 hR
    · refine rx_f q25 ?_
      cases hh
      exact rx_0 hR
  · refine rx_f q15 ?_
    obtain ⟨s46, q47, hh⟩ := db hh
    obtain ⟨h48, e49, hR, f50⟩ := rs_vV hD hR q47
    refine rx_w e49 f50 ?_
    cases hh
    exact rx_0 hR
def g383 (E : rE) (w : Nat) (As : List Value) (s : rS) : Option rA := match As with
  | [.ref 36, .int i1] => s383_0 E w i1 s
  | _ => none
theorem t383 {L : Nat} {xs : Nat → Int32} {zf : Value} {D : dD} {E : rE} {w : Nat} (hD : rO D E L xs) (As : List Value) (h : rm_H) (s : rS) (r : rA) (hR : RS h s) (hh : g383 E w As s = some r) : rx (f383 L xs zf D w As h) h r := by
  unfold g383 at hh
  split at hh
  · unfold f383
    dsimp only
    refine rx_b (a := some 36) rfl ?_
    exact r383_0 hD _ _ _ _ hR hh
  · cases hh
def s384_161 (E : rE) (w : Nat) (K71 : Int32 → Int32 → Int32 → rS → Option rA) (i1 : Int32) (i2 : Int32) (i3 : Int32) (s : rS) : Option rA :=
  K71 i1 i2 (i3 + 1) s
theorem r384_161 {L : Nat} {xs : Nat → Int32} {zf : Value} {D : dD} {E : rE} {w : Nat} {K71 : Int32 → Int32 → Int32 → rS → Option rA} {B71 : Option Nat → Int32 → Int32 → Int32 → rm_H → Option dR} (hD : rO D E L xs) (hK71 : ∀ (i1 : Int32) (i2 : Int32) (i3 : Int32) (h : rm_H) (s : rS) (r : rA), RS h s → K71 i1 i2 i3 s = some r → rx (B71 (some 36) i1 i2 i3 h) h r) : ∀ (i1 : Int32) (i2 : Int32) (i3 : Int32) (h : rm_H) (s : rS) (r : rA), RS h s → s384_161 E w K71 i1 i2 i3 s = some r → rx (b384_161 L xs zf D w B71 (some 36) i1 i2 i3 h) h r := by
  intro i1 i2 i3 h s r hR hh
  unfold s384_161 at hh
  unfold b384_161
  exact hK71 _ _ _ _ _ _ hR hh
def s384_100 (E : rE) (w : Nat) (K71 : Int32 → Int32 → Int32 → rS → Option rA) : Nat → Int32 → Int32 → Int32 → Int32 → rS → Option rA
  | 0, _, _, _, _, _ => none
  | n + 1, i1, i2, i3, i4, s =>
    (rs_aI s 87 i3).bind fun x1 =>
    ((E 373 [.ref 36, .int x1] s).bind rxI).bind fun x3 =>
    if mx_f2 .ge i4 x3.1 = true then
      s384_161 E w K71 i1 i2 i3 x3.2
    else
      (rs_aI x3.2 88 i3).bind fun x9 =>
      (rs_aI x3.2 88 i3).bind fun x11 =>
      (rs_aJ x3.2 107 (((400 * i2) + x11) + i4)).bind fun y13 =>
      (rs_sJ x3.2 96 (((400 * i1) + x9) + i4) y13).bind fun s15 =>
      s384_100 E w K71 n i1 i2 i3 (i4 + 1) s15
theorem r384_100 {L : Nat} {xs : Nat → Int32} {zf : Value} {D : dD} {E : rE} {w : Nat} {K71 : Int32 → Int32 → Int32 → rS → Option rA} {B71 : Option Nat → Int32 → Int32 → Int32 → rm_H → Option dR} (hD : rO D E L xs) (hK71 : ∀ (i1 : Int32) (i2 : Int32) (i3 : Int32) (h : rm_H) (s : rS) (r : rA), RS h s → K71 i1 i2 i3 s = some r → rx (B71 (some 36) i1 i2 i3 h) h r) : ∀ (n : Nat) (i1 : Int32) (i2 : Int32) (i3 : Int32) (i4 : Int32) (h : rm_H) (s : rS) (r : rA), RS h s → s384_100 E w K71 n i1 i2 i3 i4 s = some r → rx (b384_100 L xs zf D w B71 n (some 36) i1 i2 i3 i4 h) h r := by
  intro n
  induction n with
  | zero =>
    intro i1 i2 i3 i4 h s r hR hh
    cases hh
  | succ n ih =>
    intro i1 i2 i3 i4 h s r hR hh
    rw [s384_100] at hh
    rw [b384_100]
    refine rx_b (rs_gR hR 85 87 rfl) ?_
    obtain ⟨x1, q2, hh⟩ := db hh
    refine rx_b (rs_aI_ok hR q2) ?_
    obtain ⟨x3, q4, hh⟩ := db hh
    obtain ⟨h5, e6, hR, f7⟩ := rs_vI hD hR q4
    refine rx_c e6 f7 ?_
    rcases di hh with ⟨q8, hh⟩ | ⟨q8, hh⟩
    · refine rx_t q8 ?_
      exact r384_161 hD hK71 _ _ _ _ _ _ hR hh
    · refine rx_f q8 ?_
      refine rx_b (rs_gR hR 95 96 rfl) ?_
      refine rx_b (rs_gR hR 86 88 rfl) ?_
      obtain ⟨x9, q10, hh⟩ := db hh
      refine rx_b (rs_aI_ok hR q10) ?_
      refine rx_b (rs_gR hR 106 107 rfl) ?_
      refine rx_b (rs_gR hR 86 88 rfl) ?_
      obtain ⟨x11, q12, hh⟩ := db hh
      refine rx_b (rs_aI_ok hR q12) ?_
      obtain ⟨y13, q14, hh⟩ := db hh
      refine rx_b (rs_aJ_ok hR q14) ?_
      obtain ⟨s15, q16, hh⟩ := db hh
      obtain ⟨h17, e18, hR, f19⟩ := rs_sJ_ok hR q16
      refine rx_w e18 f19 ?_
      exact ih _ _ _ _ _ _ _ hR hh
def s384_188 (E : rE) (w : Nat) : Nat → Int32 → Int32 → Int32 → Int32 → rS → Option rA
  | 0, _, _, _, _, _ => none
  | n + 1, i1, i2, i3, i4, s =>
    (rs_aI s 77 (i3 + 1)).bind fun x1 =>
    (rs_aI s 77 i3).bind fun x3 =>
    if mx_f2 .ge i4 (x1 - x3) = true then
      some (none, s)
    else
      (rs_aJ s 106 ((6 * i2) + i4)).bind fun y6 =>
      (rs_sJ s 101 ((160 * i1) + i4) y6).bind fun s8 =>
      s384_188 E w n i1 i2 i3 (i4 + 1) s8
theorem r384_188 {L : Nat} {xs : Nat → Int32} {zf : Value} {D : dD} {E : rE} {w : Nat} (hD : rO D E L xs) : ∀ (n : Nat) (i1 : Int32) (i2 : Int32) (i3 : Int32) (i4 : Int32) (h : rm_H) (s : rS) (r : rA), RS h s → s384_188 E w n i1 i2 i3 i4 s = some r → rx (b384_188 L xs zf D w n (some 36) i1 i2 i3 i4 h) h r := by
  intro n
  induction n with
  | zero =>
    intro i1 i2 i3 i4 h s r hR hh
    cases hh
  | succ n ih =>
    intro i1 i2 i3 i4 h s r hR hh
    rw [s384_188] at hh
    rw [b384_188]
    refine rx_b (rs_gR hR 50 77 rfl) ?_
    obtain ⟨x1, q2, hh⟩ := db hh
    refine rx_b (rs_aI_ok hR q2) ?_
    refine rx_b (rs_gR hR 50 77 rfl) ?_
    obtain ⟨x3, q4, hh⟩ := db hh
    refine rx_b (rs_aI_ok hR q4) ?_
    rcases di hh with ⟨q5, hh⟩ | ⟨q5, hh⟩
    · refine rx_t q5 ?_
      cases hh
      exact rx_0 hR
    · refine rx_f q5 ?_
      refine rx_b (rs_gR hR 100 101 rfl) ?_
      refine rx_b (rs_gR hR 105 106 rfl) ?_
      obtain ⟨y6, q7, hh⟩ := db hh
      refine rx_b (rs_aJ_ok hR q7) ?_
      obtain ⟨s8, q9, hh⟩ := db hh
      obtain ⟨h10, e11, hR, f12⟩ := rs_sJ_ok hR q9
      refine rx_w e11 f12 ?_
      exact ih _ _ _ _ _ _ _ hR hh
def s384_71 (E : rE) (w : Nat) : Nat → Int32 → Int32 → Int32 → rS → Option rA
  | 0, _, _, _, _ => none
  | n + 1, i1, i2, i3, s =>
    if mx_f2 .gt i3 (s.1 76) = true then
      (rs_aI s 103 i2).bind fun x2 =>
      ((E 376 [.int 3, .int i1] s).bind rxJ).bind fun y4 =>
      ((E 385 [.ref 36, .int i1, .int x2, .long y4.1] y4.2).bind rxV).bind fun s9 =>
      s384_188 E w w i1 i2 x2 0 s9
    else
      (rs_aB s 105 ((401 * i2) + i3)).bind fun x14 =>
      if mx_f1 .ne x14 = true then
        s384_100 E w (s384_71 E w n) w i1 i2 i3 0 s
      else
        s384_161 E w (s384_71 E w n) i1 i2 i3 s
theorem r384_71 {L : Nat} {xs : Nat → Int32} {zf : Value} {D : dD} {E : rE} {w : Nat} (hD : rO D E L xs) : ∀ (n : Nat) (i1 : Int32) (i2 : Int32) (i3 : Int32) (h : rm_H) (s : rS) (r : rA), RS h s → s384_71 E w n i1 i2 i3 s = some r → rx (b384_71 L xs zf D w n (some 36) i1 i2 i3 h) h r := by
  intro n
  induction n with
  | zero =>
    intro i1 i2 i3 h s r hR hh
    cases hh
  | succ n ih =>
    intro i1 i2 i3 h s r hR hh
    rw [s384_71] at hh
    rw [b384_71]
    refine rx_b (rs_gI hR 76 _ rfl) ?_
    rcases di hh with ⟨q1, hh⟩ | ⟨q1, hh⟩
    · refine rx_t q1 ?_
      refine rx_b (rs_gR hR 102 103 rfl) ?_
      obtain ⟨x2, q3, hh⟩ := db hh
      refine rx_b (rs_aI_ok hR q3) ?_
      obtain ⟨y4, q5, hh⟩ := db hh
      obtain ⟨h6, e7, hR, f8⟩ := rs_cJ hD hR q5
      refine rx_c e7 f8 ?_
      obtain ⟨s9, q10, hh⟩ := db hh
      obtain ⟨h11, e12, hR, f13⟩ := rs_vV hD hR q10
      refine rx_w e12 f13 ?_
      exact r384_188 hD _ _ _ _ _ _ _ _ hR hh
    · refine rx_f q1 ?_
      refine rx_b (rs_gR hR 104 105 rfl) ?_
      obtain ⟨x14, q15, hh⟩ := db hh
      refine rx_b (rs_aB_ok hR q15) ?_
      rcases di hh with ⟨q16, hh⟩ | ⟨q16, hh⟩
      · refine rx_t q16 ?_
        exact r384_100 hD ih _ _ _ _ _ _ _ _ hR hh
      · refine rx_f q16 ?_
        exact r384_161 hD ih _ _ _ _ _ _ hR hh
def s384_22 (E : rE) (w : Nat) : Nat → Int32 → Int32 → Int32 → rS → Option rA
  | 0, _, _, _, _ => none
  | n + 1, i1, i2, i3, s =>
    (rs_aI s 94 i1).bind fun x1 =>
    if mx_f2 .ge i3 x1 = true then
      (rs_sB s 104 i2 0).bind fun s4 =>
      s384_71 E w w i1 i2 1 s4
    else
      (rs_aI s 102 (((6 * i1) + i3) + 1)).bind fun x9 =>
      (rs_sI s 102 ((6 * i1) + i3) x9).bind fun s11 =>
      s384_22 E w n i1 i2 (i3 + 1) s11
theorem r384_22 {L : Nat} {xs : Nat → Int32} {zf : Value} {D : dD} {E : rE} {w : Nat} (hD : rO D E L xs) : ∀ (n : Nat) (i1 : Int32) (i2 : Int32) (i3 : Int32) (h : rm_H) (s : rS) (r : rA), RS h s → s384_22 E w n i1 i2 i3 s = some r → rx (b384_22 L xs zf D w n (some 36) i1 i2 i3 h) h r := by
  intro n
  induction n with
  | zero =>
    intro i1 i2 i3 h s r hR hh
    cases hh
  | succ n ih =>
    intro i1 i2 i3 h s r hR hh
    rw [s384_22] at hh
    rw [b384_22]
    refine rx_b (rs_gR hR 93 94 rfl) ?_
    obtain ⟨x1, q2, hh⟩ := db hh
    refine rx_b (rs_aI_ok hR q2) ?_
    rcases di hh with ⟨q3, hh⟩ | ⟨q3, hh⟩
    · refine rx_t q3 ?_
      refine rx_b (rs_gR hR 103 104 rfl) ?_
      obtain ⟨s4, q5, hh⟩ := db hh
      obtain ⟨h6, e7, hR, f8⟩ := rs_sB_ok hR q5
      refine rx_w e7 f8 ?_
      exact r384_71 hD _ _ _ _ _ _ _ hR hh
    · refine rx_f q3 ?_
      refine rx_b (rs_gR hR 101 102 rfl) ?_
      refine rx_b (rs_gR hR 101 102 rfl) ?_
      obtain ⟨x9, q10, hh⟩ := db hh
      refine rx_b (rs_aI_ok hR q10) ?_
      obtain ⟨s11, q12, hh⟩ := db hh
      obtain ⟨h13, e14, hR, f15⟩ := rs_sI_ok hR q12
      refine rx_w e14 f15 ?_
      exact ih _ _ _ _ _ _ hR hh
def s384_0 (E : rE) (w : Nat) (i1 : Int32) (s : rS) : Option rA :=
  (rs_aI s 102 (6 * i1)).bind fun x1 =>
  (rs_aI s 94 i1).bind fun x3 =>
  (rs_sI s 94 i1 (x3 - 1)).bind fun s5 =>
  s384_22 E w w i1 x1 0 s5
theorem r384_0 {L : Nat} {xs : Nat → Int32} {zf : Value} {D : dD} {E : rE} {w : Nat} (hD : rO D E L xs) : ∀ (i1 : Int32) (h : rm_H) (s : rS) (r : rA), RS h s → s384_0 E w i1 s = some r → rx (b384_0 L xs zf D w (some 36) i1 h) h r := by
  intro i1 h s r hR hh
  unfold s384_0 at hh
  unfold b384_0
  refine rx_b (rs_gR hR 101 102 rfl) ?_
  obtain ⟨x1, q2, hh⟩ := db hh
  refine rx_b (rs_aI_ok hR q2) ?_
  refine rx_b (rs_gR hR 93 94 rfl) ?_
  obtain ⟨x3, q4, hh⟩ := db hh
  refine rx_b (rs_aI_ok hR q4) ?_
  obtain ⟨s5, q6, hh⟩ := db hh
  obtain ⟨h7, e8, hR, f9⟩ := rs_sI_ok hR q6
  refine rx_w e8 f9 ?_
  exact r384_22 hD _ _ _ _ _ _ _ hR hh
def g384 (E : rE) (w : Nat) (As : List Value) (s : rS) : Option rA := match As with
  | [.ref 36, .int i1] => s384_0 E w i1 s
  | _ => none
theorem t384 {L : Nat} {xs : Nat → Int32} {zf : Value} {D : dD} {E : rE} {w : Nat} (hD : rO D E L xs) (As : List Value) (h : rm_H) (s : rS) (r : rA) (hR : RS h s) (hh : g384 E w As s = some r) : rx (f384 L xs zf D w As h) h r := by
  unfold g384 at hh
  split at hh
  · unfold f384
    dsimp only
    refine rx_b (a := some 36) rfl ?_
    exact r384_0 hD _ _ _ _ hR hh
  · cases hh
def s385_89 (E : rE) (w : Nat) (s0 : Int32) (s1 : Int32) (s : rS) : Option rA :=
  (rs_sI s 99 s1 s0).bind fun s1 =>
  some (none, s1)
theorem r385_89 {L : Nat} {xs : Nat → Int32} {zf : Value} {D : dD} {E : rE} {w : Nat} (hD : rO D E L xs) : ∀ (s0 : Int32) (s1 : Int32) (h : rm_H) (s : rS) (r : rA), RS h s → s385_89 E w s0 s1 s = some r → rx (b385_89 L xs zf D w s0 s1 (some 99) h) h r := by
  intro s0 s1 h s r hR hh
  unfold s385_89 at hh
  unfold b385_89
  obtain ⟨s1, q2, hh⟩ := db hh
  obtain ⟨h3, e4, hR, f5⟩ := rs_sI_ok hR q2
  refine rx_w e4 f5 ?_
  cases hh
  exact rx_0 hR
def s385_0 (E : rE) (w : Nat) (i1 : Int32) (i2 : Int32) (j3 : Int64) (s : rS) : Option rA :=
  (rs_aI s 92 i1).bind fun x1 =>
  (rs_aI s 92 i1).bind fun x3 =>
  (rs_sI s 92 i1 (x3 + 1)).bind fun s5 =>
  (rs_sI s5 98 ((10 * i1) + x1) i2).bind fun s10 =>
  (rs_sJ s10 100 ((10 * i1) + x1) j3).bind fun s15 =>
  (rs_aI s15 76 i2).bind fun x20 =>
  (rs_aI s15 45 x20).bind fun x22 =>
  (rs_aI s15 45 x22).bind fun x24 =>
  if mx_f1 .ne x24 = true then
    (rs_aI s15 45 x20).bind fun x27 =>
    (rs_aI s15 45 x27).bind fun x29 =>
    ((E 386 [.ref 36, .int x29] s15).bind rxI).bind fun x31 =>
    s385_89 E w x31.1 ((10 * i1) + x1) x31.2
  else
    s385_89 E w x20 ((10 * i1) + x1) s15
theorem r385_0 {L : Nat} {xs : Nat → Int32} {zf : Value} {D : dD} {E : rE} {w : Nat} (hD : rO D E L xs) : ∀ (i1 : Int32) (i2 : Int32) (j3 : Int64) (h : rm_H) (s : rS) (r : rA), RS h s → s385_0 E w i1 i2 j3 s = some r → rx (b385_0 L xs zf D w (some 36) i1 i2 j3 h) h r := by
  intro i1 i2 j3 h s r hR hh
  unfold s385_0 at hh
  unfold b385_0
  refine rx_b (rs_gR hR 91 92 rfl) ?_
  obtain ⟨x1, q2, hh⟩ := db hh
  refine rx_b (rs_aI_ok hR q2) ?_
  refine rx_b (rs_gR hR 91 92 rfl) ?_
  obtain ⟨x3, q4, hh⟩ := db hh
  refine rx_b (rs_aI_ok hR q4) ?_
  obtain ⟨s5, q6, hh⟩ := db hh
  obtain ⟨h7, e8, hR, f9⟩ := rs_sI_ok hR q6
  refine rx_w e8 f9 ?_
  refine rx_b (rs_gR hR 97 98 rfl) ?_
  obtain ⟨s10, q11, hh⟩ := db hh
  obtain ⟨h12, e13, hR, f14⟩ := rs_sI_ok hR q11
  refine rx_w e13 f14 ?_
  refine rx_b (rs_gR hR 99 100 rfl) ?_
  obtain ⟨s15, q16, hh⟩ := db hh
  obtain ⟨h17, e18, hR, f19⟩ := rs_sJ_ok hR q16
  refine rx_w e18 f19 ?_
  refine rx_b (rs_gR hR 49 76 rfl) ?_
  obtain ⟨x20, q21, hh⟩ := db hh
  refine rx_b (rs_aI_ok hR q21) ?_
  refine rx_b (rs_gR hR 98 99 rfl) ?_
  refine rx_b (rs_gR hR 12 45 rfl) ?_
  refine rx_b (rs_gR hR 12 45 rfl) ?_
  obtain ⟨x22, q23, hh⟩ := db hh
  refine rx_b (rs_aI_ok hR q23) ?_
  obtain ⟨x24, q25, hh⟩ := db hh
  refine rx_b (rs_aI_ok hR q25) ?_
  rcases di hh with ⟨q26, hh⟩ | ⟨q26, hh⟩
  · refine rx_t q26 ?_
    refine rx_b (rs_gR hR 12 45 rfl) ?_
    refine rx_b (rs_gR hR 12 45 rfl) ?_
    obtain ⟨x27, q28, hh⟩ := db hh
    refine rx_b (rs_aI_ok hR q28) ?_
    obtain ⟨x29, q30, hh⟩ := db hh
    refine rx_b (rs_aI_ok hR q30) ?_
    obtain ⟨x31, q32, hh⟩ := db hh
    obtain ⟨h33, e34, hR, f35⟩ := rs_vI hD hR q32
    refine rx_c e34 f35 ?_
    exact r385_89 hD _ _ _ _ _ hR hh
  · refine rx_f q26 ?_
    exact r385_89 hD _ _ _ _ _ hR hh
def g385 (E : rE) (w : Nat) (As : List Value) (s : rS) : Option rA := match As with
  | [.ref 36, .int i1, .int i2, .long j3] => s385_0 E w i1 i2 j3 s
  | _ => none
theorem t385 {L : Nat} {xs : Nat → Int32} {zf : Value} {D : dD} {E : rE} {w : Nat} (hD : rO D E L xs) (As : List Value) (h : rm_H) (s : rS) (r : rA) (hR : RS h s) (hh : g385 E w As s = some r) : rx (f385 L xs zf D w As h) h r := by
  unfold g385 at hh
  split at hh
  · unfold f385
    dsimp only
    refine rx_b (a := some 36) rfl ?_
    exact r385_0 hD _ _ _ _ _ _ hR hh
  · cases hh
def s386_36 (E : rE) (w : Nat) (K4 : Int32 → Int32 → rS → Option rA) (i3 : Int32) (s0 : Int32) (s : rS) : Option rA :=
  K4 s0 i3 s
theorem r386_36 {L : Nat} {xs : Nat → Int32} {zf : Value} {D : dD} {E : rE} {w : Nat} {K4 : Int32 → Int32 → rS → Option rA} {B4 : Option Nat → Int32 → Int32 → rm_H → Option dR} (hD : rO D E L xs) (hK4 : ∀ (i2 : Int32) (i3 : Int32) (h : rm_H) (s : rS) (r : rA), RS h s → K4 i2 i3 s = some r → rx (B4 (some 36) i2 i3 h) h r) : ∀ (i3 : Int32) (s0 : Int32) (h : rm_H) (s : rS) (r : rA), RS h s → s386_36 E w K4 i3 s0 s = some r → rx (b386_36 L xs zf D w B4 (some 36) i3 s0 h) h r := by
  intro i3 s0 h s r hR hh
  unfold s386_36 at hh
  unfold b386_36
  exact hK4 _ _ _ _ _ hR hh
def s386_25 (E : rE) (w : Nat) (K4 : Int32 → Int32 → rS → Option rA) (i2 : Int32) (i4 : Int32) (s0 : Int32) (s : rS) : Option rA :=
  if mx_f1 .eq s0 = true then
    s386_36 E w K4 s0 i2 s
  else
    s386_36 E w K4 s0 i4 s
theorem r386_25 {L : Nat} {xs : Nat → Int32} {zf : Value} {D : dD} {E : rE} {w : Nat} {K4 : Int32 → Int32 → rS → Option rA} {B4 : Option Nat → Int32 → Int32 → rm_H → Option dR} (hD : rO D E L xs) (hK4 : ∀ (i2 : Int32) (i3 : Int32) (h : rm_H) (s : rS) (r : rA), RS h s → K4 i2 i3 s = some r → rx (B4 (some 36) i2 i3 h) h r) : ∀ (i2 : Int32) (i4 : Int32) (s0 : Int32) (h : rm_H) (s : rS) (r : rA), RS h s → s386_25 E w K4 i2 i4 s0 s = some r → rx (b386_25 L xs zf D w B4 (some 36) i2 i4 s0 h) h r := by
  intro i2 i4 s0 h s r hR hh
  unfold s386_25 at hh
  unfold b386_25
  rcases di hh with ⟨q1, hh⟩ | ⟨q1, hh⟩
  · refine rx_t q1 ?_
    exact r386_36 hD hK4 _ _ _ _ _ hR hh
  · refine rx_f q1 ?_
    exact r386_36 hD hK4 _ _ _ _ _ hR hh
def s386_4 (E : rE) (w : Nat) : Nat → Int32 → Int32 → rS → Option rA
  | 0, _, _, _ => none
  | n + 1, i2, i3, s =>
    if mx_f1 .eq i3 = true then
      rrI (some .int) i2 s
    else
      ((E 387 [.ref 36, .int i2] s).bind rxI).bind fun x2 =>
      if mx_f1 .eq x2.1 = true then
        s386_25 E w (s386_4 E w n) i2 x2.1 0 x2.2
      else
        s386_25 E w (s386_4 E w n) i2 x2.1 1 x2.2
theorem r386_4 {L : Nat} {xs : Nat → Int32} {zf : Value} {D : dD} {E : rE} {w : Nat} (hD : rO D E L xs) : ∀ (n : Nat) (i2 : Int32) (i3 : Int32) (h : rm_H) (s : rS) (r : rA), RS h s → s386_4 E w n i2 i3 s = some r → rx (b386_4 L xs zf D w n (some 36) i2 i3 h) h r := by
  intro n
  induction n with
  | zero =>
    intro i2 i3 h s r hR hh
    cases hh
  | succ n ih =>
    intro i2 i3 h s r hR hh
    rw [s386_4] at hh
    rw [b386_4]
    rcases di hh with ⟨q1, hh⟩ | ⟨q1, hh⟩
    · refine rx_t q1 ?_
      exact rx_I hR hh
    · refine rx_f q1 ?_
      obtain ⟨x2, q3, hh⟩ := db hh
      obtain ⟨h4, e5, hR, f6⟩ := rs_vI hD hR q3
      refine rx_c e5 f6 ?_
      rcases di hh with ⟨q7, hh⟩ | ⟨q7, hh⟩
      · refine rx_t q7 ?_
        exact r386_25 hD ih _ _ _ _ _ _ hR hh
      · refine rx_f q7 ?_
        exact r386_25 hD ih _ _ _ _ _ _ hR hh
def s386_0 (E : rE) (w : Nat) (i1 : Int32) (s : rS) : Option rA :=
  s386_4 E w w i1 1 s
theorem r386_0 {L : Nat} {xs : Nat → Int32} {zf : Value} {D : dD} {E : rE} {w : Nat} (hD : rO D E L xs) : ∀ (i1 : Int32) (h : rm_H) (s : rS) (r : rA), RS h s → s386_0 E w i1 s = some r → rx (b386_0 L xs zf D w (some 36) i1 h) h r := by
  intro i1 h s r hR hh
  unfold s386_0 at hh
  unfold b386_0
  exact r386_4 hD _ _ _ _ _ _ hR hh
def g386 (E : rE) (w : Nat) (As : List Value) (s : rS) : Option rA := match As with
  | [.ref 36, .int i1] => s386_0 E w i1 s
  | _ => none
theorem t386 {L : Nat} {xs : Nat → Int32} {zf : Value} {D : dD} {E : rE} {w : Nat} (hD : rO D E L xs) (As : List Value) (h : rm_H) (s : rS) (r : rA) (hR : RS h s) (hh : g386 E w As s = some r) : rx (f386 L xs zf D w As h) h r := by
  unfold g386 at hh
  split at hh
  · unfold f386
    dsimp only
    refine rx_b (a := some 36) rfl ?_
    exact r386_0 hD _ _ _ _ hR hh
  · cases hh
