def s286_71 (E : rE) (w : Nat) (K18 : Int32 → Int32 → Int32 → Int32 → Int32 → Int32 → rS → Option rA) (i1 : Int32) (i2 : Int32) (i3 : Int32) (i4 : Int32) (i5 : Int32) (i6 : Int32) (s0 : Int32) (s : rS) : Option rA :=
  (rs_sI s 37 ((s.1 2) + i6) ((s0 >>> ((24 - (8 * (i6 - i6 / 4 * 4))) &&& 31)) &&& 255)).bind fun s1 =>
  K18 i1 i2 i3 i4 i5 (i6 + 1) s1
theorem r286_71 {L : Nat} {xs : Nat → Int32} {zf : Value} {D : dD} {E : rE} {w : Nat} {K18 : Int32 → Int32 → Int32 → Int32 → Int32 → Int32 → rS → Option rA} {B18 : Option Nat → Int32 → Int32 → Int32 → Int32 → Int32 → Int32 → rm_H → Option dR} (hD : rO D E L xs) (hK18 : ∀ (i1 : Int32) (i2 : Int32) (i3 : Int32) (i4 : Int32) (i5 : Int32) (i6 : Int32) (h : rm_H) (s : rS) (r : rA), RS h s → K18 i1 i2 i3 i4 i5 i6 s = some r → rx (B18 (some 36) i1 i2 i3 i4 i5 i6 h) h r) : ∀ (i1 : Int32) (i2 : Int32) (i3 : Int32) (i4 : Int32) (i5 : Int32) (i6 : Int32) (s0 : Int32) (h : rm_H) (s : rS) (r : rA), RS h s → s286_71 E w K18 i1 i2 i3 i4 i5 i6 s0 s = some r → rx (b286_71 L xs zf D w B18 (some 36) i1 i2 i3 i4 i5 i6 s0 h) h r := by
  intro i1 i2 i3 i4 i5 i6 s0 h s r hR hh
  unfold s286_71 at hh
  unfold b286_71
  refine rx_b (rs_gR hR 0 37 rfl) ?_
  refine rx_b (rs_gI hR 2 _ rfl) ?_
  obtain ⟨s1, q2, hh⟩ := db hh
  obtain ⟨h3, e4, hR, f5⟩ := rs_sI_ok hR q2
  refine rx_w e4 f5 ?_
  exact hK18 _ _ _ _ _ _ _ _ _ hR hh
def s286_18 (E : rE) (w : Nat) : Nat → Int32 → Int32 → Int32 → Int32 → Int32 → Int32 → rS → Option rA
  | 0, _, _, _, _, _, _, _ => none
  | n + 1, i1, i2, i3, i4, i5, i6, s =>
    if mx_f2 .ge i6 20 = true then
      (rs_pI s 2 ((s.1 2) + 20)).bind fun s2 =>
      rrI (some .int) (s2.1 2) s2
    else
      if mx_f2 .ge i6 4 = true then
        if mx_f2 .ge i6 8 = true then
          if mx_f2 .ge i6 12 = true then
            if mx_f2 .ge i6 16 = true then
              s286_71 E w (s286_18 E w n) i1 i2 i3 i4 i5 i6 i5 s
            else
              s286_71 E w (s286_18 E w n) i1 i2 i3 i4 i5 i6 i4 s
          else
            s286_71 E w (s286_18 E w n) i1 i2 i3 i4 i5 i6 i3 s
        else
          s286_71 E w (s286_18 E w n) i1 i2 i3 i4 i5 i6 i2 s
      else
        s286_71 E w (s286_18 E w n) i1 i2 i3 i4 i5 i6 i1 s
theorem r286_18 {L : Nat} {xs : Nat → Int32} {zf : Value} {D : dD} {E : rE} {w : Nat} (hD : rO D E L xs) : ∀ (n : Nat) (i1 : Int32) (i2 : Int32) (i3 : Int32) (i4 : Int32) (i5 : Int32) (i6 : Int32) (h : rm_H) (s : rS) (r : rA), RS h s → s286_18 E w n i1 i2 i3 i4 i5 i6 s = some r → rx (b286_18 L xs zf D w n (some 36) i1 i2 i3 i4 i5 i6 h) h r := by
  intro n
  induction n with
  | zero =>
    intro i1 i2 i3 i4 i5 i6 h s r hR hh
    cases hh
  | succ n ih =>
    intro i1 i2 i3 i4 i5 i6 h s r hR hh
    rw [s286_18] at hh
    rw [b286_18]
    rcases di hh with ⟨q1, hh⟩ | ⟨q1, hh⟩
    · refine rx_t q1 ?_
      refine rx_b (rs_gI hR 2 _ rfl) ?_
      obtain ⟨s2, q3, hh⟩ := db hh
      obtain ⟨h4, e5, hR, f6⟩ := rs_pI_ok (rs_m2 _ _) (by decide) hR q3
      refine rx_w e5 f6 ?_
      refine rx_b (rs_gI hR 2 _ rfl) ?_
      exact rx_I hR hh
    · refine rx_f q1 ?_
      rcases di hh with ⟨q7, hh⟩ | ⟨q7, hh⟩
      · refine rx_t q7 ?_
        rcases di hh with ⟨q8, hh⟩ | ⟨q8, hh⟩
        · refine rx_t q8 ?_
          rcases di hh with ⟨q9, hh⟩ | ⟨q9, hh⟩
          · refine rx_t q9 ?_
            rcases di hh with ⟨q10, hh⟩ | ⟨q10, hh⟩
            · refine rx_t q10 ?_
              exact r286_71 hD ih _ _ _ _ _ _ _ _ _ _ hR hh
            · refine rx_f q10 ?_
              exact r286_71 hD ih _ _ _ _ _ _ _ _ _ _ hR hh
          · refine rx_f q9 ?_
            exact r286_71 hD ih _ _ _ _ _ _ _ _ _ _ hR hh
        · refine rx_f q8 ?_
          exact r286_71 hD ih _ _ _ _ _ _ _ _ _ _ hR hh
      · refine rx_f q7 ?_
        exact r286_71 hD ih _ _ _ _ _ _ _ _ _ _ hR hh
def s286_0 (E : rE) (w : Nat) (i1 : Int32) (i2 : Int32) (i3 : Int32) (i4 : Int32) (i5 : Int32) (s : rS) : Option rA :=
  if mx_f2 .le ((s.1 2) + 20) 2000 = true then
    s286_18 E w w i1 i2 i3 i4 i5 0 s
  else
    rrI (some .int) (-1) s
theorem r286_0 {L : Nat} {xs : Nat → Int32} {zf : Value} {D : dD} {E : rE} {w : Nat} (hD : rO D E L xs) : ∀ (i1 : Int32) (i2 : Int32) (i3 : Int32) (i4 : Int32) (i5 : Int32) (h : rm_H) (s : rS) (r : rA), RS h s → s286_0 E w i1 i2 i3 i4 i5 s = some r → rx (b286_0 L xs zf D w (some 36) i1 i2 i3 i4 i5 h) h r := by
  intro i1 i2 i3 i4 i5 h s r hR hh
  unfold s286_0 at hh
  unfold b286_0
  refine rx_b (rs_gI hR 2 _ rfl) ?_
  rcases di hh with ⟨q1, hh⟩ | ⟨q1, hh⟩
  · refine rx_t q1 ?_
    exact r286_18 hD _ _ _ _ _ _ _ _ _ _ hR hh
  · refine rx_f q1 ?_
    exact rx_I hR hh
def g286 (E : rE) (w : Nat) (As : List Value) (s : rS) : Option rA := match As with
  | [.ref 36, .int i1, .int i2, .int i3, .int i4, .int i5] => s286_0 E w i1 i2 i3 i4 i5 s
  | _ => none
theorem t286 {L : Nat} {xs : Nat → Int32} {zf : Value} {D : dD} {E : rE} {w : Nat} (hD : rO D E L xs) (As : List Value) (h : rm_H) (s : rS) (r : rA) (hR : RS h s) (hh : g286 E w As s = some r) : rx (f286 L xs zf D w As h) h r := by
  unfold g286 at hh
  split at hh
  · unfold f286
    dsimp only
    refine rx_b (a := some 36) rfl ?_
    exact r286_0 hD _ _ _ _ _ _ _ _ hR hh
  · cases hh
def s287_12 (E : rE) (w : Nat) (s : rS) : Option rA :=
  rrI (some .int) (-1) s
theorem r287_12 {L : Nat} {xs : Nat → Int32} {zf : Value} {D : dD} {E : rE} {w : Nat} (hD : rO D E L xs) : ∀ (h : rm_H) (s : rS) (r : rA), RS h s → s287_12 E w s = some r → rx (b287_12 L xs zf D w h) h r := by
  intro h s r hR hh
  unfold s287_12 at hh
  unfold b287_12
  exact rx_I hR hh
def s287_0 (E : rE) (w : Nat) (i1 : Int32) (s : rS) : Option rA :=
  if mx_f1 .lt i1 = true then
    s287_12 E w s
  else
    if mx_f2 .le i1 (s.1 2) = true then
      (rs_pI s 2 i1).bind fun s3 =>
      rrI (some .int) i1 s3
    else
      s287_12 E w s
theorem r287_0 {L : Nat} {xs : Nat → Int32} {zf : Value} {D : dD} {E : rE} {w : Nat} (hD : rO D E L xs) : ∀ (i1 : Int32) (h : rm_H) (s : rS) (r : rA), RS h s → s287_0 E w i1 s = some r → rx (b287_0 L xs zf D w (some 36) i1 h) h r := by
  intro i1 h s r hR hh
  unfold s287_0 at hh
  unfold b287_0
  rcases di hh with ⟨q1, hh⟩ | ⟨q1, hh⟩
  · refine rx_t q1 ?_
    exact r287_12 hD  _ _ _ hR hh
  · refine rx_f q1 ?_
    refine rx_b (rs_gI hR 2 _ rfl) ?_
    rcases di hh with ⟨q2, hh⟩ | ⟨q2, hh⟩
    · refine rx_t q2 ?_
      obtain ⟨s3, q4, hh⟩ := db hh
      obtain ⟨h5, e6, hR, f7⟩ := rs_pI_ok (rs_m2 _ _) (by decide) hR q4
      refine rx_w e6 f7 ?_
      exact rx_I hR hh
    · refine rx_f q2 ?_
      exact r287_12 hD  _ _ _ hR hh
def g287 (E : rE) (w : Nat) (As : List Value) (s : rS) : Option rA := match As with
  | [.ref 36, .int i1] => s287_0 E w i1 s
  | _ => none
theorem t287 {L : Nat} {xs : Nat → Int32} {zf : Value} {D : dD} {E : rE} {w : Nat} (hD : rO D E L xs) (As : List Value) (h : rm_H) (s : rS) (r : rA) (hR : RS h s) (hh : g287 E w As s = some r) : rx (f287 L xs zf D w As h) h r := by
  unfold g287 at hh
  split at hh
  · unfold f287
    dsimp only
    refine rx_b (a := some 36) rfl ?_
    exact r287_0 hD _ _ _ _ hR hh
  · cases hh
def s289_27 (E : rE) (w : Nat) (s : rS) : Option rA :=
  rrI (some .int) (-1) s
theorem r289_27 {L : Nat} {xs : Nat → Int32} {zf : Value} {D : dD} {E : rE} {w : Nat} (hD : rO D E L xs) : ∀ (h : rm_H) (s : rS) (r : rA), RS h s → s289_27 E w s = some r → rx (b289_27 L xs zf D w h) h r := by
  intro h s r hR hh
  unfold s289_27 at hh
  unfold b289_27
  exact rx_I hR hh
def s289_46 (E : rE) (w : Nat) (s0 : Int32) (s : rS) : Option rA :=
  rrI (some .int) s0 s
theorem r289_46 {L : Nat} {xs : Nat → Int32} {zf : Value} {D : dD} {E : rE} {w : Nat} (hD : rO D E L xs) : ∀ (s0 : Int32) (h : rm_H) (s : rS) (r : rA), RS h s → s289_46 E w s0 s = some r → rx (b289_46 L xs zf D w s0 h) h r := by
  intro s0 h s r hR hh
  unfold s289_46 at hh
  unfold b289_46
  exact rx_I hR hh
def s289_84 (E : rE) (w : Nat) (s0 : Int32) (s : rS) : Option rA :=
  rrI (some .int) s0 s
theorem r289_84 {L : Nat} {xs : Nat → Int32} {zf : Value} {D : dD} {E : rE} {w : Nat} (hD : rO D E L xs) : ∀ (s0 : Int32) (h : rm_H) (s : rS) (r : rA), RS h s → s289_84 E w s0 s = some r → rx (b289_84 L xs zf D w s0 h) h r := by
  intro s0 h s r hR hh
  unfold s289_84 at hh
  unfold b289_84
  exact rx_I hR hh
def s289_0 (E : rE) (w : Nat) (i1 : Int32) (i2 : Int32) (i3 : Int32) (s : rS) : Option rA :=
  if mx_f1 .lt i1 = true then
    s289_27 E w s
  else
    if mx_f2 .gt i1 3 = true then
      s289_27 E w s
    else
      if mx_f1 .lt i2 = true then
        s289_27 E w s
      else
        if mx_f2 .gt i2 4 = true then
          s289_27 E w s
        else
          if mx_f1 .lt i3 = true then
            s289_27 E w s
          else
            if mx_f2 .le i3 4 = true then
              if mx_f1 .ne i1 = true then
                if mx_f2 .ne i1 1 = true then
                  if mx_f2 .ne i1 2 = true then
                    ((E 293 [.int i2, .int i3] s).bind rxI).bind fun x10 =>
                    if mx_f1 .eq x10.1 = true then
                      s289_84 E w 0 x10.2
                    else
                      s289_84 E w 1 x10.2
                  else
                    ((E 292 [.int i2, .int i3] s).bind rxI).bind fun x16 =>
                    s289_84 E w x16.1 x16.2
                else
                  ((E 291 [.int i2, .int i3] s).bind rxI).bind fun x21 =>
                  rrI (some .int) x21.1 x21.2
              else
                ((E 290 [.int i2, .int i3] s).bind rxI).bind fun x26 =>
                if mx_f1 .eq x26.1 = true then
                  s289_46 E w 0 x26.2
                else
                  s289_46 E w 1 x26.2
            else
              s289_27 E w s
theorem r289_0 {L : Nat} {xs : Nat → Int32} {zf : Value} {D : dD} {E : rE} {w : Nat} (hD : rO D E L xs) : ∀ (i1 : Int32) (i2 : Int32) (i3 : Int32) (h : rm_H) (s : rS) (r : rA), RS h s → s289_0 E w i1 i2 i3 s = some r → rx (b289_0 L xs zf D w i1 i2 i3 h) h r := by
  intro i1 i2 i3 h s r hR hh
  unfold s289_0 at hh
  unfold b289_0
  rcases di hh with ⟨q1, hh⟩ | ⟨q1, hh⟩
  · refine rx_t q1 ?_
    exact r289_27 hD  _ _ _ hR hh
  · refine rx_f q1 ?_
    rcases di hh with ⟨q2, hh⟩ | ⟨q2, hh⟩
    · refine rx_t q2 ?_
      exact r289_27 hD  _ _ _ hR hh
    · refine rx_f q2 ?_
      rcases di hh with ⟨q3, hh⟩ | ⟨q3, hh⟩
      · refine rx_t q3 ?_
        exact r289_27 hD  _ _ _ hR hh
      · refine rx_f q3 ?_
        rcases di hh with ⟨q4, hh⟩ | ⟨q4, hh⟩
        · refine rx_t q4 ?_
          exact r289_27 hD  _ _ _ hR hh
        · refine rx_f q4 ?_
          rcases di hh with ⟨q5, hh⟩ | ⟨q5, hh⟩
          · refine rx_t q5 ?_
            exact r289_27 hD  _ _ _ hR hh
          · refine rx_f q5 ?_
            rcases di hh with ⟨q6, hh⟩ | ⟨q6, hh⟩
            · refine rx_t q6 ?_
              rcases di hh with ⟨q7, hh⟩ | ⟨q7, hh⟩
              · refine rx_t q7 ?_
                rcases di hh with ⟨q8, hh⟩ | ⟨q8, hh⟩
                · refine rx_t q8 ?_
                  rcases di hh with ⟨q9, hh⟩ | ⟨q9, hh⟩
                  · refine rx_t q9 ?_
                    obtain ⟨x10, q11, hh⟩ := db hh
                    obtain ⟨h12, e13, hR, f14⟩ := rs_cI hD hR q11
                    refine rx_c e13 f14 ?_
                    rcases di hh with ⟨q15, hh⟩ | ⟨q15, hh⟩
                    · refine rx_t q15 ?_
                      exact r289_84 hD _ _ _ _ hR hh
                    · refine rx_f q15 ?_
                      exact r289_84 hD _ _ _ _ hR hh
                  · refine rx_f q9 ?_
                    obtain ⟨x16, q17, hh⟩ := db hh
                    obtain ⟨h18, e19, hR, f20⟩ := rs_cI hD hR q17
                    refine rx_c e19 f20 ?_
                    exact r289_84 hD _ _ _ _ hR hh
                · refine rx_f q8 ?_
                  obtain ⟨x21, q22, hh⟩ := db hh
                  obtain ⟨h23, e24, hR, f25⟩ := rs_cI hD hR q22
                  refine rx_c e24 f25 ?_
                  exact rx_I hR hh
              · refine rx_f q7 ?_
                obtain ⟨x26, q27, hh⟩ := db hh
                obtain ⟨h28, e29, hR, f30⟩ := rs_cI hD hR q27
                refine rx_c e29 f30 ?_
                rcases di hh with ⟨q31, hh⟩ | ⟨q31, hh⟩
                · refine rx_t q31 ?_
                  exact r289_46 hD _ _ _ _ hR hh
                · refine rx_f q31 ?_
                  exact r289_46 hD _ _ _ _ hR hh
            · refine rx_f q6 ?_
              exact r289_27 hD  _ _ _ hR hh
def g289 (E : rE) (w : Nat) (As : List Value) (s : rS) : Option rA := match As with
  | [.ref 36, .int i1, .int i2, .int i3] => s289_0 E w i1 i2 i3 s
  | _ => none
theorem t289 {L : Nat} {xs : Nat → Int32} {zf : Value} {D : dD} {E : rE} {w : Nat} (hD : rO D E L xs) (As : List Value) (h : rm_H) (s : rS) (r : rA) (hR : RS h s) (hh : g289 E w As s = some r) : rx (f289 L xs zf D w As h) h r := by
  unfold g289 at hh
  split at hh
  · unfold f289
    dsimp only
    refine rx_b (a := some 36) rfl ?_
    exact r289_0 hD _ _ _ _ _ _ hR hh
  · cases hh
def s290_43 (E : rE) (w : Nat) (s0 : Int32) (s : rS) : Option rA :=
  rrI (some .boolean) s0 s
theorem r290_43 {L : Nat} {xs : Nat → Int32} {zf : Value} {D : dD} {E : rE} {w : Nat} (hD : rO D E L xs) : ∀ (s0 : Int32) (h : rm_H) (s : rS) (r : rA), RS h s → s290_43 E w s0 s = some r → rx (b290_43 L xs zf D w s0 h) h r := by
  intro s0 h s r hR hh
  unfold s290_43 at hh
  unfold b290_43
  exact rx_I hR hh
def s290_59 (E : rE) (w : Nat) (s0 : Int32) (s : rS) : Option rA :=
  rrI (some .boolean) s0 s
theorem r290_59 {L : Nat} {xs : Nat → Int32} {zf : Value} {D : dD} {E : rE} {w : Nat} (hD : rO D E L xs) : ∀ (s0 : Int32) (h : rm_H) (s : rS) (r : rA), RS h s → s290_59 E w s0 s = some r → rx (b290_59 L xs zf D w s0 h) h r := by
  intro s0 h s r hR hh
  unfold s290_59 at hh
  unfold b290_59
  exact rx_I hR hh
def s290_54 (E : rE) (w : Nat) (s : rS) : Option rA :=
  s290_59 E w 1 s
theorem r290_54 {L : Nat} {xs : Nat → Int32} {zf : Value} {D : dD} {E : rE} {w : Nat} (hD : rO D E L xs) : ∀ (h : rm_H) (s : rS) (r : rA), RS h s → s290_54 E w s = some r → rx (b290_54 L xs zf D w h) h r := by
  intro h s r hR hh
  unfold s290_54 at hh
  unfold b290_54
  exact r290_59 hD _ _ _ _ hR hh
def s290_75 (E : rE) (w : Nat) (s0 : Int32) (s : rS) : Option rA :=
  rrI (some .boolean) s0 s
theorem r290_75 {L : Nat} {xs : Nat → Int32} {zf : Value} {D : dD} {E : rE} {w : Nat} (hD : rO D E L xs) : ∀ (s0 : Int32) (h : rm_H) (s : rS) (r : rA), RS h s → s290_75 E w s0 s = some r → rx (b290_75 L xs zf D w s0 h) h r := by
  intro s0 h s r hR hh
  unfold s290_75 at hh
  unfold b290_75
  exact rx_I hR hh
def s290_70 (E : rE) (w : Nat) (s : rS) : Option rA :=
  s290_75 E w 1 s
theorem r290_70 {L : Nat} {xs : Nat → Int32} {zf : Value} {D : dD} {E : rE} {w : Nat} (hD : rO D E L xs) : ∀ (h : rm_H) (s : rS) (r : rA), RS h s → s290_70 E w s = some r → rx (b290_70 L xs zf D w h) h r := by
  intro h s r hR hh
  unfold s290_70 at hh
  unfold b290_70
  exact r290_75 hD _ _ _ _ hR hh
def s290_86 (E : rE) (w : Nat) (s0 : Int32) (s : rS) : Option rA :=
  rrI (some .boolean) s0 s
theorem r290_86 {L : Nat} {xs : Nat → Int32} {zf : Value} {D : dD} {E : rE} {w : Nat} (hD : rO D E L xs) : ∀ (s0 : Int32) (h : rm_H) (s : rS) (r : rA), RS h s → s290_86 E w s0 s = some r → rx (b290_86 L xs zf D w s0 h) h r := by
  intro s0 h s r hR hh
  unfold s290_86 at hh
  unfold b290_86
  exact rx_I hR hh
def s290_0 (E : rE) (w : Nat) (i0 : Int32) (i1 : Int32) (s : rS) : Option rA :=
  if dsw 0 3 i0 = true then
    if mx_f2 .ne i1 4 = true then
      s290_86 E w 0 s
    else
      s290_86 E w 1 s
  else if i0 = 0 then
    rrI (some .boolean) 1 s
  else if i0 = 1 then
    if mx_f1 .eq i1 = true then
      s290_43 E w 0 s
    else
      s290_43 E w 1 s
  else if i0 = 2 then
    if mx_f2 .eq i1 2 = true then
      s290_54 E w s
    else
      if mx_f2 .ne i1 4 = true then
        s290_59 E w 0 s
      else
        s290_54 E w s
  else if i0 = 3 then
    if mx_f2 .eq i1 3 = true then
      s290_70 E w s
    else
      if mx_f2 .ne i1 4 = true then
        s290_75 E w 0 s
      else
        s290_70 E w s
  else none
theorem r290_0 {L : Nat} {xs : Nat → Int32} {zf : Value} {D : dD} {E : rE} {w : Nat} (hD : rO D E L xs) : ∀ (i0 : Int32) (i1 : Int32) (h : rm_H) (s : rS) (r : rA), RS h s → s290_0 E w i0 i1 s = some r → rx (b290_0 L xs zf D w i0 i1 h) h r := by
  intro i0 i1 h s r hR hh
  unfold s290_0 at hh
  unfold b290_0
  rcases di hh with ⟨q1, hh⟩ | ⟨q1, hh⟩
  · refine rx_t q1 ?_
    rcases di hh with ⟨q2, hh⟩ | ⟨q2, hh⟩
    · refine rx_t q2 ?_
      exact r290_86 hD _ _ _ _ hR hh
    · refine rx_f q2 ?_
      exact r290_86 hD _ _ _ _ hR hh
  refine rx_f q1 ?_
  rcases dp hh with ⟨q3, hh⟩ | ⟨q3, hh⟩
  · refine rx_pt q3 ?_
    exact rx_I hR hh
  refine rx_pf q3 ?_
  rcases dp hh with ⟨q4, hh⟩ | ⟨q4, hh⟩
  · refine rx_pt q4 ?_
    rcases di hh with ⟨q5, hh⟩ | ⟨q5, hh⟩
    · refine rx_t q5 ?_
      exact r290_43 hD _ _ _ _ hR hh
    · refine rx_f q5 ?_
      exact r290_43 hD _ _ _ _ hR hh
  refine rx_pf q4 ?_
  rcases dp hh with ⟨q6, hh⟩ | ⟨q6, hh⟩
  · refine rx_pt q6 ?_
    rcases di hh with ⟨q7, hh⟩ | ⟨q7, hh⟩
    · refine rx_t q7 ?_
      exact r290_54 hD  _ _ _ hR hh
    · refine rx_f q7 ?_
      rcases di hh with ⟨q8, hh⟩ | ⟨q8, hh⟩
      · refine rx_t q8 ?_
        exact r290_59 hD _ _ _ _ hR hh
      · refine rx_f q8 ?_
        exact r290_54 hD  _ _ _ hR hh
  refine rx_pf q6 ?_
  rcases dp hh with ⟨q9, hh⟩ | ⟨q9, hh⟩
  · refine rx_pt q9 ?_
    rcases di hh with ⟨q10, hh⟩ | ⟨q10, hh⟩
    · refine rx_t q10 ?_
      exact r290_70 hD  _ _ _ hR hh
    · refine rx_f q10 ?_
      rcases di hh with ⟨q11, hh⟩ | ⟨q11, hh⟩
      · refine rx_t q11 ?_
        exact r290_75 hD _ _ _ _ hR hh
      · refine rx_f q11 ?_
        exact r290_70 hD  _ _ _ hR hh
  refine rx_pf q9 ?_
  cases hh
def g290 (E : rE) (w : Nat) (As : List Value) (s : rS) : Option rA := match As with
  | [.int i0, .int i1] => s290_0 E w i0 i1 s
  | _ => none
theorem t290 {L : Nat} {xs : Nat → Int32} {zf : Value} {D : dD} {E : rE} {w : Nat} (hD : rO D E L xs) (As : List Value) (h : rm_H) (s : rS) (r : rA) (hR : RS h s) (hh : g290 E w As s = some r) : rx (f290 L xs zf D w As h) h r := by
  unfold g290 at hh
  split at hh
  · unfold f290
    dsimp only
    exact r290_0 hD _ _ _ _ _ hR hh
  · cases hh
def s291_17 (E : rE) (w : Nat) (s : rS) : Option rA :=
  rrI (some .int) 3 s
theorem r291_17 {L : Nat} {xs : Nat → Int32} {zf : Value} {D : dD} {E : rE} {w : Nat} (hD : rO D E L xs) : ∀ (h : rm_H) (s : rS) (r : rA), RS h s → s291_17 E w s = some r → rx (b291_17 L xs zf D w h) h r := by
  intro h s r hR hh
  unfold s291_17 at hh
  unfold b291_17
  exact rx_I hR hh
def s291_33 (E : rE) (w : Nat) (s0 : Int32) (s : rS) : Option rA :=
  rrI (some .int) s0 s
theorem r291_33 {L : Nat} {xs : Nat → Int32} {zf : Value} {D : dD} {E : rE} {w : Nat} (hD : rO D E L xs) : ∀ (s0 : Int32) (h : rm_H) (s : rS) (r : rA), RS h s → s291_33 E w s0 s = some r → rx (b291_33 L xs zf D w s0 h) h r := by
  intro s0 h s r hR hh
  unfold s291_33 at hh
  unfold b291_33
  exact rx_I hR hh
def s291_43 (E : rE) (w : Nat) (s0 : Int32) (s : rS) : Option rA :=
  rrI (some .int) s0 s
theorem r291_43 {L : Nat} {xs : Nat → Int32} {zf : Value} {D : dD} {E : rE} {w : Nat} (hD : rO D E L xs) : ∀ (s0 : Int32) (h : rm_H) (s : rS) (r : rA), RS h s → s291_43 E w s0 s = some r → rx (b291_43 L xs zf D w s0 h) h r := by
  intro s0 h s r hR hh
  unfold s291_43 at hh
  unfold b291_43
  exact rx_I hR hh
def s291_0 (E : rE) (w : Nat) (i0 : Int32) (i1 : Int32) (s : rS) : Option rA :=
  if mx_f2 .ne i0 2 = true then
    if mx_f2 .eq i0 3 = true then
      s291_17 E w s
    else
      if mx_f2 .ne i1 3 = true then
        if mx_f1 .ne i1 = true then
          if mx_f1 .ne i0 = true then
            s291_43 E w 4 s
          else
            s291_43 E w (-1) s
        else
          if mx_f2 .ne i0 4 = true then
            s291_33 E w 0 s
          else
            s291_33 E w (-1) s
      else
        s291_17 E w s
  else
    rrI (some .int) i1 s
theorem r291_0 {L : Nat} {xs : Nat → Int32} {zf : Value} {D : dD} {E : rE} {w : Nat} (hD : rO D E L xs) : ∀ (i0 : Int32) (i1 : Int32) (h : rm_H) (s : rS) (r : rA), RS h s → s291_0 E w i0 i1 s = some r → rx (b291_0 L xs zf D w i0 i1 h) h r := by
  intro i0 i1 h s r hR hh
  unfold s291_0 at hh
  unfold b291_0
  rcases di hh with ⟨q1, hh⟩ | ⟨q1, hh⟩
  · refine rx_t q1 ?_
    rcases di hh with ⟨q2, hh⟩ | ⟨q2, hh⟩
    · refine rx_t q2 ?_
      exact r291_17 hD  _ _ _ hR hh
    · refine rx_f q2 ?_
      rcases di hh with ⟨q3, hh⟩ | ⟨q3, hh⟩
      · refine rx_t q3 ?_
        rcases di hh with ⟨q4, hh⟩ | ⟨q4, hh⟩
        · refine rx_t q4 ?_
          rcases di hh with ⟨q5, hh⟩ | ⟨q5, hh⟩
          · refine rx_t q5 ?_
            exact r291_43 hD _ _ _ _ hR hh
          · refine rx_f q5 ?_
            exact r291_43 hD _ _ _ _ hR hh
        · refine rx_f q4 ?_
          rcases di hh with ⟨q6, hh⟩ | ⟨q6, hh⟩
          · refine rx_t q6 ?_
            exact r291_33 hD _ _ _ _ hR hh
          · refine rx_f q6 ?_
            exact r291_33 hD _ _ _ _ hR hh
      · refine rx_f q3 ?_
        exact r291_17 hD  _ _ _ hR hh
  · refine rx_f q1 ?_
    exact rx_I hR hh
def g291 (E : rE) (w : Nat) (As : List Value) (s : rS) : Option rA := match As with
  | [.int i0, .int i1] => s291_0 E w i0 i1 s
  | _ => none
theorem t291 {L : Nat} {xs : Nat → Int32} {zf : Value} {D : dD} {E : rE} {w : Nat} (hD : rO D E L xs) (As : List Value) (h : rm_H) (s : rS) (r : rA) (hR : RS h s) (hh : g291 E w As s = some r) : rx (f291 L xs zf D w As h) h r := by
  unfold g291 at hh
  split at hh
  · unfold f291
    dsimp only
    exact r291_0 hD _ _ _ _ _ hR hh
  · cases hh
def s297_17 (E : rE) (w : Nat) (s0 : Int32) (s : rS) : Option rA :=
  rrI (some .boolean) s0 s
theorem r297_17 {L : Nat} {xs : Nat → Int32} {zf : Value} {D : dD} {E : rE} {w : Nat} (hD : rO D E L xs) : ∀ (s0 : Int32) (h : rm_H) (s : rS) (r : rA), RS h s → s297_17 E w s0 s = some r → rx (b297_17 L xs zf D w s0 h) h r := by
  intro s0 h s r hR hh
  unfold s297_17 at hh
  unfold b297_17
  exact rx_I hR hh
def s297_16 (E : rE) (w : Nat) (s : rS) : Option rA :=
  s297_17 E w 0 s
theorem r297_16 {L : Nat} {xs : Nat → Int32} {zf : Value} {D : dD} {E : rE} {w : Nat} (hD : rO D E L xs) : ∀ (h : rm_H) (s : rS) (r : rA), RS h s → s297_16 E w s = some r → rx (b297_16 L xs zf D w h) h r := by
  intro h s r hR hh
  unfold s297_16 at hh
  unfold b297_16
  exact r297_17 hD _ _ _ _ hR hh
def s297_0 (E : rE) (w : Nat) (i0 : Int32) (s : rS) : Option rA :=
  if mx_f2 .lt i0 97 = true then
    s297_16 E w s
  else
    if mx_f2 .gt i0 122 = true then
      s297_16 E w s
    else
      s297_17 E w 1 s
theorem r297_0 {L : Nat} {xs : Nat → Int32} {zf : Value} {D : dD} {E : rE} {w : Nat} (hD : rO D E L xs) : ∀ (i0 : Int32) (h : rm_H) (s : rS) (r : rA), RS h s → s297_0 E w i0 s = some r → rx (b297_0 L xs zf D w i0 h) h r := by
  intro i0 h s r hR hh
  unfold s297_0 at hh
  unfold b297_0
  rcases di hh with ⟨q1, hh⟩ | ⟨q1, hh⟩
  · refine rx_t q1 ?_
    exact r297_16 hD  _ _ _ hR hh
  · refine rx_f q1 ?_
    rcases di hh with ⟨q2, hh⟩ | ⟨q2, hh⟩
    · refine rx_t q2 ?_
      exact r297_16 hD  _ _ _ hR hh
    · refine rx_f q2 ?_
      exact r297_17 hD _ _ _ _ hR hh
def g297 (E : rE) (w : Nat) (As : List Value) (s : rS) : Option rA := match As with
  | [.int i0] => s297_0 E w i0 s
  | _ => none
theorem t297 {L : Nat} {xs : Nat → Int32} {zf : Value} {D : dD} {E : rE} {w : Nat} (hD : rO D E L xs) (As : List Value) (h : rm_H) (s : rS) (r : rA) (hR : RS h s) (hh : g297 E w As s = some r) : rx (f297 L xs zf D w As h) h r := by
  unfold g297 at hh
  split at hh
  · unfold f297
    dsimp only
    exact r297_0 hD _ _ _ _ hR hh
  · cases hh
def s303_38 (E : rE) (w : Nat) (s0 : Int32) (s : rS) : Option rA :=
  rrI (some .boolean) s0 s
theorem r303_38 {L : Nat} {xs : Nat → Int32} {zf : Value} {D : dD} {E : rE} {w : Nat} (hD : rO D E L xs) : ∀ (s0 : Int32) (h : rm_H) (s : rS) (r : rA), RS h s → s303_38 E w s0 s = some r → rx (b303_38 L xs zf D w s0 h) h r := by
  intro s0 h s r hR hh
  unfold s303_38 at hh
  unfold b303_38
  exact rx_I hR hh
def s303_37 (E : rE) (w : Nat) (s : rS) : Option rA :=
  s303_38 E w 0 s
theorem r303_37 {L : Nat} {xs : Nat → Int32} {zf : Value} {D : dD} {E : rE} {w : Nat} (hD : rO D E L xs) : ∀ (h : rm_H) (s : rS) (r : rA), RS h s → s303_37 E w s = some r → rx (b303_37 L xs zf D w h) h r := by
  intro h s r hR hh
  unfold s303_37 at hh
  unfold b303_37
  exact r303_38 hD _ _ _ _ hR hh
def s303_0 (E : rE) (w : Nat) (i1 : Int32) (s : rS) : Option rA :=
  if mx_f1 .ne (s.1 57) = true then
    s303_37 E w s
  else
    (rs_aI s 40 (s.1 56)).bind fun x2 =>
    if mx_f2 .ne x2 2 = true then
      s303_37 E w s
    else
      (rs_aI s 42 (s.1 56)).bind fun x5 =>
      if mx_f2 .ne x5 i1 = true then
        s303_37 E w s
      else
        s303_38 E w 1 s
theorem r303_0 {L : Nat} {xs : Nat → Int32} {zf : Value} {D : dD} {E : rE} {w : Nat} (hD : rO D E L xs) : ∀ (i1 : Int32) (h : rm_H) (s : rS) (r : rA), RS h s → s303_0 E w i1 s = some r → rx (b303_0 L xs zf D w (some 36) i1 h) h r := by
  intro i1 h s r hR hh
  unfold s303_0 at hh
  unfold b303_0
  refine rx_b (rs_gI hR 57 _ rfl) ?_
  rcases di hh with ⟨q1, hh⟩ | ⟨q1, hh⟩
  · refine rx_t q1 ?_
    exact r303_37 hD  _ _ _ hR hh
  · refine rx_f q1 ?_
    refine rx_b (rs_gR hR 6 40 rfl) ?_
    refine rx_b (rs_gI hR 56 _ rfl) ?_
    obtain ⟨x2, q3, hh⟩ := db hh
    refine rx_b (rs_aI_ok hR q3) ?_
    rcases di hh with ⟨q4, hh⟩ | ⟨q4, hh⟩
    · refine rx_t q4 ?_
      exact r303_37 hD  _ _ _ hR hh
    · refine rx_f q4 ?_
      refine rx_b (rs_gR hR 8 42 rfl) ?_
      refine rx_b (rs_gI hR 56 _ rfl) ?_
      obtain ⟨x5, q6, hh⟩ := db hh
      refine rx_b (rs_aI_ok hR q6) ?_
      rcases di hh with ⟨q7, hh⟩ | ⟨q7, hh⟩
      · refine rx_t q7 ?_
        exact r303_37 hD  _ _ _ hR hh
      · refine rx_f q7 ?_
        exact r303_38 hD _ _ _ _ hR hh
def g303 (E : rE) (w : Nat) (As : List Value) (s : rS) : Option rA := match As with
  | [.ref 36, .int i1] => s303_0 E w i1 s
  | _ => none
theorem t303 {L : Nat} {xs : Nat → Int32} {zf : Value} {D : dD} {E : rE} {w : Nat} (hD : rO D E L xs) (As : List Value) (h : rm_H) (s : rS) (r : rA) (hR : RS h s) (hh : g303 E w As s = some r) : rx (f303 L xs zf D w As h) h r := by
  unfold g303 at hh
  split at hh
  · unfold f303
    dsimp only
    refine rx_b (a := some 36) rfl ?_
    exact r303_0 hD _ _ _ _ hR hh
  · cases hh
def s305_0 (E : rE) (w : Nat) (i1 : Int32) (i2 : Int32) (s : rS) : Option rA :=
  if mx_f1 .le (s.1 57) = true then
    (rs_pI s 57 i1).bind fun s2 =>
    (rs_pI s2 58 i2).bind fun s7 =>
    some (none, s7)
  else
    some (none, s)
theorem r305_0 {L : Nat} {xs : Nat → Int32} {zf : Value} {D : dD} {E : rE} {w : Nat} (hD : rO D E L xs) : ∀ (i1 : Int32) (i2 : Int32) (h : rm_H) (s : rS) (r : rA), RS h s → s305_0 E w i1 i2 s = some r → rx (b305_0 L xs zf D w (some 36) i1 i2 h) h r := by
  intro i1 i2 h s r hR hh
  unfold s305_0 at hh
  unfold b305_0
  refine rx_b (rs_gI hR 57 _ rfl) ?_
  rcases di hh with ⟨q1, hh⟩ | ⟨q1, hh⟩
  · refine rx_t q1 ?_
    obtain ⟨s2, q3, hh⟩ := db hh
    obtain ⟨h4, e5, hR, f6⟩ := rs_pI_ok (rs_m57 _ _) (by decide) hR q3
    refine rx_w e5 f6 ?_
    obtain ⟨s7, q8, hh⟩ := db hh
    obtain ⟨h9, e10, hR, f11⟩ := rs_pI_ok (rs_m58 _ _) (by decide) hR q8
    refine rx_w e10 f11 ?_
    cases hh
    exact rx_0 hR
  · refine rx_f q1 ?_
    cases hh
    exact rx_0 hR
def g305 (E : rE) (w : Nat) (As : List Value) (s : rS) : Option rA := match As with
  | [.ref 36, .int i1, .int i2] => s305_0 E w i1 i2 s
  | _ => none
theorem t305 {L : Nat} {xs : Nat → Int32} {zf : Value} {D : dD} {E : rE} {w : Nat} (hD : rO D E L xs) (As : List Value) (h : rm_H) (s : rS) (r : rA) (hR : RS h s) (hh : g305 E w As s = some r) : rx (f305 L xs zf D w As h) h r := by
  unfold g305 at hh
  split at hh
  · unfold f305
    dsimp only
    refine rx_b (a := some 36) rfl ?_
    exact r305_0 hD _ _ _ _ _ hR hh
  · cases hh
def s328_2 (E : rE) (w : Nat) : Nat → Int64 → Int32 → rS → Option rA
  | 0, _, _, _ => none
  | n + 1, j1, i3, s =>
    if mx_f2 .ge i3 (s.1 32) = true then
      rrI (some .int) (-1) s
    else
      (rs_aJ s 62 i3).bind fun y2 =>
      if mx_f1 .ne (lg_cmp y2 j1) = true then
        s328_2 E w n j1 (i3 + 1) s
      else
        rrI (some .int) i3 s
theorem r328_2 {L : Nat} {xs : Nat → Int32} {zf : Value} {D : dD} {E : rE} {w : Nat} (hD : rO D E L xs) : ∀ (n : Nat) (j1 : Int64) (i3 : Int32) (h : rm_H) (s : rS) (r : rA), RS h s → s328_2 E w n j1 i3 s = some r → rx (b328_2 L xs zf D w n (some 36) j1 i3 h) h r := by
  intro n
  induction n with
  | zero =>
    intro j1 i3 h s r hR hh
    cases hh
  | succ n ih =>
    intro j1 i3 h s r hR hh
    rw [s328_2] at hh
    rw [b328_2]
    refine rx_b (rs_gI hR 32 _ rfl) ?_
    rcases di hh with ⟨q1, hh⟩ | ⟨q1, hh⟩
    · refine rx_t q1 ?_
      exact rx_I hR hh
    · refine rx_f q1 ?_
      refine rx_b (rs_gR hR 33 62 rfl) ?_
      obtain ⟨y2, q3, hh⟩ := db hh
      refine rx_b (rs_aJ_ok hR q3) ?_
      rcases di hh with ⟨q4, hh⟩ | ⟨q4, hh⟩
      · refine rx_t q4 ?_
        exact ih _ _ _ _ _ hR hh
      · refine rx_f q4 ?_
        exact rx_I hR hh
def s328_0 (E : rE) (w : Nat) (j1 : Int64) (s : rS) : Option rA :=
  s328_2 E w w j1 0 s
theorem r328_0 {L : Nat} {xs : Nat → Int32} {zf : Value} {D : dD} {E : rE} {w : Nat} (hD : rO D E L xs) : ∀ (j1 : Int64) (h : rm_H) (s : rS) (r : rA), RS h s → s328_0 E w j1 s = some r → rx (b328_0 L xs zf D w (some 36) j1 h) h r := by
  intro j1 h s r hR hh
  unfold s328_0 at hh
  unfold b328_0
  exact r328_2 hD _ _ _ _ _ _ hR hh
def g328 (E : rE) (w : Nat) (As : List Value) (s : rS) : Option rA := match As with
  | [.ref 36, .long j1] => s328_0 E w j1 s
  | _ => none
theorem t328 {L : Nat} {xs : Nat → Int32} {zf : Value} {D : dD} {E : rE} {w : Nat} (hD : rO D E L xs) (As : List Value) (h : rm_H) (s : rS) (r : rA) (hR : RS h s) (hh : g328 E w As s = some r) : rx (f328 L xs zf D w As h) h r := by
  unfold g328 at hh
  split at hh
  · unfold f328
    dsimp only
    refine rx_b (a := some 36) rfl ?_
    exact r328_0 hD _ _ _ _ hR hh
  · cases hh
def s329_31 (E : rE) (w : Nat) (s : rS) : Option rA :=
  some (none, s)
theorem r329_31 {L : Nat} {xs : Nat → Int32} {zf : Value} {D : dD} {E : rE} {w : Nat} (hD : rO D E L xs) : ∀ (h : rm_H) (s : rS) (r : rA), RS h s → s329_31 E w s = some r → rx (b329_31 L xs zf D w h) h r := by
  intro h s r hR hh
  unfold s329_31 at hh
  unfold b329_31
  cases hh
  exact rx_0 hR
def s329_32 (E : rE) (w : Nat) (i1 : Int32) (i2 : Int32) (s : rS) : Option rA :=
  (rs_pI s 57 i1).bind fun s1 =>
  (rs_pI s1 58 i2).bind fun s6 =>
  some (none, s6)
theorem r329_32 {L : Nat} {xs : Nat → Int32} {zf : Value} {D : dD} {E : rE} {w : Nat} (hD : rO D E L xs) : ∀ (i1 : Int32) (i2 : Int32) (h : rm_H) (s : rS) (r : rA), RS h s → s329_32 E w i1 i2 s = some r → rx (b329_32 L xs zf D w (some 36) i1 i2 h) h r := by
  intro i1 i2 h s r hR hh
  unfold s329_32 at hh
  unfold b329_32
  obtain ⟨s1, q2, hh⟩ := db hh
  obtain ⟨h3, e4, hR, f5⟩ := rs_pI_ok (rs_m57 _ _) (by decide) hR q2
  refine rx_w e4 f5 ?_
  obtain ⟨s6, q7, hh⟩ := db hh
  obtain ⟨h8, e9, hR, f10⟩ := rs_pI_ok (rs_m58 _ _) (by decide) hR q7
  refine rx_w e9 f10 ?_
  cases hh
  exact rx_0 hR
def s329_0 (E : rE) (w : Nat) (i1 : Int32) (i2 : Int32) (s : rS) : Option rA :=
  if mx_f1 .le (s.1 57) = true then
    s329_32 E w i1 i2 s
  else
    if mx_f2 .gt i2 (s.1 58) = true then
      s329_31 E w s
    else
      if mx_f2 .ne i2 (s.1 58) = true then
        s329_32 E w i1 i2 s
      else
        if mx_f2 .lt i1 (s.1 57) = true then
          s329_32 E w i1 i2 s
        else
          s329_31 E w s
theorem r329_0 {L : Nat} {xs : Nat → Int32} {zf : Value} {D : dD} {E : rE} {w : Nat} (hD : rO D E L xs) : ∀ (i1 : Int32) (i2 : Int32) (h : rm_H) (s : rS) (r : rA), RS h s → s329_0 E w i1 i2 s = some r → rx (b329_0 L xs zf D w (some 36) i1 i2 h) h r := by
  intro i1 i2 h s r hR hh
  unfold s329_0 at hh
  unfold b329_0
  refine rx_b (rs_gI hR 57 _ rfl) ?_
  rcases di hh with ⟨q1, hh⟩ | ⟨q1, hh⟩
  · refine rx_t q1 ?_
    exact r329_32 hD _ _ _ _ _ hR hh
  · refine rx_f q1 ?_
    refine rx_b (rs_gI hR 58 _ rfl) ?_
    rcases di hh with ⟨q2, hh⟩ | ⟨q2, hh⟩
    · refine rx_t q2 ?_
      exact r329_31 hD  _ _ _ hR hh
    · refine rx_f q2 ?_
      refine rx_b (rs_gI hR 58 _ rfl) ?_
      rcases di hh with ⟨q3, hh⟩ | ⟨q3, hh⟩
      · refine rx_t q3 ?_
        exact r329_32 hD _ _ _ _ _ hR hh
      · refine rx_f q3 ?_
        refine rx_b (rs_gI hR 57 _ rfl) ?_
        rcases di hh with ⟨q4, hh⟩ | ⟨q4, hh⟩
        · refine rx_t q4 ?_
          exact r329_32 hD _ _ _ _ _ hR hh
        · refine rx_f q4 ?_
          exact r329_31 hD  _ _ _ hR hh
def g329 (E : rE) (w : Nat) (As : List Value) (s : rS) : Option rA := match As with
  | [.ref 36, .int i1, .int i2] => s329_0 E w i1 i2 s
  | _ => none
theorem t329 {L : Nat} {xs : Nat → Int32} {zf : Value} {D : dD} {E : rE} {w : Nat} (hD : rO D E L xs) (As : List Value) (h : rm_H) (s : rS) (r : rA) (hR : RS h s) (hh : g329 E w As s = some r) : rx (f329 L xs zf D w As h) h r := by
  unfold g329 at hh
  split at hh
  · unfold f329
    dsimp only
    refine rx_b (a := some 36) rfl ?_
    exact r329_0 hD _ _ _ _ _ hR hh
  · cases hh
def s370_35 (E : rE) (w : Nat) (s0 : Int32) (s : rS) : Option rA :=
  rrI (some .int) s0 s
theorem r370_35 {L : Nat} {xs : Nat → Int32} {zf : Value} {D : dD} {E : rE} {w : Nat} (hD : rO D E L xs) : ∀ (s0 : Int32) (h : rm_H) (s : rS) (r : rA), RS h s → s370_35 E w s0 s = some r → rx (b370_35 L xs zf D w s0 h) h r := by
  intro s0 h s r hR hh
  unfold s370_35 at hh
  unfold b370_35
  exact rx_I hR hh
def s370_16 (E : rE) (w : Nat) (s : rS) : Option rA :=
  s370_35 E w (-1) s
theorem r370_16 {L : Nat} {xs : Nat → Int32} {zf : Value} {D : dD} {E : rE} {w : Nat} (hD : rO D E L xs) : ∀ (h : rm_H) (s : rS) (r : rA), RS h s → s370_16 E w s = some r → rx (b370_16 L xs zf D w h) h r := by
  intro h s r hR hh
  unfold s370_16 at hh
  unfold b370_16
  exact r370_35 hD _ _ _ _ hR hh
def s370_0 (E : rE) (w : Nat) (i1 : Int32) (s : rS) : Option rA :=
  if mx_f1 .eq (s.1 72) = true then
    s370_16 E w s
  else
    if mx_f1 .lt i1 = true then
      s370_16 E w s
    else
      if mx_f2 .le i1 1 = true then
        if mx_f1 .ne i1 = true then
          s370_35 E w (s.1 58) s
        else
          s370_35 E w (s.1 57) s
      else
        s370_16 E w s
theorem r370_0 {L : Nat} {xs : Nat → Int32} {zf : Value} {D : dD} {E : rE} {w : Nat} (hD : rO D E L xs) : ∀ (i1 : Int32) (h : rm_H) (s : rS) (r : rA), RS h s → s370_0 E w i1 s = some r → rx (b370_0 L xs zf D w (some 36) i1 h) h r := by
  intro i1 h s r hR hh
  unfold s370_0 at hh
  unfold b370_0
  refine rx_b (rs_gI hR 72 _ rfl) ?_
  rcases di hh with ⟨q1, hh⟩ | ⟨q1, hh⟩
  · refine rx_t q1 ?_
    exact r370_16 hD  _ _ _ hR hh
  · refine rx_f q1 ?_
    rcases di hh with ⟨q2, hh⟩ | ⟨q2, hh⟩
    · refine rx_t q2 ?_
      exact r370_16 hD  _ _ _ hR hh
    · refine rx_f q2 ?_
      rcases di hh with ⟨q3, hh⟩ | ⟨q3, hh⟩
      · refine rx_t q3 ?_
        rcases di hh with ⟨q4, hh⟩ | ⟨q4, hh⟩
        · refine rx_t q4 ?_
          refine rx_b (rs_gI hR 58 _ rfl) ?_
          exact r370_35 hD _ _ _ _ hR hh
        · refine rx_f q4 ?_
          refine rx_b (rs_gI hR 57 _ rfl) ?_
          exact r370_35 hD _ _ _ _ hR hh
      · refine rx_f q3 ?_
        exact r370_16 hD  _ _ _ hR hh
def g370 (E : rE) (w : Nat) (As : List Value) (s : rS) : Option rA := match As with
  | [.ref 36, .int i1] => s370_0 E w i1 s
  | _ => none
theorem t370 {L : Nat} {xs : Nat → Int32} {zf : Value} {D : dD} {E : rE} {w : Nat} (hD : rO D E L xs) (As : List Value) (h : rm_H) (s : rS) (r : rA) (hR : RS h s) (hh : g370 E w As s = some r) : rx (f370 L xs zf D w As h) h r := by
  unfold g370 at hh
  split at hh
  · unfold f370
    dsimp only
    refine rx_b (a := some 36) rfl ?_
    exact r370_0 hD _ _ _ _ hR hh
  · cases hh
