/-! THE REFERENCE'S METHODS OVER ITS STATE, printed by wip/whole/gen_ref.py -/
def s286_71 (E : rE) (w : Nat) (K18 : Int32 → Int32 → Int32 → Int32 → Int32 → Int32 → rS → Option rA) (i1 : Int32) (i2 : Int32) (i3 : Int32) (i4 : Int32) (i5 : Int32) (i6 : Int32) (s0 : Int32) (s : rS) : Option rA :=
  (rs_sI s 37 ((s.1 2) + i6) ((s0 >>> ((24 - (8 * (i6 - i6 / 4 * 4))) &&& 31)) &&& 255)).bind fun s1 =>
  K18 i1 i2 i3 i4 i5 (i6 + 1) s1
theorem r286_71 {L : Nat} {xs : Nat → Int32} {zf : Value} {D : dD} {E : rE} {w : Nat} {K18 : Int32 → Int32 → Int32 → Int32 → Int32 → Int32 → rS → Option rA} {B18 : Option Nat → Int32 → Int32 → Int32 → Int32 → Int32 → Int32 → rm_H → Option dR} (hD : rO D E L xs) (hK18 : ∀ (i1 : Int32) (i2 : Int32) (i3 : Int32) (i4 : Int32) (i5 : Int32) (i6 : Int32) (h : rm_H) (s : rS) (r : rA), RS h s → K18 i1 i2 i3 i4 i5 i6 s = some r → rx (B18 (some 36) i1 i2 i3 i4 i5 i6 h) h r) : ∀ (i1 : Int32) (i2 : Int32) (i3 : Int32) (i4 : Int32) (i5 : Int32) (i6 : Int32) (s0 : Int32) (h : rm_H) (s : rS) (r : rA), RS h s → s286_71 E w K18 i1 i2 i3 i4 i5 i6 s0 s = some r → rx (b286_71 L xs zf D w B18 (some 36) i1 i2 i3 i4 i5 i6 s0 h) h r := by
  intro i1 i2 i3 i4 i5 i6 s0 h s r hR hh
  unfold s286_71 at hh
  unfold b286_71
  refine rx_b (rs_gR hR 0 37 rfl) ?_
  refine rx_b (rs_gI hR 2 _ rfl) ?_
  obtain ⟨s1, q2, hh⟩ := db hh
  obtain ⟨h3, e4, hR, f5⟩ := rs_sI_ok hR q2
  refine rx_w e4 f5 ?_
  exact hK18 _ _ _ _ _ _ _ _ _ hR hh
def s286_18 (E : rE) (w : Nat) : Nat → Int32 → Int32 → Int32 → Int32 → Int32 → Int32 → rS → Option rA
  | 0, _, _, _, _, _, _, _ => none
  | n + 1, i1, i2, i3, i4, i5, i6, s =>
    if mx_f2 .ge i6 20 = true then
      (rs_pI s 2 ((s.1 2) + 20)).bind fun s2 =>
      rrI (some .int) (s2.1 2) s2
    else
      if mx_f2 .ge i6 4 = true then
        if mx_f2 .ge i6 8 = true then
          if mx_f2 .ge i6 12 = true then
            if mx_f2 .ge i6 16 = true then
              s286_71 E w (s286_18 E w n) i1 i2 i3 i4 i5 i6 i5 s
            else
              s286_71 E w (s286_18 E w n) i1 i2 i3 i4 i5 i6 i4 s
          else
            s286_71 E w (s286_18 E w n) i1 i2 i3 i4 i5 i6 i3 s
        else
          s286_71 E w (s286_18 E w n) i1 i2 i3 i4 i5 i6 i2 s
      else
        s286_71 E w (s286_18 E w n) i1 i2 i3 i4 i5 i6 i1 s
theorem r286_18 {L : Nat} {xs : Nat → Int32} {zf : Value} {D : dD} {E : rE} {w : Nat} (hD : rO D E L xs) : ∀ (n : Nat) (i1 : Int32) (i2 : Int32) (i3 : Int32) (i4 : Int32) (i5 : Int32) (i6 : Int32) (h : rm_H) (s : rS) (r : rA), RS h s → s286_18 E w n i1 i2 i3 i4 i5 i6 s = some r → rx (b286_18 L xs zf D w n (some 36) i1 i2 i3 i4 i5 i6 h) h r := by
  intro n
  induction n with
  | zero =>
    intro i1 i2 i3 i4 i5 i6 h s r hR hh
    cases hh
  | succ n ih =>
    intro i1 i2 i3 i4 i5 i6 h s r hR hh
    rw [s286_18] at hh
    rw [b286_18]
    rcases di hh with ⟨q1, hh⟩ | ⟨q1, hh⟩
    · refine rx_t q1 ?_
      refine rx_b (rs_gI hR 2 _ rfl) ?_
      obtain ⟨s2, q3, hh⟩ := db hh
      obtain ⟨h4, e5, hR, f6⟩ := rs_pI_ok (rs_m2 _ _) (by decide) hR q3
      refine rx_w e5 f6 ?_
      refine rx_b (rs_gI hR 2 _ rfl) ?_
      exact rx_I hR hh
    · refine rx_f q1 ?_
      rcases di hh with ⟨q7, hh⟩ | ⟨q7, hh⟩
      · refine rx_t q7 ?_
        rcases di hh with ⟨q8, hh⟩ | ⟨q8, hh⟩
        · refine rx_t q8 ?_
          rcases di hh with ⟨q9, hh⟩ | ⟨q9, hh⟩
          · refine rx_t q9 ?_
            rcases di hh with ⟨q10, hh⟩ | ⟨q10, hh⟩
            · refine rx_t q10 ?_
              exact r286_71 hD ih _ _ _ _ _ _ _ _ _ _ hR hh
            · refine rx_f q10 ?_
              exact r286_71 hD ih _ _ _ _ _ _ _ _ _ _ hR hh
          · refine rx_f q9 ?_
            exact r286_71 hD ih _ _ _ _ _ _ _ _ _ _ hR hh
        · refine rx_f q8 ?_
          exact r286_71 hD ih _ _ _ _ _ _ _ _ _ _ hR hh
      · refine rx_f q7 ?_
        exact r286_71 hD ih _ _ _ _ _ _ _ _ _ _ hR hh
def s286_0 (E : rE) (w : Nat) (i1 : Int32) (i2 : Int32) (i3 : Int32) (i4 : Int32) (i5 : Int32) (s : rS) : Option rA :=
  if mx_f2 .le ((s.1 2) + 20) 2000 = true then
    s286_18 E w w i1 i2 i3 i4 i5 0 s
  else
    rrI (some .int) (-1) s
theorem r286_0 {L : Nat} {xs : Nat → Int32} {zf : Value} {D : dD} {E : rE} {w : Nat} (hD : rO D E L xs) : ∀ (i1 : Int32) (i2 : Int32) (i3 : Int32) (i4 : Int32) (i5 : Int32) (h : rm_H) (s : rS) (r : rA), RS h s → s286_0 E w i1 i2 i3 i4 i5 s = some r → rx (b286_0 L xs zf D w (some 36) i1 i2 i3 i4 i5 h) h r := by
  intro i1 i2 i3 i4 i5 h s r hR hh
  unfold s286_0 at hh
  unfold b286_0
  refine rx_b (rs_gI hR 2 _ rfl) ?_
  rcases di hh with ⟨q1, hh⟩ | ⟨q1, hh⟩
  · refine rx_t q1 ?_
    exact r286_18 hD _ _ _ _ _ _ _ _ _ _ hR hh
  · refine rx_f q1 ?_
    exact rx_I hR hh
def g286 (E : rE) (w : Nat) (As : List Value) (s : rS) : Option rA := match As with
  | [.ref 36, .int i1, .int i2, .int i3, .int i4, .int i5] => s286_0 E w i1 i2 i3 i4 i5 s
  | _ => none
theorem t286 {L : Nat} {xs : Nat → Int32} {zf : Value} {D : dD} {E : rE} {w : Nat} (hD : rO D E L xs) (As : List Value) (h : rm_H) (s : rS) (r : rA) (hR : RS h s) (hh : g286 E w As s = some r) : rx (f286 L xs zf D w As h) h r := by
  unfold g286 at hh
  split at hh
  · unfold f286
    dsimp only
    refine rx_b (a := some 36) rfl ?_
    exact r286_0 hD _ _ _ _ _ _ _ _ hR hh
  · cases hh
def s287_12 (E : rE) (w : Nat) (s : rS) : Option rA :=
  rrI (some .int) (-1) s
theorem r287_12 {L : Nat} {xs : Nat → Int32} {zf : Value} {D : dD} {E : rE} {w : Nat} (hD : rO D E L xs) : ∀ (h : rm_H) (s : rS) (r : rA), RS h s → s287_12 E w s = some r → rx (b287_12 L xs zf D w h) h r := by
  intro h s r hR hh
  unfold s287_12 at hh
  unfold b287_12
  exact rx_I hR hh
def s287_0 (E : rE) (w : Nat) (i1 : Int32) (s : rS) : Option rA :=
  if mx_f1 .lt i1 = true then
    s287_12 E w s
  else
    if mx_f2 .le i1 (s.1 2) = true then
      (rs_pI s 2 i1).bind fun s3 =>
      rrI (some .int) i1 s3
    else
      s287_12 E w s
theorem r287_0 {L : Nat} {xs : Nat → Int32} {zf : Value} {D : dD} {E : rE} {w : Nat} (hD : rO D E L xs) : ∀ (i1 : Int32) (h : rm_H) (s : rS) (r : rA), RS h s → s287_0 E w i1 s = some r → rx (b287_0 L xs zf D w (some 36) i1 h) h r := by
  intro i1 h s r hR hh
  unfold s287_0 at hh
  unfold b287_0
  rcases di hh with ⟨q1, hh⟩ | ⟨q1, hh⟩
  · refine rx_t q1 ?_
    exact r287_12 hD  _ _ _ hR hh
  · refine rx_f q1 ?_
    refine rx_b (rs_gI hR 2 _ rfl) ?_
    rcases di hh with ⟨q2, hh⟩ | ⟨q2, hh⟩
    · refine rx_t q2 ?_
      obtain ⟨s3, q4, hh⟩ := db hh
      obtain ⟨h5, e6, hR, f7⟩ := rs_pI_ok (rs_m2 _ _) (by decide) hR q4
      refine rx_w e6 f7 ?_
      exact rx_I hR hh
    · refine rx_f q2 ?_
      exact r287_12 hD  _ _ _ hR hh
def g287 (E : rE) (w : Nat) (As : List Value) (s : rS) : Option rA := match As with
  | [.ref 36, .int i1] => s287_0 E w i1 s
  | _ => none
theorem t287 {L : Nat} {xs : Nat → Int32} {zf : Value} {D : dD} {E : rE} {w : Nat} (hD : rO D E L xs) (As : List Value) (h : rm_H) (s : rS) (r : rA) (hR : RS h s) (hh : g287 E w As s = some r) : rx (f287 L xs zf D w As h) h r := by
  unfold g287 at hh
  split at hh
  · unfold f287
    dsimp only
    refine rx_b (a := some 36) rfl ?_
    exact r287_0 hD _ _ _ _ hR hh
  · cases hh
def s289_27 (E : rE) (w : Nat) (s : rS) : Option rA :=
  rrI (some .int) (-1) s
theorem r289_27 {L : Nat} {xs : Nat → Int32} {zf : Value} {D : dD} {E : rE} {w : Nat} (hD : rO D E L xs) : ∀ (h : rm_H) (s : rS) (r : rA), RS h s → s289_27 E w s = some r → rx (b289_27 L xs zf D w h) h r := by
  intro h s r hR hh
  unfold s289_27 at hh
  unfold b289_27
  exact rx_I hR hh
def s289_46 (E : rE) (w : Nat) (s0 : Int32) (s : rS) : Option rA :=
  rrI (some .int) s0 s
theorem r289_46 {L : Nat} {xs : Nat → Int32} {zf : Value} {D : dD} {E : rE} {w : Nat} (hD : rO D E L xs) : ∀ (s0 : Int32) (h : rm_H) (s : rS) (r : rA), RS h s → s289_46 E w s0 s = some r → rx (b289_46 L xs zf D w s0 h) h r := by
  intro s0 h s r hR hh
  unfold s289_46 at hh
  unfold b289_46
  exact rx_I hR hh
def s289_84 (E : rE) (w : Nat) (s0 : Int32) (s : rS) : Option rA :=
  rrI (some .int) s0 s
theorem r289_84 {L : Nat} {xs : Nat → Int32} {zf : Value} {D : dD} {E : rE} {w : Nat} (hD : rO D E L xs) : ∀ (s0 : Int32) (h : rm_H) (s : rS) (r : rA), RS h s → s289_84 E w s0 s = some r → rx (b289_84 L xs zf D w s0 h) h r := by
  intro s0 h s r hR hh
  unfold s289_84 at hh
  unfold b289_84
  exact rx_I hR hh
def s289_0 (E : rE) (w : Nat) (i1 : Int32) (i2 : Int32) (i3 : Int32) (s : rS) : Option rA :=
  if mx_f1 .lt i1 = true then
    s289_27 E w s
  else
    if mx_f2 .gt i1 3 = true then
      s289_27 E w s
    else
      if mx_f1 .lt i2 = true then
        s289_27 E w s
      else
        if mx_f2 .gt i2 4 = true then
          s289_27 E w s
        else
          if mx_f1 .lt i3 = true then
            s289_27 E w s
          else
            if mx_f2 .le i3 4 = true then
              if mx_f1 .ne i1 = true then
                if mx_f2 .ne i1 1 = true then
                  if mx_f2 .ne i1 2 = true then
                    ((E 293 [.int i2, .int i3] s).bind rxI).bind fun x10 =>
                    if mx_f1 .eq x10.1 = true then
                      s289_84 E w 0 x10.2
                    else
                      s289_84 E w 1 x10.2
                  else
                    ((E 292 [.int i2, .int i3] s).bind rxI).bind fun x16 =>
                    s289_84 E w x16.1 x16.2
                else
                  ((E 291 [.int i2, .int i3] s).bind rxI).bind fun x21 =>
                  rrI (some .int) x21.1 x21.2
              else
                ((E 290 [.int i2, .int i3] s).bind rxI).bind fun x26 =>
                if mx_f1 .eq x26.1 = true then
                  s289_46 E w 0 x26.2
                else
                  s289_46 E w 1 x26.2
            else
              s289_27 E w s
theorem r289_0 {L : Nat} {xs : Nat → Int32} {zf : Value} {D : dD} {E : rE} {w : Nat} (hD : rO D E L xs) : ∀ (i1 : Int32) (i2 : Int32) (i3 : Int32) (h : rm_H) (s : rS) (r : rA), RS h s → s289_0 E w i1 i2 i3 s = some r → rx (b289_0 L xs zf D w i1 i2 i3 h) h r := by
  intro i1 i2 i3 h s r hR hh
  unfold s289_0 at hh
  unfold b289_0
  rcases di hh with ⟨q1, hh⟩ | ⟨q1, hh⟩
  · refine rx_t q1 ?_
    exact r289_27 hD  _ _ _ hR hh
  · refine rx_f q1 ?_
    rcases di hh with ⟨q2, hh⟩ | ⟨q2, hh⟩
    · refine rx_t q2 ?_
      exact r289_27 hD  _ _ _ hR hh
    · refine rx_f q2 ?_
      rcases di hh with ⟨q3, hh⟩ | ⟨q3, hh⟩
      · refine rx_t q3 ?_
        exact r289_27 hD  _ _ _ hR hh
      · refine rx_f q3 ?_
        rcases di hh with ⟨q4, hh⟩ | ⟨q4, hh⟩
        · refine rx_t q4 ?_
          exact r289_27 hD  _ _ _ hR hh
        · refine rx_f q4 ?_
          rcases di hh with ⟨q5, hh⟩ | ⟨q5, hh⟩
          · refine rx_t q5 ?_
            exact r289_27 hD  _ _ _ hR hh
          · refine rx_f q5 ?_
            rcases di hh with ⟨q6, hh⟩ | ⟨q6, hh⟩
            · refine rx_t q6 ?_
              rcases di hh with ⟨q7, hh⟩ | ⟨q7, hh⟩
              · refine rx_t q7 ?_
                rcases di hh with ⟨q8, hh⟩ | ⟨q8, hh⟩
                · refine rx_t q8 ?_
                  rcases di hh with ⟨q9, hh⟩ | ⟨q9, hh⟩
                  · refine rx_t q9 ?_
                    obtain ⟨x10, q11, hh⟩ := db hh
                    obtain ⟨h12, e13, hR, f14⟩ := rs_cI hD hR q11
                    refine rx_c e13 f14 ?_
                    rcases di hh with ⟨q15, hh⟩ | ⟨q15, hh⟩
                    · refine rx_t q15 ?_
                      exact r289_84 hD _ _ _ _ hR hh
                    · refine rx_f q15 ?_
                      exact r289_84 hD _ _ _ _ hR hh
                  · refine rx_f q9 ?_
                    obtain ⟨x16, q17, hh⟩ := db hh
                    obtain ⟨h18, e19, hR, f20⟩ := rs_cI hD hR q17
                    refine rx_c e19 f20 ?_
                    exact r289_84 hD _ _ _ _ hR hh
                · refine rx_f q8 ?_
                  obtain ⟨x21, q22, hh⟩ := db hh
                  obtain ⟨h23, e24, hR, f25⟩ := rs_cI hD hR q22
                  refine rx_c e24 f25 ?_
                  exact rx_I hR hh
              · refine rx_f q7 ?_
                obtain ⟨x26, q27, hh⟩ := db hh
                obtain ⟨h28, e29, hR, f30⟩ := rs_cI hD hR q27
                refine rx_c e29 f30 ?_
                rcases di hh with ⟨q31, hh⟩ | ⟨q31, hh⟩
                · refine rx_t q31 ?_
                  exact r289_46 hD _ _ _ _ hR hh
                · refine rx_f q31 ?_
                  exact r289_46 hD _ _ _ _ hR hh
            · refine rx_f q6 ?_
              exact r289_27 hD  _ _ _ hR hh
def g289 (E : rE) (w : Nat) (As : List Value) (s : rS) : Option rA := match As with
  | [.ref 36, .int i1, .int i2, .int i3] => s289_0 E w i1 i2 i3 s
  | _ => none
theorem t289 {L : Nat} {xs : Nat → Int32} {zf : Value} {D : dD} {E : rE} {w : Nat} (hD : rO D E L xs) (As : List Value) (h : rm_H) (s : rS) (r : rA) (hR : RS h s) (hh : g289 E w As s = some r) : rx (f289 L xs zf D w As h) h r := by
  unfold g289 at hh
  split at hh
  · unfold f289
    dsimp only
    refine rx_b (a := some 36) rfl ?_
    exact r289_0 hD _ _ _ _ _ _ hR hh
  · cases hh
def s290_43 (E : rE) (w : Nat) (s0 : Int32) (s : rS) : Option rA :=
  rrI (some .boolean) s0 s
theorem r290_43 {L : Nat} {xs : Nat → Int32} {zf : Value} {D : dD} {E : rE} {w : Nat} (hD : rO D E L xs) : ∀ (s0 : Int32) (h : rm_H) (s : rS) (r : rA), RS h s → s290_43 E w s0 s = some r → rx (b290_43 L xs zf D w s0 h) h r := by
  intro s0 h s r hR hh
  unfold s290_43 at hh
  unfold b290_43
  exact rx_I hR hh
def s290_59 (E : rE) (w : Nat) (s0 : Int32) (s : rS) : Option rA :=
  rrI (some .boolean) s0 s
theorem r290_59 {L : Nat} {xs : Nat → Int32} {zf : Value} {D : dD} {E : rE} {w : Nat} (hD : rO D E L xs) : ∀ (s0 : Int32) (h : rm_H) (s : rS) (r : rA), RS h s → s290_59 E w s0 s = some r → rx (b290_59 L xs zf D w s0 h) h r := by
  intro s0 h s r hR hh
  unfold s290_59 at hh
  unfold b290_59
  exact rx_I hR hh
def s290_54 (E : rE) (w : Nat) (s : rS) : Option rA :=
  s290_59 E w 1 s
theorem r290_54 {L : Nat} {xs : Nat → Int32} {zf : Value} {D : dD} {E : rE} {w : Nat} (hD : rO D E L xs) : ∀ (h : rm_H) (s : rS) (r : rA), RS h s → s290_54 E w s = some r → rx (b290_54 L xs zf D w h) h r := by
  intro h s r hR hh
  unfold s290_54 at hh
  unfold b290_54
  exact r290_59 hD _ _ _ _ hR hh
def s290_75 (E : rE) (w : Nat) (s0 : Int32) (s : rS) : Option rA :=
  rrI (some .boolean) s0 s
theorem r290_75 {L : Nat} {xs : Nat → Int32} {zf : Value} {D : dD} {E : rE} {w : Nat} (hD : rO D E L xs) : ∀ (s0 : Int32) (h : rm_H) (s : rS) (r : rA), RS h s → s290_75 E w s0 s = some r → rx (b290_75 L xs zf D w s0 h) h r := by
  intro s0 h s r hR hh
  unfold s290_75 at hh
  unfold b290_75
  exact rx_I hR hh
def s290_70 (E : rE) (w : Nat) (s : rS) : Option rA :=
  s290_75 E w 1 s
theorem r290_70 {L : Nat} {xs : Nat → Int32} {zf : Value} {D : dD} {E : rE} {w : Nat} (hD : rO D E L xs) : ∀ (h : rm_H) (s : rS) (r : rA), RS h s → s290_70 E w s = some r → rx (b290_70 L xs zf D w h) h r := by
  intro h s r hR hh
  unfold s290_70 at hh
  unfold b290_70
  exact r290_75 hD _ _ _ _ hR hh
def s290_86 (E : rE) (w : Nat) (s0 : Int32) (s : rS) : Option rA :=
  rrI (some .boolean) s0 s
theorem r290_86 {L : Nat} {xs : Nat → Int32} {zf : Value} {D : dD} {E : rE} {w : Nat} (hD : rO D E L xs) : ∀ (s0 : Int32) (h : rm_H) (s : rS) (r : rA), RS h s → s290_86 E w s0 s = some r → rx (b290_86 L xs zf D w s0 h) h r := by
  intro s0 h s r hR hh
  unfold s290_86 at hh
  unfold b290_86
  exact rx_I hR hh
def s290_0 (E : rE) (w : Nat) (i0 : Int32) (i1 : Int32) (s : rS) : Option rA :=
  if dsw 0 3 i0 = true then
    if mx_f2 .ne i1 4 = true then
      s290_86 E w 0 s
    else
      s290_86 E w 1 s
  else if i0 = 0 then
    rrI (some .boolean) 1 s
  else if i0 = 1 then
    if mx_f1 .eq i1 = true then
      s290_43 E w 0 s
    else
      s290_43 E w 1 s
  else if i0 = 2 then
    if mx_f2 .eq i1 2 = true then
      s290_54 E w s
    else
      if mx_f2 .ne i1 4 = true then
        s290_59 E w 0 s
      else
        s290_54 E w s
  else if i0 = 3 then
    if mx_f2 .eq i1 3 = true then
      s290_70 E w s
    else
      if mx_f2 .ne i1 4 = true then
        s290_75 E w 0 s
      else
        s290_70 E w s
  else none
theorem r290_0 {L : Nat} {xs : Nat → Int32} {zf : Value} {D : dD} {E : rE} {w : Nat} (hD : rO D E L xs) : ∀ (i0 : Int32) (i1 : Int32) (h : rm_H) (s : rS) (r : rA), RS h s → s290_0 E w i0 i1 s = some r → rx (b290_0 L xs zf D w i0 i1 h) h r := by
  intro i0 i1 h s r hR hh
  unfold s290_0 at hh
  unfold b290_0
  rcases di hh with ⟨q1, hh⟩ | ⟨q1, hh⟩
  · refine rx_t q1 ?_
    rcases di hh with ⟨q2, hh⟩ | ⟨q2, hh⟩
    · refine rx_t q2 ?_
      exact r290_86 hD _ _ _ _ hR hh
    · refine rx_f q2 ?_
      exact r290_86 hD _ _ _ _ hR hh
  refine rx_f q1 ?_
  rcases dp hh with ⟨q3, hh⟩ | ⟨q3, hh⟩
  · refine rx_pt q3 ?_
    exact rx_I hR hh
  refine rx_pf q3 ?_
  rcases dp hh with ⟨q4, hh⟩ | ⟨q4, hh⟩
  · refine rx_pt q4 ?_
    rcases di hh with ⟨q5, hh⟩ | ⟨q5, hh⟩
    · refine rx_t q5 ?_
      exact r290_43 hD _ _ _ _ hR hh
    · refine rx_f q5 ?_
      exact r290_43 hD _ _ _ _ hR hh
  refine rx_pf q4 ?_
  rcases dp hh with ⟨q6, hh⟩ | ⟨q6, hh⟩
  · refine rx_pt q6 ?_
    rcases di hh with ⟨q7, hh⟩ | ⟨q7, hh⟩
    · refine rx_t q7 ?_
      exact r290_54 hD  _ _ _ hR hh
    · refine rx_f q7 ?_
      rcases di hh with ⟨q8, hh⟩ | ⟨q8, hh⟩
      · refine rx_t q8 ?_
        exact r290_59 hD _ _ _ _ hR hh
      · refine rx_f q8 ?_
        exact r290_54 hD  _ _ _ hR hh
  refine rx_pf q6 ?_
  rcases dp hh with ⟨q9, hh⟩ | ⟨q9, hh⟩
  · refine rx_pt q9 ?_
    rcases di hh with ⟨q10, hh⟩ | ⟨q10, hh⟩
    · refine rx_t q10 ?_
      exact r290_70 hD  _ _ _ hR hh
    · refine rx_f q10 ?_
      rcases di hh with ⟨q11, hh⟩ | ⟨q11, hh⟩
      · refine rx_t q11 ?_
        exact r290_75 hD _ _ _ _ hR hh
      · refine rx_f q11 ?_
        exact r290_70 hD  _ _ _ hR hh
  refine rx_pf q9 ?_
  cases hh
def g290 (E : rE) (w : Nat) (As : List Value) (s : rS) : Option rA := match As with
  | [.int i0, .int i1] => s290_0 E w i0 i1 s
  | _ => none
theorem t290 {L : Nat} {xs : Nat → Int32} {zf : Value} {D : dD} {E : rE} {w : Nat} (hD : rO D E L xs) (As : List Value) (h : rm_H) (s : rS) (r : rA) (hR : RS h s) (hh : g290 E w As s = some r) : rx (f290 L xs zf D w As h) h r := by
  unfold g290 at hh
  split at hh
  · unfold f290
    dsimp only
    exact r290_0 hD _ _ _ _ _ hR hh
  · cases hh
def s291_17 (E : rE) (w : Nat) (s : rS) : Option rA :=
  rrI (some .int) 3 s
theorem r291_17 {L : Nat} {xs : Nat → Int32} {zf : Value} {D : dD} {E : rE} {w : Nat} (hD : rO D E L xs) : ∀ (h : rm_H) (s : rS) (r : rA), RS h s → s291_17 E w s = some r → rx (b291_17 L xs zf D w h) h r := by
  intro h s r hR hh
  unfold s291_17 at hh
  unfold b291_17
  exact rx_I hR hh
def s291_33 (E : rE) (w : Nat) (s0 : Int32) (s : rS) : Option rA :=
  rrI (some .int) s0 s
theorem r291_33 {L : Nat} {xs : Nat → Int32} {zf : Value} {D : dD} {E : rE} {w : Nat} (hD : rO D E L xs) : ∀ (s0 : Int32) (h : rm_H) (s : rS) (r : rA), RS h s → s291_33 E w s0 s = some r → rx (b291_33 L xs zf D w s0 h) h r := by
  intro s0 h s r hR hh
  unfold s291_33 at hh
  unfold b291_33
  exact rx_I hR hh
def s291_43 (E : rE) (w : Nat) (s0 : Int32) (s : rS) : Option rA :=
  rrI (some .int) s0 s
theorem r291_43 {L : Nat} {xs : Nat → Int32} {zf : Value} {D : dD} {E : rE} {w : Nat} (hD : rO D E L xs) : ∀ (s0 : Int32) (h : rm_H) (s : rS) (r : rA), RS h s → s291_43 E w s0 s = some r → rx (b291_43 L xs zf D w s0 h) h r := by
  intro s0 h s r hR hh
  unfold s291_43 at hh
  unfold b291_43
  exact rx_I hR hh
def s291_0 (E : rE) (w : Nat) (i0 : Int32) (i1 : Int32) (s : rS) : Option rA :=
  if mx_f2 .ne i0 2 = true then
    if mx_f2 .eq i0 3 = true then
      s291_17 E w s
    else
      if mx_f2 .ne i1 3 = true then
        if mx_f1 .ne i1 = true then
          if mx_f1 .ne i0 = true then
            s291_43 E w 4 s
          else
            s291_43 E w (-1) s
        else
          if mx_f2 .ne i0 4 = true then
            s291_33 E w 0 s
          else
            s291_33 E w (-1) s
      else
        s291_17 E w s
  else
    rrI (some .int) i1 s
theorem r291_0 {L : Nat} {xs : Nat → Int32} {zf : Value} {D : dD} {E : rE} {w : Nat} (hD : rO D E L xs) : ∀ (i0 : Int32) (i1 : Int32) (h : rm_H) (s : rS) (r : rA), RS h s → s291_0 E w i0 i1 s = some r → rx (b291_0 L xs zf D w i0 i1 h) h r := by
  intro i0 i1 h s r hR hh
  unfold s291_0 at hh
  unfold b291_0
  rcases di hh with ⟨q1, hh⟩ | ⟨q1, hh⟩
  · refine rx_t q1 ?_
    rcases di hh with ⟨q2, hh⟩ | ⟨q2, hh⟩
    · refine rx_t q2 ?_
      exact r291_17 hD  _ _ _ hR hh
    · refine rx_f q2 ?_
      rcases di hh with ⟨q3, hh⟩ | ⟨q3, hh⟩
      · refine rx_t q3 ?_
        rcases di hh with ⟨q4, hh⟩ | ⟨q4, hh⟩
        · refine rx_t q4 ?_
          rcases di hh with ⟨q5, hh⟩ | ⟨q5, hh⟩
          · refine rx_t q5 ?_
            exact r291_43 hD _ _ _ _ hR hh
          · refine rx_f q5 ?_
            exact r291_43 hD _ _ _ _ hR hh
        · refine rx_f q4 ?_
          rcases di hh with ⟨q6, hh⟩ | ⟨q6, hh⟩
          · refine rx_t q6 ?_
            exact r291_33 hD _ _ _ _ hR hh
          · refine rx_f q6 ?_
            exact r291_33 hD _ _ _ _ hR hh
      · refine rx_f q3 ?_
        exact r291_17 hD  _ _ _ hR hh
  · refine rx_f q1 ?_
    exact rx_I hR hh
def g291 (E : rE) (w : Nat) (As : List Value) (s : rS) : Option rA := match As with
  | [.int i0, .int i1] => s291_0 E w i0 i1 s
  | _ => none
theorem t291 {L : Nat} {xs : Nat → Int32} {zf : Value} {D : dD} {E : rE} {w : Nat} (hD : rO D E L xs) (As : List Value) (h : rm_H) (s : rS) (r : rA) (hR : RS h s) (hh : g291 E w As s = some r) : rx (f291 L xs zf D w As h) h r := by
  unfold g291 at hh
  split at hh
  · unfold f291
    dsimp only
    exact r291_0 hD _ _ _ _ _ hR hh
  · cases hh
def s292_27 (E : rE) (w : Nat) (s0 : Int32) (s : rS) : Option rA :=
  rrI (some .int) s0 s
theorem r292_27 {L : Nat} {xs : Nat → Int32} {zf : Value} {D : dD} {E : rE} {w : Nat} (hD : rO D E L xs) : ∀ (s0 : Int32) (h : rm_H) (s : rS) (r : rA), RS h s → s292_27 E w s0 s = some r → rx (b292_27 L xs zf D w s0 h) h r := by
  intro s0 h s r hR hh
  unfold s292_27 at hh
  unfold b292_27
  exact rx_I hR hh
def s292_22 (E : rE) (w : Nat) (s : rS) : Option rA :=
  s292_27 E w 4 s
theorem r292_22 {L : Nat} {xs : Nat → Int32} {zf : Value} {D : dD} {E : rE} {w : Nat} (hD : rO D E L xs) : ∀ (h : rm_H) (s : rS) (r : rA), RS h s → s292_22 E w s = some r → rx (b292_22 L xs zf D w h) h r := by
  intro h s r hR hh
  unfold s292_22 at hh
  unfold b292_22
  exact r292_27 hD _ _ _ _ hR hh
def s292_46 (E : rE) (w : Nat) (s0 : Int32) (s : rS) : Option rA :=
  rrI (some .int) s0 s
theorem r292_46 {L : Nat} {xs : Nat → Int32} {zf : Value} {D : dD} {E : rE} {w : Nat} (hD : rO D E L xs) : ∀ (s0 : Int32) (h : rm_H) (s : rS) (r : rA), RS h s → s292_46 E w s0 s = some r → rx (b292_46 L xs zf D w s0 h) h r := by
  intro s0 h s r hR hh
  unfold s292_46 at hh
  unfold b292_46
  exact rx_I hR hh
def s292_41 (E : rE) (w : Nat) (i1 : Int32) (s : rS) : Option rA :=
  s292_46 E w i1 s
theorem r292_41 {L : Nat} {xs : Nat → Int32} {zf : Value} {D : dD} {E : rE} {w : Nat} (hD : rO D E L xs) : ∀ (i1 : Int32) (h : rm_H) (s : rS) (r : rA), RS h s → s292_41 E w i1 s = some r → rx (b292_41 L xs zf D w i1 h) h r := by
  intro i1 h s r hR hh
  unfold s292_41 at hh
  unfold b292_41
  exact r292_46 hD _ _ _ _ hR hh
def s292_45 (E : rE) (w : Nat) (s : rS) : Option rA :=
  s292_46 E w (-1) s
theorem r292_45 {L : Nat} {xs : Nat → Int32} {zf : Value} {D : dD} {E : rE} {w : Nat} (hD : rO D E L xs) : ∀ (h : rm_H) (s : rS) (r : rA), RS h s → s292_45 E w s = some r → rx (b292_45 L xs zf D w h) h r := by
  intro h s r hR hh
  unfold s292_45 at hh
  unfold b292_45
  exact r292_46 hD _ _ _ _ hR hh
def s292_0 (E : rE) (w : Nat) (i0 : Int32) (i1 : Int32) (s : rS) : Option rA :=
  if mx_f2 .ne i0 2 = true then
    if mx_f2 .ne i0 1 = true then
      if mx_f1 .ne i0 = true then
        s292_45 E w s
      else
        if mx_f1 .eq i1 = true then
          s292_41 E w i1 s
        else
          if mx_f2 .ne i1 3 = true then
            s292_45 E w s
          else
            s292_41 E w i1 s
    else
      if mx_f2 .eq i1 1 = true then
        s292_22 E w s
      else
        if mx_f2 .ne i1 2 = true then
          s292_27 E w i1 s
        else
          s292_22 E w s
  else
    rrI (some .int) i1 s
theorem r292_0 {L : Nat} {xs : Nat → Int32} {zf : Value} {D : dD} {E : rE} {w : Nat} (hD : rO D E L xs) : ∀ (i0 : Int32) (i1 : Int32) (h : rm_H) (s : rS) (r : rA), RS h s → s292_0 E w i0 i1 s = some r → rx (b292_0 L xs zf D w i0 i1 h) h r := by
  intro i0 i1 h s r hR hh
  unfold s292_0 at hh
  unfold b292_0
  rcases di hh with ⟨q1, hh⟩ | ⟨q1, hh⟩
  · refine rx_t q1 ?_
    rcases di hh with ⟨q2, hh⟩ | ⟨q2, hh⟩
    · refine rx_t q2 ?_
      rcases di hh with ⟨q3, hh⟩ | ⟨q3, hh⟩
      · refine rx_t q3 ?_
        exact r292_45 hD  _ _ _ hR hh
      · refine rx_f q3 ?_
        rcases di hh with ⟨q4, hh⟩ | ⟨q4, hh⟩
        · refine rx_t q4 ?_
          exact r292_41 hD _ _ _ _ hR hh
        · refine rx_f q4 ?_
          rcases di hh with ⟨q5, hh⟩ | ⟨q5, hh⟩
          · refine rx_t q5 ?_
            exact r292_45 hD  _ _ _ hR hh
          · refine rx_f q5 ?_
            exact r292_41 hD _ _ _ _ hR hh
    · refine rx_f q2 ?_
      rcases di hh with ⟨q6, hh⟩ | ⟨q6, hh⟩
      · refine rx_t q6 ?_
        exact r292_22 hD  _ _ _ hR hh
      · refine rx_f q6 ?_
        rcases di hh with ⟨q7, hh⟩ | ⟨q7, hh⟩
        · refine rx_t q7 ?_
          exact r292_27 hD _ _ _ _ hR hh
        · refine rx_f q7 ?_
          exact r292_22 hD  _ _ _ hR hh
  · refine rx_f q1 ?_
    exact rx_I hR hh
def g292 (E : rE) (w : Nat) (As : List Value) (s : rS) : Option rA := match As with
  | [.int i0, .int i1] => s292_0 E w i0 i1 s
  | _ => none
theorem t292 {L : Nat} {xs : Nat → Int32} {zf : Value} {D : dD} {E : rE} {w : Nat} (hD : rO D E L xs) (As : List Value) (h : rm_H) (s : rS) (r : rA) (hR : RS h s) (hh : g292 E w As s = some r) : rx (f292 L xs zf D w As h) h r := by
  unfold g292 at hh
  split at hh
  · unfold f292
    dsimp only
    exact r292_0 hD _ _ _ _ _ hR hh
  · cases hh
def s293_38 (E : rE) (w : Nat) (s0 : Int32) (s : rS) : Option rA :=
  rrI (some .boolean) s0 s
theorem r293_38 {L : Nat} {xs : Nat → Int32} {zf : Value} {D : dD} {E : rE} {w : Nat} (hD : rO D E L xs) : ∀ (s0 : Int32) (h : rm_H) (s : rS) (r : rA), RS h s → s293_38 E w s0 s = some r → rx (b293_38 L xs zf D w s0 h) h r := by
  intro s0 h s r hR hh
  unfold s293_38 at hh
  unfold b293_38
  exact rx_I hR hh
def s293_33 (E : rE) (w : Nat) (s : rS) : Option rA :=
  s293_38 E w 1 s
theorem r293_33 {L : Nat} {xs : Nat → Int32} {zf : Value} {D : dD} {E : rE} {w : Nat} (hD : rO D E L xs) : ∀ (h : rm_H) (s : rS) (r : rA), RS h s → s293_33 E w s = some r → rx (b293_33 L xs zf D w h) h r := by
  intro h s r hR hh
  unfold s293_33 at hh
  unfold b293_33
  exact r293_38 hD _ _ _ _ hR hh
def s293_37 (E : rE) (w : Nat) (s : rS) : Option rA :=
  s293_38 E w 0 s
theorem r293_37 {L : Nat} {xs : Nat → Int32} {zf : Value} {D : dD} {E : rE} {w : Nat} (hD : rO D E L xs) : ∀ (h : rm_H) (s : rS) (r : rA), RS h s → s293_37 E w s = some r → rx (b293_37 L xs zf D w h) h r := by
  intro h s r hR hh
  unfold s293_37 at hh
  unfold b293_37
  exact r293_38 hD _ _ _ _ hR hh
def s293_23 (E : rE) (w : Nat) (i0 : Int32) (i1 : Int32) (s : rS) : Option rA :=
  if mx_f2 .ne i0 1 = true then
    s293_37 E w s
  else
    if mx_f2 .ne i1 1 = true then
      s293_37 E w s
    else
      s293_33 E w s
theorem r293_23 {L : Nat} {xs : Nat → Int32} {zf : Value} {D : dD} {E : rE} {w : Nat} (hD : rO D E L xs) : ∀ (i0 : Int32) (i1 : Int32) (h : rm_H) (s : rS) (r : rA), RS h s → s293_23 E w i0 i1 s = some r → rx (b293_23 L xs zf D w i0 i1 h) h r := by
  intro i0 i1 h s r hR hh
  unfold s293_23 at hh
  unfold b293_23
  rcases di hh with ⟨q1, hh⟩ | ⟨q1, hh⟩
  · refine rx_t q1 ?_
    exact r293_37 hD  _ _ _ hR hh
  · refine rx_f q1 ?_
    rcases di hh with ⟨q2, hh⟩ | ⟨q2, hh⟩
    · refine rx_t q2 ?_
      exact r293_37 hD  _ _ _ hR hh
    · refine rx_f q2 ?_
      exact r293_33 hD  _ _ _ hR hh
def s293_14 (E : rE) (w : Nat) (i0 : Int32) (i1 : Int32) (s : rS) : Option rA :=
  if mx_f1 .eq i1 = true then
    s293_33 E w s
  else
    if mx_f2 .eq i1 3 = true then
      s293_33 E w s
    else
      s293_23 E w i0 i1 s
theorem r293_14 {L : Nat} {xs : Nat → Int32} {zf : Value} {D : dD} {E : rE} {w : Nat} (hD : rO D E L xs) : ∀ (i0 : Int32) (i1 : Int32) (h : rm_H) (s : rS) (r : rA), RS h s → s293_14 E w i0 i1 s = some r → rx (b293_14 L xs zf D w i0 i1 h) h r := by
  intro i0 i1 h s r hR hh
  unfold s293_14 at hh
  unfold b293_14
  rcases di hh with ⟨q1, hh⟩ | ⟨q1, hh⟩
  · refine rx_t q1 ?_
    exact r293_33 hD  _ _ _ hR hh
  · refine rx_f q1 ?_
    rcases di hh with ⟨q2, hh⟩ | ⟨q2, hh⟩
    · refine rx_t q2 ?_
      exact r293_33 hD  _ _ _ hR hh
    · refine rx_f q2 ?_
      exact r293_23 hD _ _ _ _ _ hR hh
def s293_0 (E : rE) (w : Nat) (i0 : Int32) (i1 : Int32) (s : rS) : Option rA :=
  if mx_f2 .eq i0 2 = true then
    s293_33 E w s
  else
    if mx_f2 .eq i0 1 = true then
      s293_14 E w i0 i1 s
    else
      if mx_f1 .ne i0 = true then
        s293_23 E w i0 i1 s
      else
        s293_14 E w i0 i1 s
theorem r293_0 {L : Nat} {xs : Nat → Int32} {zf : Value} {D : dD} {E : rE} {w : Nat} (hD : rO D E L xs) : ∀ (i0 : Int32) (i1 : Int32) (h : rm_H) (s : rS) (r : rA), RS h s → s293_0 E w i0 i1 s = some r → rx (b293_0 L xs zf D w i0 i1 h) h r := by
  intro i0 i1 h s r hR hh
  unfold s293_0 at hh
  unfold b293_0
  rcases di hh with ⟨q1, hh⟩ | ⟨q1, hh⟩
  · refine rx_t q1 ?_
    exact r293_33 hD  _ _ _ hR hh
  · refine rx_f q1 ?_
    rcases di hh with ⟨q2, hh⟩ | ⟨q2, hh⟩
    · refine rx_t q2 ?_
      exact r293_14 hD _ _ _ _ _ hR hh
    · refine rx_f q2 ?_
      rcases di hh with ⟨q3, hh⟩ | ⟨q3, hh⟩
      · refine rx_t q3 ?_
        exact r293_23 hD _ _ _ _ _ hR hh
      · refine rx_f q3 ?_
        exact r293_14 hD _ _ _ _ _ hR hh
def g293 (E : rE) (w : Nat) (As : List Value) (s : rS) : Option rA := match As with
  | [.int i0, .int i1] => s293_0 E w i0 i1 s
  | _ => none
theorem t293 {L : Nat} {xs : Nat → Int32} {zf : Value} {D : dD} {E : rE} {w : Nat} (hD : rO D E L xs) (As : List Value) (h : rm_H) (s : rS) (r : rA) (hR : RS h s) (hh : g293 E w As s = some r) : rx (f293 L xs zf D w As h) h r := by
  unfold g293 at hh
  split at hh
  · unfold f293
    dsimp only
    exact r293_0 hD _ _ _ _ _ hR hh
  · cases hh
def s294_170 (E : rE) (w : Nat) (s : rS) : Option rA :=
  if mx_f1 .le (s.1 57) = true then
    (rs_pI s 73 1).bind fun s2 =>
    rrI (some .int) (s2.1 32) s2
  else
    rrI (some .int) (-1) s
theorem r294_170 {L : Nat} {xs : Nat → Int32} {zf : Value} {D : dD} {E : rE} {w : Nat} (hD : rO D E L xs) : ∀ (h : rm_H) (s : rS) (r : rA), RS h s → s294_170 E w s = some r → rx (b294_170 L xs zf D w (some 36) h) h r := by
  intro h s r hR hh
  unfold s294_170 at hh
  unfold b294_170
  refine rx_b (rs_gI hR 57 _ rfl) ?_
  rcases di hh with ⟨q1, hh⟩ | ⟨q1, hh⟩
  · refine rx_t q1 ?_
    obtain ⟨s2, q3, hh⟩ := db hh
    obtain ⟨h4, e5, hR, f6⟩ := rs_pI_ok (rs_m73 _ _) (by decide) hR q3
    refine rx_w e5 f6 ?_
    refine rx_b (rs_gI hR 32 _ rfl) ?_
    exact rx_I hR hh
  · refine rx_f q1 ?_
    exact rx_I hR hh
def s294_144 (E : rE) (w : Nat) : Nat → Int32 → rS → Option rA
  | 0, _, _ => none
  | n + 1, i1, s =>
    if mx_f2 .ge i1 (s.1 42) = true then
      s294_170 E w s
    else
      if mx_f1 .ne (s.1 57) = true then
        s294_170 E w s
      else
        ((E 334 [.ref 36, .int i1] s).bind rxV).bind fun s3 =>
        s294_144 E w n (i1 + 1) s3
theorem r294_144 {L : Nat} {xs : Nat → Int32} {zf : Value} {D : dD} {E : rE} {w : Nat} (hD : rO D E L xs) : ∀ (n : Nat) (i1 : Int32) (h : rm_H) (s : rS) (r : rA), RS h s → s294_144 E w n i1 s = some r → rx (b294_144 L xs zf D w n (some 36) i1 h) h r := by
  intro n
  induction n with
  | zero =>
    intro i1 h s r hR hh
    cases hh
  | succ n ih =>
    intro i1 h s r hR hh
    rw [s294_144] at hh
    rw [b294_144]
    refine rx_b (rs_gI hR 42 _ rfl) ?_
    rcases di hh with ⟨q1, hh⟩ | ⟨q1, hh⟩
    · refine rx_t q1 ?_
      exact r294_170 hD  _ _ _ hR hh
    · refine rx_f q1 ?_
      refine rx_b (rs_gI hR 57 _ rfl) ?_
      rcases di hh with ⟨q2, hh⟩ | ⟨q2, hh⟩
      · refine rx_t q2 ?_
        exact r294_170 hD  _ _ _ hR hh
      · refine rx_f q2 ?_
        obtain ⟨s3, q4, hh⟩ := db hh
        obtain ⟨h5, e6, hR, f7⟩ := rs_vV hD hR q4
        refine rx_w e6 f7 ?_
        exact ih _ _ _ _ hR hh
def s294_142 (E : rE) (w : Nat) (s : rS) : Option rA :=
  s294_144 E w w 0 s
theorem r294_142 {L : Nat} {xs : Nat → Int32} {zf : Value} {D : dD} {E : rE} {w : Nat} (hD : rO D E L xs) : ∀ (h : rm_H) (s : rS) (r : rA), RS h s → s294_142 E w s = some r → rx (b294_142 L xs zf D w (some 36) h) h r := by
  intro h s r hR hh
  unfold s294_142 at hh
  unfold b294_142
  exact r294_144 hD _ _ _ _ _ hR hh
def s294_10 (E : rE) (w : Nat) : Nat → Int32 → rS → Option rA
  | 0, _, _ => none
  | n + 1, i1, s =>
    if mx_f2 .ge i1 (s.1 3) = true then
      (rs_pI s 2 0).bind fun s2 =>
      (rs_pI s2 74 0).bind fun s7 =>
      (rs_pI s7 111 0).bind fun s12 =>
      (rs_pI s12 72 1).bind fun s17 =>
      (rs_pI s17 73 0).bind fun s22 =>
      (rs_pI s22 56 0).bind fun s27 =>
      (rs_pI s27 57 0).bind fun s32 =>
      (rs_pI s32 58 (-1)).bind fun s37 =>
      (rs_pI s37 10 1).bind fun s42 =>
      (rs_pI s42 24 0).bind fun s47 =>
      (rs_pI s47 25 0).bind fun s52 =>
      (rs_pI s52 26 0).bind fun s57 =>
      (rs_pI s57 32 0).bind fun s62 =>
      (rs_pI s62 38 0).bind fun s67 =>
      (rs_pI s67 42 0).bind fun s72 =>
      (rs_pI s72 52 0).bind fun s77 =>
      (rs_sI s77 77 0 0).bind fun s82 =>
      ((E 295 [.ref 36] s82).bind rxV).bind fun s87 =>
      ((E 302 [.ref 36] s87).bind rxV).bind fun s92 =>
      if mx_f1 .ne (s92.1 57) = true then
        s294_142 E w s92
      else
        ((E 326 [.ref 36] s92).bind rxV).bind fun s98 =>
        s294_142 E w s98
    else
      (rs_aI s 37 i1).bind fun x103 =>
      (rs_sI s 38 i1 x103).bind fun s105 =>
      s294_10 E w n (i1 + 1) s105
theorem r294_10 {L : Nat} {xs : Nat → Int32} {zf : Value} {D : dD} {E : rE} {w : Nat} (hD : rO D E L xs) : ∀ (n : Nat) (i1 : Int32) (h : rm_H) (s : rS) (r : rA), RS h s → s294_10 E w n i1 s = some r → rx (b294_10 L xs zf D w n (some 36) i1 h) h r := by
  intro n
  induction n with
  | zero =>
    intro i1 h s r hR hh
    cases hh
  | succ n ih =>
    intro i1 h s r hR hh
    rw [s294_10] at hh
    rw [b294_10]
    refine rx_b (rs_gI hR 3 _ rfl) ?_
    rcases di hh with ⟨q1, hh⟩ | ⟨q1, hh⟩
    · refine rx_t q1 ?_
      obtain ⟨s2, q3, hh⟩ := db hh
      obtain ⟨h4, e5, hR, f6⟩ := rs_pI_ok (rs_m2 _ _) (by decide) hR q3
      refine rx_w e5 f6 ?_
      obtain ⟨s7, q8, hh⟩ := db hh
      obtain ⟨h9, e10, hR, f11⟩ := rs_pI_ok (rs_m74 _ _) (by decide) hR q8
      refine rx_w e10 f11 ?_
      obtain ⟨s12, q13, hh⟩ := db hh
      obtain ⟨h14, e15, hR, f16⟩ := rs_pI_ok (rs_m111 _ _) (by decide) hR q13
      refine rx_w e15 f16 ?_
      obtain ⟨s17, q18, hh⟩ := db hh
      obtain ⟨h19, e20, hR, f21⟩ := rs_pI_ok (rs_m72 _ _) (by decide) hR q18
      refine rx_w e20 f21 ?_
      obtain ⟨s22, q23, hh⟩ := db hh
      obtain ⟨h24, e25, hR, f26⟩ := rs_pI_ok (rs_m73 _ _) (by decide) hR q23
      refine rx_w e25 f26 ?_
      obtain ⟨s27, q28, hh⟩ := db hh
      obtain ⟨h29, e30, hR, f31⟩ := rs_pI_ok (rs_m56 _ _) (by decide) hR q28
      refine rx_w e30 f31 ?_
      obtain ⟨s32, q33, hh⟩ := db hh
      obtain ⟨h34, e35, hR, f36⟩ := rs_pI_ok (rs_m57 _ _) (by decide) hR q33
      refine rx_w e35 f36 ?_
      obtain ⟨s37, q38, hh⟩ := db hh
      obtain ⟨h39, e40, hR, f41⟩ := rs_pI_ok (rs_m58 _ _) (by decide) hR q38
      refine rx_w e40 f41 ?_
      obtain ⟨s42, q43, hh⟩ := db hh
      obtain ⟨h44, e45, hR, f46⟩ := rs_pI_ok (rs_m10 _ _) (by decide) hR q43
      refine rx_w e45 f46 ?_
      obtain ⟨s47, q48, hh⟩ := db hh
      obtain ⟨h49, e50, hR, f51⟩ := rs_pI_ok (rs_m24 _ _) (by decide) hR q48
      refine rx_w e50 f51 ?_
      obtain ⟨s52, q53, hh⟩ := db hh
      obtain ⟨h54, e55, hR, f56⟩ := rs_pI_ok (rs_m25 _ _) (by decide) hR q53
      refine rx_w e55 f56 ?_
      obtain ⟨s57, q58, hh⟩ := db hh
      obtain ⟨h59, e60, hR, f61⟩ := rs_pI_ok (rs_m26 _ _) (by decide) hR q58
      refine rx_w e60 f61 ?_
      obtain ⟨s62, q63, hh⟩ := db hh
      obtain ⟨h64, e65, hR, f66⟩ := rs_pI_ok (rs_m32 _ _) (by decide) hR q63
      refine rx_w e65 f66 ?_
      obtain ⟨s67, q68, hh⟩ := db hh
      obtain ⟨h69, e70, hR, f71⟩ := rs_pI_ok (rs_m38 _ _) (by decide) hR q68
      refine rx_w e70 f71 ?_
      obtain ⟨s72, q73, hh⟩ := db hh
      obtain ⟨h74, e75, hR, f76⟩ := rs_pI_ok (rs_m42 _ _) (by decide) hR q73
      refine rx_w e75 f76 ?_
      obtain ⟨s77, q78, hh⟩ := db hh
      obtain ⟨h79, e80, hR, f81⟩ := rs_pI_ok (rs_m52 _ _) (by decide) hR q78
      refine rx_w e80 f81 ?_
      refine rx_b (rs_gR hR 50 77 rfl) ?_
      obtain ⟨s82, q83, hh⟩ := db hh
      obtain ⟨h84, e85, hR, f86⟩ := rs_sI_ok hR q83
      refine rx_w e85 f86 ?_
      obtain ⟨s87, q88, hh⟩ := db hh
      obtain ⟨h89, e90, hR, f91⟩ := rs_vV hD hR q88
      refine rx_w e90 f91 ?_
      obtain ⟨s92, q93, hh⟩ := db hh
      obtain ⟨h94, e95, hR, f96⟩ := rs_vV hD hR q93
      refine rx_w e95 f96 ?_
      refine rx_b (rs_gI hR 57 _ rfl) ?_
      rcases di hh with ⟨q97, hh⟩ | ⟨q97, hh⟩
      · refine rx_t q97 ?_
        exact r294_142 hD  _ _ _ hR hh
      · refine rx_f q97 ?_
        obtain ⟨s98, q99, hh⟩ := db hh
        obtain ⟨h100, e101, hR, f102⟩ := rs_vV hD hR q99
        refine rx_w e101 f102 ?_
        exact r294_142 hD  _ _ _ hR hh
    · refine rx_f q1 ?_
      refine rx_b (rs_gR hR 1 38 rfl) ?_
      refine rx_b (rs_gR hR 0 37 rfl) ?_
      obtain ⟨x103, q104, hh⟩ := db hh
      refine rx_b (rs_aI_ok hR q104) ?_
      obtain ⟨s105, q106, hh⟩ := db hh
      obtain ⟨h107, e108, hR, f109⟩ := rs_sI_ok hR q106
      refine rx_w e108 f109 ?_
      exact ih _ _ _ _ hR hh
def s294_0 (E : rE) (w : Nat) (s : rS) : Option rA :=
  (rs_pI s 3 (s.1 2)).bind fun s1 =>
  s294_10 E w w 0 s1
theorem r294_0 {L : Nat} {xs : Nat → Int32} {zf : Value} {D : dD} {E : rE} {w : Nat} (hD : rO D E L xs) : ∀ (h : rm_H) (s : rS) (r : rA), RS h s → s294_0 E w s = some r → rx (b294_0 L xs zf D w (some 36) h) h r := by
  intro h s r hR hh
  unfold s294_0 at hh
  unfold b294_0
  refine rx_b (rs_gI hR 2 _ rfl) ?_
  obtain ⟨s1, q2, hh⟩ := db hh
  obtain ⟨h3, e4, hR, f5⟩ := rs_pI_ok (rs_m3 _ _) (by decide) hR q2
  refine rx_w e4 f5 ?_
  exact r294_10 hD _ _ _ _ _ hR hh
def g294 (E : rE) (w : Nat) (As : List Value) (s : rS) : Option rA := match As with
  | [.ref 36] => s294_0 E w s
  | _ => none
theorem t294 {L : Nat} {xs : Nat → Int32} {zf : Value} {D : dD} {E : rE} {w : Nat} (hD : rO D E L xs) (As : List Value) (h : rm_H) (s : rS) (r : rA) (hR : RS h s) (hh : g294 E w As s = some r) : rx (f294 L xs zf D w As h) h r := by
  unfold g294 at hh
  split at hh
  · unfold f294
    dsimp only
    refine rx_b (a := some 36) rfl ?_
    exact r294_0 hD  _ _ _ hR hh
  · cases hh
def s295_161 (E : rE) (w : Nat) (K9 : Int32 → Int32 → rS → Option rA) (i1 : Int32) (s0 : Int32) (s : rS) : Option rA :=
  (rs_pI s 5 ((s.1 5) + 1)).bind fun s1 =>
  K9 i1 s0 s1
theorem r295_161 {L : Nat} {xs : Nat → Int32} {zf : Value} {D : dD} {E : rE} {w : Nat} {K9 : Int32 → Int32 → rS → Option rA} {B9 : Option Nat → Int32 → Int32 → rm_H → Option dR} (hD : rO D E L xs) (hK9 : ∀ (i1 : Int32) (i2 : Int32) (h : rm_H) (s : rS) (r : rA), RS h s → K9 i1 i2 s = some r → rx (B9 (some 36) i1 i2 h) h r) : ∀ (i1 : Int32) (s0 : Int32) (h : rm_H) (s : rS) (r : rA), RS h s → s295_161 E w K9 i1 s0 s = some r → rx (b295_161 L xs zf D w B9 (some 36) i1 s0 h) h r := by
  intro i1 s0 h s r hR hh
  unfold s295_161 at hh
  unfold b295_161
  refine rx_b (rs_gI hR 5 _ rfl) ?_
  obtain ⟨s1, q2, hh⟩ := db hh
  obtain ⟨h3, e4, hR, f5⟩ := rs_pI_ok (rs_m5 _ _) (by decide) hR q2
  refine rx_w e4 f5 ?_
  exact hK9 _ _ _ _ _ hR hh
def s295_160 (E : rE) (w : Nat) (K9 : Int32 → Int32 → rS → Option rA) (i1 : Int32) (s : rS) : Option rA :=
  s295_161 E w K9 i1 0 s
theorem r295_160 {L : Nat} {xs : Nat → Int32} {zf : Value} {D : dD} {E : rE} {w : Nat} {K9 : Int32 → Int32 → rS → Option rA} {B9 : Option Nat → Int32 → Int32 → rm_H → Option dR} (hD : rO D E L xs) (hK9 : ∀ (i1 : Int32) (i2 : Int32) (h : rm_H) (s : rS) (r : rA), RS h s → K9 i1 i2 s = some r → rx (B9 (some 36) i1 i2 h) h r) : ∀ (i1 : Int32) (h : rm_H) (s : rS) (r : rA), RS h s → s295_160 E w K9 i1 s = some r → rx (b295_160 L xs zf D w B9 (some 36) i1 h) h r := by
  intro i1 h s r hR hh
  unfold s295_160 at hh
  unfold b295_160
  exact r295_161 hD hK9 _ _ _ _ _ hR hh
def s295_126 (E : rE) (w : Nat) (K9 : Int32 → Int32 → rS → Option rA) (i1 : Int32) (i3 : Int32) (s : rS) : Option rA :=
  (rs_aI s 40 (s.1 5)).bind fun x1 =>
  if mx_f1 .eq x1 = true then
    s295_160 E w K9 (i1 + i3) s
  else
    (rs_aI s 40 (s.1 5)).bind fun x4 =>
    if mx_f2 .eq x4 6 = true then
      s295_160 E w K9 (i1 + i3) s
    else
      s295_161 E w K9 (i1 + i3) 1 s
theorem r295_126 {L : Nat} {xs : Nat → Int32} {zf : Value} {D : dD} {E : rE} {w : Nat} {K9 : Int32 → Int32 → rS → Option rA} {B9 : Option Nat → Int32 → Int32 → rm_H → Option dR} (hD : rO D E L xs) (hK9 : ∀ (i1 : Int32) (i2 : Int32) (h : rm_H) (s : rS) (r : rA), RS h s → K9 i1 i2 s = some r → rx (B9 (some 36) i1 i2 h) h r) : ∀ (i1 : Int32) (i3 : Int32) (h : rm_H) (s : rS) (r : rA), RS h s → s295_126 E w K9 i1 i3 s = some r → rx (b295_126 L xs zf D w B9 (some 36) i1 i3 h) h r := by
  intro i1 i3 h s r hR hh
  unfold s295_126 at hh
  unfold b295_126
  refine rx_b (rs_gR hR 6 40 rfl) ?_
  refine rx_b (rs_gI hR 5 _ rfl) ?_
  obtain ⟨x1, q2, hh⟩ := db hh
  refine rx_b (rs_aI_ok hR q2) ?_
  rcases di hh with ⟨q3, hh⟩ | ⟨q3, hh⟩
  · refine rx_t q3 ?_
    exact r295_160 hD hK9 _ _ _ _ hR hh
  · refine rx_f q3 ?_
    refine rx_b (rs_gR hR 6 40 rfl) ?_
    refine rx_b (rs_gI hR 5 _ rfl) ?_
    obtain ⟨x4, q5, hh⟩ := db hh
    refine rx_b (rs_aI_ok hR q5) ?_
    rcases di hh with ⟨q6, hh⟩ | ⟨q6, hh⟩
    · refine rx_t q6 ?_
      exact r295_160 hD hK9 _ _ _ _ hR hh
    · refine rx_f q6 ?_
      exact r295_161 hD hK9 _ _ _ _ _ hR hh
def s295_40 (E : rE) (w : Nat) (K9 : Int32 → Int32 → rS → Option rA) : Nat → Int32 → Int32 → rS → Option rA
  | 0, _, _, _ => none
  | n + 1, i1, i3, s =>
    ((E 296 [.ref 36, .int (i1 + i3)] s).bind rxI).bind fun x1 =>
    if mx_f1 .eq x1.1 = true then
      (rs_sI x1.2 41 (x1.2.1 5) i1).bind fun s7 =>
      (rs_sI s7 42 (s7.1 5) 0).bind fun s12 =>
      (rs_sJ s12 43 (s12.1 5) 0).bind fun s17 =>
      if mx_f2 .ne i1 (s17.1 3) = true then
        if mx_f1 .le i3 = true then
          ((E 301 [.ref 36, .int i1] s17).bind rxI).bind fun x24 =>
          s295_126 E w K9 i1 x24.1 x24.2
        else
          ((E 300 [.ref 36, .int i1, .int i3] s17).bind rxV).bind fun s29 =>
          s295_126 E w K9 i1 i3 s29
      else
        (rs_sI s17 40 (s17.1 5) 0).bind fun s34 =>
        s295_126 E w K9 i1 i3 s34
    else
      s295_40 E w K9 n i1 (i3 + 1) x1.2
theorem r295_40 {L : Nat} {xs : Nat → Int32} {zf : Value} {D : dD} {E : rE} {w : Nat} {K9 : Int32 → Int32 → rS → Option rA} {B9 : Option Nat → Int32 → Int32 → rm_H → Option dR} (hD : rO D E L xs) (hK9 : ∀ (i1 : Int32) (i2 : Int32) (h : rm_H) (s : rS) (r : rA), RS h s → K9 i1 i2 s = some r → rx (B9 (some 36) i1 i2 h) h r) : ∀ (n : Nat) (i1 : Int32) (i3 : Int32) (h : rm_H) (s : rS) (r : rA), RS h s → s295_40 E w K9 n i1 i3 s = some r → rx (b295_40 L xs zf D w B9 n (some 36) i1 i3 h) h r := by
  intro n
  induction n with
  | zero =>
    intro i1 i3 h s r hR hh
    cases hh
  | succ n ih =>
    intro i1 i3 h s r hR hh
    rw [s295_40] at hh
    rw [b295_40]
    obtain ⟨x1, q2, hh⟩ := db hh
    obtain ⟨h3, e4, hR, f5⟩ := rs_vI hD hR q2
    refine rx_c e4 f5 ?_
    rcases di hh with ⟨q6, hh⟩ | ⟨q6, hh⟩
    · refine rx_t q6 ?_
      refine rx_b (rs_gR hR 7 41 rfl) ?_
      refine rx_b (rs_gI hR 5 _ rfl) ?_
      obtain ⟨s7, q8, hh⟩ := db hh
      obtain ⟨h9, e10, hR, f11⟩ := rs_sI_ok hR q8
      refine rx_w e10 f11 ?_
      refine rx_b (rs_gR hR 8 42 rfl) ?_
      refine rx_b (rs_gI hR 5 _ rfl) ?_
      obtain ⟨s12, q13, hh⟩ := db hh
      obtain ⟨h14, e15, hR, f16⟩ := rs_sI_ok hR q13
      refine rx_w e15 f16 ?_
      refine rx_b (rs_gR hR 9 43 rfl) ?_
      refine rx_b (rs_gI hR 5 _ rfl) ?_
      obtain ⟨s17, q18, hh⟩ := db hh
      obtain ⟨h19, e20, hR, f21⟩ := rs_sJ_ok hR q18
      refine rx_w e20 f21 ?_
      refine rx_b (rs_gI hR 3 _ rfl) ?_
      rcases di hh with ⟨q22, hh⟩ | ⟨q22, hh⟩
      · refine rx_t q22 ?_
        rcases di hh with ⟨q23, hh⟩ | ⟨q23, hh⟩
        · refine rx_t q23 ?_
          obtain ⟨x24, q25, hh⟩ := db hh
          obtain ⟨h26, e27, hR, f28⟩ := rs_vI hD hR q25
          refine rx_c e27 f28 ?_
          exact r295_126 hD hK9 _ _ _ _ _ hR hh
        · refine rx_f q23 ?_
          obtain ⟨s29, q30, hh⟩ := db hh
          obtain ⟨h31, e32, hR, f33⟩ := rs_vV hD hR q30
          refine rx_w e32 f33 ?_
          exact r295_126 hD hK9 _ _ _ _ _ hR hh
      · refine rx_f q22 ?_
        refine rx_b (rs_gR hR 6 40 rfl) ?_
        refine rx_b (rs_gI hR 5 _ rfl) ?_
        obtain ⟨s34, q35, hh⟩ := db hh
        obtain ⟨h36, e37, hR, f38⟩ := rs_sI_ok hR q35
        refine rx_w e37 f38 ?_
        exact r295_126 hD hK9 _ _ _ _ _ hR hh
    · refine rx_f q6 ?_
      exact ih _ _ _ _ _ hR hh
def s295_38 (E : rE) (w : Nat) (K9 : Int32 → Int32 → rS → Option rA) (i1 : Int32) (s : rS) : Option rA :=
  s295_40 E w K9 w i1 0 s
theorem r295_38 {L : Nat} {xs : Nat → Int32} {zf : Value} {D : dD} {E : rE} {w : Nat} {K9 : Int32 → Int32 → rS → Option rA} {B9 : Option Nat → Int32 → Int32 → rm_H → Option dR} (hD : rO D E L xs) (hK9 : ∀ (i1 : Int32) (i2 : Int32) (h : rm_H) (s : rS) (r : rA), RS h s → K9 i1 i2 s = some r → rx (B9 (some 36) i1 i2 h) h r) : ∀ (i1 : Int32) (h : rm_H) (s : rS) (r : rA), RS h s → s295_38 E w K9 i1 s = some r → rx (b295_38 L xs zf D w B9 (some 36) i1 h) h r := by
  intro i1 h s r hR hh
  unfold s295_38 at hh
  unfold b295_38
  exact r295_40 hD hK9 _ _ _ _ _ _ hR hh
def s295_13 (E : rE) (w : Nat) (K9 : Int32 → Int32 → rS → Option rA) : Nat → Int32 → rS → Option rA
  | 0, _, _ => none
  | n + 1, i1, s =>
    if mx_f2 .ge i1 (s.1 3) = true then
      s295_38 E w K9 i1 s
    else
      (rs_aI s 38 i1).bind fun x2 =>
      if mx_f2 .ne x2 32 = true then
        s295_38 E w K9 i1 s
      else
        s295_13 E w K9 n (i1 + 1) s
theorem r295_13 {L : Nat} {xs : Nat → Int32} {zf : Value} {D : dD} {E : rE} {w : Nat} {K9 : Int32 → Int32 → rS → Option rA} {B9 : Option Nat → Int32 → Int32 → rm_H → Option dR} (hD : rO D E L xs) (hK9 : ∀ (i1 : Int32) (i2 : Int32) (h : rm_H) (s : rS) (r : rA), RS h s → K9 i1 i2 s = some r → rx (B9 (some 36) i1 i2 h) h r) : ∀ (n : Nat) (i1 : Int32) (h : rm_H) (s : rS) (r : rA), RS h s → s295_13 E w K9 n i1 s = some r → rx (b295_13 L xs zf D w B9 n (some 36) i1 h) h r := by
  intro n
  induction n with
  | zero =>
    intro i1 h s r hR hh
    cases hh
  | succ n ih =>
    intro i1 h s r hR hh
    rw [s295_13] at hh
    rw [b295_13]
    refine rx_b (rs_gI hR 3 _ rfl) ?_
    rcases di hh with ⟨q1, hh⟩ | ⟨q1, hh⟩
    · refine rx_t q1 ?_
      exact r295_38 hD hK9 _ _ _ _ hR hh
    · refine rx_f q1 ?_
      refine rx_b (rs_gR hR 1 38 rfl) ?_
      obtain ⟨x2, q3, hh⟩ := db hh
      refine rx_b (rs_aI_ok hR q3) ?_
      rcases di hh with ⟨q4, hh⟩ | ⟨q4, hh⟩
      · refine rx_t q4 ?_
        exact r295_38 hD hK9 _ _ _ _ hR hh
      · refine rx_f q4 ?_
        exact ih _ _ _ _ hR hh
def s295_9 (E : rE) (w : Nat) : Nat → Int32 → Int32 → rS → Option rA
  | 0, _, _, _ => none
  | n + 1, i1, i2, s =>
    if mx_f1 .eq i2 = true then
      some (none, s)
    else
      s295_13 E w (s295_9 E w n) w i1 s
theorem r295_9 {L : Nat} {xs : Nat → Int32} {zf : Value} {D : dD} {E : rE} {w : Nat} (hD : rO D E L xs) : ∀ (n : Nat) (i1 : Int32) (i2 : Int32) (h : rm_H) (s : rS) (r : rA), RS h s → s295_9 E w n i1 i2 s = some r → rx (b295_9 L xs zf D w n (some 36) i1 i2 h) h r := by
  intro n
  induction n with
  | zero =>
    intro i1 i2 h s r hR hh
    cases hh
  | succ n ih =>
    intro i1 i2 h s r hR hh
    rw [s295_9] at hh
    rw [b295_9]
    rcases di hh with ⟨q1, hh⟩ | ⟨q1, hh⟩
    · refine rx_t q1 ?_
      cases hh
      exact rx_0 hR
    · refine rx_f q1 ?_
      exact r295_13 hD ih _ _ _ _ _ hR hh
def s295_0 (E : rE) (w : Nat) (s : rS) : Option rA :=
  (rs_pI s 5 0).bind fun s1 =>
  s295_9 E w w 0 1 s1
theorem r295_0 {L : Nat} {xs : Nat → Int32} {zf : Value} {D : dD} {E : rE} {w : Nat} (hD : rO D E L xs) : ∀ (h : rm_H) (s : rS) (r : rA), RS h s → s295_0 E w s = some r → rx (b295_0 L xs zf D w (some 36) h) h r := by
  intro h s r hR hh
  unfold s295_0 at hh
  unfold b295_0
  obtain ⟨s1, q2, hh⟩ := db hh
  obtain ⟨h3, e4, hR, f5⟩ := rs_pI_ok (rs_m5 _ _) (by decide) hR q2
  refine rx_w e4 f5 ?_
  exact r295_9 hD _ _ _ _ _ _ hR hh
def g295 (E : rE) (w : Nat) (As : List Value) (s : rS) : Option rA := match As with
  | [.ref 36] => s295_0 E w s
  | _ => none
theorem t295 {L : Nat} {xs : Nat → Int32} {zf : Value} {D : dD} {E : rE} {w : Nat} (hD : rO D E L xs) (As : List Value) (h : rm_H) (s : rS) (r : rA) (hR : RS h s) (hh : g295 E w As s = some r) : rx (f295 L xs zf D w As h) h r := by
  unfold g295 at hh
  split at hh
  · unfold f295
    dsimp only
    refine rx_b (a := some 36) rfl ?_
    exact r295_0 hD  _ _ _ hR hh
  · cases hh
def s296_49 (E : rE) (w : Nat) (s0 : Int32) (s : rS) : Option rA :=
  rrI (some .boolean) s0 s
theorem r296_49 {L : Nat} {xs : Nat → Int32} {zf : Value} {D : dD} {E : rE} {w : Nat} (hD : rO D E L xs) : ∀ (s0 : Int32) (h : rm_H) (s : rS) (r : rA), RS h s → s296_49 E w s0 s = some r → rx (b296_49 L xs zf D w s0 h) h r := by
  intro s0 h s r hR hh
  unfold s296_49 at hh
  unfold b296_49
  exact rx_I hR hh
def s296_44 (E : rE) (w : Nat) (s : rS) : Option rA :=
  s296_49 E w 1 s
theorem r296_44 {L : Nat} {xs : Nat → Int32} {zf : Value} {D : dD} {E : rE} {w : Nat} (hD : rO D E L xs) : ∀ (h : rm_H) (s : rS) (r : rA), RS h s → s296_44 E w s = some r → rx (b296_44 L xs zf D w h) h r := by
  intro h s r hR hh
  unfold s296_44 at hh
  unfold b296_44
  exact r296_49 hD _ _ _ _ hR hh
def s296_48 (E : rE) (w : Nat) (s : rS) : Option rA :=
  s296_49 E w 0 s
theorem r296_48 {L : Nat} {xs : Nat → Int32} {zf : Value} {D : dD} {E : rE} {w : Nat} (hD : rO D E L xs) : ∀ (h : rm_H) (s : rS) (r : rA), RS h s → s296_48 E w s = some r → rx (b296_48 L xs zf D w h) h r := by
  intro h s r hR hh
  unfold s296_48 at hh
  unfold b296_48
  exact r296_49 hD _ _ _ _ hR hh
def s296_0 (E : rE) (w : Nat) (i1 : Int32) (s : rS) : Option rA :=
  if mx_f2 .ge i1 (s.1 3) = true then
    s296_48 E w s
  else
    (rs_aI s 38 i1).bind fun x2 =>
    ((E 297 [.int x2] s).bind rxI).bind fun x4 =>
    if mx_f1 .ne x4.1 = true then
      s296_44 E w x4.2
    else
      (rs_aI x4.2 38 i1).bind fun x10 =>
      ((E 298 [.int x10] x4.2).bind rxI).bind fun x12 =>
      if mx_f1 .ne x12.1 = true then
        s296_44 E w x12.2
      else
        (rs_aI x12.2 38 i1).bind fun x18 =>
        ((E 299 [.int x18] x12.2).bind rxI).bind fun x20 =>
        if mx_f1 .eq x20.1 = true then
          s296_48 E w x20.2
        else
          s296_44 E w x20.2
theorem r296_0 {L : Nat} {xs : Nat → Int32} {zf : Value} {D : dD} {E : rE} {w : Nat} (hD : rO D E L xs) : ∀ (i1 : Int32) (h : rm_H) (s : rS) (r : rA), RS h s → s296_0 E w i1 s = some r → rx (b296_0 L xs zf D w (some 36) i1 h) h r := by
  intro i1 h s r hR hh
  unfold s296_0 at hh
  unfold b296_0
  refine rx_b (rs_gI hR 3 _ rfl) ?_
  rcases di hh with ⟨q1, hh⟩ | ⟨q1, hh⟩
  · refine rx_t q1 ?_
    exact r296_48 hD  _ _ _ hR hh
  · refine rx_f q1 ?_
    refine rx_b (rs_gR hR 1 38 rfl) ?_
    obtain ⟨x2, q3, hh⟩ := db hh
    refine rx_b (rs_aI_ok hR q3) ?_
    obtain ⟨x4, q5, hh⟩ := db hh
    obtain ⟨h6, e7, hR, f8⟩ := rs_cI hD hR q5
    refine rx_c e7 f8 ?_
    rcases di hh with ⟨q9, hh⟩ | ⟨q9, hh⟩
    · refine rx_t q9 ?_
      exact r296_44 hD  _ _ _ hR hh
    · refine rx_f q9 ?_
      refine rx_b (rs_gR hR 1 38 rfl) ?_
      obtain ⟨x10, q11, hh⟩ := db hh
      refine rx_b (rs_aI_ok hR q11) ?_
      obtain ⟨x12, q13, hh⟩ := db hh
      obtain ⟨h14, e15, hR, f16⟩ := rs_cI hD hR q13
      refine rx_c e15 f16 ?_
      rcases di hh with ⟨q17, hh⟩ | ⟨q17, hh⟩
      · refine rx_t q17 ?_
        exact r296_44 hD  _ _ _ hR hh
      · refine rx_f q17 ?_
        refine rx_b (rs_gR hR 1 38 rfl) ?_
        obtain ⟨x18, q19, hh⟩ := db hh
        refine rx_b (rs_aI_ok hR q19) ?_
        obtain ⟨x20, q21, hh⟩ := db hh
        obtain ⟨h22, e23, hR, f24⟩ := rs_cI hD hR q21
        refine rx_c e23 f24 ?_
        rcases di hh with ⟨q25, hh⟩ | ⟨q25, hh⟩
        · refine rx_t q25 ?_
          exact r296_48 hD  _ _ _ hR hh
        · refine rx_f q25 ?_
          exact r296_44 hD  _ _ _ hR hh
def g296 (E : rE) (w : Nat) (As : List Value) (s : rS) : Option rA := match As with
  | [.ref 36, .int i1] => s296_0 E w i1 s
  | _ => none
theorem t296 {L : Nat} {xs : Nat → Int32} {zf : Value} {D : dD} {E : rE} {w : Nat} (hD : rO D E L xs) (As : List Value) (h : rm_H) (s : rS) (r : rA) (hR : RS h s) (hh : g296 E w As s = some r) : rx (f296 L xs zf D w As h) h r := by
  unfold g296 at hh
  split at hh
  · unfold f296
    dsimp only
    refine rx_b (a := some 36) rfl ?_
    exact r296_0 hD _ _ _ _ hR hh
  · cases hh
def s297_17 (E : rE) (w : Nat) (s0 : Int32) (s : rS) : Option rA :=
  rrI (some .boolean) s0 s
theorem r297_17 {L : Nat} {xs : Nat → Int32} {zf : Value} {D : dD} {E : rE} {w : Nat} (hD : rO D E L xs) : ∀ (s0 : Int32) (h : rm_H) (s : rS) (r : rA), RS h s → s297_17 E w s0 s = some r → rx (b297_17 L xs zf D w s0 h) h r := by
  intro s0 h s r hR hh
  unfold s297_17 at hh
  unfold b297_17
  exact rx_I hR hh
def s297_16 (E : rE) (w : Nat) (s : rS) : Option rA :=
  s297_17 E w 0 s
theorem r297_16 {L : Nat} {xs : Nat → Int32} {zf : Value} {D : dD} {E : rE} {w : Nat} (hD : rO D E L xs) : ∀ (h : rm_H) (s : rS) (r : rA), RS h s → s297_16 E w s = some r → rx (b297_16 L xs zf D w h) h r := by
  intro h s r hR hh
  unfold s297_16 at hh
  unfold b297_16
  exact r297_17 hD _ _ _ _ hR hh
def s297_0 (E : rE) (w : Nat) (i0 : Int32) (s : rS) : Option rA :=
  if mx_f2 .lt i0 97 = true then
    s297_16 E w s
  else
    if mx_f2 .gt i0 122 = true then
      s297_16 E w s
    else
      s297_17 E w 1 s
theorem r297_0 {L : Nat} {xs : Nat → Int32} {zf : Value} {D : dD} {E : rE} {w : Nat} (hD : rO D E L xs) : ∀ (i0 : Int32) (h : rm_H) (s : rS) (r : rA), RS h s → s297_0 E w i0 s = some r → rx (b297_0 L xs zf D w i0 h) h r := by
  intro i0 h s r hR hh
  unfold s297_0 at hh
  unfold b297_0
  rcases di hh with ⟨q1, hh⟩ | ⟨q1, hh⟩
  · refine rx_t q1 ?_
    exact r297_16 hD  _ _ _ hR hh
  · refine rx_f q1 ?_
    rcases di hh with ⟨q2, hh⟩ | ⟨q2, hh⟩
    · refine rx_t q2 ?_
      exact r297_16 hD  _ _ _ hR hh
    · refine rx_f q2 ?_
      exact r297_17 hD _ _ _ _ hR hh
def g297 (E : rE) (w : Nat) (As : List Value) (s : rS) : Option rA := match As with
  | [.int i0] => s297_0 E w i0 s
  | _ => none
theorem t297 {L : Nat} {xs : Nat → Int32} {zf : Value} {D : dD} {E : rE} {w : Nat} (hD : rO D E L xs) (As : List Value) (h : rm_H) (s : rS) (r : rA) (hR : RS h s) (hh : g297 E w As s = some r) : rx (f297 L xs zf D w As h) h r := by
  unfold g297 at hh
  split at hh
  · unfold f297
    dsimp only
    exact r297_0 hD _ _ _ _ hR hh
  · cases hh
def s298_17 (E : rE) (w : Nat) (s0 : Int32) (s : rS) : Option rA :=
  rrI (some .boolean) s0 s
theorem r298_17 {L : Nat} {xs : Nat → Int32} {zf : Value} {D : dD} {E : rE} {w : Nat} (hD : rO D E L xs) : ∀ (s0 : Int32) (h : rm_H) (s : rS) (r : rA), RS h s → s298_17 E w s0 s = some r → rx (b298_17 L xs zf D w s0 h) h r := by
  intro s0 h s r hR hh
  unfold s298_17 at hh
  unfold b298_17
  exact rx_I hR hh
def s298_16 (E : rE) (w : Nat) (s : rS) : Option rA :=
  s298_17 E w 0 s
theorem r298_16 {L : Nat} {xs : Nat → Int32} {zf : Value} {D : dD} {E : rE} {w : Nat} (hD : rO D E L xs) : ∀ (h : rm_H) (s : rS) (r : rA), RS h s → s298_16 E w s = some r → rx (b298_16 L xs zf D w h) h r := by
  intro h s r hR hh
  unfold s298_16 at hh
  unfold b298_16
  exact r298_17 hD _ _ _ _ hR hh
def s298_0 (E : rE) (w : Nat) (i0 : Int32) (s : rS) : Option rA :=
  if mx_f2 .lt i0 65 = true then
    s298_16 E w s
  else
    if mx_f2 .gt i0 90 = true then
      s298_16 E w s
    else
      s298_17 E w 1 s
theorem r298_0 {L : Nat} {xs : Nat → Int32} {zf : Value} {D : dD} {E : rE} {w : Nat} (hD : rO D E L xs) : ∀ (i0 : Int32) (h : rm_H) (s : rS) (r : rA), RS h s → s298_0 E w i0 s = some r → rx (b298_0 L xs zf D w i0 h) h r := by
  intro i0 h s r hR hh
  unfold s298_0 at hh
  unfold b298_0
  rcases di hh with ⟨q1, hh⟩ | ⟨q1, hh⟩
  · refine rx_t q1 ?_
    exact r298_16 hD  _ _ _ hR hh
  · refine rx_f q1 ?_
    rcases di hh with ⟨q2, hh⟩ | ⟨q2, hh⟩
    · refine rx_t q2 ?_
      exact r298_16 hD  _ _ _ hR hh
    · refine rx_f q2 ?_
      exact r298_17 hD _ _ _ _ hR hh
def g298 (E : rE) (w : Nat) (As : List Value) (s : rS) : Option rA := match As with
  | [.int i0] => s298_0 E w i0 s
  | _ => none
theorem t298 {L : Nat} {xs : Nat → Int32} {zf : Value} {D : dD} {E : rE} {w : Nat} (hD : rO D E L xs) (As : List Value) (h : rm_H) (s : rS) (r : rA) (hR : RS h s) (hh : g298 E w As s = some r) : rx (f298 L xs zf D w As h) h r := by
  unfold g298 at hh
  split at hh
  · unfold f298
    dsimp only
    exact r298_0 hD _ _ _ _ hR hh
  · cases hh
def s299_17 (E : rE) (w : Nat) (s0 : Int32) (s : rS) : Option rA :=
  rrI (some .boolean) s0 s
theorem r299_17 {L : Nat} {xs : Nat → Int32} {zf : Value} {D : dD} {E : rE} {w : Nat} (hD : rO D E L xs) : ∀ (s0 : Int32) (h : rm_H) (s : rS) (r : rA), RS h s → s299_17 E w s0 s = some r → rx (b299_17 L xs zf D w s0 h) h r := by
  intro s0 h s r hR hh
  unfold s299_17 at hh
  unfold b299_17
  exact rx_I hR hh
def s299_16 (E : rE) (w : Nat) (s : rS) : Option rA :=
  s299_17 E w 0 s
theorem r299_16 {L : Nat} {xs : Nat → Int32} {zf : Value} {D : dD} {E : rE} {w : Nat} (hD : rO D E L xs) : ∀ (h : rm_H) (s : rS) (r : rA), RS h s → s299_16 E w s = some r → rx (b299_16 L xs zf D w h) h r := by
  intro h s r hR hh
  unfold s299_16 at hh
  unfold b299_16
  exact r299_17 hD _ _ _ _ hR hh
def s299_0 (E : rE) (w : Nat) (i0 : Int32) (s : rS) : Option rA :=
  if mx_f2 .lt i0 48 = true then
    s299_16 E w s
  else
    if mx_f2 .gt i0 57 = true then
      s299_16 E w s
    else
      s299_17 E w 1 s
theorem r299_0 {L : Nat} {xs : Nat → Int32} {zf : Value} {D : dD} {E : rE} {w : Nat} (hD : rO D E L xs) : ∀ (i0 : Int32) (h : rm_H) (s : rS) (r : rA), RS h s → s299_0 E w i0 s = some r → rx (b299_0 L xs zf D w i0 h) h r := by
  intro i0 h s r hR hh
  unfold s299_0 at hh
  unfold b299_0
  rcases di hh with ⟨q1, hh⟩ | ⟨q1, hh⟩
  · refine rx_t q1 ?_
    exact r299_16 hD  _ _ _ hR hh
  · refine rx_f q1 ?_
    rcases di hh with ⟨q2, hh⟩ | ⟨q2, hh⟩
    · refine rx_t q2 ?_
      exact r299_16 hD  _ _ _ hR hh
    · refine rx_f q2 ?_
      exact r299_17 hD _ _ _ _ hR hh
def g299 (E : rE) (w : Nat) (As : List Value) (s : rS) : Option rA := match As with
  | [.int i0] => s299_0 E w i0 s
  | _ => none
theorem t299 {L : Nat} {xs : Nat → Int32} {zf : Value} {D : dD} {E : rE} {w : Nat} (hD : rO D E L xs) (As : List Value) (h : rm_H) (s : rS) (r : rA) (hR : RS h s) (hh : g299 E w As s = some r) : rx (f299 L xs zf D w As h) h r := by
  unfold g299 at hh
  split at hh
  · unfold f299
    dsimp only
    exact r299_0 hD _ _ _ _ hR hh
  · cases hh
def s300_96 (E : rE) (w : Nat) (K14 : Int32 → Int32 → Int32 → Int32 → Int32 → Int64 → Int32 → rS → Option rA) (i1 : Int32) (i2 : Int32) (i3 : Int32) (i4 : Int32) (j6 : Int64) (i8 : Int32) (s0 : Int32) (s : rS) : Option rA :=
  (rs_aI s 38 i8).bind fun x1 =>
  K14 i1 i2 i3 i4 s0 ((j6 <<< ((8 : Int32).toInt64 &&& 63)) ||| (Int32.toInt64 x1)) (i8 + 1) s
theorem r300_96 {L : Nat} {xs : Nat → Int32} {zf : Value} {D : dD} {E : rE} {w : Nat} {K14 : Int32 → Int32 → Int32 → Int32 → Int32 → Int64 → Int32 → rS → Option rA} {B14 : Option Nat → Int32 → Int32 → Int32 → Int32 → Int32 → Int64 → Int32 → rm_H → Option dR} (hD : rO D E L xs) (hK14 : ∀ (i1 : Int32) (i2 : Int32) (i3 : Int32) (i4 : Int32) (i5 : Int32) (j6 : Int64) (i8 : Int32) (h : rm_H) (s : rS) (r : rA), RS h s → K14 i1 i2 i3 i4 i5 j6 i8 s = some r → rx (B14 (some 36) i1 i2 i3 i4 i5 j6 i8 h) h r) : ∀ (i1 : Int32) (i2 : Int32) (i3 : Int32) (i4 : Int32) (j6 : Int64) (i8 : Int32) (s0 : Int32) (h : rm_H) (s : rS) (r : rA), RS h s → s300_96 E w K14 i1 i2 i3 i4 j6 i8 s0 s = some r → rx (b300_96 L xs zf D w B14 (some 36) i1 i2 i3 i4 j6 i8 s0 h) h r := by
  intro i1 i2 i3 i4 j6 i8 s0 h s r hR hh
  unfold s300_96 at hh
  unfold b300_96
  refine rx_b (rs_gR hR 1 38 rfl) ?_
  obtain ⟨x1, q2, hh⟩ := db hh
  refine rx_b (rs_aI_ok hR q2) ?_
  exact hK14 _ _ _ _ _ _ _ _ _ _ hR hh
def s300_68 (E : rE) (w : Nat) (K14 : Int32 → Int32 → Int32 → Int32 → Int32 → Int64 → Int32 → rS → Option rA) (i1 : Int32) (i2 : Int32) (i3 : Int32) (i5 : Int32) (j6 : Int64) (i8 : Int32) (s0 : Int32) (s : rS) : Option rA :=
  if mx_f2 .ge i2 10 = true then
    s300_96 E w K14 i1 i2 i3 s0 j6 i8 0 s
  else
    (rs_aI s 38 i8).bind fun x2 =>
    s300_96 E w K14 i1 i2 i3 s0 j6 i8 (((10 * i5) + x2) - 48) s
theorem r300_68 {L : Nat} {xs : Nat → Int32} {zf : Value} {D : dD} {E : rE} {w : Nat} {K14 : Int32 → Int32 → Int32 → Int32 → Int32 → Int64 → Int32 → rS → Option rA} {B14 : Option Nat → Int32 → Int32 → Int32 → Int32 → Int32 → Int64 → Int32 → rm_H → Option dR} (hD : rO D E L xs) (hK14 : ∀ (i1 : Int32) (i2 : Int32) (i3 : Int32) (i4 : Int32) (i5 : Int32) (j6 : Int64) (i8 : Int32) (h : rm_H) (s : rS) (r : rA), RS h s → K14 i1 i2 i3 i4 i5 j6 i8 s = some r → rx (B14 (some 36) i1 i2 i3 i4 i5 j6 i8 h) h r) : ∀ (i1 : Int32) (i2 : Int32) (i3 : Int32) (i5 : Int32) (j6 : Int64) (i8 : Int32) (s0 : Int32) (h : rm_H) (s : rS) (r : rA), RS h s → s300_68 E w K14 i1 i2 i3 i5 j6 i8 s0 s = some r → rx (b300_68 L xs zf D w B14 (some 36) i1 i2 i3 i5 j6 i8 s0 h) h r := by
  intro i1 i2 i3 i5 j6 i8 s0 h s r hR hh
  unfold s300_68 at hh
  unfold b300_68
  rcases di hh with ⟨q1, hh⟩ | ⟨q1, hh⟩
  · refine rx_t q1 ?_
    exact r300_96 hD hK14 _ _ _ _ _ _ _ _ _ _ hR hh
  · refine rx_f q1 ?_
    refine rx_b (rs_gR hR 1 38 rfl) ?_
    obtain ⟨x2, q3, hh⟩ := db hh
    refine rx_b (rs_aI_ok hR q3) ?_
    exact r300_96 hD hK14 _ _ _ _ _ _ _ _ _ _ hR hh
def s300_67 (E : rE) (w : Nat) (K14 : Int32 → Int32 → Int32 → Int32 → Int32 → Int64 → Int32 → rS → Option rA) (i1 : Int32) (i2 : Int32) (i3 : Int32) (i5 : Int32) (j6 : Int64) (i8 : Int32) (s : rS) : Option rA :=
  s300_68 E w K14 i1 i2 i3 i5 j6 i8 0 s
theorem r300_67 {L : Nat} {xs : Nat → Int32} {zf : Value} {D : dD} {E : rE} {w : Nat} {K14 : Int32 → Int32 → Int32 → Int32 → Int32 → Int64 → Int32 → rS → Option rA} {B14 : Option Nat → Int32 → Int32 → Int32 → Int32 → Int32 → Int64 → Int32 → rm_H → Option dR} (hD : rO D E L xs) (hK14 : ∀ (i1 : Int32) (i2 : Int32) (i3 : Int32) (i4 : Int32) (i5 : Int32) (j6 : Int64) (i8 : Int32) (h : rm_H) (s : rS) (r : rA), RS h s → K14 i1 i2 i3 i4 i5 j6 i8 s = some r → rx (B14 (some 36) i1 i2 i3 i4 i5 j6 i8 h) h r) : ∀ (i1 : Int32) (i2 : Int32) (i3 : Int32) (i5 : Int32) (j6 : Int64) (i8 : Int32) (h : rm_H) (s : rS) (r : rA), RS h s → s300_67 E w K14 i1 i2 i3 i5 j6 i8 s = some r → rx (b300_67 L xs zf D w B14 (some 36) i1 i2 i3 i5 j6 i8 h) h r := by
  intro i1 i2 i3 i5 j6 i8 h s r hR hh
  unfold s300_67 at hh
  unfold b300_67
  exact r300_68 hD hK14 _ _ _ _ _ _ _ _ _ _ hR hh
def s300_44 (E : rE) (w : Nat) (K14 : Int32 → Int32 → Int32 → Int32 → Int32 → Int64 → Int32 → rS → Option rA) (i1 : Int32) (i2 : Int32) (i4 : Int32) (i5 : Int32) (j6 : Int64) (i8 : Int32) (s0 : Int32) (s : rS) : Option rA :=
  if mx_f1 .eq i4 = true then
    s300_67 E w K14 i1 i2 s0 i5 j6 i8 s
  else
    (rs_aI s 38 i8).bind fun x2 =>
    ((E 298 [.int x2] s).bind rxI).bind fun x4 =>
    if mx_f1 .ne x4.1 = true then
      s300_67 E w K14 i1 i2 s0 i5 j6 i8 x4.2
    else
      s300_68 E w K14 i1 i2 s0 i5 j6 i8 1 x4.2
theorem r300_44 {L : Nat} {xs : Nat → Int32} {zf : Value} {D : dD} {E : rE} {w : Nat} {K14 : Int32 → Int32 → Int32 → Int32 → Int32 → Int64 → Int32 → rS → Option rA} {B14 : Option Nat → Int32 → Int32 → Int32 → Int32 → Int32 → Int64 → Int32 → rm_H → Option dR} (hD : rO D E L xs) (hK14 : ∀ (i1 : Int32) (i2 : Int32) (i3 : Int32) (i4 : Int32) (i5 : Int32) (j6 : Int64) (i8 : Int32) (h : rm_H) (s : rS) (r : rA), RS h s → K14 i1 i2 i3 i4 i5 j6 i8 s = some r → rx (B14 (some 36) i1 i2 i3 i4 i5 j6 i8 h) h r) : ∀ (i1 : Int32) (i2 : Int32) (i4 : Int32) (i5 : Int32) (j6 : Int64) (i8 : Int32) (s0 : Int32) (h : rm_H) (s : rS) (r : rA), RS h s → s300_44 E w K14 i1 i2 i4 i5 j6 i8 s0 s = some r → rx (b300_44 L xs zf D w B14 (some 36) i1 i2 i4 i5 j6 i8 s0 h) h r := by
  intro i1 i2 i4 i5 j6 i8 s0 h s r hR hh
  unfold s300_44 at hh
  unfold b300_44
  rcases di hh with ⟨q1, hh⟩ | ⟨q1, hh⟩
  · refine rx_t q1 ?_
    exact r300_67 hD hK14 _ _ _ _ _ _ _ _ _ hR hh
  · refine rx_f q1 ?_
    refine rx_b (rs_gR hR 1 38 rfl) ?_
    obtain ⟨x2, q3, hh⟩ := db hh
    refine rx_b (rs_aI_ok hR q3) ?_
    obtain ⟨x4, q5, hh⟩ := db hh
    obtain ⟨h6, e7, hR, f8⟩ := rs_cI hD hR q5
    refine rx_c e7 f8 ?_
    rcases di hh with ⟨q9, hh⟩ | ⟨q9, hh⟩
    · refine rx_t q9 ?_
      exact r300_67 hD hK14 _ _ _ _ _ _ _ _ _ hR hh
    · refine rx_f q9 ?_
      exact r300_68 hD hK14 _ _ _ _ _ _ _ _ _ _ hR hh
def s300_43 (E : rE) (w : Nat) (K14 : Int32 → Int32 → Int32 → Int32 → Int32 → Int64 → Int32 → rS → Option rA) (i1 : Int32) (i2 : Int32) (i4 : Int32) (i5 : Int32) (j6 : Int64) (i8 : Int32) (s : rS) : Option rA :=
  s300_44 E w K14 i1 i2 i4 i5 j6 i8 0 s
theorem r300_43 {L : Nat} {xs : Nat → Int32} {zf : Value} {D : dD} {E : rE} {w : Nat} {K14 : Int32 → Int32 → Int32 → Int32 → Int32 → Int64 → Int32 → rS → Option rA} {B14 : Option Nat → Int32 → Int32 → Int32 → Int32 → Int32 → Int64 → Int32 → rm_H → Option dR} (hD : rO D E L xs) (hK14 : ∀ (i1 : Int32) (i2 : Int32) (i3 : Int32) (i4 : Int32) (i5 : Int32) (j6 : Int64) (i8 : Int32) (h : rm_H) (s : rS) (r : rA), RS h s → K14 i1 i2 i3 i4 i5 j6 i8 s = some r → rx (B14 (some 36) i1 i2 i3 i4 i5 j6 i8 h) h r) : ∀ (i1 : Int32) (i2 : Int32) (i4 : Int32) (i5 : Int32) (j6 : Int64) (i8 : Int32) (h : rm_H) (s : rS) (r : rA), RS h s → s300_43 E w K14 i1 i2 i4 i5 j6 i8 s = some r → rx (b300_43 L xs zf D w B14 (some 36) i1 i2 i4 i5 j6 i8 h) h r := by
  intro i1 i2 i4 i5 j6 i8 h s r hR hh
  unfold s300_43 at hh
  unfold b300_43
  exact r300_44 hD hK14 _ _ _ _ _ _ _ _ _ _ hR hh
def s300_155 (E : rE) (w : Nat) (i5 : Int32) (s0 : Int32) (s1 : Int32) (s : rS) : Option rA :=
  (rs_sI s 40 s1 s0).bind fun s1 =>
  (rs_sI s1 42 (s1.1 5) i5).bind fun s6 =>
  some (none, s6)
theorem r300_155 {L : Nat} {xs : Nat → Int32} {zf : Value} {D : dD} {E : rE} {w : Nat} (hD : rO D E L xs) : ∀ (i5 : Int32) (s0 : Int32) (s1 : Int32) (h : rm_H) (s : rS) (r : rA), RS h s → s300_155 E w i5 s0 s1 s = some r → rx (b300_155 L xs zf D w (some 36) i5 s0 s1 (some 40) h) h r := by
  intro i5 s0 s1 h s r hR hh
  unfold s300_155 at hh
  unfold b300_155
  obtain ⟨s1, q2, hh⟩ := db hh
  obtain ⟨h3, e4, hR, f5⟩ := rs_sI_ok hR q2
  refine rx_w e4 f5 ?_
  refine rx_b (rs_gR hR 8 42 rfl) ?_
  refine rx_b (rs_gI hR 5 _ rfl) ?_
  obtain ⟨s6, q7, hh⟩ := db hh
  obtain ⟨h8, e9, hR, f10⟩ := rs_sI_ok hR q7
  refine rx_w e9 f10 ?_
  cases hh
  exact rx_0 hR
def s300_186 (E : rE) (w : Nat) (s : rS) : Option rA :=
  some (none, s)
theorem r300_186 {L : Nat} {xs : Nat → Int32} {zf : Value} {D : dD} {E : rE} {w : Nat} (hD : rO D E L xs) : ∀ (h : rm_H) (s : rS) (r : rA), RS h s → s300_186 E w s = some r → rx (b300_186 L xs zf D w h) h r := by
  intro h s r hR hh
  unfold s300_186 at hh
  unfold b300_186
  cases hh
  exact rx_0 hR
def s300_289 (E : rE) (w : Nat) (s : rS) : Option rA :=
  some (none, s)
theorem r300_289 {L : Nat} {xs : Nat → Int32} {zf : Value} {D : dD} {E : rE} {w : Nat} (hD : rO D E L xs) : ∀ (h : rm_H) (s : rS) (r : rA), RS h s → s300_289 E w s = some r → rx (b300_289 L xs zf D w h) h r := by
  intro h s r hR hh
  unfold s300_289 at hh
  unfold b300_289
  cases hh
  exact rx_0 hR
def s300_277 (E : rE) (w : Nat) (i8 : Int32) (s0 : Int32) (s1 : Int32) (s : rS) : Option rA :=
  (rs_sI s 40 s1 s0).bind fun s1 =>
  (rs_sI s1 42 (s1.1 5) i8).bind fun s6 =>
  s300_289 E w s6
theorem r300_277 {L : Nat} {xs : Nat → Int32} {zf : Value} {D : dD} {E : rE} {w : Nat} (hD : rO D E L xs) : ∀ (i8 : Int32) (s0 : Int32) (s1 : Int32) (h : rm_H) (s : rS) (r : rA), RS h s → s300_277 E w i8 s0 s1 s = some r → rx (b300_277 L xs zf D w (some 36) i8 s0 s1 (some 40) h) h r := by
  intro i8 s0 s1 h s r hR hh
  unfold s300_277 at hh
  unfold b300_277
  obtain ⟨s1, q2, hh⟩ := db hh
  obtain ⟨h3, e4, hR, f5⟩ := rs_sI_ok hR q2
  refine rx_w e4 f5 ?_
  refine rx_b (rs_gR hR 8 42 rfl) ?_
  refine rx_b (rs_gI hR 5 _ rfl) ?_
  obtain ⟨s6, q7, hh⟩ := db hh
  obtain ⟨h8, e9, hR, f10⟩ := rs_sI_ok hR q7
  refine rx_w e9 f10 ?_
  exact r300_289 hD  _ _ _ hR hh
def s300_257 (E : rE) (w : Nat) (i8 : Int32) (s : rS) : Option rA :=
  if mx_f2 .ge i8 24 = true then
    s300_277 E w i8 1 (s.1 5) s
  else
    s300_277 E w i8 2 (s.1 5) s
theorem r300_257 {L : Nat} {xs : Nat → Int32} {zf : Value} {D : dD} {E : rE} {w : Nat} (hD : rO D E L xs) : ∀ (i8 : Int32) (h : rm_H) (s : rS) (r : rA), RS h s → s300_257 E w i8 s = some r → rx (b300_257 L xs zf D w (some 36) i8 h) h r := by
  intro i8 h s r hR hh
  unfold s300_257 at hh
  unfold b300_257
  refine rx_b (rs_gR hR 6 40 rfl) ?_
  refine rx_b (rs_gI hR 5 _ rfl) ?_
  rcases di hh with ⟨q1, hh⟩ | ⟨q1, hh⟩
  · refine rx_t q1 ?_
    exact r300_277 hD _ _ _ _ _ _ hR hh
  · refine rx_f q1 ?_
    exact r300_277 hD _ _ _ _ _ _ hR hh
def s300_231 (E : rE) (w : Nat) : Nat → Int64 → Int32 → rS → Option rA
  | 0, _, _, _ => none
  | n + 1, j6, i8, s =>
    if mx_f2 .ge i8 24 = true then
      s300_257 E w i8 s
    else
      (rs_aJ s 39 i8).bind fun y2 =>
      if mx_f1 .eq (lg_cmp y2 j6) = true then
        s300_257 E w i8 s
      else
        s300_231 E w n j6 (i8 + 1) s
theorem r300_231 {L : Nat} {xs : Nat → Int32} {zf : Value} {D : dD} {E : rE} {w : Nat} (hD : rO D E L xs) : ∀ (n : Nat) (j6 : Int64) (i8 : Int32) (h : rm_H) (s : rS) (r : rA), RS h s → s300_231 E w n j6 i8 s = some r → rx (b300_231 L xs zf D w n (some 36) j6 i8 h) h r := by
  intro n
  induction n with
  | zero =>
    intro j6 i8 h s r hR hh
    cases hh
  | succ n ih =>
    intro j6 i8 h s r hR hh
    rw [s300_231] at hh
    rw [b300_231]
    rcases di hh with ⟨q1, hh⟩ | ⟨q1, hh⟩
    · refine rx_t q1 ?_
      exact r300_257 hD _ _ _ _ hR hh
    · refine rx_f q1 ?_
      refine rx_b (rs_gR hR 4 39 rfl) ?_
      obtain ⟨y2, q3, hh⟩ := db hh
      refine rx_b (rs_aJ_ok hR q3) ?_
      rcases di hh with ⟨q4, hh⟩ | ⟨q4, hh⟩
      · refine rx_t q4 ?_
        exact r300_257 hD _ _ _ _ hR hh
      · refine rx_f q4 ?_
        exact ih _ _ _ _ _ hR hh
def s300_14 (E : rE) (w : Nat) : Nat → Int32 → Int32 → Int32 → Int32 → Int32 → Int64 → Int32 → rS → Option rA
  | 0, _, _, _, _, _, _, _, _ => none
  | n + 1, i1, i2, i3, i4, i5, j6, i8, s =>
    if mx_f2 .ge i8 (i1 + i2) = true then
      (rs_sI s 40 (s.1 5) 6).bind fun s2 =>
      if mx_f1 .eq i3 = true then
        if mx_f2 .gt i2 8 = true then
          s300_186 E w s2
        else
          (rs_aI s2 38 i1).bind fun x9 =>
          ((E 299 [.int x9] s2).bind rxI).bind fun x11 =>
          if mx_f1 .eq x11.1 = true then
            (rs_sJ x11.2 43 (x11.2.1 5) j6).bind fun s17 =>
            (rs_aI s17 38 i1).bind fun x22 =>
            ((E 298 [.int x22] s17).bind rxI).bind fun x24 =>
            if mx_f1 .eq x24.1 = true then
              if mx_f1 .eq i4 = true then
                s300_289 E w x24.2
              else
                s300_231 E w w j6 0 x24.2
            else
              (rs_sI x24.2 40 (x24.2.1 5) 3).bind fun s31 =>
              s300_289 E w s31
          else
            s300_186 E w x11.2
      else
        if mx_f2 .ge i2 10 = true then
          s300_155 E w i5 6 (s2.1 5) s2
        else
          s300_155 E w i5 4 (s2.1 5) s2
    else
      if mx_f1 .eq i3 = true then
        s300_43 E w (s300_14 E w n) i1 i2 i4 i5 j6 i8 s
      else
        (rs_aI s 38 i8).bind fun x38 =>
        ((E 299 [.int x38] s).bind rxI).bind fun x40 =>
        if mx_f1 .eq x40.1 = true then
          s300_43 E w (s300_14 E w n) i1 i2 i4 i5 j6 i8 x40.2
        else
          s300_44 E w (s300_14 E w n) i1 i2 i4 i5 j6 i8 1 x40.2
theorem r300_14 {L : Nat} {xs : Nat → Int32} {zf : Value} {D : dD} {E : rE} {w : Nat} (hD : rO D E L xs) : ∀ (n : Nat) (i1 : Int32) (i2 : Int32) (i3 : Int32) (i4 : Int32) (i5 : Int32) (j6 : Int64) (i8 : Int32) (h : rm_H) (s : rS) (r : rA), RS h s → s300_14 E w n i1 i2 i3 i4 i5 j6 i8 s = some r → rx (b300_14 L xs zf D w n (some 36) i1 i2 i3 i4 i5 j6 i8 h) h r := by
  intro n
  induction n with
  | zero =>
    intro i1 i2 i3 i4 i5 j6 i8 h s r hR hh
    cases hh
  | succ n ih =>
    intro i1 i2 i3 i4 i5 j6 i8 h s r hR hh
    rw [s300_14] at hh
    rw [b300_14]
    rcases di hh with ⟨q1, hh⟩ | ⟨q1, hh⟩
    · refine rx_t q1 ?_
      refine rx_b (rs_gR hR 6 40 rfl) ?_
      refine rx_b (rs_gI hR 5 _ rfl) ?_
      obtain ⟨s2, q3, hh⟩ := db hh
      obtain ⟨h4, e5, hR, f6⟩ := rs_sI_ok hR q3
      refine rx_w e5 f6 ?_
      rcases di hh with ⟨q7, hh⟩ | ⟨q7, hh⟩
      · refine rx_t q7 ?_
        rcases di hh with ⟨q8, hh⟩ | ⟨q8, hh⟩
        · refine rx_t q8 ?_
          exact r300_186 hD  _ _ _ hR hh
        · refine rx_f q8 ?_
          refine rx_b (rs_gR hR 1 38 rfl) ?_
          obtain ⟨x9, q10, hh⟩ := db hh
          refine rx_b (rs_aI_ok hR q10) ?_
          obtain ⟨x11, q12, hh⟩ := db hh
          obtain ⟨h13, e14, hR, f15⟩ := rs_cI hD hR q12
          refine rx_c e14 f15 ?_
          rcases di hh with ⟨q16, hh⟩ | ⟨q16, hh⟩
          · refine rx_t q16 ?_
            refine rx_b (rs_gR hR 9 43 rfl) ?_
            refine rx_b (rs_gI hR 5 _ rfl) ?_
            obtain ⟨s17, q18, hh⟩ := db hh
            obtain ⟨h19, e20, hR, f21⟩ := rs_sJ_ok hR q18
            refine rx_w e20 f21 ?_
            refine rx_b (rs_gR hR 1 38 rfl) ?_
            obtain ⟨x22, q23, hh⟩ := db hh
            refine rx_b (rs_aI_ok hR q23) ?_
            obtain ⟨x24, q25, hh⟩ := db hh
            obtain ⟨h26, e27, hR, f28⟩ := rs_cI hD hR q25
            refine rx_c e27 f28 ?_
            rcases di hh with ⟨q29, hh⟩ | ⟨q29, hh⟩
            · refine rx_t q29 ?_
              rcases di hh with ⟨q30, hh⟩ | ⟨q30, hh⟩
              · refine rx_t q30 ?_
                exact r300_289 hD  _ _ _ hR hh
              · refine rx_f q30 ?_
                exact r300_231 hD _ _ _ _ _ _ hR hh
            · refine rx_f q29 ?_
              refine rx_b (rs_gR hR 6 40 rfl) ?_
              refine rx_b (rs_gI hR 5 _ rfl) ?_
              obtain ⟨s31, q32, hh⟩ := db hh
              obtain ⟨h33, e34, hR, f35⟩ := rs_sI_ok hR q32
              refine rx_w e34 f35 ?_
              exact r300_289 hD  _ _ _ hR hh
          · refine rx_f q16 ?_
            exact r300_186 hD  _ _ _ hR hh
      · refine rx_f q7 ?_
        refine rx_b (rs_gR hR 6 40 rfl) ?_
        refine rx_b (rs_gI hR 5 _ rfl) ?_
        rcases di hh with ⟨q36, hh⟩ | ⟨q36, hh⟩
        · refine rx_t q36 ?_
          exact r300_155 hD _ _ _ _ _ _ hR hh
        · refine rx_f q36 ?_
          exact r300_155 hD _ _ _ _ _ _ hR hh
    · refine rx_f q1 ?_
      rcases di hh with ⟨q37, hh⟩ | ⟨q37, hh⟩
      · refine rx_t q37 ?_
        exact r300_43 hD ih _ _ _ _ _ _ _ _ _ hR hh
      · refine rx_f q37 ?_
        refine rx_b (rs_gR hR 1 38 rfl) ?_
        obtain ⟨x38, q39, hh⟩ := db hh
        refine rx_b (rs_aI_ok hR q39) ?_
        obtain ⟨x40, q41, hh⟩ := db hh
        obtain ⟨h42, e43, hR, f44⟩ := rs_cI hD hR q41
        refine rx_c e43 f44 ?_
        rcases di hh with ⟨q45, hh⟩ | ⟨q45, hh⟩
        · refine rx_t q45 ?_
          exact r300_43 hD ih _ _ _ _ _ _ _ _ _ hR hh
        · refine rx_f q45 ?_
          exact r300_44 hD ih _ _ _ _ _ _ _ _ _ _ hR hh
def s300_0 (E : rE) (w : Nat) (i1 : Int32) (i2 : Int32) (s : rS) : Option rA :=
  s300_14 E w w i1 i2 1 1 0 0 i1 s
theorem r300_0 {L : Nat} {xs : Nat → Int32} {zf : Value} {D : dD} {E : rE} {w : Nat} (hD : rO D E L xs) : ∀ (i1 : Int32) (i2 : Int32) (h : rm_H) (s : rS) (r : rA), RS h s → s300_0 E w i1 i2 s = some r → rx (b300_0 L xs zf D w (some 36) i1 i2 h) h r := by
  intro i1 i2 h s r hR hh
  unfold s300_0 at hh
  unfold b300_0
  exact r300_14 hD _ _ _ _ _ _ _ _ _ _ _ hR hh
def g300 (E : rE) (w : Nat) (As : List Value) (s : rS) : Option rA := match As with
  | [.ref 36, .int i1, .int i2] => s300_0 E w i1 i2 s
  | _ => none
theorem t300 {L : Nat} {xs : Nat → Int32} {zf : Value} {D : dD} {E : rE} {w : Nat} (hD : rO D E L xs) (As : List Value) (h : rm_H) (s : rS) (r : rA) (hR : RS h s) (hh : g300 E w As s = some r) : rx (f300 L xs zf D w As h) h r := by
  unfold g300 at hh
  split at hh
  · unfold f300
    dsimp only
    refine rx_b (a := some 36) rfl ?_
    exact r300_0 hD _ _ _ _ _ hR hh
  · cases hh
def s301_183 (E : rE) (w : Nat) (s0 : Int32) (s : rS) : Option rA :=
  rrI (some .int) s0 s
theorem r301_183 {L : Nat} {xs : Nat → Int32} {zf : Value} {D : dD} {E : rE} {w : Nat} (hD : rO D E L xs) : ∀ (s0 : Int32) (h : rm_H) (s : rS) (r : rA), RS h s → s301_183 E w s0 s = some r → rx (b301_183 L xs zf D w s0 h) h r := by
  intro s0 h s r hR hh
  unfold s301_183 at hh
  unfold b301_183
  exact rx_I hR hh
def s301_172 (E : rE) (w : Nat) (i4 : Int32) (s0 : Int32) (s1 : Int32) (s : rS) : Option rA :=
  (rs_sI s 42 s1 s0).bind fun s1 =>
  if mx_f1 .eq i4 = true then
    s301_183 E w 1 s1
  else
    s301_183 E w 2 s1
theorem r301_172 {L : Nat} {xs : Nat → Int32} {zf : Value} {D : dD} {E : rE} {w : Nat} (hD : rO D E L xs) : ∀ (i4 : Int32) (s0 : Int32) (s1 : Int32) (h : rm_H) (s : rS) (r : rA), RS h s → s301_172 E w i4 s0 s1 s = some r → rx (b301_172 L xs zf D w i4 s0 s1 (some 42) h) h r := by
  intro i4 s0 s1 h s r hR hh
  unfold s301_172 at hh
  unfold b301_172
  obtain ⟨s1, q2, hh⟩ := db hh
  obtain ⟨h3, e4, hR, f5⟩ := rs_sI_ok hR q2
  refine rx_w e4 f5 ?_
  rcases di hh with ⟨q6, hh⟩ | ⟨q6, hh⟩
  · refine rx_t q6 ?_
    exact r301_183 hD _ _ _ _ hR hh
  · refine rx_f q6 ?_
    exact r301_183 hD _ _ _ _ hR hh
def s301_151 (E : rE) (w : Nat) (i2 : Int32) (i4 : Int32) (s0 : Int32) (s1 : Int32) (s : rS) : Option rA :=
  (rs_sI s 40 s1 s0).bind fun s1 =>
  if mx_f1 .eq i4 = true then
    s301_172 E w i4 i2 (s1.1 5) s1
  else
    s301_172 E w i4 256 (s1.1 5) s1
theorem r301_151 {L : Nat} {xs : Nat → Int32} {zf : Value} {D : dD} {E : rE} {w : Nat} (hD : rO D E L xs) : ∀ (i2 : Int32) (i4 : Int32) (s0 : Int32) (s1 : Int32) (h : rm_H) (s : rS) (r : rA), RS h s → s301_151 E w i2 i4 s0 s1 s = some r → rx (b301_151 L xs zf D w (some 36) i2 i4 s0 s1 (some 40) h) h r := by
  intro i2 i4 s0 s1 h s r hR hh
  unfold s301_151 at hh
  unfold b301_151
  obtain ⟨s1, q2, hh⟩ := db hh
  obtain ⟨h3, e4, hR, f5⟩ := rs_sI_ok hR q2
  refine rx_w e4 f5 ?_
  refine rx_b (rs_gR hR 8 42 rfl) ?_
  refine rx_b (rs_gI hR 5 _ rfl) ?_
  rcases di hh with ⟨q6, hh⟩ | ⟨q6, hh⟩
  · refine rx_t q6 ?_
    exact r301_172 hD _ _ _ _ _ _ hR hh
  · refine rx_f q6 ?_
    exact r301_172 hD _ _ _ _ _ _ hR hh
def s301_131 (E : rE) (w : Nat) (i2 : Int32) (i3 : Int32) (s0 : Int32) (s : rS) : Option rA :=
  if mx_f1 .eq i3 = true then
    s301_151 E w i2 s0 6 (s.1 5) s
  else
    s301_151 E w i2 s0 5 (s.1 5) s
theorem r301_131 {L : Nat} {xs : Nat → Int32} {zf : Value} {D : dD} {E : rE} {w : Nat} (hD : rO D E L xs) : ∀ (i2 : Int32) (i3 : Int32) (s0 : Int32) (h : rm_H) (s : rS) (r : rA), RS h s → s301_131 E w i2 i3 s0 s = some r → rx (b301_131 L xs zf D w (some 36) i2 i3 s0 h) h r := by
  intro i2 i3 s0 h s r hR hh
  unfold s301_131 at hh
  unfold b301_131
  refine rx_b (rs_gR hR 6 40 rfl) ?_
  refine rx_b (rs_gI hR 5 _ rfl) ?_
  rcases di hh with ⟨q1, hh⟩ | ⟨q1, hh⟩
  · refine rx_t q1 ?_
    exact r301_151 hD _ _ _ _ _ _ _ hR hh
  · refine rx_f q1 ?_
    exact r301_151 hD _ _ _ _ _ _ _ hR hh
def s301_130 (E : rE) (w : Nat) (i2 : Int32) (i3 : Int32) (s : rS) : Option rA :=
  s301_131 E w i2 i3 0 s
theorem r301_130 {L : Nat} {xs : Nat → Int32} {zf : Value} {D : dD} {E : rE} {w : Nat} (hD : rO D E L xs) : ∀ (i2 : Int32) (i3 : Int32) (h : rm_H) (s : rS) (r : rA), RS h s → s301_130 E w i2 i3 s = some r → rx (b301_130 L xs zf D w (some 36) i2 i3 h) h r := by
  intro i2 i3 h s r hR hh
  unfold s301_130 at hh
  unfold b301_130
  exact r301_131 hD _ _ _ _ _ _ hR hh
def s301_96 (E : rE) (w : Nat) (i1 : Int32) (i2 : Int32) (s0 : Int32) (s : rS) : Option rA :=
  if mx_f2 .ne i2 61 = true then
    s301_130 E w i2 s0 s
  else
    if mx_f2 .ge (i1 + 1) (s.1 3) = true then
      s301_130 E w i2 s0 s
    else
      (rs_aI s 38 (i1 + 1)).bind fun x3 =>
      if mx_f2 .ne x3 61 = true then
        s301_130 E w i2 s0 s
      else
        s301_131 E w i2 s0 1 s
theorem r301_96 {L : Nat} {xs : Nat → Int32} {zf : Value} {D : dD} {E : rE} {w : Nat} (hD : rO D E L xs) : ∀ (i1 : Int32) (i2 : Int32) (s0 : Int32) (h : rm_H) (s : rS) (r : rA), RS h s → s301_96 E w i1 i2 s0 s = some r → rx (b301_96 L xs zf D w (some 36) i1 i2 s0 h) h r := by
  intro i1 i2 s0 h s r hR hh
  unfold s301_96 at hh
  unfold b301_96
  rcases di hh with ⟨q1, hh⟩ | ⟨q1, hh⟩
  · refine rx_t q1 ?_
    exact r301_130 hD _ _ _ _ _ hR hh
  · refine rx_f q1 ?_
    refine rx_b (rs_gI hR 3 _ rfl) ?_
    rcases di hh with ⟨q2, hh⟩ | ⟨q2, hh⟩
    · refine rx_t q2 ?_
      exact r301_130 hD _ _ _ _ _ hR hh
    · refine rx_f q2 ?_
      refine rx_b (rs_gR hR 1 38 rfl) ?_
      obtain ⟨x3, q4, hh⟩ := db hh
      refine rx_b (rs_aI_ok hR q4) ?_
      rcases di hh with ⟨q5, hh⟩ | ⟨q5, hh⟩
      · refine rx_t q5 ?_
        exact r301_130 hD _ _ _ _ _ hR hh
      · refine rx_f q5 ?_
        exact r301_131 hD _ _ _ _ _ _ hR hh
def s301_91 (E : rE) (w : Nat) (i1 : Int32) (i2 : Int32) (s : rS) : Option rA :=
  s301_96 E w i1 i2 1 s
theorem r301_91 {L : Nat} {xs : Nat → Int32} {zf : Value} {D : dD} {E : rE} {w : Nat} (hD : rO D E L xs) : ∀ (i1 : Int32) (i2 : Int32) (h : rm_H) (s : rS) (r : rA), RS h s → s301_91 E w i1 i2 s = some r → rx (b301_91 L xs zf D w (some 36) i1 i2 h) h r := by
  intro i1 i2 h s r hR hh
  unfold s301_91 at hh
  unfold b301_91
  exact r301_96 hD _ _ _ _ _ _ hR hh
def s301_0 (E : rE) (w : Nat) (i1 : Int32) (s : rS) : Option rA :=
  (rs_aI s 38 i1).bind fun x1 =>
  if mx_f2 .eq x1 123 = true then
    s301_91 E w i1 x1 s
  else
    if mx_f2 .eq x1 125 = true then
      s301_91 E w i1 x1 s
    else
      if mx_f2 .eq x1 40 = true then
        s301_91 E w i1 x1 s
      else
        if mx_f2 .eq x1 41 = true then
          s301_91 E w i1 x1 s
        else
          if mx_f2 .eq x1 59 = true then
            s301_91 E w i1 x1 s
          else
            if mx_f2 .eq x1 44 = true then
              s301_91 E w i1 x1 s
            else
              if mx_f2 .eq x1 58 = true then
                s301_91 E w i1 x1 s
              else
                if mx_f2 .eq x1 46 = true then
                  s301_91 E w i1 x1 s
                else
                  if mx_f2 .eq x1 33 = true then
                    s301_91 E w i1 x1 s
                  else
                    if mx_f2 .eq x1 61 = true then
                      s301_91 E w i1 x1 s
                    else
                      if mx_f2 .eq x1 60 = true then
                        s301_91 E w i1 x1 s
                      else
                        if mx_f2 .eq x1 43 = true then
                          s301_91 E w i1 x1 s
                        else
                          if mx_f2 .eq x1 45 = true then
                            s301_91 E w i1 x1 s
                          else
                            if mx_f2 .ne x1 42 = true then
                              s301_96 E w i1 x1 0 s
                            else
                              s301_91 E w i1 x1 s
theorem r301_0 {L : Nat} {xs : Nat → Int32} {zf : Value} {D : dD} {E : rE} {w : Nat} (hD : rO D E L xs) : ∀ (i1 : Int32) (h : rm_H) (s : rS) (r : rA), RS h s → s301_0 E w i1 s = some r → rx (b301_0 L xs zf D w (some 36) i1 h) h r := by
  intro i1 h s r hR hh
  unfold s301_0 at hh
  unfold b301_0
  refine rx_b (rs_gR hR 1 38 rfl) ?_
  obtain ⟨x1, q2, hh⟩ := db hh
  refine rx_b (rs_aI_ok hR q2) ?_
  rcases di hh with ⟨q3, hh⟩ | ⟨q3, hh⟩
  · refine rx_t q3 ?_
    exact r301_91 hD _ _ _ _ _ hR hh
  · refine rx_f q3 ?_
    rcases di hh with ⟨q4, hh⟩ | ⟨q4, hh⟩
    · refine rx_t q4 ?_
      exact r301_91 hD _ _ _ _ _ hR hh
    · refine rx_f q4 ?_
      rcases di hh with ⟨q5, hh⟩ | ⟨q5, hh⟩
      · refine rx_t q5 ?_
        exact r301_91 hD _ _ _ _ _ hR hh
      · refine rx_f q5 ?_
        rcases di hh with ⟨q6, hh⟩ | ⟨q6, hh⟩
        · refine rx_t q6 ?_
          exact r301_91 hD _ _ _ _ _ hR hh
        · refine rx_f q6 ?_
          rcases di hh with ⟨q7, hh⟩ | ⟨q7, hh⟩
          · refine rx_t q7 ?_
            exact r301_91 hD _ _ _ _ _ hR hh
          · refine rx_f q7 ?_
            rcases di hh with ⟨q8, hh⟩ | ⟨q8, hh⟩
            · refine rx_t q8 ?_
              exact r301_91 hD _ _ _ _ _ hR hh
            · refine rx_f q8 ?_
              rcases di hh with ⟨q9, hh⟩ | ⟨q9, hh⟩
              · refine rx_t q9 ?_
                exact r301_91 hD _ _ _ _ _ hR hh
              · refine rx_f q9 ?_
                rcases di hh with ⟨q10, hh⟩ | ⟨q10, hh⟩
                · refine rx_t q10 ?_
                  exact r301_91 hD _ _ _ _ _ hR hh
                · refine rx_f q10 ?_
                  rcases di hh with ⟨q11, hh⟩ | ⟨q11, hh⟩
                  · refine rx_t q11 ?_
                    exact r301_91 hD _ _ _ _ _ hR hh
                  · refine rx_f q11 ?_
                    rcases di hh with ⟨q12, hh⟩ | ⟨q12, hh⟩
                    · refine rx_t q12 ?_
                      exact r301_91 hD _ _ _ _ _ hR hh
                    · refine rx_f q12 ?_
                      rcases di hh with ⟨q13, hh⟩ | ⟨q13, hh⟩
                      · refine rx_t q13 ?_
                        exact r301_91 hD _ _ _ _ _ hR hh
                      · refine rx_f q13 ?_
                        rcases di hh with ⟨q14, hh⟩ | ⟨q14, hh⟩
                        · refine rx_t q14 ?_
                          exact r301_91 hD _ _ _ _ _ hR hh
                        · refine rx_f q14 ?_
                          rcases di hh with ⟨q15, hh⟩ | ⟨q15, hh⟩
                          · refine rx_t q15 ?_
                            exact r301_91 hD _ _ _ _ _ hR hh
                          · refine rx_f q15 ?_
                            rcases di hh with ⟨q16, hh⟩ | ⟨q16, hh⟩
                            · refine rx_t q16 ?_
                              exact r301_96 hD _ _ _ _ _ _ hR hh
                            · refine rx_f q16 ?_
                              exact r301_91 hD _ _ _ _ _ hR hh
def g301 (E : rE) (w : Nat) (As : List Value) (s : rS) : Option rA := match As with
  | [.ref 36, .int i1] => s301_0 E w i1 s
  | _ => none
theorem t301 {L : Nat} {xs : Nat → Int32} {zf : Value} {D : dD} {E : rE} {w : Nat} (hD : rO D E L xs) (As : List Value) (h : rm_H) (s : rS) (r : rA) (hR : RS h s) (hh : g301 E w As s = some r) : rx (f301 L xs zf D w As h) h r := by
  unfold g301 at hh
  split at hh
  · unfold f301
    dsimp only
    refine rx_b (a := some 36) rfl ?_
    exact r301_0 hD _ _ _ _ hR hh
  · cases hh
def s302_16 (E : rE) (w : Nat) (K0 : rS → Option rA) (s : rS) : Option rA :=
  if mx_f2 .ne (s.1 32) 8 = true then
    ((E 306 [.ref 36] s).bind rxV).bind fun s2 =>
    K0 s2
  else
    ((E 304 [.ref 36] s).bind rxV).bind fun s7 =>
    K0 s7
theorem r302_16 {L : Nat} {xs : Nat → Int32} {zf : Value} {D : dD} {E : rE} {w : Nat} {K0 : rS → Option rA} {B0 : Option Nat → rm_H → Option dR} (hD : rO D E L xs) (hK0 : ∀ (h : rm_H) (s : rS) (r : rA), RS h s → K0 s = some r → rx (B0 (some 36) h) h r) : ∀ (h : rm_H) (s : rS) (r : rA), RS h s → s302_16 E w K0 s = some r → rx (b302_16 L xs zf D w B0 (some 36) h) h r := by
  intro h s r hR hh
  unfold s302_16 at hh
  unfold b302_16
  refine rx_b (rs_gI hR 32 _ rfl) ?_
  rcases di hh with ⟨q1, hh⟩ | ⟨q1, hh⟩
  · refine rx_t q1 ?_
    obtain ⟨s2, q3, hh⟩ := db hh
    obtain ⟨h4, e5, hR, f6⟩ := rs_vV hD hR q3
    refine rx_w e5 f6 ?_
    exact hK0  _ _ _ hR hh
  · refine rx_f q1 ?_
    obtain ⟨s7, q8, hh⟩ := db hh
    obtain ⟨h9, e10, hR, f11⟩ := rs_vV hD hR q8
    refine rx_w e10 f11 ?_
    exact hK0  _ _ _ hR hh
def s302_69 (E : rE) (w : Nat) (s : rS) : Option rA :=
  some (none, s)
theorem r302_69 {L : Nat} {xs : Nat → Int32} {zf : Value} {D : dD} {E : rE} {w : Nat} (hD : rO D E L xs) : ∀ (h : rm_H) (s : rS) (r : rA), RS h s → s302_69 E w s = some r → rx (b302_69 L xs zf D w h) h r := by
  intro h s r hR hh
  unfold s302_69 at hh
  unfold b302_69
  cases hh
  exact rx_0 hR
def s302_65 (E : rE) (w : Nat) (s : rS) : Option rA :=
  ((E 304 [.ref 36] s).bind rxV).bind fun s1 =>
  s302_69 E w s1
theorem r302_65 {L : Nat} {xs : Nat → Int32} {zf : Value} {D : dD} {E : rE} {w : Nat} (hD : rO D E L xs) : ∀ (h : rm_H) (s : rS) (r : rA), RS h s → s302_65 E w s = some r → rx (b302_65 L xs zf D w (some 36) h) h r := by
  intro h s r hR hh
  unfold s302_65 at hh
  unfold b302_65
  obtain ⟨s1, q2, hh⟩ := db hh
  obtain ⟨h3, e4, hR, f5⟩ := rs_vV hD hR q2
  refine rx_w e4 f5 ?_
  exact r302_69 hD  _ _ _ hR hh
def s302_0 (E : rE) (w : Nat) : Nat → rS → Option rA
  | 0, _ => none
  | n + 1, s =>
    ((E 303 [.ref 36, .int 0] s).bind rxI).bind fun x1 =>
    if mx_f1 .ne x1.1 = true then
      s302_16 E w (s302_0 E w n) x1.2
    else
      ((E 303 [.ref 36, .int 1] x1.2).bind rxI).bind fun x7 =>
      if mx_f1 .eq x7.1 = true then
        if mx_f1 .ne (x7.2.1 57) = true then
          s302_69 E w x7.2
        else
          (rs_aI x7.2 40 (x7.2.1 56)).bind fun x14 =>
          if mx_f1 .ne x14 = true then
            s302_65 E w x7.2
          else
            if mx_f1 .ne (x7.2.1 32) = true then
              s302_69 E w x7.2
            else
              s302_65 E w x7.2
      else
        s302_16 E w (s302_0 E w n) x7.2
theorem r302_0 {L : Nat} {xs : Nat → Int32} {zf : Value} {D : dD} {E : rE} {w : Nat} (hD : rO D E L xs) : ∀ (n : Nat) (h : rm_H) (s : rS) (r : rA), RS h s → s302_0 E w n s = some r → rx (b302_0 L xs zf D w n (some 36) h) h r := by
  intro n
  induction n with
  | zero =>
    intro h s r hR hh
    cases hh
  | succ n ih =>
    intro h s r hR hh
    rw [s302_0] at hh
    rw [b302_0]
    obtain ⟨x1, q2, hh⟩ := db hh
    obtain ⟨h3, e4, hR, f5⟩ := rs_vI hD hR q2
    refine rx_c e4 f5 ?_
    rcases di hh with ⟨q6, hh⟩ | ⟨q6, hh⟩
    · refine rx_t q6 ?_
      exact r302_16 hD ih  _ _ _ hR hh
    · refine rx_f q6 ?_
      obtain ⟨x7, q8, hh⟩ := db hh
      obtain ⟨h9, e10, hR, f11⟩ := rs_vI hD hR q8
      refine rx_c e10 f11 ?_
      rcases di hh with ⟨q12, hh⟩ | ⟨q12, hh⟩
      · refine rx_t q12 ?_
        refine rx_b (rs_gI hR 57 _ rfl) ?_
        rcases di hh with ⟨q13, hh⟩ | ⟨q13, hh⟩
        · refine rx_t q13 ?_
          exact r302_69 hD  _ _ _ hR hh
        · refine rx_f q13 ?_
          refine rx_b (rs_gR hR 6 40 rfl) ?_
          refine rx_b (rs_gI hR 56 _ rfl) ?_
          obtain ⟨x14, q15, hh⟩ := db hh
          refine rx_b (rs_aI_ok hR q15) ?_
          rcases di hh with ⟨q16, hh⟩ | ⟨q16, hh⟩
          · refine rx_t q16 ?_
            exact r302_65 hD  _ _ _ hR hh
          · refine rx_f q16 ?_
            refine rx_b (rs_gI hR 32 _ rfl) ?_
            rcases di hh with ⟨q17, hh⟩ | ⟨q17, hh⟩
            · refine rx_t q17 ?_
              exact r302_69 hD  _ _ _ hR hh
            · refine rx_f q17 ?_
              exact r302_65 hD  _ _ _ hR hh
      · refine rx_f q12 ?_
        exact r302_16 hD ih  _ _ _ hR hh
def g302 (E : rE) (w : Nat) (As : List Value) (s : rS) : Option rA := match As with
  | [.ref 36] => s302_0 E w w s
  | _ => none
theorem t302 {L : Nat} {xs : Nat → Int32} {zf : Value} {D : dD} {E : rE} {w : Nat} (hD : rO D E L xs) (As : List Value) (h : rm_H) (s : rS) (r : rA) (hR : RS h s) (hh : g302 E w As s = some r) : rx (f302 L xs zf D w As h) h r := by
  unfold g302 at hh
  split at hh
  · unfold f302
    dsimp only
    refine rx_b (a := some 36) rfl ?_
    exact r302_0 hD _  _ _ _ hR hh
  · cases hh
def s303_38 (E : rE) (w : Nat) (s0 : Int32) (s : rS) : Option rA :=
  rrI (some .boolean) s0 s
theorem r303_38 {L : Nat} {xs : Nat → Int32} {zf : Value} {D : dD} {E : rE} {w : Nat} (hD : rO D E L xs) : ∀ (s0 : Int32) (h : rm_H) (s : rS) (r : rA), RS h s → s303_38 E w s0 s = some r → rx (b303_38 L xs zf D w s0 h) h r := by
  intro s0 h s r hR hh
  unfold s303_38 at hh
  unfold b303_38
  exact rx_I hR hh
def s303_37 (E : rE) (w : Nat) (s : rS) : Option rA :=
  s303_38 E w 0 s
theorem r303_37 {L : Nat} {xs : Nat → Int32} {zf : Value} {D : dD} {E : rE} {w : Nat} (hD : rO D E L xs) : ∀ (h : rm_H) (s : rS) (r : rA), RS h s → s303_37 E w s = some r → rx (b303_37 L xs zf D w h) h r := by
  intro h s r hR hh
  unfold s303_37 at hh
  unfold b303_37
  exact r303_38 hD _ _ _ _ hR hh
def s303_0 (E : rE) (w : Nat) (i1 : Int32) (s : rS) : Option rA :=
  if mx_f1 .ne (s.1 57) = true then
    s303_37 E w s
  else
    (rs_aI s 40 (s.1 56)).bind fun x2 =>
    if mx_f2 .ne x2 2 = true then
      s303_37 E w s
    else
      (rs_aI s 42 (s.1 56)).bind fun x5 =>
      if mx_f2 .ne x5 i1 = true then
        s303_37 E w s
      else
        s303_38 E w 1 s
theorem r303_0 {L : Nat} {xs : Nat → Int32} {zf : Value} {D : dD} {E : rE} {w : Nat} (hD : rO D E L xs) : ∀ (i1 : Int32) (h : rm_H) (s : rS) (r : rA), RS h s → s303_0 E w i1 s = some r → rx (b303_0 L xs zf D w (some 36) i1 h) h r := by
  intro i1 h s r hR hh
  unfold s303_0 at hh
  unfold b303_0
  refine rx_b (rs_gI hR 57 _ rfl) ?_
  rcases di hh with ⟨q1, hh⟩ | ⟨q1, hh⟩
  · refine rx_t q1 ?_
    exact r303_37 hD  _ _ _ hR hh
  · refine rx_f q1 ?_
    refine rx_b (rs_gR hR 6 40 rfl) ?_
    refine rx_b (rs_gI hR 56 _ rfl) ?_
    obtain ⟨x2, q3, hh⟩ := db hh
    refine rx_b (rs_aI_ok hR q3) ?_
    rcases di hh with ⟨q4, hh⟩ | ⟨q4, hh⟩
    · refine rx_t q4 ?_
      exact r303_37 hD  _ _ _ hR hh
    · refine rx_f q4 ?_
      refine rx_b (rs_gR hR 8 42 rfl) ?_
      refine rx_b (rs_gI hR 56 _ rfl) ?_
      obtain ⟨x5, q6, hh⟩ := db hh
      refine rx_b (rs_aI_ok hR q6) ?_
      rcases di hh with ⟨q7, hh⟩ | ⟨q7, hh⟩
      · refine rx_t q7 ?_
        exact r303_37 hD  _ _ _ hR hh
      · refine rx_f q7 ?_
        exact r303_38 hD _ _ _ _ hR hh
def g303 (E : rE) (w : Nat) (As : List Value) (s : rS) : Option rA := match As with
  | [.ref 36, .int i1] => s303_0 E w i1 s
  | _ => none
theorem t303 {L : Nat} {xs : Nat → Int32} {zf : Value} {D : dD} {E : rE} {w : Nat} (hD : rO D E L xs) (As : List Value) (h : rm_H) (s : rS) (r : rA) (hR : RS h s) (hh : g303 E w As s = some r) : rx (f303 L xs zf D w As h) h r := by
  unfold g303 at hh
  split at hh
  · unfold f303
    dsimp only
    refine rx_b (a := some 36) rfl ?_
    exact r303_0 hD _ _ _ _ hR hh
  · cases hh
def s304_0 (E : rE) (w : Nat) (s : rS) : Option rA :=
  (rs_aI s 41 (s.1 56)).bind fun x1 =>
  ((E 305 [.ref 36, .int 1, .int x1] s).bind rxV).bind fun s3 =>
  some (none, s3)
theorem r304_0 {L : Nat} {xs : Nat → Int32} {zf : Value} {D : dD} {E : rE} {w : Nat} (hD : rO D E L xs) : ∀ (h : rm_H) (s : rS) (r : rA), RS h s → s304_0 E w s = some r → rx (b304_0 L xs zf D w (some 36) h) h r := by
  intro h s r hR hh
  unfold s304_0 at hh
  unfold b304_0
  refine rx_b (rs_gR hR 7 41 rfl) ?_
  refine rx_b (rs_gI hR 56 _ rfl) ?_
  obtain ⟨x1, q2, hh⟩ := db hh
  refine rx_b (rs_aI_ok hR q2) ?_
  obtain ⟨s3, q4, hh⟩ := db hh
  obtain ⟨h5, e6, hR, f7⟩ := rs_vV hD hR q4
  refine rx_w e6 f7 ?_
  cases hh
  exact rx_0 hR
def g304 (E : rE) (w : Nat) (As : List Value) (s : rS) : Option rA := match As with
  | [.ref 36] => s304_0 E w s
  | _ => none
theorem t304 {L : Nat} {xs : Nat → Int32} {zf : Value} {D : dD} {E : rE} {w : Nat} (hD : rO D E L xs) (As : List Value) (h : rm_H) (s : rS) (r : rA) (hR : RS h s) (hh : g304 E w As s = some r) : rx (f304 L xs zf D w As h) h r := by
  unfold g304 at hh
  split at hh
  · unfold f304
    dsimp only
    refine rx_b (a := some 36) rfl ?_
    exact r304_0 hD  _ _ _ hR hh
  · cases hh
def s305_0 (E : rE) (w : Nat) (i1 : Int32) (i2 : Int32) (s : rS) : Option rA :=
  if mx_f1 .le (s.1 57) = true then
    (rs_pI s 57 i1).bind fun s2 =>
    (rs_pI s2 58 i2).bind fun s7 =>
    some (none, s7)
  else
    some (none, s)
theorem r305_0 {L : Nat} {xs : Nat → Int32} {zf : Value} {D : dD} {E : rE} {w : Nat} (hD : rO D E L xs) : ∀ (i1 : Int32) (i2 : Int32) (h : rm_H) (s : rS) (r : rA), RS h s → s305_0 E w i1 i2 s = some r → rx (b305_0 L xs zf D w (some 36) i1 i2 h) h r := by
  intro i1 i2 h s r hR hh
  unfold s305_0 at hh
  unfold b305_0
  refine rx_b (rs_gI hR 57 _ rfl) ?_
  rcases di hh with ⟨q1, hh⟩ | ⟨q1, hh⟩
  · refine rx_t q1 ?_
    obtain ⟨s2, q3, hh⟩ := db hh
    obtain ⟨h4, e5, hR, f6⟩ := rs_pI_ok (rs_m57 _ _) (by decide) hR q3
    refine rx_w e5 f6 ?_
    obtain ⟨s7, q8, hh⟩ := db hh
    obtain ⟨h9, e10, hR, f11⟩ := rs_pI_ok (rs_m58 _ _) (by decide) hR q8
    refine rx_w e10 f11 ?_
    cases hh
    exact rx_0 hR
  · refine rx_f q1 ?_
    cases hh
    exact rx_0 hR
def g305 (E : rE) (w : Nat) (As : List Value) (s : rS) : Option rA := match As with
  | [.ref 36, .int i1, .int i2] => s305_0 E w i1 i2 s
  | _ => none
theorem t305 {L : Nat} {xs : Nat → Int32} {zf : Value} {D : dD} {E : rE} {w : Nat} (hD : rO D E L xs) (As : List Value) (h : rm_H) (s : rS) (r : rA) (hR : RS h s) (hh : g305 E w As s = some r) : rx (f305 L xs zf D w As h) h r := by
  unfold g305 at hh
  split at hh
  · unfold f305
    dsimp only
    refine rx_b (a := some 36) rfl ?_
    exact r305_0 hD _ _ _ _ _ hR hh
  · cases hh
def s306_232 (E : rE) (w : Nat) (K167 : Int32 → rS → Option rA) (i1 : Int32) (s0 : Int32) (s1 : Int32) (s : rS) : Option rA :=
  ((E 314 [.ref 36, .int s1, .int s0] s).bind rxV).bind fun s1 =>
  K167 i1 s1
theorem r306_232 {L : Nat} {xs : Nat → Int32} {zf : Value} {D : dD} {E : rE} {w : Nat} {K167 : Int32 → rS → Option rA} {B167 : Option Nat → Int32 → rm_H → Option dR} (hD : rO D E L xs) (hK167 : ∀ (i1 : Int32) (h : rm_H) (s : rS) (r : rA), RS h s → K167 i1 s = some r → rx (B167 (some 36) i1 h) h r) : ∀ (i1 : Int32) (s0 : Int32) (s1 : Int32) (h : rm_H) (s : rS) (r : rA), RS h s → s306_232 E w K167 i1 s0 s1 s = some r → rx (b306_232 L xs zf D w B167 (some 36) i1 s0 s1 (some 36) h) h r := by
  intro i1 s0 s1 h s r hR hh
  unfold s306_232 at hh
  unfold b306_232
  obtain ⟨s1, q2, hh⟩ := db hh
  obtain ⟨h3, e4, hR, f5⟩ := rs_vV hD hR q2
  refine rx_w e4 f5 ?_
  exact hK167 _ _ _ _ hR hh
def s306_192 (E : rE) (w : Nat) (K167 : Int32 → rS → Option rA) (i1 : Int32) (s : rS) : Option rA :=
  (rs_aI s 65 i1).bind fun x1 =>
  if mx_f2 .ne (((s.1 42) - x1) - 1) 8 = true then
    ((E 303 [.ref 36, .int 3] s).bind rxI).bind fun x4 =>
    if mx_f1 .eq x4.1 = true then
      s306_232 E w K167 i1 2 i1 x4.2
    else
      s306_232 E w K167 i1 1 i1 x4.2
  else
    ((E 304 [.ref 36] s).bind rxV).bind fun s10 =>
    K167 i1 s10
theorem r306_192 {L : Nat} {xs : Nat → Int32} {zf : Value} {D : dD} {E : rE} {w : Nat} {K167 : Int32 → rS → Option rA} {B167 : Option Nat → Int32 → rm_H → Option dR} (hD : rO D E L xs) (hK167 : ∀ (i1 : Int32) (h : rm_H) (s : rS) (r : rA), RS h s → K167 i1 s = some r → rx (B167 (some 36) i1 h) h r) : ∀ (i1 : Int32) (h : rm_H) (s : rS) (r : rA), RS h s → s306_192 E w K167 i1 s = some r → rx (b306_192 L xs zf D w B167 (some 36) i1 h) h r := by
  intro i1 h s r hR hh
  unfold s306_192 at hh
  unfold b306_192
  refine rx_b (rs_gI hR 42 _ rfl) ?_
  refine rx_b (rs_gR hR 36 65 rfl) ?_
  obtain ⟨x1, q2, hh⟩ := db hh
  refine rx_b (rs_aI_ok hR q2) ?_
  rcases di hh with ⟨q3, hh⟩ | ⟨q3, hh⟩
  · refine rx_t q3 ?_
    obtain ⟨x4, q5, hh⟩ := db hh
    obtain ⟨h6, e7, hR, f8⟩ := rs_vI hD hR q5
    refine rx_c e7 f8 ?_
    rcases di hh with ⟨q9, hh⟩ | ⟨q9, hh⟩
    · refine rx_t q9 ?_
      exact r306_232 hD hK167 _ _ _ _ _ _ hR hh
    · refine rx_f q9 ?_
      exact r306_232 hD hK167 _ _ _ _ _ _ hR hh
  · refine rx_f q3 ?_
    obtain ⟨s10, q11, hh⟩ := db hh
    obtain ⟨h12, e13, hR, f14⟩ := rs_vV hD hR q11
    refine rx_w e13 f14 ?_
    exact hK167 _ _ _ _ hR hh
def s306_238 (E : rE) (w : Nat) (i1 : Int32) (s : rS) : Option rA :=
  (rs_sI s 65 (i1 + 1) (s.1 42)).bind fun s1 =>
  ((E 308 [.ref 36, .int 125] s1).bind rxV).bind fun s6 =>
  some (none, s6)
theorem r306_238 {L : Nat} {xs : Nat → Int32} {zf : Value} {D : dD} {E : rE} {w : Nat} (hD : rO D E L xs) : ∀ (i1 : Int32) (h : rm_H) (s : rS) (r : rA), RS h s → s306_238 E w i1 s = some r → rx (b306_238 L xs zf D w (some 36) i1 h) h r := by
  intro i1 h s r hR hh
  unfold s306_238 at hh
  unfold b306_238
  refine rx_b (rs_gR hR 36 65 rfl) ?_
  refine rx_b (rs_gI hR 42 _ rfl) ?_
  obtain ⟨s1, q2, hh⟩ := db hh
  obtain ⟨h3, e4, hR, f5⟩ := rs_sI_ok hR q2
  refine rx_w e4 f5 ?_
  obtain ⟨s6, q7, hh⟩ := db hh
  obtain ⟨h8, e9, hR, f10⟩ := rs_vV hD hR q7
  refine rx_w e9 f10 ?_
  cases hh
  exact rx_0 hR
def s306_167 (E : rE) (w : Nat) : Nat → Int32 → rS → Option rA
  | 0, _, _ => none
  | n + 1, i1, s =>
    ((E 303 [.ref 36, .int 3] s).bind rxI).bind fun x1 =>
    if mx_f1 .ne x1.1 = true then
      s306_192 E w (s306_167 E w n) i1 x1.2
    else
      (rs_aB x1.2 66 i1).bind fun x7 =>
      if mx_f1 .eq x7 = true then
        s306_238 E w i1 x1.2
      else
        ((E 303 [.ref 36, .int 4] x1.2).bind rxI).bind fun x10 =>
        if mx_f1 .eq x10.1 = true then
          s306_238 E w i1 x10.2
        else
          s306_192 E w (s306_167 E w n) i1 x10.2
theorem r306_167 {L : Nat} {xs : Nat → Int32} {zf : Value} {D : dD} {E : rE} {w : Nat} (hD : rO D E L xs) : ∀ (n : Nat) (i1 : Int32) (h : rm_H) (s : rS) (r : rA), RS h s → s306_167 E w n i1 s = some r → rx (b306_167 L xs zf D w n (some 36) i1 h) h r := by
  intro n
  induction n with
  | zero =>
    intro i1 h s r hR hh
    cases hh
  | succ n ih =>
    intro i1 h s r hR hh
    rw [s306_167] at hh
    rw [b306_167]
    obtain ⟨x1, q2, hh⟩ := db hh
    obtain ⟨h3, e4, hR, f5⟩ := rs_vI hD hR q2
    refine rx_c e4 f5 ?_
    rcases di hh with ⟨q6, hh⟩ | ⟨q6, hh⟩
    · refine rx_t q6 ?_
      exact r306_192 hD ih _ _ _ _ hR hh
    · refine rx_f q6 ?_
      refine rx_b (rs_gR hR 37 66 rfl) ?_
      obtain ⟨x7, q8, hh⟩ := db hh
      refine rx_b (rs_aB_ok hR q8) ?_
      rcases di hh with ⟨q9, hh⟩ | ⟨q9, hh⟩
      · refine rx_t q9 ?_
        exact r306_238 hD _ _ _ _ hR hh
      · refine rx_f q9 ?_
        obtain ⟨x10, q11, hh⟩ := db hh
        obtain ⟨h12, e13, hR, f14⟩ := rs_vI hD hR q11
        refine rx_c e13 f14 ?_
        rcases di hh with ⟨q15, hh⟩ | ⟨q15, hh⟩
        · refine rx_t q15 ?_
          exact r306_238 hD _ _ _ _ hR hh
        · refine rx_f q15 ?_
          exact r306_192 hD ih _ _ _ _ hR hh
def s306_154 (E : rE) (w : Nat) (i1 : Int32) (s : rS) : Option rA :=
  if mx_f1 .ne (s.1 57) = true then
    s306_167 E w w i1 s
  else
    ((E 314 [.ref 36, .int i1, .int 0] s).bind rxV).bind fun s2 =>
    s306_167 E w w i1 s2
theorem r306_154 {L : Nat} {xs : Nat → Int32} {zf : Value} {D : dD} {E : rE} {w : Nat} (hD : rO D E L xs) : ∀ (i1 : Int32) (h : rm_H) (s : rS) (r : rA), RS h s → s306_154 E w i1 s = some r → rx (b306_154 L xs zf D w (some 36) i1 h) h r := by
  intro i1 h s r hR hh
  unfold s306_154 at hh
  unfold b306_154
  refine rx_b (rs_gI hR 57 _ rfl) ?_
  rcases di hh with ⟨q1, hh⟩ | ⟨q1, hh⟩
  · refine rx_t q1 ?_
    exact r306_167 hD _ _ _ _ _ hR hh
  · refine rx_f q1 ?_
    obtain ⟨s2, q3, hh⟩ := db hh
    obtain ⟨h4, e5, hR, f6⟩ := rs_vV hD hR q3
    refine rx_w e5 f6 ?_
    exact r306_167 hD _ _ _ _ _ hR hh
def s306_82 (E : rE) (w : Nat) : Nat → Int32 → rS → Option rA
  | 0, _, _ => none
  | n + 1, i1, s =>
    ((E 303 [.ref 36, .int 5] s).bind rxI).bind fun x1 =>
    if mx_f1 .eq x1.1 = true then
      (rs_sI x1.2 64 (i1 + 1) (x1.2.1 38)).bind fun s7 =>
      (rs_sI s7 65 i1 (s7.1 42)).bind fun s12 =>
      ((E 303 [.ref 36, .int 2] s12).bind rxI).bind fun x17 =>
      if mx_f1 .ne x17.1 = true then
        s306_154 E w i1 x17.2
      else
        ((E 304 [.ref 36] x17.2).bind rxV).bind fun s23 =>
        s306_154 E w i1 s23
    else
      (rs_aI x1.2 64 i1).bind fun x28 =>
      if mx_f2 .ne ((x1.2.1 38) - x28) 8 = true then
        ((E 311 [.ref 36] x1.2).bind rxV).bind fun s31 =>
        s306_82 E w n i1 s31
      else
        ((E 304 [.ref 36] x1.2).bind rxV).bind fun s36 =>
        s306_82 E w n i1 s36
theorem r306_82 {L : Nat} {xs : Nat → Int32} {zf : Value} {D : dD} {E : rE} {w : Nat} (hD : rO D E L xs) : ∀ (n : Nat) (i1 : Int32) (h : rm_H) (s : rS) (r : rA), RS h s → s306_82 E w n i1 s = some r → rx (b306_82 L xs zf D w n (some 36) i1 h) h r := by
  intro n
  induction n with
  | zero =>
    intro i1 h s r hR hh
    cases hh
  | succ n ih =>
    intro i1 h s r hR hh
    rw [s306_82] at hh
    rw [b306_82]
    obtain ⟨x1, q2, hh⟩ := db hh
    obtain ⟨h3, e4, hR, f5⟩ := rs_vI hD hR q2
    refine rx_c e4 f5 ?_
    rcases di hh with ⟨q6, hh⟩ | ⟨q6, hh⟩
    · refine rx_t q6 ?_
      refine rx_b (rs_gR hR 35 64 rfl) ?_
      refine rx_b (rs_gI hR 38 _ rfl) ?_
      obtain ⟨s7, q8, hh⟩ := db hh
      obtain ⟨h9, e10, hR, f11⟩ := rs_sI_ok hR q8
      refine rx_w e10 f11 ?_
      refine rx_b (rs_gR hR 36 65 rfl) ?_
      refine rx_b (rs_gI hR 42 _ rfl) ?_
      obtain ⟨s12, q13, hh⟩ := db hh
      obtain ⟨h14, e15, hR, f16⟩ := rs_sI_ok hR q13
      refine rx_w e15 f16 ?_
      obtain ⟨x17, q18, hh⟩ := db hh
      obtain ⟨h19, e20, hR, f21⟩ := rs_vI hD hR q18
      refine rx_c e20 f21 ?_
      rcases di hh with ⟨q22, hh⟩ | ⟨q22, hh⟩
      · refine rx_t q22 ?_
        exact r306_154 hD _ _ _ _ hR hh
      · refine rx_f q22 ?_
        obtain ⟨s23, q24, hh⟩ := db hh
        obtain ⟨h25, e26, hR, f27⟩ := rs_vV hD hR q24
        refine rx_w e26 f27 ?_
        exact r306_154 hD _ _ _ _ hR hh
    · refine rx_f q6 ?_
      refine rx_b (rs_gI hR 38 _ rfl) ?_
      refine rx_b (rs_gR hR 35 64 rfl) ?_
      obtain ⟨x28, q29, hh⟩ := db hh
      refine rx_b (rs_aI_ok hR q29) ?_
      rcases di hh with ⟨q30, hh⟩ | ⟨q30, hh⟩
      · refine rx_t q30 ?_
        obtain ⟨s31, q32, hh⟩ := db hh
        obtain ⟨h33, e34, hR, f35⟩ := rs_vV hD hR q32
        refine rx_w e34 f35 ?_
        exact ih _ _ _ _ hR hh
      · refine rx_f q30 ?_
        obtain ⟨s36, q37, hh⟩ := db hh
        obtain ⟨h38, e39, hR, f40⟩ := rs_vV hD hR q37
        refine rx_w e39 f40 ?_
        exact ih _ _ _ _ hR hh
def s306_0 (E : rE) (w : Nat) (s : rS) : Option rA :=
  (rs_pI s 32 ((s.1 32) + 1)).bind fun s1 =>
  ((E 303 [.ref 36, .int 1] s1).bind rxI).bind fun x6 =>
  (rs_sB x6.2 66 (s.1 32) x6.1).bind fun s11 =>
  (rs_pI s11 56 ((s11.1 56) + 1)).bind fun s16 =>
  ((E 307 [.ref 36, .int 3] s16).bind rxI).bind fun x21 =>
  (rs_aJ x21.2 43 x21.1).bind fun y26 =>
  (rs_sJ x21.2 62 (s.1 32) y26).bind fun s28 =>
  (rs_aI s28 41 x21.1).bind fun x33 =>
  (rs_sI s28 63 (s.1 32) x33).bind fun s35 =>
  (rs_sI s35 64 (s.1 32) (s35.1 38)).bind fun s40 =>
  ((E 308 [.ref 36, .int 123] s40).bind rxV).bind fun s45 =>
  s306_82 E w w (s.1 32) s45
theorem r306_0 {L : Nat} {xs : Nat → Int32} {zf : Value} {D : dD} {E : rE} {w : Nat} (hD : rO D E L xs) : ∀ (h : rm_H) (s : rS) (r : rA), RS h s → s306_0 E w s = some r → rx (b306_0 L xs zf D w (some 36) h) h r := by
  intro h s r hR hh
  unfold s306_0 at hh
  unfold b306_0
  refine rx_b (rs_gI hR 32 _ rfl) ?_
  refine rx_b (rs_gI hR 32 _ rfl) ?_
  obtain ⟨s1, q2, hh⟩ := db hh
  obtain ⟨h3, e4, hR, f5⟩ := rs_pI_ok (rs_m32 _ _) (by decide) hR q2
  refine rx_w e4 f5 ?_
  refine rx_b (rs_gR hR 37 66 rfl) ?_
  obtain ⟨x6, q7, hh⟩ := db hh
  obtain ⟨h8, e9, hR, f10⟩ := rs_vI hD hR q7
  refine rx_c e9 f10 ?_
  obtain ⟨s11, q12, hh⟩ := db hh
  obtain ⟨h13, e14, hR, f15⟩ := rs_sB_ok hR q12
  refine rx_w e14 f15 ?_
  refine rx_b (rs_gI hR 56 _ rfl) ?_
  obtain ⟨s16, q17, hh⟩ := db hh
  obtain ⟨h18, e19, hR, f20⟩ := rs_pI_ok (rs_m56 _ _) (by decide) hR q17
  refine rx_w e19 f20 ?_
  obtain ⟨x21, q22, hh⟩ := db hh
  obtain ⟨h23, e24, hR, f25⟩ := rs_vI hD hR q22
  refine rx_c e24 f25 ?_
  refine rx_b (rs_gR hR 33 62 rfl) ?_
  refine rx_b (rs_gR hR 9 43 rfl) ?_
  obtain ⟨y26, q27, hh⟩ := db hh
  refine rx_b (rs_aJ_ok hR q27) ?_
  obtain ⟨s28, q29, hh⟩ := db hh
  obtain ⟨h30, e31, hR, f32⟩ := rs_sJ_ok hR q29
  refine rx_w e31 f32 ?_
  refine rx_b (rs_gR hR 34 63 rfl) ?_
  refine rx_b (rs_gR hR 7 41 rfl) ?_
  obtain ⟨x33, q34, hh⟩ := db hh
  refine rx_b (rs_aI_ok hR q34) ?_
  obtain ⟨s35, q36, hh⟩ := db hh
  obtain ⟨h37, e38, hR, f39⟩ := rs_sI_ok hR q36
  refine rx_w e38 f39 ?_
  refine rx_b (rs_gR hR 35 64 rfl) ?_
  refine rx_b (rs_gI hR 38 _ rfl) ?_
  obtain ⟨s40, q41, hh⟩ := db hh
  obtain ⟨h42, e43, hR, f44⟩ := rs_sI_ok hR q41
  refine rx_w e43 f44 ?_
  obtain ⟨s45, q46, hh⟩ := db hh
  obtain ⟨h47, e48, hR, f49⟩ := rs_vV hD hR q46
  refine rx_w e48 f49 ?_
  exact r306_82 hD _ _ _ _ _ hR hh
def g306 (E : rE) (w : Nat) (As : List Value) (s : rS) : Option rA := match As with
  | [.ref 36] => s306_0 E w s
  | _ => none
theorem t306 {L : Nat} {xs : Nat → Int32} {zf : Value} {D : dD} {E : rE} {w : Nat} (hD : rO D E L xs) (As : List Value) (h : rm_H) (s : rS) (r : rA) (hR : RS h s) (hh : g306 E w As s = some r) : rx (f306 L xs zf D w As h) h r := by
  unfold g306 at hh
  split at hh
  · unfold f306
    dsimp only
    refine rx_b (a := some 36) rfl ?_
    exact r306_0 hD  _ _ _ hR hh
  · cases hh
