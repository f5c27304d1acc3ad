/-! THE REFERENCE'S METHODS OVER ITS STATE, printed by wip/whole/gen_ref.py -/
def s387_99 (E : rE) (w : Nat) (s0 : Int32) (s : rS) : Option rA :=
  rrI (some .int) s0 s
theorem r387_99 {L : Nat} {xs : Nat → Int32} {zf : Value} {D : dD} {E : rE} {w : Nat} (hD : rO D E L xs) : ∀ (s0 : Int32) (h : rm_H) (s : rS) (r : rA), RS h s → s387_99 E w s0 s = some r → rx (b387_99 L xs zf D w s0 h) h r := by
  intro s0 h s r hR hh
  unfold s387_99 at hh
  unfold b387_99
  exact rx_I hR hh
def s387_0 (E : rE) (w : Nat) (i1 : Int32) (s : rS) : Option rA :=
  (rs_aI s 44 i1).bind fun x1 =>
  if x1 = 7 then
    (rs_aI s 46 i1).bind fun x4 =>
    rrI (some .int) x4 s
  else if x1 = 9 then
    (rs_aI s 45 i1).bind fun x7 =>
    (rs_aI s 45 x7).bind fun x9 =>
    rrI (some .int) x9 s
  else if x1 = 11 then
    (rs_aI s 45 i1).bind fun x12 =>
    if mx_f1 .ne x12 = true then
      (rs_aI s 45 i1).bind fun x15 =>
      s387_99 E w x15 s
    else
      (rs_aI s 46 i1).bind fun x17 =>
      s387_99 E w x17 s
  else if x1 = 12 then
    (rs_aI s 45 i1).bind fun x20 =>
    if mx_f1 .ne x20 = true then
      (rs_aI s 45 i1).bind fun x23 =>
      s387_99 E w x23 s
    else
      (rs_aI s 46 i1).bind fun x25 =>
      s387_99 E w x25 s
  else if x1 = 26 then
    (rs_aI s 46 i1).bind fun x28 =>
    rrI (some .int) x28 s
  else if Op.lookupswitch.offset (#[(7, 50), (9, 57), (11, 69), (12, 69), (26, 50)] : Array (Int × Int)).toList 94 (Int32.toInt x1) = 94 then
    (rs_aI s 45 i1).bind fun x31 =>
    rrI (some .int) x31 s
  else none
theorem r387_0 {L : Nat} {xs : Nat → Int32} {zf : Value} {D : dD} {E : rE} {w : Nat} (hD : rO D E L xs) : ∀ (i1 : Int32) (h : rm_H) (s : rS) (r : rA), RS h s → s387_0 E w i1 s = some r → rx (b387_0 L xs zf D w (some 36) i1 h) h r := by
  intro i1 h s r hR hh
  unfold s387_0 at hh
  unfold b387_0
  refine rx_b (rs_gR hR 11 44 rfl) ?_
  obtain ⟨x1, q2, hh⟩ := db hh
  refine rx_b (rs_aI_ok hR q2) ?_
  rcases dp hh with ⟨q3, hh⟩ | ⟨q3, hh⟩
  · refine rx_pt q3 ?_
    refine rx_b (rs_gR hR 13 46 rfl) ?_
    obtain ⟨x4, q5, hh⟩ := db hh
    refine rx_b (rs_aI_ok hR q5) ?_
    exact rx_I hR hh
  refine rx_pf q3 ?_
  rcases dp hh with ⟨q6, hh⟩ | ⟨q6, hh⟩
  · refine rx_pt q6 ?_
    refine rx_b (rs_gR hR 12 45 rfl) ?_
    refine rx_b (rs_gR hR 12 45 rfl) ?_
    obtain ⟨x7, q8, hh⟩ := db hh
    refine rx_b (rs_aI_ok hR q8) ?_
    obtain ⟨x9, q10, hh⟩ := db hh
    refine rx_b (rs_aI_ok hR q10) ?_
    exact rx_I hR hh
  refine rx_pf q6 ?_
  rcases dp hh with ⟨q11, hh⟩ | ⟨q11, hh⟩
  · refine rx_pt q11 ?_
    refine rx_b (rs_gR hR 12 45 rfl) ?_
    obtain ⟨x12, q13, hh⟩ := db hh
    refine rx_b (rs_aI_ok hR q13) ?_
    rcases di hh with ⟨q14, hh⟩ | ⟨q14, hh⟩
    · refine rx_t q14 ?_
      refine rx_b (rs_gR hR 12 45 rfl) ?_
      obtain ⟨x15, q16, hh⟩ := db hh
      refine rx_b (rs_aI_ok hR q16) ?_
      exact r387_99 hD _ _ _ _ hR hh
    · refine rx_f q14 ?_
      refine rx_b (rs_gR hR 13 46 rfl) ?_
      obtain ⟨x17, q18, hh⟩ := db hh
      refine rx_b (rs_aI_ok hR q18) ?_
      exact r387_99 hD _ _ _ _ hR hh
  refine rx_pf q11 ?_
  rcases dp hh with ⟨q19, hh⟩ | ⟨q19, hh⟩
  · refine rx_pt q19 ?_
    refine rx_b (rs_gR hR 12 45 rfl) ?_
    obtain ⟨x20, q21, hh⟩ := db hh
    refine rx_b (rs_aI_ok hR q21) ?_
    rcases di hh with ⟨q22, hh⟩ | ⟨q22, hh⟩
    · refine rx_t q22 ?_
      refine rx_b (rs_gR hR 12 45 rfl) ?_
      obtain ⟨x23, q24, hh⟩ := db hh
      refine rx_b (rs_aI_ok hR q24) ?_
      exact r387_99 hD _ _ _ _ hR hh
    · refine rx_f q22 ?_
      refine rx_b (rs_gR hR 13 46 rfl) ?_
      obtain ⟨x25, q26, hh⟩ := db hh
      refine rx_b (rs_aI_ok hR q26) ?_
      exact r387_99 hD _ _ _ _ hR hh
  refine rx_pf q19 ?_
  rcases dp hh with ⟨q27, hh⟩ | ⟨q27, hh⟩
  · refine rx_pt q27 ?_
    refine rx_b (rs_gR hR 13 46 rfl) ?_
    obtain ⟨x28, q29, hh⟩ := db hh
    refine rx_b (rs_aI_ok hR q29) ?_
    exact rx_I hR hh
  refine rx_pf q27 ?_
  rcases dp hh with ⟨q30, hh⟩ | ⟨q30, hh⟩
  · refine rx_pt q30 ?_
    refine rx_b (rs_gR hR 12 45 rfl) ?_
    obtain ⟨x31, q32, hh⟩ := db hh
    refine rx_b (rs_aI_ok hR q32) ?_
    exact rx_I hR hh
  refine rx_pf q30 ?_
  cases hh
def g387 (E : rE) (w : Nat) (As : List Value) (s : rS) : Option rA := match As with
  | [.ref 36, .int i1] => s387_0 E w i1 s
  | _ => none
theorem t387 {L : Nat} {xs : Nat → Int32} {zf : Value} {D : dD} {E : rE} {w : Nat} (hD : rO D E L xs) (As : List Value) (h : rm_H) (s : rS) (r : rA) (hR : RS h s) (hh : g387 E w As s = some r) : rx (f387 L xs zf D w As h) h r := by
  unfold g387 at hh
  split at hh
  · unfold f387
    dsimp only
    refine rx_b (a := some 36) rfl ?_
    exact r387_0 hD _ _ _ _ hR hh
  · cases hh
def s388_697 (E : rE) (w : Nat) (i2 : Int32) (i4 : Int32) (s : rS) : Option rA :=
  ((E 393 [.ref 36, .int i4] s).bind rxI).bind fun x1 =>
  (rs_sI x1.2 99 i2 x1.1).bind fun s6 =>
  rrI (some .int) 0 s6
theorem r388_697 {L : Nat} {xs : Nat → Int32} {zf : Value} {D : dD} {E : rE} {w : Nat} (hD : rO D E L xs) : ∀ (i2 : Int32) (i4 : Int32) (h : rm_H) (s : rS) (r : rA), RS h s → s388_697 E w i2 i4 s = some r → rx (b388_697 L xs zf D w (some 36) i2 i4 h) h r := by
  intro i2 i4 h s r hR hh
  unfold s388_697 at hh
  unfold b388_697
  refine rx_b (rs_gR hR 98 99 rfl) ?_
  obtain ⟨x1, q2, hh⟩ := db hh
  obtain ⟨h3, e4, hR, f5⟩ := rs_vI hD hR q2
  refine rx_c e4 f5 ?_
  obtain ⟨s6, q7, hh⟩ := db hh
  obtain ⟨h8, e9, hR, f10⟩ := rs_sI_ok hR q7
  refine rx_w e9 f10 ?_
  exact rx_I hR hh
def s388_231 (E : rE) (w : Nat) (i2 : Int32) (i4 : Int32) (s0 : Int32) (s1 : Int32) (s2 : Int32) (s : rS) : Option rA :=
  ((E 376 [.int s1, .int s0] s).bind rxJ).bind fun y1 =>
  ((E 389 [.ref 36, .int s2, .long y1.1] y1.2).bind rxV).bind fun s6 =>
  s388_697 E w i2 i4 s6
theorem r388_231 {L : Nat} {xs : Nat → Int32} {zf : Value} {D : dD} {E : rE} {w : Nat} (hD : rO D E L xs) : ∀ (i2 : Int32) (i4 : Int32) (s0 : Int32) (s1 : Int32) (s2 : Int32) (h : rm_H) (s : rS) (r : rA), RS h s → s388_231 E w i2 i4 s0 s1 s2 s = some r → rx (b388_231 L xs zf D w (some 36) i2 i4 s0 s1 s2 (some 36) h) h r := by
  intro i2 i4 s0 s1 s2 h s r hR hh
  unfold s388_231 at hh
  unfold b388_231
  obtain ⟨y1, q2, hh⟩ := db hh
  obtain ⟨h3, e4, hR, f5⟩ := rs_cJ hD hR q2
  refine rx_c e4 f5 ?_
  obtain ⟨s6, q7, hh⟩ := db hh
  obtain ⟨h8, e9, hR, f10⟩ := rs_vV hD hR q7
  refine rx_w e9 f10 ?_
  exact r388_697 hD _ _ _ _ _ hR hh
def s388_383 (E : rE) (w : Nat) (i2 : Int32) (i4 : Int32) (s0 : Int32) (s1 : Int32) (s2 : Int32) (s : rS) : Option rA :=
  ((E 376 [.int s1, .int s0] s).bind rxJ).bind fun y1 =>
  ((E 389 [.ref 36, .int s2, .long y1.1] y1.2).bind rxV).bind fun s6 =>
  s388_697 E w i2 i4 s6
theorem r388_383 {L : Nat} {xs : Nat → Int32} {zf : Value} {D : dD} {E : rE} {w : Nat} (hD : rO D E L xs) : ∀ (i2 : Int32) (i4 : Int32) (s0 : Int32) (s1 : Int32) (s2 : Int32) (h : rm_H) (s : rS) (r : rA), RS h s → s388_383 E w i2 i4 s0 s1 s2 s = some r → rx (b388_383 L xs zf D w (some 36) i2 i4 s0 s1 s2 (some 36) h) h r := by
  intro i2 i4 s0 s1 s2 h s r hR hh
  unfold s388_383 at hh
  unfold b388_383
  obtain ⟨y1, q2, hh⟩ := db hh
  obtain ⟨h3, e4, hR, f5⟩ := rs_cJ hD hR q2
  refine rx_c e4 f5 ?_
  obtain ⟨s6, q7, hh⟩ := db hh
  obtain ⟨h8, e9, hR, f10⟩ := rs_vV hD hR q7
  refine rx_w e9 f10 ?_
  exact r388_697 hD _ _ _ _ _ hR hh
def s388_487 (E : rE) (w : Nat) (i2 : Int32) (i4 : Int32) (s : rS) : Option rA :=
  (rs_pI s 81 ((s.1 81) + 1)).bind fun s1 =>
  s388_697 E w i2 i4 s1
theorem r388_487 {L : Nat} {xs : Nat → Int32} {zf : Value} {D : dD} {E : rE} {w : Nat} (hD : rO D E L xs) : ∀ (i2 : Int32) (i4 : Int32) (h : rm_H) (s : rS) (r : rA), RS h s → s388_487 E w i2 i4 s = some r → rx (b388_487 L xs zf D w (some 36) i2 i4 h) h r := by
  intro i2 i4 h s r hR hh
  unfold s388_487 at hh
  unfold b388_487
  refine rx_b (rs_gI hR 81 _ rfl) ?_
  obtain ⟨s1, q2, hh⟩ := db hh
  obtain ⟨h3, e4, hR, f5⟩ := rs_pI_ok (rs_m81 _ _) (by decide) hR q2
  refine rx_w e4 f5 ?_
  exact r388_697 hD _ _ _ _ _ hR hh
def s388_556 (E : rE) (w : Nat) (s0 : Int32) (s2 : Int32) (s : rS) : Option rA :=
  ((E 401 [.ref 36, .int s0] s).bind rxI).bind fun x1 =>
  (rs_sI x1.2 99 s2 x1.1).bind fun s6 =>
  rrI (some .int) 0 s6
theorem r388_556 {L : Nat} {xs : Nat → Int32} {zf : Value} {D : dD} {E : rE} {w : Nat} (hD : rO D E L xs) : ∀ (s0 : Int32) (s2 : Int32) (h : rm_H) (s : rS) (r : rA), RS h s → s388_556 E w s0 s2 s = some r → rx (b388_556 L xs zf D w s0 (some 36) s2 (some 99) h) h r := by
  intro s0 s2 h s r hR hh
  unfold s388_556 at hh
  unfold b388_556
  obtain ⟨x1, q2, hh⟩ := db hh
  obtain ⟨h3, e4, hR, f5⟩ := rs_vI hD hR q2
  refine rx_c e4 f5 ?_
  obtain ⟨s6, q7, hh⟩ := db hh
  obtain ⟨h8, e9, hR, f10⟩ := rs_sI_ok hR q7
  refine rx_w e9 f10 ?_
  exact rx_I hR hh
def s388_530 (E : rE) (w : Nat) (i2 : Int32) (i3 : Int32) (i5 : Int32) (s : rS) : Option rA :=
  if mx_f1 .eq i5 = true then
    (rs_aI s 47 i3).bind fun x2 =>
    s388_556 E w x2 i2 s
  else
    (rs_aI s 46 i3).bind fun x4 =>
    s388_556 E w x4 i2 s
theorem r388_530 {L : Nat} {xs : Nat → Int32} {zf : Value} {D : dD} {E : rE} {w : Nat} (hD : rO D E L xs) : ∀ (i2 : Int32) (i3 : Int32) (i5 : Int32) (h : rm_H) (s : rS) (r : rA), RS h s → s388_530 E w i2 i3 i5 s = some r → rx (b388_530 L xs zf D w (some 36) i2 i3 i5 h) h r := by
  intro i2 i3 i5 h s r hR hh
  unfold s388_530 at hh
  unfold b388_530
  refine rx_b (rs_gR hR 98 99 rfl) ?_
  rcases di hh with ⟨q1, hh⟩ | ⟨q1, hh⟩
  · refine rx_t q1 ?_
    refine rx_b (rs_gR hR 14 47 rfl) ?_
    obtain ⟨x2, q3, hh⟩ := db hh
    refine rx_b (rs_aI_ok hR q3) ?_
    exact r388_556 hD _ _ _ _ _ hR hh
  · refine rx_f q1 ?_
    refine rx_b (rs_gR hR 13 46 rfl) ?_
    obtain ⟨x4, q5, hh⟩ := db hh
    refine rx_b (rs_aI_ok hR q5) ?_
    exact r388_556 hD _ _ _ _ _ hR hh
def s388_514 (E : rE) (w : Nat) (i2 : Int32) (i3 : Int32) (i4 : Int32) (s0 : Int32) (s : rS) : Option rA :=
  if mx_f1 .ne s0 = true then
    s388_530 E w i2 i3 s0 s
  else
    (rs_aI s 47 i3).bind fun x2 =>
    if mx_f1 .eq x2 = true then
      s388_697 E w i2 i4 s
    else
      s388_530 E w i2 i3 s0 s
theorem r388_514 {L : Nat} {xs : Nat → Int32} {zf : Value} {D : dD} {E : rE} {w : Nat} (hD : rO D E L xs) : ∀ (i2 : Int32) (i3 : Int32) (i4 : Int32) (s0 : Int32) (h : rm_H) (s : rS) (r : rA), RS h s → s388_514 E w i2 i3 i4 s0 s = some r → rx (b388_514 L xs zf D w (some 36) i2 i3 i4 s0 h) h r := by
  intro i2 i3 i4 s0 h s r hR hh
  unfold s388_514 at hh
  unfold b388_514
  rcases di hh with ⟨q1, hh⟩ | ⟨q1, hh⟩
  · refine rx_t q1 ?_
    exact r388_530 hD _ _ _ _ _ _ hR hh
  · refine rx_f q1 ?_
    refine rx_b (rs_gR hR 14 47 rfl) ?_
    obtain ⟨x2, q3, hh⟩ := db hh
    refine rx_b (rs_aI_ok hR q3) ?_
    rcases di hh with ⟨q4, hh⟩ | ⟨q4, hh⟩
    · refine rx_t q4 ?_
      exact r388_697 hD _ _ _ _ _ hR hh
    · refine rx_f q4 ?_
      exact r388_530 hD _ _ _ _ _ _ hR hh
def s388_638 (E : rE) (w : Nat) (s : rS) : Option rA :=
  rrI (some .int) 0 s
theorem r388_638 {L : Nat} {xs : Nat → Int32} {zf : Value} {D : dD} {E : rE} {w : Nat} (hD : rO D E L xs) : ∀ (h : rm_H) (s : rS) (r : rA), RS h s → s388_638 E w s = some r → rx (b388_638 L xs zf D w h) h r := by
  intro h s r hR hh
  unfold s388_638 at hh
  unfold b388_638
  exact rx_I hR hh
def s388_688 (E : rE) (w : Nat) (s : rS) : Option rA :=
  rrI (some .int) 0 s
theorem r388_688 {L : Nat} {xs : Nat → Int32} {zf : Value} {D : dD} {E : rE} {w : Nat} (hD : rO D E L xs) : ∀ (h : rm_H) (s : rS) (r : rA), RS h s → s388_688 E w s = some r → rx (b388_688 L xs zf D w h) h r := by
  intro h s r hR hh
  unfold s388_688 at hh
  unfold b388_688
  exact rx_I hR hh
def s388_685 (E : rE) (w : Nat) (s0 : Int64) (s1 : Int32) (s : rS) : Option rA :=
  ((E 389 [.ref 36, .int s1, .long s0] s).bind rxV).bind fun s1 =>
  s388_688 E w s1
theorem r388_685 {L : Nat} {xs : Nat → Int32} {zf : Value} {D : dD} {E : rE} {w : Nat} (hD : rO D E L xs) : ∀ (s0 : Int64) (s1 : Int32) (h : rm_H) (s : rS) (r : rA), RS h s → s388_685 E w s0 s1 s = some r → rx (b388_685 L xs zf D w s0 s1 (some 36) h) h r := by
  intro s0 s1 h s r hR hh
  unfold s388_685 at hh
  unfold b388_685
  obtain ⟨s1, q2, hh⟩ := db hh
  obtain ⟨h3, e4, hR, f5⟩ := rs_vV hD hR q2
  refine rx_w e4 f5 ?_
  exact r388_688 hD  _ _ _ hR hh
def s388_0 (E : rE) (w : Nat) (i1 : Int32) (i2 : Int32) (i3 : Int32) (s : rS) : Option rA :=
  (rs_aI s 44 i3).bind fun x1 =>
  if dsw 1 31 x1 = true then
    ((E 390 [.ref 36, .int i1] s).bind rxJ).bind fun y4 =>
    s388_697 E w i2 i3 y4.2
  else if x1 = 1 then
    (rs_aI s 54 i3).bind fun x10 =>
    ((E 376 [.int 1, .int x10] s).bind rxJ).bind fun y12 =>
    ((E 389 [.ref 36, .int i1, .long y12.1] y12.2).bind rxV).bind fun s17 =>
    s388_697 E w i2 i3 s17
  else if x1 = 2 then
    ((E 389 [.ref 36, .int i1, .long 0] s).bind rxV).bind fun s23 =>
    s388_697 E w i2 i3 s23
  else if x1 = 3 then
    (rs_aJ s 100 i2).bind fun y29 =>
    ((E 389 [.ref 36, .int i1, .long y29] s).bind rxV).bind fun s31 =>
    s388_697 E w i2 i3 s31
  else if x1 = 4 then
    (rs_aI s 53 i3).bind fun x37 =>
    (rs_aJ s 101 ((16 * i2) + x37)).bind fun y39 =>
    ((E 389 [.ref 36, .int i1, .long y39] s).bind rxV).bind fun s41 =>
    s388_697 E w i2 i3 s41
  else if x1 = 5 then
    (rs_aI s 53 i3).bind fun x47 =>
    (rs_aJ s 101 ((16 * i2) + x47)).bind fun y49 =>
    ((E 389 [.ref 36, .int i1, .long y49] s).bind rxV).bind fun s51 =>
    s388_697 E w i2 i3 s51
  else if x1 = 6 then
    ((E 390 [.ref 36, .int i1] s).bind rxJ).bind fun y57 =>
    if mx_f1 .ne (lg_cmp y57.1 0) = true then
      s388_231 E w i2 i3 1 1 i1 y57.2
    else
      s388_231 E w i2 i3 0 1 i1 y57.2
  else if x1 = 7 then
    ((E 400 [.ref 36, .int i1, .int i2, .int i3] s).bind rxI).bind fun x64 =>
    rrI (some .int) x64.1 x64.2
  else if x1 = 8 then
    ((E 397 [.ref 36, .int i1, .int i2, .int i3] s).bind rxI).bind fun x70 =>
    rrI (some .int) x70.1 x70.2
  else if x1 = 9 then
    ((E 390 [.ref 36, .int i1] s).bind rxJ).bind fun y76 =>
    s388_697 E w i2 i3 y76.2
  else if x1 = 10 then
    ((E 390 [.ref 36, .int i1] s).bind rxJ).bind fun y82 =>
    if mx_f1 .ne (lg_cmp y82.1 0) = true then
      (rs_aI y82.2 53 i3).bind fun x88 =>
      ((E 391 [.ref 36, .int i1, .long y82.1, .int x88] y82.2).bind rxJ).bind fun y90 =>
      ((E 389 [.ref 36, .int i1, .long y90.1] y90.2).bind rxV).bind fun s95 =>
      s388_697 E w i2 i3 s95
    else
      rrI (some .int) 1 y82.2
  else if x1 = 11 then
    ((E 392 [.ref 36, .int i1, .int i2, .int i3] s).bind rxI).bind fun x101 =>
    rrI (some .int) x101.1 x101.2
  else if x1 = 12 then
    ((E 399 [.ref 36, .int i1, .int i2, .int i3] s).bind rxI).bind fun x107 =>
    rrI (some .int) x107.1 x107.2
  else if x1 = 13 then
    ((E 390 [.ref 36, .int i1] s).bind rxJ).bind fun y113 =>
    ((E 390 [.ref 36, .int i1] y113.2).bind rxJ).bind fun y118 =>
    (rs_aI y118.2 54 i3).bind fun x123 =>
    if mx_f2 .ne x123 43 = true then
      if mx_f2 .ne x123 45 = true then
        if mx_f2 .ne x123 42 = true then
          if mx_f2 .ne x123 60 = true then
            if mx_f2 .ne (Int64.toInt32 y118.1) (Int64.toInt32 y113.1) = true then
              s388_383 E w i2 i3 0 1 i1 y118.2
            else
              s388_383 E w i2 i3 1 1 i1 y118.2
          else
            if mx_f2 .ge (Int64.toInt32 y118.1) (Int64.toInt32 y113.1) = true then
              s388_383 E w i2 i3 0 1 i1 y118.2
            else
              s388_383 E w i2 i3 1 1 i1 y118.2
        else
          s388_383 E w i2 i3 ((Int64.toInt32 y118.1) * (Int64.toInt32 y113.1)) 1 i1 y118.2
      else
        s388_383 E w i2 i3 ((Int64.toInt32 y118.1) - (Int64.toInt32 y113.1)) 1 i1 y118.2
    else
      s388_383 E w i2 i3 ((Int64.toInt32 y118.1) + (Int64.toInt32 y113.1)) 1 i1 y118.2
  else if x1 = 14 then
    ((E 390 [.ref 36, .int i1] s).bind rxJ).bind fun y132 =>
    s388_697 E w i2 i3 y132.2
  else if x1 = 15 then
    ((E 390 [.ref 36, .int i1] s).bind rxJ).bind fun y138 =>
    s388_697 E w i2 i3 y138.2
  else if x1 = 16 then
    ((E 390 [.ref 36, .int i1] s).bind rxJ).bind fun y144 =>
    s388_697 E w i2 i3 y144.2
  else if x1 = 17 then
    ((E 390 [.ref 36, .int i1] s).bind rxJ).bind fun y150 =>
    s388_697 E w i2 i3 y150.2
  else if x1 = 18 then
    ((E 390 [.ref 36, .int i1] s).bind rxJ).bind fun y156 =>
    s388_697 E w i2 i3 y156.2
  else if x1 = 19 then
    ((E 390 [.ref 36, .int i1] s).bind rxJ).bind fun y162 =>
    s388_697 E w i2 i3 y162.2
  else if x1 = 20 then
    (rs_aI s 53 i3).bind fun x168 =>
    ((E 390 [.ref 36, .int i1] s).bind rxJ).bind fun y170 =>
    (rs_sJ y170.2 101 ((16 * i2) + x168) y170.1).bind fun s175 =>
    s388_697 E w i2 i3 s175
  else if x1 = 21 then
    ((E 390 [.ref 36, .int i1] s).bind rxJ).bind fun y181 =>
    if mx_f1 .eq (Int64.toInt32 y181.1) = true then
      s388_514 E w i2 i3 i3 0 y181.2
    else
      s388_514 E w i2 i3 i3 1 y181.2
  else if x1 = 22 then
    ((E 390 [.ref 36, .int i1] s).bind rxJ).bind fun y188 =>
    if mx_f1 .eq (Int64.toInt32 y188.1) = true then
      s388_697 E w i2 i3 y188.2
    else
      (rs_aI y188.2 46 i3).bind fun x194 =>
      ((E 401 [.ref 36, .int x194] y188.2).bind rxI).bind fun x196 =>
      (rs_sI x196.2 99 i2 x196.1).bind fun s201 =>
      rrI (some .int) 0 s201
  else if x1 = 23 then
    ((E 390 [.ref 36, .int i1] s).bind rxJ).bind fun y207 =>
    if mx_f2 .ge (y207.2.1 81) 200 = true then
      s388_487 E w i2 i3 y207.2
    else
      (rs_sI y207.2 108 (y207.2.1 81) (Int64.toInt32 y207.1)).bind fun s213 =>
      (rs_sI s213 109 (s213.1 81) i1).bind fun s218 =>
      s388_487 E w i2 i3 s218
  else if x1 = 24 then
    ((E 390 [.ref 36, .int i1] s).bind rxJ).bind fun y224 =>
    (rs_aI y224.2 92 i1).bind fun x229 =>
    (rs_sI y224.2 92 i1 (x229 - 1)).bind fun s231 =>
    (rs_aI s231 92 i1).bind fun x236 =>
    if mx_f1 .le x236 = true then
      s388_638 E w s231
    else
      ((E 389 [.ref 36, .int i1, .long y224.1] s231).bind rxV).bind fun s239 =>
      s388_638 E w s239
  else if x1 = 25 then
    (rs_aI s 49 i3).bind fun x245 =>
    (rs_aI s 49 x245).bind fun x247 =>
    s388_697 E w i2 x247 s
  else if x1 = 26 then
    ((E 400 [.ref 36, .int i1, .int i2, .int i3] s).bind rxI).bind fun x250 =>
    rrI (some .int) x250.1 x250.2
  else if x1 = 27 then
    ((E 390 [.ref 36, .int i1] s).bind rxJ).bind fun y256 =>
    s388_697 E w i2 i3 y256.2
  else if x1 = 28 then
    ((E 390 [.ref 36, .int i1] s).bind rxJ).bind fun y262 =>
    s388_697 E w i2 i3 y262.2
  else if x1 = 29 then
    ((E 390 [.ref 36, .int i1] s).bind rxJ).bind fun y268 =>
    s388_697 E w i2 i3 y268.2
  else if x1 = 30 then
    ((E 390 [.ref 36, .int i1] s).bind rxJ).bind fun y274 =>
    s388_697 E w i2 i3 y274.2
  else if x1 = 31 then
    (rs_aI s 92 i1).bind fun x280 =>
    (rs_sI s 92 i1 (x280 - 1)).bind fun s282 =>
    (rs_aI s282 92 i1).bind fun x287 =>
    if mx_f1 .le x287 = true then
      s388_688 E w s282
    else
      (rs_aI s282 54 i3).bind fun x290 =>
      (rs_aI s282 70 x290).bind fun x292 =>
      if mx_f1 .ne x292 = true then
        s388_685 E w 0 i1 s282
      else
        (rs_aJ s282 100 i2).bind fun y295 =>
        s388_685 E w y295 i1 s282
  else none
theorem r388_0 {L : Nat} {xs : Nat → Int32} {zf : Value} {D : dD} {E : rE} {w : Nat} (hD : rO D E L xs) : ∀ (i1 : Int32) (i2 : Int32) (i3 : Int32) (h : rm_H) (s : rS) (r : rA), RS h s → s388_0 E w i1 i2 i3 s = some r → rx (b388_0 L xs zf D w (some 36) i1 i2 i3 h) h r := by
  intro i1 i2 i3 h s r hR hh
  unfold s388_0 at hh
  unfold b388_0
  refine rx_b (rs_gR hR 11 44 rfl) ?_
  obtain ⟨x1, q2, hh⟩ := db hh
  refine rx_b (rs_aI_ok hR q2) ?_
  rcases di hh with ⟨q3, hh⟩ | ⟨q3, hh⟩
  · refine rx_t q3 ?_
    obtain ⟨y4, q5, hh⟩ := db hh
    obtain ⟨h6, e7, hR, f8⟩ := rs_vJ hD hR q5
    refine rx_c e7 f8 ?_
    exact r388_697 hD _ _ _ _ _ hR hh
  refine rx_f q3 ?_
  rcases dp hh with ⟨q9, hh⟩ | ⟨q9, hh⟩
  · refine rx_pt q9 ?_
    refine rx_b (rs_gR hR 21 54 rfl) ?_
    obtain ⟨x10, q11, hh⟩ := db hh
    refine rx_b (rs_aI_ok hR q11) ?_
    obtain ⟨y12, q13, hh⟩ := db hh
    obtain ⟨h14, e15, hR, f16⟩ := rs_cJ hD hR q13
    refine rx_c e15 f16 ?_
    obtain ⟨s17, q18, hh⟩ := db hh
    obtain ⟨h19, e20, hR, f21⟩ := rs_vV hD hR q18
    refine rx_w e20 f21 ?_
    exact r388_697 hD _ _ _ _ _ hR hh
  refine rx_pf q9 ?_
  rcases dp hh with ⟨q22, hh⟩ | ⟨q22, hh⟩
  · refine rx_pt q22 ?_
    obtain ⟨s23, q24, hh⟩ := db hh
    obtain ⟨h25, e26, hR, f27⟩ := rs_vV hD hR q24
    refine rx_w e26 f27 ?_
    exact r388_697 hD _ _ _ _ _ hR hh
  refine rx_pf q22 ?_
  rcases dp hh with ⟨q28, hh⟩ | ⟨q28, hh⟩
  · refine rx_pt q28 ?_
    refine rx_b (rs_gR hR 99 100 rfl) ?_
    obtain ⟨y29, q30, hh⟩ := db hh
    refine rx_b (rs_aJ_ok hR q30) ?_
    obtain ⟨s31, q32, hh⟩ := db hh
    obtain ⟨h33, e34, hR, f35⟩ := rs_vV hD hR q32
    refine rx_w e34 f35 ?_
    exact r388_697 hD _ _ _ _ _ hR hh
  refine rx_pf q28 ?_
  rcases dp hh with ⟨q36, hh⟩ | ⟨q36, hh⟩
  · refine rx_pt q36 ?_
    refine rx_b (rs_gR hR 100 101 rfl) ?_
    refine rx_b (rs_gR hR 20 53 rfl) ?_
    obtain ⟨x37, q38, hh⟩ := db hh
    refine rx_b (rs_aI_ok hR q38) ?_
    obtain ⟨y39, q40, hh⟩ := db hh
    refine rx_b (rs_aJ_ok hR q40) ?_
    obtain ⟨s41, q42, hh⟩ := db hh
    obtain ⟨h43, e44, hR, f45⟩ := rs_vV hD hR q42
    refine rx_w e44 f45 ?_
    exact r388_697 hD _ _ _ _ _ hR hh
  refine rx_pf q36 ?_
  rcases dp hh with ⟨q46, hh⟩ | ⟨q46, hh⟩
  · refine rx_pt q46 ?_
    refine rx_b (rs_gR hR 100 101 rfl) ?_
    refine rx_b (rs_gR hR 20 53 rfl) ?_
    obtain ⟨x47, q48, hh⟩ := db hh
    refine rx_b (rs_aI_ok hR q48) ?_
    obtain ⟨y49, q50, hh⟩ := db hh
    refine rx_b (rs_aJ_ok hR q50) ?_
    obtain ⟨s51, q52, hh⟩ := db hh
    obtain ⟨h53, e54, hR, f55⟩ := rs_vV hD hR q52
    refine rx_w e54 f55 ?_
    exact r388_697 hD _ _ _ _ _ hR hh
  refine rx_pf q46 ?_
  rcases dp hh with ⟨q56, hh⟩ | ⟨q56, hh⟩
  · refine rx_pt q56 ?_
    obtain ⟨y57, q58, hh⟩ := db hh
    obtain ⟨h59, e60, hR, f61⟩ := rs_vJ hD hR q58
    refine rx_c e60 f61 ?_
    rcases di hh with ⟨q62, hh⟩ | ⟨q62, hh⟩
    · refine rx_t q62 ?_
      exact r388_231 hD _ _ _ _ _ _ _ _ hR hh
    · refine rx_f q62 ?_
      exact r388_231 hD _ _ _ _ _ _ _ _ hR hh
  refine rx_pf q56 ?_
  rcases dp hh with ⟨q63, hh⟩ | ⟨q63, hh⟩
  · refine rx_pt q63 ?_
    obtain ⟨x64, q65, hh⟩ := db hh
    obtain ⟨h66, e67, hR, f68⟩ := rs_vI hD hR q65
    refine rx_c e67 f68 ?_
    exact rx_I hR hh
  refine rx_pf q63 ?_
  rcases dp hh with ⟨q69, hh⟩ | ⟨q69, hh⟩
  · refine rx_pt q69 ?_
    obtain ⟨x70, q71, hh⟩ := db hh
    obtain ⟨h72, e73, hR, f74⟩ := rs_vI hD hR q71
    refine rx_c e73 f74 ?_
    exact rx_I hR hh
  refine rx_pf q69 ?_
  rcases dp hh with ⟨q75, hh⟩ | ⟨q75, hh⟩
  · refine rx_pt q75 ?_
    obtain ⟨y76, q77, hh⟩ := db hh
    obtain ⟨h78, e79, hR, f80⟩ := rs_vJ hD hR q77
    refine rx_c e79 f80 ?_
    exact r388_697 hD _ _ _ _ _ hR hh
  refine rx_pf q75 ?_
  rcases dp hh with ⟨q81, hh⟩ | ⟨q81, hh⟩
  · refine rx_pt q81 ?_
    obtain ⟨y82, q83, hh⟩ := db hh
    obtain ⟨h84, e85, hR, f86⟩ := rs_vJ hD hR q83
    refine rx_c e85 f86 ?_
    rcases di hh with ⟨q87, hh⟩ | ⟨q87, hh⟩
    · refine rx_t q87 ?_
      refine rx_b (rs_gR hR 20 53 rfl) ?_
      obtain ⟨x88, q89, hh⟩ := db hh
      refine rx_b (rs_aI_ok hR q89) ?_
      obtain ⟨y90, q91, hh⟩ := db hh
      obtain ⟨h92, e93, hR, f94⟩ := rs_vJ hD hR q91
      refine rx_c e93 f94 ?_
      obtain ⟨s95, q96, hh⟩ := db hh
      obtain ⟨h97, e98, hR, f99⟩ := rs_vV hD hR q96
      refine rx_w e98 f99 ?_
      exact r388_697 hD _ _ _ _ _ hR hh
    · refine rx_f q87 ?_
      exact rx_I hR hh
  refine rx_pf q81 ?_
  rcases dp hh with ⟨q100, hh⟩ | ⟨q100, hh⟩
  · refine rx_pt q100 ?_
    obtain ⟨x101, q102, hh⟩ := db hh
    obtain ⟨h103, e104, hR, f105⟩ := rs_vI hD hR q102
    refine rx_c e104 f105 ?_
    exact rx_I hR hh
  refine rx_pf q100 ?_
  rcases dp hh with ⟨q106, hh⟩ | ⟨q106, hh⟩
  · refine rx_pt q106 ?_
    obtain ⟨x107, q108, hh⟩ := db hh
    obtain ⟨h109, e110, hR, f111⟩ := rs_vI hD hR q108
    refine rx_c e110 f111 ?_
    exact rx_I hR hh
  refine rx_pf q106 ?_
  rcases dp hh with ⟨q112, hh⟩ | ⟨q112, hh⟩
  · refine rx_pt q112 ?_
    obtain ⟨y113, q114, hh⟩ := db hh
    obtain ⟨h115, e116, hR, f117⟩ := rs_vJ hD hR q114
    refine rx_c e116 f117 ?_
    obtain ⟨y118, q119, hh⟩ := db hh
    obtain ⟨h120, e121, hR, f122⟩ := rs_vJ hD hR q119
    refine rx_c e121 f122 ?_
    refine rx_b (rs_gR hR 21 54 rfl) ?_
    obtain ⟨x123, q124, hh⟩ := db hh
    refine rx_b (rs_aI_ok hR q124) ?_
    rcases di hh with ⟨q125, hh⟩ | ⟨q125, hh⟩
    · refine rx_t q125 ?_
      rcases di hh with ⟨q126, hh⟩ | ⟨q126, hh⟩
      · refine rx_t q126 ?_
        rcases di hh with ⟨q127, hh⟩ | ⟨q127, hh⟩
        · refine rx_t q127 ?_
          rcases di hh with ⟨q128, hh⟩ | ⟨q128, hh⟩
          · refine rx_t q128 ?_
            rcases di hh with ⟨q129, hh⟩ | ⟨q129, hh⟩
            · refine rx_t q129 ?_
              exact r388_383 hD _ _ _ _ _ _ _ _ hR hh
            · refine rx_f q129 ?_
              exact r388_383 hD _ _ _ _ _ _ _ _ hR hh
          · refine rx_f q128 ?_
            rcases di hh with ⟨q130, hh⟩ | ⟨q130, hh⟩
            · refine rx_t q130 ?_
              exact r388_383 hD _ _ _ _ _ _ _ _ hR hh
            · refine rx_f q130 ?_
              exact r388_383 hD _ _ _ _ _ _ _ _ hR hh
        · refine rx_f q127 ?_
          exact r388_383 hD _ _ _ _ _ _ _ _ hR hh
      · refine rx_f q126 ?_
        exact r388_383 hD _ _ _ _ _ _ _ _ hR hh
    · refine rx_f q125 ?_
      exact r388_383 hD _ _ _ _ _ _ _ _ hR hh
  refine rx_pf q112 ?_
  rcases dp hh with ⟨q131, hh⟩ | ⟨q131, hh⟩
  · refine rx_pt q131 ?_
    obtain ⟨y132, q133, hh⟩ := db hh
    obtain ⟨h134, e135, hR, f136⟩ := rs_vJ hD hR q133
    refine rx_c e135 f136 ?_
    exact r388_697 hD _ _ _ _ _ hR hh
  refine rx_pf q131 ?_
  rcases dp hh with ⟨q137, hh⟩ | ⟨q137, hh⟩
  · refine rx_pt q137 ?_
    obtain ⟨y138, q139, hh⟩ := db hh
    obtain ⟨h140, e141, hR, f142⟩ := rs_vJ hD hR q139
    refine rx_c e141 f142 ?_
    exact r388_697 hD _ _ _ _ _ hR hh
  refine rx_pf q137 ?_
  rcases dp hh with ⟨q143, hh⟩ | ⟨q143, hh⟩
  · refine rx_pt q143 ?_
    obtain ⟨y144, q145, hh⟩ := db hh
    obtain ⟨h146, e147, hR, f148⟩ := rs_vJ hD hR q145
    refine rx_c e147 f148 ?_
    exact r388_697 hD _ _ _ _ _ hR hh
  refine rx_pf q143 ?_
  rcases dp hh with ⟨q149, hh⟩ | ⟨q149, hh⟩
  · refine rx_pt q149 ?_
    obtain ⟨y150, q151, hh⟩ := db hh
    obtain ⟨h152, e153, hR, f154⟩ := rs_vJ hD hR q151
    refine rx_c e153 f154 ?_
    exact r388_697 hD _ _ _ _ _ hR hh
  refine rx_pf q149 ?_
  rcases dp hh with ⟨q155, hh⟩ | ⟨q155, hh⟩
  · refine rx_pt q155 ?_
    obtain ⟨y156, q157, hh⟩ := db hh
    obtain ⟨h158, e159, hR, f160⟩ := rs_vJ hD hR q157
    refine rx_c e159 f160 ?_
    exact r388_697 hD _ _ _ _ _ hR hh
  refine rx_pf q155 ?_
  rcases dp hh with ⟨q161, hh⟩ | ⟨q161, hh⟩
  · refine rx_pt q161 ?_
    obtain ⟨y162, q163, hh⟩ := db hh
    obtain ⟨h164, e165, hR, f166⟩ := rs_vJ hD hR q163
    refine rx_c e165 f166 ?_
    exact r388_697 hD _ _ _ _ _ hR hh
  refine rx_pf q161 ?_
  rcases dp hh with ⟨q167, hh⟩ | ⟨q167, hh⟩
  · refine rx_pt q167 ?_
    refine rx_b (rs_gR hR 100 101 rfl) ?_
    refine rx_b (rs_gR hR 20 53 rfl) ?_
    obtain ⟨x168, q169, hh⟩ := db hh
    refine rx_b (rs_aI_ok hR q169) ?_
    obtain ⟨y170, q171, hh⟩ := db hh
    obtain ⟨h172, e173, hR, f174⟩ := rs_vJ hD hR q171
    refine rx_c e173 f174 ?_
    obtain ⟨s175, q176, hh⟩ := db hh
    obtain ⟨h177, e178, hR, f179⟩ := rs_sJ_ok hR q176
    refine rx_w e178 f179 ?_
    exact r388_697 hD _ _ _ _ _ hR hh
  refine rx_pf q167 ?_
  rcases dp hh with ⟨q180, hh⟩ | ⟨q180, hh⟩
  · refine rx_pt q180 ?_
    obtain ⟨y181, q182, hh⟩ := db hh
    obtain ⟨h183, e184, hR, f185⟩ := rs_vJ hD hR q182
    refine rx_c e184 f185 ?_
    rcases di hh with ⟨q186, hh⟩ | ⟨q186, hh⟩
    · refine rx_t q186 ?_
      exact r388_514 hD _ _ _ _ _ _ _ hR hh
    · refine rx_f q186 ?_
      exact r388_514 hD _ _ _ _ _ _ _ hR hh
  refine rx_pf q180 ?_
  rcases dp hh with ⟨q187, hh⟩ | ⟨q187, hh⟩
  · refine rx_pt q187 ?_
    obtain ⟨y188, q189, hh⟩ := db hh
    obtain ⟨h190, e191, hR, f192⟩ := rs_vJ hD hR q189
    refine rx_c e191 f192 ?_
    rcases di hh with ⟨q193, hh⟩ | ⟨q193, hh⟩
    · refine rx_t q193 ?_
      exact r388_697 hD _ _ _ _ _ hR hh
    · refine rx_f q193 ?_
      refine rx_b (rs_gR hR 98 99 rfl) ?_
      refine rx_b (rs_gR hR 13 46 rfl) ?_
      obtain ⟨x194, q195, hh⟩ := db hh
      refine rx_b (rs_aI_ok hR q195) ?_
      obtain ⟨x196, q197, hh⟩ := db hh
      obtain ⟨h198, e199, hR, f200⟩ := rs_vI hD hR q197
      refine rx_c e199 f200 ?_
      obtain ⟨s201, q202, hh⟩ := db hh
      obtain ⟨h203, e204, hR, f205⟩ := rs_sI_ok hR q202
      refine rx_w e204 f205 ?_
      exact rx_I hR hh
  refine rx_pf q187 ?_
  rcases dp hh with ⟨q206, hh⟩ | ⟨q206, hh⟩
  · refine rx_pt q206 ?_
    obtain ⟨y207, q208, hh⟩ := db hh
    obtain ⟨h209, e210, hR, f211⟩ := rs_vJ hD hR q208
    refine rx_c e210 f211 ?_
    refine rx_b (rs_gI hR 81 _ rfl) ?_
    rcases di hh with ⟨q212, hh⟩ | ⟨q212, hh⟩
    · refine rx_t q212 ?_
      exact r388_487 hD _ _ _ _ _ hR hh
    · refine rx_f q212 ?_
      refine rx_b (rs_gR hR 107 108 rfl) ?_
      refine rx_b (rs_gI hR 81 _ rfl) ?_
      obtain ⟨s213, q214, hh⟩ := db hh
      obtain ⟨h215, e216, hR, f217⟩ := rs_sI_ok hR q214
      refine rx_w e216 f217 ?_
      refine rx_b (rs_gR hR 108 109 rfl) ?_
      refine rx_b (rs_gI hR 81 _ rfl) ?_
      obtain ⟨s218, q219, hh⟩ := db hh
      obtain ⟨h220, e221, hR, f222⟩ := rs_sI_ok hR q219
      refine rx_w e221 f222 ?_
      exact r388_487 hD _ _ _ _ _ hR hh
  refine rx_pf q206 ?_
  rcases dp hh with ⟨q223, hh⟩ | ⟨q223, hh⟩
  · refine rx_pt q223 ?_
    obtain ⟨y224, q225, hh⟩ := db hh
    obtain ⟨h226, e227, hR, f228⟩ := rs_vJ hD hR q225
    refine rx_c e227 f228 ?_
    refine rx_b (rs_gR hR 91 92 rfl) ?_
    obtain ⟨x229, q230, hh⟩ := db hh
    refine rx_b (rs_aI_ok hR q230) ?_
    obtain ⟨s231, q232, hh⟩ := db hh
    obtain ⟨h233, e234, hR, f235⟩ := rs_sI_ok hR q232
    refine rx_w e234 f235 ?_
    refine rx_b (rs_gR hR 91 92 rfl) ?_
    obtain ⟨x236, q237, hh⟩ := db hh
    refine rx_b (rs_aI_ok hR q237) ?_
    rcases di hh with ⟨q238, hh⟩ | ⟨q238, hh⟩
    · refine rx_t q238 ?_
      exact r388_638 hD  _ _ _ hR hh
    · refine rx_f q238 ?_
      obtain ⟨s239, q240, hh⟩ := db hh
      obtain ⟨h241, e242, hR, f243⟩ := rs_vV hD hR q240
      refine rx_w e242 f243 ?_
      exact r388_638 hD  _ _ _ hR hh
  refine rx_pf q223 ?_
  rcases dp hh with ⟨q244, hh⟩ | ⟨q244, hh⟩
  · refine rx_pt q244 ?_
    refine rx_b (rs_gR hR 16 49 rfl) ?_
    refine rx_b (rs_gR hR 16 49 rfl) ?_
    obtain ⟨x245, q246, hh⟩ := db hh
    refine rx_b (rs_aI_ok hR q246) ?_
    obtain ⟨x247, q248, hh⟩ := db hh
    refine rx_b (rs_aI_ok hR q248) ?_
    exact r388_697 hD _ _ _ _ _ hR hh
  refine rx_pf q244 ?_
  rcases dp hh with ⟨q249, hh⟩ | ⟨q249, hh⟩
  · refine rx_pt q249 ?_
    obtain ⟨x250, q251, hh⟩ := db hh
    obtain ⟨h252, e253, hR, f254⟩ := rs_vI hD hR q251
    refine rx_c e253 f254 ?_
    exact rx_I hR hh
  refine rx_pf q249 ?_
  rcases dp hh with ⟨q255, hh⟩ | ⟨q255, hh⟩
  · refine rx_pt q255 ?_
    obtain ⟨y256, q257, hh⟩ := db hh
    obtain ⟨h258, e259, hR, f260⟩ := rs_vJ hD hR q257
    refine rx_c e259 f260 ?_
    exact r388_697 hD _ _ _ _ _ hR hh
  refine rx_pf q255 ?_
  rcases dp hh with ⟨q261, hh⟩ | ⟨q261, hh⟩
  · refine rx_pt q261 ?_
    obtain ⟨y262, q263, hh⟩ := db hh
    obtain ⟨h264, e265, hR, f266⟩ := rs_vJ hD hR q263
    refine rx_c e265 f266 ?_
    exact r388_697 hD _ _ _ _ _ hR hh
  refine rx_pf q261 ?_
  rcases dp hh with ⟨q267, hh⟩ | ⟨q267, hh⟩
  · refine rx_pt q267 ?_
    obtain ⟨y268, q269, hh⟩ := db hh
    obtain ⟨h270, e271, hR, f272⟩ := rs_vJ hD hR q269
    refine rx_c e271 f272 ?_
    exact r388_697 hD _ _ _ _ _ hR hh
  refine rx_pf q267 ?_
  rcases dp hh with ⟨q273, hh⟩ | ⟨q273, hh⟩
  · refine rx_pt q273 ?_
    obtain ⟨y274, q275, hh⟩ := db hh
    obtain ⟨h276, e277, hR, f278⟩ := rs_vJ hD hR q275
    refine rx_c e277 f278 ?_
    exact r388_697 hD _ _ _ _ _ hR hh
  refine rx_pf q273 ?_
  rcases dp hh with ⟨q279, hh⟩ | ⟨q279, hh⟩
  · refine rx_pt q279 ?_
    refine rx_b (rs_gR hR 91 92 rfl) ?_
    obtain ⟨x280, q281, hh⟩ := db hh
    refine rx_b (rs_aI_ok hR q281) ?_
    obtain ⟨s282, q283, hh⟩ := db hh
    obtain ⟨h284, e285, hR, f286⟩ := rs_sI_ok hR q283
    refine rx_w e285 f286 ?_
    refine rx_b (rs_gR hR 91 92 rfl) ?_
    obtain ⟨x287, q288, hh⟩ := db hh
    refine rx_b (rs_aI_ok hR q288) ?_
    rcases di hh with ⟨q289, hh⟩ | ⟨q289, hh⟩
    · refine rx_t q289 ?_
      exact r388_688 hD  _ _ _ hR hh
    · refine rx_f q289 ?_
      refine rx_b (rs_gR hR 43 70 rfl) ?_
      refine rx_b (rs_gR hR 21 54 rfl) ?_
      obtain ⟨x290, q291, hh⟩ := db hh
      refine rx_b (rs_aI_ok hR q291) ?_
      obtain ⟨x292, q293, hh⟩ := db hh
      refine rx_b (rs_aI_ok hR q293) ?_
      rcases di hh with ⟨q294, hh⟩ | ⟨q294, hh⟩
      · refine rx_t q294 ?_
        exact r388_685 hD _ _ _ _ _ hR hh
      · refine rx_f q294 ?_
        refine rx_b (rs_gR hR 99 100 rfl) ?_
        obtain ⟨y295, q296, hh⟩ := db hh
        refine rx_b (rs_aJ_ok hR q296) ?_
        exact r388_685 hD _ _ _ _ _ hR hh
  refine rx_pf q279 ?_
  cases hh
def g388 (E : rE) (w : Nat) (As : List Value) (s : rS) : Option rA := match As with
  | [.ref 36, .int i1, .int i2, .int i3] => s388_0 E w i1 i2 i3 s
  | _ => none
theorem t388 {L : Nat} {xs : Nat → Int32} {zf : Value} {D : dD} {E : rE} {w : Nat} (hD : rO D E L xs) (As : List Value) (h : rm_H) (s : rS) (r : rA) (hR : RS h s) (hh : g388 E w As s = some r) : rx (f388 L xs zf D w As h) h r := by
  unfold g388 at hh
  split at hh
  · unfold f388
    dsimp only
    refine rx_b (a := some 36) rfl ?_
    exact r388_0 hD _ _ _ _ _ _ hR hh
  · cases hh
def s389_0 (E : rE) (w : Nat) (i1 : Int32) (j2 : Int64) (s : rS) : Option rA :=
  (rs_aI s 93 i1).bind fun x1 =>
  (rs_sJ s 97 ((10100 * i1) + x1) j2).bind fun s3 =>
  (rs_aI s3 93 i1).bind fun x8 =>
  (rs_sI s3 93 i1 (x8 + 1)).bind fun s10 =>
  some (none, s10)
theorem r389_0 {L : Nat} {xs : Nat → Int32} {zf : Value} {D : dD} {E : rE} {w : Nat} (hD : rO D E L xs) : ∀ (i1 : Int32) (j2 : Int64) (h : rm_H) (s : rS) (r : rA), RS h s → s389_0 E w i1 j2 s = some r → rx (b389_0 L xs zf D w (some 36) i1 j2 h) h r := by
  intro i1 j2 h s r hR hh
  unfold s389_0 at hh
  unfold b389_0
  refine rx_b (rs_gR hR 96 97 rfl) ?_
  refine rx_b (rs_gR hR 92 93 rfl) ?_
  obtain ⟨x1, q2, hh⟩ := db hh
  refine rx_b (rs_aI_ok hR q2) ?_
  obtain ⟨s3, q4, hh⟩ := db hh
  obtain ⟨h5, e6, hR, f7⟩ := rs_sJ_ok hR q4
  refine rx_w e6 f7 ?_
  refine rx_b (rs_gR hR 92 93 rfl) ?_
  obtain ⟨x8, q9, hh⟩ := db hh
  refine rx_b (rs_aI_ok hR q9) ?_
  obtain ⟨s10, q11, hh⟩ := db hh
  obtain ⟨h12, e13, hR, f14⟩ := rs_sI_ok hR q11
  refine rx_w e13 f14 ?_
  cases hh
  exact rx_0 hR
def g389 (E : rE) (w : Nat) (As : List Value) (s : rS) : Option rA := match As with
  | [.ref 36, .int i1, .long j2] => s389_0 E w i1 j2 s
  | _ => none
theorem t389 {L : Nat} {xs : Nat → Int32} {zf : Value} {D : dD} {E : rE} {w : Nat} (hD : rO D E L xs) (As : List Value) (h : rm_H) (s : rS) (r : rA) (hR : RS h s) (hh : g389 E w As s = some r) : rx (f389 L xs zf D w As h) h r := by
  unfold g389 at hh
  split at hh
  · unfold f389
    dsimp only
    refine rx_b (a := some 36) rfl ?_
    exact r389_0 hD _ _ _ _ _ hR hh
  · cases hh
def s390_0 (E : rE) (w : Nat) (i1 : Int32) (s : rS) : Option rA :=
  (rs_aI s 93 i1).bind fun x1 =>
  (rs_sI s 93 i1 (x1 - 1)).bind fun s3 =>
  (rs_aI s3 93 i1).bind fun x8 =>
  (rs_aJ s3 97 ((10100 * i1) + x8)).bind fun y10 =>
  some (some (.long y10), s3)
theorem r390_0 {L : Nat} {xs : Nat → Int32} {zf : Value} {D : dD} {E : rE} {w : Nat} (hD : rO D E L xs) : ∀ (i1 : Int32) (h : rm_H) (s : rS) (r : rA), RS h s → s390_0 E w i1 s = some r → rx (b390_0 L xs zf D w (some 36) i1 h) h r := by
  intro i1 h s r hR hh
  unfold s390_0 at hh
  unfold b390_0
  refine rx_b (rs_gR hR 92 93 rfl) ?_
  obtain ⟨x1, q2, hh⟩ := db hh
  refine rx_b (rs_aI_ok hR q2) ?_
  obtain ⟨s3, q4, hh⟩ := db hh
  obtain ⟨h5, e6, hR, f7⟩ := rs_sI_ok hR q4
  refine rx_w e6 f7 ?_
  refine rx_b (rs_gR hR 96 97 rfl) ?_
  refine rx_b (rs_gR hR 92 93 rfl) ?_
  obtain ⟨x8, q9, hh⟩ := db hh
  refine rx_b (rs_aI_ok hR q9) ?_
  obtain ⟨y10, q11, hh⟩ := db hh
  refine rx_b (rs_aJ_ok hR q11) ?_
  cases hh
  exact rx_0 hR
def g390 (E : rE) (w : Nat) (As : List Value) (s : rS) : Option rA := match As with
  | [.ref 36, .int i1] => s390_0 E w i1 s
  | _ => none
theorem t390 {L : Nat} {xs : Nat → Int32} {zf : Value} {D : dD} {E : rE} {w : Nat} (hD : rO D E L xs) (As : List Value) (h : rm_H) (s : rS) (r : rA) (hR : RS h s) (hh : g390 E w As s = some r) : rx (f390 L xs zf D w As h) h r := by
  unfold g390 at hh
  split at hh
  · unfold f390
    dsimp only
    refine rx_b (a := some 36) rfl ?_
    exact r390_0 hD _ _ _ _ hR hh
  · cases hh
def s391_44 (E : rE) (w : Nat) (s0 : Int64) (s : rS) : Option rA :=
  some (some (.long s0), s)
theorem r391_44 {L : Nat} {xs : Nat → Int32} {zf : Value} {D : dD} {E : rE} {w : Nat} (hD : rO D E L xs) : ∀ (s0 : Int64) (h : rm_H) (s : rS) (r : rA), RS h s → s391_44 E w s0 s = some r → rx (b391_44 L xs zf D w s0 h) h r := by
  intro s0 h s r hR hh
  unfold s391_44 at hh
  unfold b391_44
  cases hh
  exact rx_0 hR
def s391_0 (E : rE) (w : Nat) (i1 : Int32) (j2 : Int64) (i4 : Int32) (s : rS) : Option rA :=
  ((E 379 [.long j2] s).bind rxI).bind fun x1 =>
  if mx_f2 .ne x1.1 3 = true then
    (rs_aI x1.2 88 (Int64.toInt32 j2)).bind fun x7 =>
    (rs_aJ x1.2 96 (((400 * i1) + x7) + i4)).bind fun y9 =>
    s391_44 E w y9 x1.2
  else
    (rs_aJ x1.2 95 ((8 * i1) + i4)).bind fun y11 =>
    s391_44 E w y11 x1.2
theorem r391_0 {L : Nat} {xs : Nat → Int32} {zf : Value} {D : dD} {E : rE} {w : Nat} (hD : rO D E L xs) : ∀ (i1 : Int32) (j2 : Int64) (i4 : Int32) (h : rm_H) (s : rS) (r : rA), RS h s → s391_0 E w i1 j2 i4 s = some r → rx (b391_0 L xs zf D w (some 36) i1 j2 i4 h) h r := by
  intro i1 j2 i4 h s r hR hh
  unfold s391_0 at hh
  unfold b391_0
  obtain ⟨x1, q2, hh⟩ := db hh
  obtain ⟨h3, e4, hR, f5⟩ := rs_cI hD hR q2
  refine rx_c e4 f5 ?_
  rcases di hh with ⟨q6, hh⟩ | ⟨q6, hh⟩
  · refine rx_t q6 ?_
    refine rx_b (rs_gR hR 95 96 rfl) ?_
    refine rx_b (rs_gR hR 86 88 rfl) ?_
    obtain ⟨x7, q8, hh⟩ := db hh
    refine rx_b (rs_aI_ok hR q8) ?_
    obtain ⟨y9, q10, hh⟩ := db hh
    refine rx_b (rs_aJ_ok hR q10) ?_
    exact r391_44 hD _ _ _ _ hR hh
  · refine rx_f q6 ?_
    refine rx_b (rs_gR hR 94 95 rfl) ?_
    obtain ⟨y11, q12, hh⟩ := db hh
    refine rx_b (rs_aJ_ok hR q12) ?_
    exact r391_44 hD _ _ _ _ hR hh
def g391 (E : rE) (w : Nat) (As : List Value) (s : rS) : Option rA := match As with
  | [.ref 36, .int i1, .long j2, .int i4] => s391_0 E w i1 j2 i4 s
  | _ => none
theorem t391 {L : Nat} {xs : Nat → Int32} {zf : Value} {D : dD} {E : rE} {w : Nat} (hD : rO D E L xs) (As : List Value) (h : rm_H) (s : rS) (r : rA) (hR : RS h s) (hh : g391 E w As s = some r) : rx (f391 L xs zf D w As h) h r := by
  unfold g391 at hh
  split at hh
  · unfold f391
    dsimp only
    refine rx_b (a := some 36) rfl ?_
    exact r391_0 hD _ _ _ _ _ _ hR hh
  · cases hh
def s392_0 (E : rE) (w : Nat) (i1 : Int32) (i2 : Int32) (i3 : Int32) (s : rS) : Option rA :=
  ((E 390 [.ref 36, .int i1] s).bind rxJ).bind fun y1 =>
  if mx_f1 .ne (lg_cmp y1.1 0) = true then
    (rs_aI y1.2 92 i1).bind fun x7 =>
    if mx_f2 .ne x7 10 = true then
      ((E 393 [.ref 36, .int i3] y1.2).bind rxI).bind fun x10 =>
      (rs_sI x10.2 99 i2 x10.1).bind fun s15 =>
      (rs_aI s15 53 i3).bind fun x20 =>
      ((E 396 [.ref 36, .int i1, .int x20, .long y1.1] s15).bind rxV).bind fun s22 =>
      rrI (some .int) 0 s22
    else
      rrI (some .int) 3 y1.2
  else
    rrI (some .int) 1 y1.2
theorem r392_0 {L : Nat} {xs : Nat → Int32} {zf : Value} {D : dD} {E : rE} {w : Nat} (hD : rO D E L xs) : ∀ (i1 : Int32) (i2 : Int32) (i3 : Int32) (h : rm_H) (s : rS) (r : rA), RS h s → s392_0 E w i1 i2 i3 s = some r → rx (b392_0 L xs zf D w (some 36) i1 i2 i3 h) h r := by
  intro i1 i2 i3 h s r hR hh
  unfold s392_0 at hh
  unfold b392_0
  obtain ⟨y1, q2, hh⟩ := db hh
  obtain ⟨h3, e4, hR, f5⟩ := rs_vJ hD hR q2
  refine rx_c e4 f5 ?_
  rcases di hh with ⟨q6, hh⟩ | ⟨q6, hh⟩
  · refine rx_t q6 ?_
    refine rx_b (rs_gR hR 91 92 rfl) ?_
    obtain ⟨x7, q8, hh⟩ := db hh
    refine rx_b (rs_aI_ok hR q8) ?_
    rcases di hh with ⟨q9, hh⟩ | ⟨q9, hh⟩
    · refine rx_t q9 ?_
      refine rx_b (rs_gR hR 98 99 rfl) ?_
      obtain ⟨x10, q11, hh⟩ := db hh
      obtain ⟨h12, e13, hR, f14⟩ := rs_vI hD hR q11
      refine rx_c e13 f14 ?_
      obtain ⟨s15, q16, hh⟩ := db hh
      obtain ⟨h17, e18, hR, f19⟩ := rs_sI_ok hR q16
      refine rx_w e18 f19 ?_
      refine rx_b (rs_gR hR 20 53 rfl) ?_
      obtain ⟨x20, q21, hh⟩ := db hh
      refine rx_b (rs_aI_ok hR q21) ?_
      obtain ⟨s22, q23, hh⟩ := db hh
      obtain ⟨h24, e25, hR, f26⟩ := rs_vV hD hR q23
      refine rx_w e25 f26 ?_
      exact rx_I hR hh
    · refine rx_f q9 ?_
      exact rx_I hR hh
  · refine rx_f q6 ?_
    exact rx_I hR hh
def g392 (E : rE) (w : Nat) (As : List Value) (s : rS) : Option rA := match As with
  | [.ref 36, .int i1, .int i2, .int i3] => s392_0 E w i1 i2 i3 s
  | _ => none
theorem t392 {L : Nat} {xs : Nat → Int32} {zf : Value} {D : dD} {E : rE} {w : Nat} (hD : rO D E L xs) (As : List Value) (h : rm_H) (s : rS) (r : rA) (hR : RS h s) (hh : g392 E w As s = some r) : rx (f392 L xs zf D w As h) h r := by
  unfold g392 at hh
  split at hh
  · unfold f392
    dsimp only
    refine rx_b (a := some 36) rfl ?_
    exact r392_0 hD _ _ _ _ _ _ hR hh
  · cases hh
def s393_159 (E : rE) (w : Nat) (s0 : Int32) (s : rS) : Option rA :=
  rrI (some .int) s0 s
theorem r393_159 {L : Nat} {xs : Nat → Int32} {zf : Value} {D : dD} {E : rE} {w : Nat} (hD : rO D E L xs) : ∀ (s0 : Int32) (h : rm_H) (s : rS) (r : rA), RS h s → s393_159 E w s0 s = some r → rx (b393_159 L xs zf D w s0 h) h r := by
  intro s0 h s r hR hh
  unfold s393_159 at hh
  unfold b393_159
  exact rx_I hR hh
def s393_125 (E : rE) (w : Nat) (i2 : Int32) (i3 : Int32) (s0 : Int32) (s : rS) : Option rA :=
  if mx_f2 .eq s0 i3 = true then
    ((E 395 [.ref 36, .int i3, .int i2] s).bind rxI).bind fun x2 =>
    if mx_f1 .ne x2.1 = true then
      ((E 386 [.ref 36, .int x2.1] x2.2).bind rxI).bind fun x8 =>
      s393_159 E w x8.1 x8.2
    else
      s393_159 E w i3 x2.2
  else
    rrI (some .int) s0 s
theorem r393_125 {L : Nat} {xs : Nat → Int32} {zf : Value} {D : dD} {E : rE} {w : Nat} (hD : rO D E L xs) : ∀ (i2 : Int32) (i3 : Int32) (s0 : Int32) (h : rm_H) (s : rS) (r : rA), RS h s → s393_125 E w i2 i3 s0 s = some r → rx (b393_125 L xs zf D w (some 36) i2 i3 s0 h) h r := by
  intro i2 i3 s0 h s r hR hh
  unfold s393_125 at hh
  unfold b393_125
  rcases di hh with ⟨q1, hh⟩ | ⟨q1, hh⟩
  · refine rx_t q1 ?_
    obtain ⟨x2, q3, hh⟩ := db hh
    obtain ⟨h4, e5, hR, f6⟩ := rs_vI hD hR q3
    refine rx_c e5 f6 ?_
    rcases di hh with ⟨q7, hh⟩ | ⟨q7, hh⟩
    · refine rx_t q7 ?_
      obtain ⟨x8, q9, hh⟩ := db hh
      obtain ⟨h10, e11, hR, f12⟩ := rs_vI hD hR q9
      refine rx_c e11 f12 ?_
      exact r393_159 hD _ _ _ _ hR hh
    · refine rx_f q7 ?_
      exact r393_159 hD _ _ _ _ hR hh
  · refine rx_f q1 ?_
    exact rx_I hR hh
def s393_124 (E : rE) (w : Nat) (i2 : Int32) (i3 : Int32) (s : rS) : Option rA :=
  s393_125 E w i2 i3 i3 s
theorem r393_124 {L : Nat} {xs : Nat → Int32} {zf : Value} {D : dD} {E : rE} {w : Nat} (hD : rO D E L xs) : ∀ (i2 : Int32) (i3 : Int32) (h : rm_H) (s : rS) (r : rA), RS h s → s393_124 E w i2 i3 s = some r → rx (b393_124 L xs zf D w (some 36) i2 i3 h) h r := by
  intro i2 i3 h s r hR hh
  unfold s393_124 at hh
  unfold b393_124
  exact r393_125 hD _ _ _ _ _ _ hR hh
def s393_160 (E : rE) (w : Nat) (K2 : Int32 → rS → Option rA) (i2 : Int32) (s : rS) : Option rA :=
  K2 i2 s
theorem r393_160 {L : Nat} {xs : Nat → Int32} {zf : Value} {D : dD} {E : rE} {w : Nat} {K2 : Int32 → rS → Option rA} {B2 : Option Nat → Int32 → rm_H → Option dR} (hD : rO D E L xs) (hK2 : ∀ (i2 : Int32) (h : rm_H) (s : rS) (r : rA), RS h s → K2 i2 s = some r → rx (B2 (some 36) i2 h) h r) : ∀ (i2 : Int32) (h : rm_H) (s : rS) (r : rA), RS h s → s393_160 E w K2 i2 s = some r → rx (b393_160 L xs zf D w B2 (some 36) i2 h) h r := by
  intro i2 h s r hR hh
  unfold s393_160 at hh
  unfold b393_160
  exact hK2 _ _ _ _ hR hh
def s393_2 (E : rE) (w : Nat) : Nat → Int32 → rS → Option rA
  | 0, _, _ => none
  | n + 1, i2, s =>
    (rs_aI s 49 i2).bind fun x1 =>
    (rs_aI s 44 i2).bind fun x3 =>
    if mx_f2 .ne x3 30 = true then
      (rs_aI s 44 x1).bind fun x6 =>
      if mx_f2 .ne x6 30 = true then
        (rs_aI s 44 x1).bind fun x9 =>
        if mx_f2 .ne x9 10 = true then
          s393_124 E w i2 x1 s
        else
          ((E 394 [.ref 36, .int x1] s).bind rxI).bind fun x12 =>
          if mx_f1 .eq x12.1 = true then
            s393_124 E w i2 x1 x12.2
          else
            (rs_aI x12.2 49 x1).bind fun x18 =>
            s393_125 E w i2 x1 x18 x12.2
      else
        (rs_aI s 48 i2).bind fun x20 =>
        if mx_f1 .eq x20 = true then
          s393_160 E w (s393_2 E w n) x1 s
        else
          (rs_aI s 48 i2).bind fun x23 =>
          ((E 386 [.ref 36, .int x23] s).bind rxI).bind fun x25 =>
          rrI (some .int) x25.1 x25.2
    else
      (rs_aI s 44 x1).bind fun x30 =>
      if mx_f2 .ne x30 31 = true then
        (rs_aI s 44 x1).bind fun x33 =>
        if mx_f2 .ne x33 22 = true then
          s393_160 E w (s393_2 E w n) x1 s
        else
          (rs_aI s 45 x1).bind fun x36 =>
          ((E 386 [.ref 36, .int x36] s).bind rxI).bind fun x38 =>
          rrI (some .int) x38.1 x38.2
      else
        rrI (some .int) x1 s
theorem r393_2 {L : Nat} {xs : Nat → Int32} {zf : Value} {D : dD} {E : rE} {w : Nat} (hD : rO D E L xs) : ∀ (n : Nat) (i2 : Int32) (h : rm_H) (s : rS) (r : rA), RS h s → s393_2 E w n i2 s = some r → rx (b393_2 L xs zf D w n (some 36) i2 h) h r := by
  intro n
  induction n with
  | zero =>
    intro i2 h s r hR hh
    cases hh
  | succ n ih =>
    intro i2 h s r hR hh
    rw [s393_2] at hh
    rw [b393_2]
    refine rx_b (rs_gR hR 16 49 rfl) ?_
    obtain ⟨x1, q2, hh⟩ := db hh
    refine rx_b (rs_aI_ok hR q2) ?_
    refine rx_b (rs_gR hR 11 44 rfl) ?_
    obtain ⟨x3, q4, hh⟩ := db hh
    refine rx_b (rs_aI_ok hR q4) ?_
    rcases di hh with ⟨q5, hh⟩ | ⟨q5, hh⟩
    · refine rx_t q5 ?_
      refine rx_b (rs_gR hR 11 44 rfl) ?_
      obtain ⟨x6, q7, hh⟩ := db hh
      refine rx_b (rs_aI_ok hR q7) ?_
      rcases di hh with ⟨q8, hh⟩ | ⟨q8, hh⟩
      · refine rx_t q8 ?_
        refine rx_b (rs_gR hR 11 44 rfl) ?_
        obtain ⟨x9, q10, hh⟩ := db hh
        refine rx_b (rs_aI_ok hR q10) ?_
        rcases di hh with ⟨q11, hh⟩ | ⟨q11, hh⟩
        · refine rx_t q11 ?_
          exact r393_124 hD _ _ _ _ _ hR hh
        · refine rx_f q11 ?_
          obtain ⟨x12, q13, hh⟩ := db hh
          obtain ⟨h14, e15, hR, f16⟩ := rs_vI hD hR q13
          refine rx_c e15 f16 ?_
          rcases di hh with ⟨q17, hh⟩ | ⟨q17, hh⟩
          · refine rx_t q17 ?_
            exact r393_124 hD _ _ _ _ _ hR hh
          · refine rx_f q17 ?_
            refine rx_b (rs_gR hR 16 49 rfl) ?_
            obtain ⟨x18, q19, hh⟩ := db hh
            refine rx_b (rs_aI_ok hR q19) ?_
            exact r393_125 hD _ _ _ _ _ _ hR hh
      · refine rx_f q8 ?_
        refine rx_b (rs_gR hR 15 48 rfl) ?_
        obtain ⟨x20, q21, hh⟩ := db hh
        refine rx_b (rs_aI_ok hR q21) ?_
        rcases di hh with ⟨q22, hh⟩ | ⟨q22, hh⟩
        · refine rx_t q22 ?_
          exact r393_160 hD ih _ _ _ _ hR hh
        · refine rx_f q22 ?_
          refine rx_b (rs_gR hR 15 48 rfl) ?_
          obtain ⟨x23, q24, hh⟩ := db hh
          refine rx_b (rs_aI_ok hR q24) ?_
          obtain ⟨x25, q26, hh⟩ := db hh
          obtain ⟨h27, e28, hR, f29⟩ := rs_vI hD hR q26
          refine rx_c e28 f29 ?_
          exact rx_I hR hh
    · refine rx_f q5 ?_
      refine rx_b (rs_gR hR 11 44 rfl) ?_
      obtain ⟨x30, q31, hh⟩ := db hh
      refine rx_b (rs_aI_ok hR q31) ?_
      rcases di hh with ⟨q32, hh⟩ | ⟨q32, hh⟩
      · refine rx_t q32 ?_
        refine rx_b (rs_gR hR 11 44 rfl) ?_
        obtain ⟨x33, q34, hh⟩ := db hh
        refine rx_b (rs_aI_ok hR q34) ?_
        rcases di hh with ⟨q35, hh⟩ | ⟨q35, hh⟩
        · refine rx_t q35 ?_
          exact r393_160 hD ih _ _ _ _ hR hh
        · refine rx_f q35 ?_
          refine rx_b (rs_gR hR 12 45 rfl) ?_
          obtain ⟨x36, q37, hh⟩ := db hh
          refine rx_b (rs_aI_ok hR q37) ?_
          obtain ⟨x38, q39, hh⟩ := db hh
          obtain ⟨h40, e41, hR, f42⟩ := rs_vI hD hR q39
          refine rx_c e41 f42 ?_
          exact rx_I hR hh
      · refine rx_f q32 ?_
        exact rx_I hR hh
def s393_0 (E : rE) (w : Nat) (i1 : Int32) (s : rS) : Option rA :=
  s393_2 E w w i1 s
theorem r393_0 {L : Nat} {xs : Nat → Int32} {zf : Value} {D : dD} {E : rE} {w : Nat} (hD : rO D E L xs) : ∀ (i1 : Int32) (h : rm_H) (s : rS) (r : rA), RS h s → s393_0 E w i1 s = some r → rx (b393_0 L xs zf D w (some 36) i1 h) h r := by
  intro i1 h s r hR hh
  unfold s393_0 at hh
  unfold b393_0
  exact r393_2 hD _ _ _ _ _ hR hh
def g393 (E : rE) (w : Nat) (As : List Value) (s : rS) : Option rA := match As with
  | [.ref 36, .int i1] => s393_0 E w i1 s
  | _ => none
theorem t393 {L : Nat} {xs : Nat → Int32} {zf : Value} {D : dD} {E : rE} {w : Nat} (hD : rO D E L xs) (As : List Value) (h : rm_H) (s : rS) (r : rA) (hR : RS h s) (hh : g393 E w As s = some r) : rx (f393 L xs zf D w As h) h r := by
  unfold g393 at hh
  split at hh
  · unfold f393
    dsimp only
    refine rx_b (a := some 36) rfl ?_
    exact r393_0 hD _ _ _ _ hR hh
  · cases hh
def s394_44 (E : rE) (w : Nat) (s0 : Int32) (s : rS) : Option rA :=
  rrI (some .boolean) s0 s
theorem r394_44 {L : Nat} {xs : Nat → Int32} {zf : Value} {D : dD} {E : rE} {w : Nat} (hD : rO D E L xs) : ∀ (s0 : Int32) (h : rm_H) (s : rS) (r : rA), RS h s → s394_44 E w s0 s = some r → rx (b394_44 L xs zf D w s0 h) h r := by
  intro s0 h s r hR hh
  unfold s394_44 at hh
  unfold b394_44
  exact rx_I hR hh
def s394_43 (E : rE) (w : Nat) (s : rS) : Option rA :=
  s394_44 E w 0 s
theorem r394_43 {L : Nat} {xs : Nat → Int32} {zf : Value} {D : dD} {E : rE} {w : Nat} (hD : rO D E L xs) : ∀ (h : rm_H) (s : rS) (r : rA), RS h s → s394_43 E w s = some r → rx (b394_43 L xs zf D w h) h r := by
  intro h s r hR hh
  unfold s394_43 at hh
  unfold b394_43
  exact r394_44 hD _ _ _ _ hR hh
def s394_29 (E : rE) (w : Nat) (i1 : Int32) (i2 : Int32) (s : rS) : Option rA :=
  (rs_aI s 45 i2).bind fun x1 =>
  if mx_f2 .ne x1 i1 = true then
    s394_43 E w s
  else
    s394_44 E w 1 s
theorem r394_29 {L : Nat} {xs : Nat → Int32} {zf : Value} {D : dD} {E : rE} {w : Nat} (hD : rO D E L xs) : ∀ (i1 : Int32) (i2 : Int32) (h : rm_H) (s : rS) (r : rA), RS h s → s394_29 E w i1 i2 s = some r → rx (b394_29 L xs zf D w (some 36) i1 i2 h) h r := by
  intro i1 i2 h s r hR hh
  unfold s394_29 at hh
  unfold b394_29
  refine rx_b (rs_gR hR 12 45 rfl) ?_
  obtain ⟨x1, q2, hh⟩ := db hh
  refine rx_b (rs_aI_ok hR q2) ?_
  rcases di hh with ⟨q3, hh⟩ | ⟨q3, hh⟩
  · refine rx_t q3 ?_
    exact r394_43 hD  _ _ _ hR hh
  · refine rx_f q3 ?_
    exact r394_44 hD _ _ _ _ hR hh
def s394_0 (E : rE) (w : Nat) (i1 : Int32) (s : rS) : Option rA :=
  (rs_aI s 49 i1).bind fun x1 =>
  (rs_aI s 44 x1).bind fun x3 =>
  if mx_f2 .eq x3 26 = true then
    s394_29 E w i1 x1 s
  else
    (rs_aI s 44 x1).bind fun x6 =>
    if mx_f2 .ne x6 7 = true then
      s394_43 E w s
    else
      s394_29 E w i1 x1 s
theorem r394_0 {L : Nat} {xs : Nat → Int32} {zf : Value} {D : dD} {E : rE} {w : Nat} (hD : rO D E L xs) : ∀ (i1 : Int32) (h : rm_H) (s : rS) (r : rA), RS h s → s394_0 E w i1 s = some r → rx (b394_0 L xs zf D w (some 36) i1 h) h r := by
  intro i1 h s r hR hh
  unfold s394_0 at hh
  unfold b394_0
  refine rx_b (rs_gR hR 16 49 rfl) ?_
  obtain ⟨x1, q2, hh⟩ := db hh
  refine rx_b (rs_aI_ok hR q2) ?_
  refine rx_b (rs_gR hR 11 44 rfl) ?_
  obtain ⟨x3, q4, hh⟩ := db hh
  refine rx_b (rs_aI_ok hR q4) ?_
  rcases di hh with ⟨q5, hh⟩ | ⟨q5, hh⟩
  · refine rx_t q5 ?_
    exact r394_29 hD _ _ _ _ _ hR hh
  · refine rx_f q5 ?_
    refine rx_b (rs_gR hR 11 44 rfl) ?_
    obtain ⟨x6, q7, hh⟩ := db hh
    refine rx_b (rs_aI_ok hR q7) ?_
    rcases di hh with ⟨q8, hh⟩ | ⟨q8, hh⟩
    · refine rx_t q8 ?_
      exact r394_43 hD  _ _ _ hR hh
    · refine rx_f q8 ?_
      exact r394_29 hD _ _ _ _ _ hR hh
def g394 (E : rE) (w : Nat) (As : List Value) (s : rS) : Option rA := match As with
  | [.ref 36, .int i1] => s394_0 E w i1 s
  | _ => none
theorem t394 {L : Nat} {xs : Nat → Int32} {zf : Value} {D : dD} {E : rE} {w : Nat} (hD : rO D E L xs) (As : List Value) (h : rm_H) (s : rS) (r : rA) (hR : RS h s) (hh : g394 E w As s = some r) : rx (f394 L xs zf D w As h) h r := by
  unfold g394 at hh
  split at hh
  · unfold f394
    dsimp only
    refine rx_b (a := some 36) rfl ?_
    exact r394_0 hD _ _ _ _ hR hh
  · cases hh
def s395_33 (E : rE) (w : Nat) (s0 : Int32) (s : rS) : Option rA :=
  rrI (some .int) s0 s
theorem r395_33 {L : Nat} {xs : Nat → Int32} {zf : Value} {D : dD} {E : rE} {w : Nat} (hD : rO D E L xs) : ∀ (s0 : Int32) (h : rm_H) (s : rS) (r : rA), RS h s → s395_33 E w s0 s = some r → rx (b395_33 L xs zf D w s0 h) h r := by
  intro s0 h s r hR hh
  unfold s395_33 at hh
  unfold b395_33
  exact rx_I hR hh
def s395_87 (E : rE) (w : Nat) (s0 : Int32) (s : rS) : Option rA :=
  rrI (some .int) s0 s
theorem r395_87 {L : Nat} {xs : Nat → Int32} {zf : Value} {D : dD} {E : rE} {w : Nat} (hD : rO D E L xs) : ∀ (s0 : Int32) (h : rm_H) (s : rS) (r : rA), RS h s → s395_87 E w s0 s = some r → rx (b395_87 L xs zf D w s0 h) h r := by
  intro s0 h s r hR hh
  unfold s395_87 at hh
  unfold b395_87
  exact rx_I hR hh
def s395_86 (E : rE) (w : Nat) (s : rS) : Option rA :=
  s395_87 E w 0 s
theorem r395_86 {L : Nat} {xs : Nat → Int32} {zf : Value} {D : dD} {E : rE} {w : Nat} (hD : rO D E L xs) : ∀ (h : rm_H) (s : rS) (r : rA), RS h s → s395_86 E w s = some r → rx (b395_86 L xs zf D w h) h r := by
  intro h s r hR hh
  unfold s395_86 at hh
  unfold b395_86
  exact r395_87 hD _ _ _ _ hR hh
def s395_46 (E : rE) (w : Nat) (i1 : Int32) (i2 : Int32) (s : rS) : Option rA :=
  (rs_aI s 46 i1).bind fun x1 =>
  if mx_f2 .ne i2 x1 = true then
    s395_86 E w s
  else
    (rs_aI s 45 i1).bind fun x4 =>
    (rs_aI s 44 x4).bind fun x6 =>
    if mx_f2 .ne x6 10 = true then
      s395_86 E w s
    else
      (rs_aI s 45 i1).bind fun x9 =>
      (rs_aI s 45 x9).bind fun x11 =>
      s395_87 E w x11 s
theorem r395_46 {L : Nat} {xs : Nat → Int32} {zf : Value} {D : dD} {E : rE} {w : Nat} (hD : rO D E L xs) : ∀ (i1 : Int32) (i2 : Int32) (h : rm_H) (s : rS) (r : rA), RS h s → s395_46 E w i1 i2 s = some r → rx (b395_46 L xs zf D w (some 36) i1 i2 h) h r := by
  intro i1 i2 h s r hR hh
  unfold s395_46 at hh
  unfold b395_46
  refine rx_b (rs_gR hR 13 46 rfl) ?_
  obtain ⟨x1, q2, hh⟩ := db hh
  refine rx_b (rs_aI_ok hR q2) ?_
  rcases di hh with ⟨q3, hh⟩ | ⟨q3, hh⟩
  · refine rx_t q3 ?_
    exact r395_86 hD  _ _ _ hR hh
  · refine rx_f q3 ?_
    refine rx_b (rs_gR hR 11 44 rfl) ?_
    refine rx_b (rs_gR hR 12 45 rfl) ?_
    obtain ⟨x4, q5, hh⟩ := db hh
    refine rx_b (rs_aI_ok hR q5) ?_
    obtain ⟨x6, q7, hh⟩ := db hh
    refine rx_b (rs_aI_ok hR q7) ?_
    rcases di hh with ⟨q8, hh⟩ | ⟨q8, hh⟩
    · refine rx_t q8 ?_
      exact r395_86 hD  _ _ _ hR hh
    · refine rx_f q8 ?_
      refine rx_b (rs_gR hR 12 45 rfl) ?_
      refine rx_b (rs_gR hR 12 45 rfl) ?_
      obtain ⟨x9, q10, hh⟩ := db hh
      refine rx_b (rs_aI_ok hR q10) ?_
      obtain ⟨x11, q12, hh⟩ := db hh
      refine rx_b (rs_aI_ok hR q12) ?_
      exact r395_87 hD _ _ _ _ hR hh
def s395_154 (E : rE) (w : Nat) (s0 : Int32) (s : rS) : Option rA :=
  rrI (some .int) s0 s
theorem r395_154 {L : Nat} {xs : Nat → Int32} {zf : Value} {D : dD} {E : rE} {w : Nat} (hD : rO D E L xs) : ∀ (s0 : Int32) (h : rm_H) (s : rS) (r : rA), RS h s → s395_154 E w s0 s = some r → rx (b395_154 L xs zf D w s0 h) h r := by
  intro s0 h s r hR hh
  unfold s395_154 at hh
  unfold b395_154
  exact rx_I hR hh
def s395_108 (E : rE) (w : Nat) (i1 : Int32) (i2 : Int32) (i3 : Int32) (s : rS) : Option rA :=
  (rs_aI s 46 i1).bind fun x1 =>
  if mx_f2 .ne i2 x1 = true then
    (rs_aI s 48 i2).bind fun x4 =>
    if mx_f1 .eq x4 = true then
      if mx_f2 .ne i3 8 = true then
        (rs_aI s 46 i1).bind fun x8 =>
        s395_154 E w x8 s
      else
        s395_154 E w 0 s
    else
      (rs_aI s 48 i2).bind fun x10 =>
      s395_154 E w x10 s
  else
    rrI (some .int) 0 s
theorem r395_108 {L : Nat} {xs : Nat → Int32} {zf : Value} {D : dD} {E : rE} {w : Nat} (hD : rO D E L xs) : ∀ (i1 : Int32) (i2 : Int32) (i3 : Int32) (h : rm_H) (s : rS) (r : rA), RS h s → s395_108 E w i1 i2 i3 s = some r → rx (b395_108 L xs zf D w (some 36) i1 i2 i3 h) h r := by
  intro i1 i2 i3 h s r hR hh
  unfold s395_108 at hh
  unfold b395_108
  refine rx_b (rs_gR hR 13 46 rfl) ?_
  obtain ⟨x1, q2, hh⟩ := db hh
  refine rx_b (rs_aI_ok hR q2) ?_
  rcases di hh with ⟨q3, hh⟩ | ⟨q3, hh⟩
  · refine rx_t q3 ?_
    refine rx_b (rs_gR hR 15 48 rfl) ?_
    obtain ⟨x4, q5, hh⟩ := db hh
    refine rx_b (rs_aI_ok hR q5) ?_
    rcases di hh with ⟨q6, hh⟩ | ⟨q6, hh⟩
    · refine rx_t q6 ?_
      rcases di hh with ⟨q7, hh⟩ | ⟨q7, hh⟩
      · refine rx_t q7 ?_
        refine rx_b (rs_gR hR 13 46 rfl) ?_
        obtain ⟨x8, q9, hh⟩ := db hh
        refine rx_b (rs_aI_ok hR q9) ?_
        exact r395_154 hD _ _ _ _ hR hh
      · refine rx_f q7 ?_
        exact r395_154 hD _ _ _ _ hR hh
    · refine rx_f q6 ?_
      refine rx_b (rs_gR hR 15 48 rfl) ?_
      obtain ⟨x10, q11, hh⟩ := db hh
      refine rx_b (rs_aI_ok hR q11) ?_
      exact r395_154 hD _ _ _ _ hR hh
  · refine rx_f q3 ?_
    exact rx_I hR hh
def s395_0 (E : rE) (w : Nat) (i1 : Int32) (i2 : Int32) (s : rS) : Option rA :=
  (rs_aI s 44 i1).bind fun x1 =>
  if mx_f2 .ne x1 13 = true then
    if mx_f2 .eq x1 7 = true then
      s395_46 E w i1 i2 s
    else
      if mx_f2 .ne x1 26 = true then
        if mx_f2 .eq x1 11 = true then
          s395_108 E w i1 i2 x1 s
        else
          if mx_f2 .eq x1 12 = true then
            s395_108 E w i1 i2 x1 s
          else
            if mx_f2 .eq x1 8 = true then
              s395_108 E w i1 i2 x1 s
            else
              rrI (some .int) 0 s
      else
        s395_46 E w i1 i2 s
  else
    (rs_aI s 45 i1).bind fun x9 =>
    if mx_f2 .ne i2 x9 = true then
      s395_33 E w 0 s
    else
      (rs_aI s 46 i1).bind fun x12 =>
      s395_33 E w x12 s
theorem r395_0 {L : Nat} {xs : Nat → Int32} {zf : Value} {D : dD} {E : rE} {w : Nat} (hD : rO D E L xs) : ∀ (i1 : Int32) (i2 : Int32) (h : rm_H) (s : rS) (r : rA), RS h s → s395_0 E w i1 i2 s = some r → rx (b395_0 L xs zf D w (some 36) i1 i2 h) h r := by
  intro i1 i2 h s r hR hh
  unfold s395_0 at hh
  unfold b395_0
  refine rx_b (rs_gR hR 11 44 rfl) ?_
  obtain ⟨x1, q2, hh⟩ := db hh
  refine rx_b (rs_aI_ok hR q2) ?_
  rcases di hh with ⟨q3, hh⟩ | ⟨q3, hh⟩
  · refine rx_t q3 ?_
    rcases di hh with ⟨q4, hh⟩ | ⟨q4, hh⟩
    · refine rx_t q4 ?_
      exact r395_46 hD _ _ _ _ _ hR hh
    · refine rx_f q4 ?_
      rcases di hh with ⟨q5, hh⟩ | ⟨q5, hh⟩
      · refine rx_t q5 ?_
        rcases di hh with ⟨q6, hh⟩ | ⟨q6, hh⟩
        · refine rx_t q6 ?_
          exact r395_108 hD _ _ _ _ _ _ hR hh
        · refine rx_f q6 ?_
          rcases di hh with ⟨q7, hh⟩ | ⟨q7, hh⟩
          · refine rx_t q7 ?_
            exact r395_108 hD _ _ _ _ _ _ hR hh
          · refine rx_f q7 ?_
            rcases di hh with ⟨q8, hh⟩ | ⟨q8, hh⟩
            · refine rx_t q8 ?_
              exact r395_108 hD _ _ _ _ _ _ hR hh
            · refine rx_f q8 ?_
              exact rx_I hR hh
      · refine rx_f q5 ?_
        exact r395_46 hD _ _ _ _ _ hR hh
  · refine rx_f q3 ?_
    refine rx_b (rs_gR hR 12 45 rfl) ?_
    obtain ⟨x9, q10, hh⟩ := db hh
    refine rx_b (rs_aI_ok hR q10) ?_
    rcases di hh with ⟨q11, hh⟩ | ⟨q11, hh⟩
    · refine rx_t q11 ?_
      exact r395_33 hD _ _ _ _ hR hh
    · refine rx_f q11 ?_
      refine rx_b (rs_gR hR 13 46 rfl) ?_
      obtain ⟨x12, q13, hh⟩ := db hh
      refine rx_b (rs_aI_ok hR q13) ?_
      exact r395_33 hD _ _ _ _ hR hh
def g395 (E : rE) (w : Nat) (As : List Value) (s : rS) : Option rA := match As with
  | [.ref 36, .int i1, .int i2] => s395_0 E w i1 i2 s
  | _ => none
theorem t395 {L : Nat} {xs : Nat → Int32} {zf : Value} {D : dD} {E : rE} {w : Nat} (hD : rO D E L xs) (As : List Value) (h : rm_H) (s : rS) (r : rA) (hR : RS h s) (hh : g395 E w As s = some r) : rx (f395 L xs zf D w As h) h r := by
  unfold g395 at hh
  split at hh
  · unfold f395
    dsimp only
    refine rx_b (a := some 36) rfl ?_
    exact r395_0 hD _ _ _ _ _ hR hh
  · cases hh
def s396_39 (E : rE) (w : Nat) : Nat → Int32 → Int32 → Int64 → Int32 → Int32 → rS → Option rA
  | 0, _, _, _, _, _, _ => none
  | n + 1, i1, i2, j3, i6, i7, s =>
    if mx_f1 .lt i7 = true then
      ((E 385 [.ref 36, .int i1, .int i2, .long j3] s).bind rxV).bind fun s2 =>
      some (none, s2)
    else
      ((E 390 [.ref 36, .int i1] s).bind rxJ).bind fun y7 =>
      (rs_sJ y7.2 101 (i6 + i7) y7.1).bind fun s12 =>
      s396_39 E w n i1 i2 j3 i6 (i7 + (-1)) s12
theorem r396_39 {L : Nat} {xs : Nat → Int32} {zf : Value} {D : dD} {E : rE} {w : Nat} (hD : rO D E L xs) : ∀ (n : Nat) (i1 : Int32) (i2 : Int32) (j3 : Int64) (i6 : Int32) (i7 : Int32) (h : rm_H) (s : rS) (r : rA), RS h s → s396_39 E w n i1 i2 j3 i6 i7 s = some r → rx (b396_39 L xs zf D w n (some 36) i1 i2 j3 i6 i7 h) h r := by
  intro n
  induction n with
  | zero =>
    intro i1 i2 j3 i6 i7 h s r hR hh
    cases hh
  | succ n ih =>
    intro i1 i2 j3 i6 i7 h s r hR hh
    rw [s396_39] at hh
    rw [b396_39]
    rcases di hh with ⟨q1, hh⟩ | ⟨q1, hh⟩
    · refine rx_t q1 ?_
      obtain ⟨s2, q3, hh⟩ := db hh
      obtain ⟨h4, e5, hR, f6⟩ := rs_vV hD hR q3
      refine rx_w e5 f6 ?_
      cases hh
      exact rx_0 hR
    · refine rx_f q1 ?_
      refine rx_b (rs_gR hR 100 101 rfl) ?_
      obtain ⟨y7, q8, hh⟩ := db hh
      obtain ⟨h9, e10, hR, f11⟩ := rs_vJ hD hR q8
      refine rx_c e10 f11 ?_
      obtain ⟨s12, q13, hh⟩ := db hh
      obtain ⟨h14, e15, hR, f16⟩ := rs_sJ_ok hR q13
      refine rx_w e15 f16 ?_
      exact ih _ _ _ _ _ _ _ _ hR hh
def s396_0 (E : rE) (w : Nat) (i1 : Int32) (i2 : Int32) (j3 : Int64) (s : rS) : Option rA :=
  (rs_aI s 77 (i2 + 1)).bind fun x1 =>
  (rs_aI s 77 i2).bind fun x3 =>
  (rs_aI s 92 i1).bind fun x5 =>
  s396_39 E w w i1 i2 j3 (16 * ((10 * i1) + x5)) ((x1 - x3) - 1) s
theorem r396_0 {L : Nat} {xs : Nat → Int32} {zf : Value} {D : dD} {E : rE} {w : Nat} (hD : rO D E L xs) : ∀ (i1 : Int32) (i2 : Int32) (j3 : Int64) (h : rm_H) (s : rS) (r : rA), RS h s → s396_0 E w i1 i2 j3 s = some r → rx (b396_0 L xs zf D w (some 36) i1 i2 j3 h) h r := by
  intro i1 i2 j3 h s r hR hh
  unfold s396_0 at hh
  unfold b396_0
  refine rx_b (rs_gR hR 50 77 rfl) ?_
  obtain ⟨x1, q2, hh⟩ := db hh
  refine rx_b (rs_aI_ok hR q2) ?_
  refine rx_b (rs_gR hR 50 77 rfl) ?_
  obtain ⟨x3, q4, hh⟩ := db hh
  refine rx_b (rs_aI_ok hR q4) ?_
  refine rx_b (rs_gR hR 91 92 rfl) ?_
  obtain ⟨x5, q6, hh⟩ := db hh
  refine rx_b (rs_aI_ok hR q6) ?_
  exact r396_39 hD _ _ _ _ _ _ _ _ _ hR hh
def g396 (E : rE) (w : Nat) (As : List Value) (s : rS) : Option rA := match As with
  | [.ref 36, .int i1, .int i2, .long j3] => s396_0 E w i1 i2 j3 s
  | _ => none
theorem t396 {L : Nat} {xs : Nat → Int32} {zf : Value} {D : dD} {E : rE} {w : Nat} (hD : rO D E L xs) (As : List Value) (h : rm_H) (s : rS) (r : rA) (hR : RS h s) (hh : g396 E w As s = some r) : rx (f396 L xs zf D w As h) h r := by
  unfold g396 at hh
  split at hh
  · unfold f396
    dsimp only
    refine rx_b (a := some 36) rfl ?_
    exact r396_0 hD _ _ _ _ _ _ hR hh
  · cases hh
def s397_0 (E : rE) (w : Nat) (i1 : Int32) (i2 : Int32) (i3 : Int32) (s : rS) : Option rA :=
  (rs_aI s 53 i3).bind fun x1 =>
  (rs_aI s 65 x1).bind fun x3 =>
  (rs_aB s 66 x1).bind fun x5 =>
  if mx_f1 .eq x5 = true then
    (rs_aI s 92 i1).bind fun x8 =>
    if mx_f2 .ne x8 10 = true then
      ((E 373 [.ref 36, .int x1] s).bind rxI).bind fun x11 =>
      if mx_f2 .le (((s.1 77) + x11.1) + 1) (x11.2.1 78) = true then
        ((E 393 [.ref 36, .int i3] x11.2).bind rxI).bind fun x17 =>
        (rs_sI x17.2 99 i2 x17.1).bind fun s22 =>
        ((E 398 [.ref 36, .int i1, .int x1] s22).bind rxI).bind fun x27 =>
        ((E 376 [.int 2, .int x27.1] x27.2).bind rxJ).bind fun y32 =>
        ((E 396 [.ref 36, .int i1, .int x3, .long y32.1] y32.2).bind rxV).bind fun s37 =>
        rrI (some .int) 0 s37
      else
        rrI (some .int) 2 x11.2
    else
      rrI (some .int) 3 s
  else
    if mx_f2 .ne (s.1 75) 12 = true then
      ((E 373 [.ref 36, .int x1] s).bind rxI).bind fun x43 =>
      if mx_f2 .le (((s.1 77) + x43.1) + 1) (x43.2.1 78) = true then
        (rs_aI x43.2 93 i1).bind fun x49 =>
        (rs_aI x43.2 52 i3).bind fun x51 =>
        (rs_sI x43.2 93 i1 (x49 - x51)).bind fun s53 =>
        ((E 374 [.ref 36, .int x1] s53).bind rxI).bind fun x58 =>
        (rs_aI x58.2 93 i1).bind fun x63 =>
        ((E 377 [.ref 36, .int x58.1, .int x3, .int i1, .int x63] x58.2).bind rxV).bind fun s65 =>
        ((E 376 [.int 3, .int x58.1] s65).bind rxJ).bind fun y70 =>
        ((E 389 [.ref 36, .int i1, .long y70.1] y70.2).bind rxV).bind fun s75 =>
        ((E 393 [.ref 36, .int i3] s75).bind rxI).bind fun x80 =>
        (rs_sI x80.2 99 i2 x80.1).bind fun s85 =>
        rrI (some .int) 0 s85
      else
        rrI (some .int) 2 x43.2
    else
      rrI (some .int) 4 s
theorem r397_0 {L : Nat} {xs : Nat → Int32} {zf : Value} {D : dD} {E : rE} {w : Nat} (hD : rO D E L xs) : ∀ (i1 : Int32) (i2 : Int32) (i3 : Int32) (h : rm_H) (s : rS) (r : rA), RS h s → s397_0 E w i1 i2 i3 s = some r → rx (b397_0 L xs zf D w (some 36) i1 i2 i3 h) h r := by
  intro i1 i2 i3 h s r hR hh
  unfold s397_0 at hh
  unfold b397_0
  refine rx_b (rs_gR hR 20 53 rfl) ?_
  obtain ⟨x1, q2, hh⟩ := db hh
  refine rx_b (rs_aI_ok hR q2) ?_
  refine rx_b (rs_gR hR 36 65 rfl) ?_
  obtain ⟨x3, q4, hh⟩ := db hh
  refine rx_b (rs_aI_ok hR q4) ?_
  refine rx_b (rs_gR hR 37 66 rfl) ?_
  obtain ⟨x5, q6, hh⟩ := db hh
  refine rx_b (rs_aB_ok hR q6) ?_
  rcases di hh with ⟨q7, hh⟩ | ⟨q7, hh⟩
  · refine rx_t q7 ?_
    refine rx_b (rs_gR hR 91 92 rfl) ?_
    obtain ⟨x8, q9, hh⟩ := db hh
    refine rx_b (rs_aI_ok hR q9) ?_
    rcases di hh with ⟨q10, hh⟩ | ⟨q10, hh⟩
    · refine rx_t q10 ?_
      refine rx_b (rs_gI hR 77 _ rfl) ?_
      obtain ⟨x11, q12, hh⟩ := db hh
      obtain ⟨h13, e14, hR, f15⟩ := rs_vI hD hR q12
      refine rx_c e14 f15 ?_
      refine rx_b (rs_gI hR 78 _ rfl) ?_
      rcases di hh with ⟨q16, hh⟩ | ⟨q16, hh⟩
      · refine rx_t q16 ?_
        refine rx_b (rs_gR hR 98 99 rfl) ?_
        obtain ⟨x17, q18, hh⟩ := db hh
        obtain ⟨h19, e20, hR, f21⟩ := rs_vI hD hR q18
        refine rx_c e20 f21 ?_
        obtain ⟨s22, q23, hh⟩ := db hh
        obtain ⟨h24, e25, hR, f26⟩ := rs_sI_ok hR q23
        refine rx_w e25 f26 ?_
        obtain ⟨x27, q28, hh⟩ := db hh
        obtain ⟨h29, e30, hR, f31⟩ := rs_vI hD hR q28
        refine rx_c e30 f31 ?_
        obtain ⟨y32, q33, hh⟩ := db hh
        obtain ⟨h34, e35, hR, f36⟩ := rs_cJ hD hR q33
        refine rx_c e35 f36 ?_
        obtain ⟨s37, q38, hh⟩ := db hh
        obtain ⟨h39, e40, hR, f41⟩ := rs_vV hD hR q38
        refine rx_w e40 f41 ?_
        exact rx_I hR hh
      · refine rx_f q16 ?_
        exact rx_I hR hh
    · refine rx_f q10 ?_
      exact rx_I hR hh
  · refine rx_f q7 ?_
    refine rx_b (rs_gI hR 75 _ rfl) ?_
    rcases di hh with ⟨q42, hh⟩ | ⟨q42, hh⟩
    · refine rx_t q42 ?_
      refine rx_b (rs_gI hR 77 _ rfl) ?_
      obtain ⟨x43, q44, hh⟩ := db hh
      obtain ⟨h45, e46, hR, f47⟩ := rs_vI hD hR q44
      refine rx_c e46 f47 ?_
      refine rx_b (rs_gI hR 78 _ rfl) ?_
      rcases di hh with ⟨q48, hh⟩ | ⟨q48, hh⟩
      · refine rx_t q48 ?_
        refine rx_b (rs_gR hR 92 93 rfl) ?_
        obtain ⟨x49, q50, hh⟩ := db hh
        refine rx_b (rs_aI_ok hR q50) ?_
        refine rx_b (rs_gR hR 19 52 rfl) ?_
        obtain ⟨x51, q52, hh⟩ := db hh
        refine rx_b (rs_aI_ok hR q52) ?_
        obtain ⟨s53, q54, hh⟩ := db hh
        obtain ⟨h55, e56, hR, f57⟩ := rs_sI_ok hR q54
        refine rx_w e56 f57 ?_
        obtain ⟨x58, q59, hh⟩ := db hh
        obtain ⟨h60, e61, hR, f62⟩ := rs_vI hD hR q59
        refine rx_c e61 f62 ?_
        refine rx_b (rs_gR hR 92 93 rfl) ?_
        obtain ⟨x63, q64, hh⟩ := db hh
        refine rx_b (rs_aI_ok hR q64) ?_
        obtain ⟨s65, q66, hh⟩ := db hh
        obtain ⟨h67, e68, hR, f69⟩ := rs_vV hD hR q66
        refine rx_w e68 f69 ?_
        obtain ⟨y70, q71, hh⟩ := db hh
        obtain ⟨h72, e73, hR, f74⟩ := rs_cJ hD hR q71
        refine rx_c e73 f74 ?_
        obtain ⟨s75, q76, hh⟩ := db hh
        obtain ⟨h77, e78, hR, f79⟩ := rs_vV hD hR q76
        refine rx_w e78 f79 ?_
        refine rx_b (rs_gR hR 98 99 rfl) ?_
        obtain ⟨x80, q81, hh⟩ := db hh
        obtain ⟨h82, e83, hR, f84⟩ := rs_vI hD hR q81
        refine rx_c e83 f84 ?_
        obtain ⟨s85, q86, hh⟩ := db hh
        obtain ⟨h87, e88, hR, f89⟩ := rs_sI_ok hR q86
        refine rx_w e88 f89 ?_
        exact rx_I hR hh
      · refine rx_f q48 ?_
        exact rx_I hR hh
    · refine rx_f q42 ?_
      exact rx_I hR hh
def g397 (E : rE) (w : Nat) (As : List Value) (s : rS) : Option rA := match As with
  | [.ref 36, .int i1, .int i2, .int i3] => s397_0 E w i1 i2 i3 s
  | _ => none
theorem t397 {L : Nat} {xs : Nat → Int32} {zf : Value} {D : dD} {E : rE} {w : Nat} (hD : rO D E L xs) (As : List Value) (h : rm_H) (s : rS) (r : rA) (hR : RS h s) (hh : g397 E w As s = some r) : rx (f397 L xs zf D w As h) h r := by
  unfold g397 at hh
  split at hh
  · unfold f397
    dsimp only
    refine rx_b (a := some 36) rfl ?_
    exact r397_0 hD _ _ _ _ _ _ hR hh
  · cases hh
def s398_51 (E : rE) (w : Nat) : Nat → Int32 → Int32 → Int32 → rS → Option rA
  | 0, _, _, _, _ => none
  | n + 1, i1, i2, i3, s =>
    ((E 373 [.ref 36, .int i2] s).bind rxI).bind fun x1 =>
    if mx_f2 .ge i3 x1.1 = true then
      ((E 373 [.ref 36, .int i2] x1.2).bind rxI).bind fun x7 =>
      (rs_pI x7.2 87 ((x1.2.1 87) + x7.1)).bind fun s12 =>
      rrI (some .int) (s12.1 76) s12
    else
      (rs_aI x1.2 64 i2).bind fun x17 =>
      (rs_aI x1.2 69 (x17 + i3)).bind fun x19 =>
      (rs_aI x1.2 60 x19).bind fun x21 =>
      ((E 375 [.int x21] x1.2).bind rxJ).bind fun y23 =>
      (rs_sJ y23.2 96 (((400 * i1) + (x1.2.1 87)) + i3) y23.1).bind fun s28 =>
      s398_51 E w n i1 i2 (i3 + 1) s28
theorem r398_51 {L : Nat} {xs : Nat → Int32} {zf : Value} {D : dD} {E : rE} {w : Nat} (hD : rO D E L xs) : ∀ (n : Nat) (i1 : Int32) (i2 : Int32) (i3 : Int32) (h : rm_H) (s : rS) (r : rA), RS h s → s398_51 E w n i1 i2 i3 s = some r → rx (b398_51 L xs zf D w n (some 36) i1 i2 i3 h) h r := by
  intro n
  induction n with
  | zero =>
    intro i1 i2 i3 h s r hR hh
    cases hh
  | succ n ih =>
    intro i1 i2 i3 h s r hR hh
    rw [s398_51] at hh
    rw [b398_51]
    obtain ⟨x1, q2, hh⟩ := db hh
    obtain ⟨h3, e4, hR, f5⟩ := rs_vI hD hR q2
    refine rx_c e4 f5 ?_
    rcases di hh with ⟨q6, hh⟩ | ⟨q6, hh⟩
    · refine rx_t q6 ?_
      refine rx_b (rs_gI hR 87 _ rfl) ?_
      obtain ⟨x7, q8, hh⟩ := db hh
      obtain ⟨h9, e10, hR, f11⟩ := rs_vI hD hR q8
      refine rx_c e10 f11 ?_
      obtain ⟨s12, q13, hh⟩ := db hh
      obtain ⟨h14, e15, hR, f16⟩ := rs_pI_ok (rs_m87 _ _) (by decide) hR q13
      refine rx_w e15 f16 ?_
      refine rx_b (rs_gI hR 76 _ rfl) ?_
      exact rx_I hR hh
    · refine rx_f q6 ?_
      refine rx_b (rs_gR hR 95 96 rfl) ?_
      refine rx_b (rs_gI hR 87 _ rfl) ?_
      refine rx_b (rs_gR hR 30 60 rfl) ?_
      refine rx_b (rs_gR hR 41 69 rfl) ?_
      refine rx_b (rs_gR hR 35 64 rfl) ?_
      obtain ⟨x17, q18, hh⟩ := db hh
      refine rx_b (rs_aI_ok hR q18) ?_
      obtain ⟨x19, q20, hh⟩ := db hh
      refine rx_b (rs_aI_ok hR q20) ?_
      obtain ⟨x21, q22, hh⟩ := db hh
      refine rx_b (rs_aI_ok hR q22) ?_
      obtain ⟨y23, q24, hh⟩ := db hh
      obtain ⟨h25, e26, hR, f27⟩ := rs_cJ hD hR q24
      refine rx_c e26 f27 ?_
      obtain ⟨s28, q29, hh⟩ := db hh
      obtain ⟨h30, e31, hR, f32⟩ := rs_sJ_ok hR q29
      refine rx_w e31 f32 ?_
      exact ih _ _ _ _ _ _ hR hh
def s398_0 (E : rE) (w : Nat) (i1 : Int32) (i2 : Int32) (s : rS) : Option rA :=
  (rs_pI s 76 ((s.1 76) + 1)).bind fun s1 =>
  ((E 373 [.ref 36, .int i2] s1).bind rxI).bind fun x6 =>
  (rs_pI x6.2 77 ((s1.1 77) + (x6.1 + 1))).bind fun s11 =>
  (rs_sI s11 87 (s11.1 76) i2).bind fun s16 =>
  (rs_sI s16 88 (s16.1 76) (s16.1 87)).bind fun s21 =>
  s398_51 E w w i1 i2 0 s21
theorem r398_0 {L : Nat} {xs : Nat → Int32} {zf : Value} {D : dD} {E : rE} {w : Nat} (hD : rO D E L xs) : ∀ (i1 : Int32) (i2 : Int32) (h : rm_H) (s : rS) (r : rA), RS h s → s398_0 E w i1 i2 s = some r → rx (b398_0 L xs zf D w (some 36) i1 i2 h) h r := by
  intro i1 i2 h s r hR hh
  unfold s398_0 at hh
  unfold b398_0
  refine rx_b (rs_gI hR 76 _ rfl) ?_
  obtain ⟨s1, q2, hh⟩ := db hh
  obtain ⟨h3, e4, hR, f5⟩ := rs_pI_ok (rs_m76 _ _) (by decide) hR q2
  refine rx_w e4 f5 ?_
  refine rx_b (rs_gI hR 77 _ rfl) ?_
  obtain ⟨x6, q7, hh⟩ := db hh
  obtain ⟨h8, e9, hR, f10⟩ := rs_vI hD hR q7
  refine rx_c e9 f10 ?_
  obtain ⟨s11, q12, hh⟩ := db hh
  obtain ⟨h13, e14, hR, f15⟩ := rs_pI_ok (rs_m77 _ _) (by decide) hR q12
  refine rx_w e14 f15 ?_
  refine rx_b (rs_gR hR 85 87 rfl) ?_
  refine rx_b (rs_gI hR 76 _ rfl) ?_
  obtain ⟨s16, q17, hh⟩ := db hh
  obtain ⟨h18, e19, hR, f20⟩ := rs_sI_ok hR q17
  refine rx_w e19 f20 ?_
  refine rx_b (rs_gR hR 86 88 rfl) ?_
  refine rx_b (rs_gI hR 76 _ rfl) ?_
  refine rx_b (rs_gI hR 87 _ rfl) ?_
  obtain ⟨s21, q22, hh⟩ := db hh
  obtain ⟨h23, e24, hR, f25⟩ := rs_sI_ok hR q22
  refine rx_w e24 f25 ?_
  exact r398_51 hD _ _ _ _ _ _ _ hR hh
def g398 (E : rE) (w : Nat) (As : List Value) (s : rS) : Option rA := match As with
  | [.ref 36, .int i1, .int i2] => s398_0 E w i1 i2 s
  | _ => none
theorem t398 {L : Nat} {xs : Nat → Int32} {zf : Value} {D : dD} {E : rE} {w : Nat} (hD : rO D E L xs) (As : List Value) (h : rm_H) (s : rS) (r : rA) (hR : RS h s) (hh : g398 E w As s = some r) : rx (f398 L xs zf D w As h) h r := by
  unfold g398 at hh
  split at hh
  · unfold f398
    dsimp only
    refine rx_b (a := some 36) rfl ?_
    exact r398_0 hD _ _ _ _ _ hR hh
  · cases hh
def s399_0 (E : rE) (w : Nat) (i1 : Int32) (i2 : Int32) (i3 : Int32) (s : rS) : Option rA :=
  (rs_aI s 93 i1).bind fun x1 =>
  (rs_aJ s 97 (((10100 * i1) + x1) - 1)).bind fun y3 =>
  if mx_f1 .ne (lg_cmp y3 0) = true then
    (rs_aI s 94 (Int64.toInt32 y3)).bind fun x6 =>
    if mx_f2 .ne x6 (s.1 79) = true then
      (rs_aI s 93 i1).bind fun x9 =>
      (rs_aI s 52 i3).bind fun x11 =>
      (rs_sI s 93 i1 (x9 - (1 + x11))).bind fun s13 =>
      (rs_aI s13 53 i3).bind fun x18 =>
      (rs_aI s13 93 i1).bind fun x20 =>
      ((E 377 [.ref 36, .int (Int64.toInt32 y3), .int x18, .int i1, .int x20] s13).bind rxV).bind fun s22 =>
      ((E 389 [.ref 36, .int i1, .long 0] s22).bind rxV).bind fun s27 =>
      ((E 393 [.ref 36, .int i3] s27).bind rxI).bind fun x32 =>
      (rs_sI x32.2 99 i2 x32.1).bind fun s37 =>
      rrI (some .int) 0 s37
    else
      (rs_pI s 83 ((s.1 83) + 1)).bind fun s42 =>
      rrI (some .int) 0 s42
  else
    rrI (some .int) 1 s
theorem r399_0 {L : Nat} {xs : Nat → Int32} {zf : Value} {D : dD} {E : rE} {w : Nat} (hD : rO D E L xs) : ∀ (i1 : Int32) (i2 : Int32) (i3 : Int32) (h : rm_H) (s : rS) (r : rA), RS h s → s399_0 E w i1 i2 i3 s = some r → rx (b399_0 L xs zf D w (some 36) i1 i2 i3 h) h r := by
  intro i1 i2 i3 h s r hR hh
  unfold s399_0 at hh
  unfold b399_0
  refine rx_b (rs_gR hR 96 97 rfl) ?_
  refine rx_b (rs_gR hR 92 93 rfl) ?_
  obtain ⟨x1, q2, hh⟩ := db hh
  refine rx_b (rs_aI_ok hR q2) ?_
  obtain ⟨y3, q4, hh⟩ := db hh
  refine rx_b (rs_aJ_ok hR q4) ?_
  rcases di hh with ⟨q5, hh⟩ | ⟨q5, hh⟩
  · refine rx_t q5 ?_
    refine rx_b (rs_gR hR 93 94 rfl) ?_
    obtain ⟨x6, q7, hh⟩ := db hh
    refine rx_b (rs_aI_ok hR q7) ?_
    refine rx_b (rs_gI hR 79 _ rfl) ?_
    rcases di hh with ⟨q8, hh⟩ | ⟨q8, hh⟩
    · refine rx_t q8 ?_
      refine rx_b (rs_gR hR 92 93 rfl) ?_
      obtain ⟨x9, q10, hh⟩ := db hh
      refine rx_b (rs_aI_ok hR q10) ?_
      refine rx_b (rs_gR hR 19 52 rfl) ?_
      obtain ⟨x11, q12, hh⟩ := db hh
      refine rx_b (rs_aI_ok hR q12) ?_
      obtain ⟨s13, q14, hh⟩ := db hh
      obtain ⟨h15, e16, hR, f17⟩ := rs_sI_ok hR q14
      refine rx_w e16 f17 ?_
      refine rx_b (rs_gR hR 20 53 rfl) ?_
      obtain ⟨x18, q19, hh⟩ := db hh
      refine rx_b (rs_aI_ok hR q19) ?_
      refine rx_b (rs_gR hR 92 93 rfl) ?_
      obtain ⟨x20, q21, hh⟩ := db hh
      refine rx_b (rs_aI_ok hR q21) ?_
      obtain ⟨s22, q23, hh⟩ := db hh
      obtain ⟨h24, e25, hR, f26⟩ := rs_vV hD hR q23
      refine rx_w e25 f26 ?_
      obtain ⟨s27, q28, hh⟩ := db hh
      obtain ⟨h29, e30, hR, f31⟩ := rs_vV hD hR q28
      refine rx_w e30 f31 ?_
      refine rx_b (rs_gR hR 98 99 rfl) ?_
      obtain ⟨x32, q33, hh⟩ := db hh
      obtain ⟨h34, e35, hR, f36⟩ := rs_vI hD hR q33
      refine rx_c e35 f36 ?_
      obtain ⟨s37, q38, hh⟩ := db hh
      obtain ⟨h39, e40, hR, f41⟩ := rs_sI_ok hR q38
      refine rx_w e40 f41 ?_
      exact rx_I hR hh
    · refine rx_f q8 ?_
      refine rx_b (rs_gI hR 83 _ rfl) ?_
      obtain ⟨s42, q43, hh⟩ := db hh
      obtain ⟨h44, e45, hR, f46⟩ := rs_pI_ok (rs_m83 _ _) (by decide) hR q43
      refine rx_w e45 f46 ?_
      exact rx_I hR hh
  · refine rx_f q5 ?_
    exact rx_I hR hh
def g399 (E : rE) (w : Nat) (As : List Value) (s : rS) : Option rA := match As with
  | [.ref 36, .int i1, .int i2, .int i3] => s399_0 E w i1 i2 i3 s
  | _ => none
theorem t399 {L : Nat} {xs : Nat → Int32} {zf : Value} {D : dD} {E : rE} {w : Nat} (hD : rO D E L xs) (As : List Value) (h : rm_H) (s : rS) (r : rA) (hR : RS h s) (hh : g399 E w As s = some r) : rx (f399 L xs zf D w As h) h r := by
  unfold g399 at hh
  split at hh
  · unfold f399
    dsimp only
    refine rx_b (a := some 36) rfl ?_
    exact r399_0 hD _ _ _ _ _ _ hR hh
  · cases hh
def s400_196 (E : rE) (w : Nat) (i2 : Int32) (i3 : Int32) (s : rS) : Option rA :=
  ((E 393 [.ref 36, .int i3] s).bind rxI).bind fun x1 =>
  (rs_sI x1.2 99 i2 x1.1).bind fun s6 =>
  rrI (some .int) 0 s6
theorem r400_196 {L : Nat} {xs : Nat → Int32} {zf : Value} {D : dD} {E : rE} {w : Nat} (hD : rO D E L xs) : ∀ (i2 : Int32) (i3 : Int32) (h : rm_H) (s : rS) (r : rA), RS h s → s400_196 E w i2 i3 s = some r → rx (b400_196 L xs zf D w (some 36) i2 i3 h) h r := by
  intro i2 i3 h s r hR hh
  unfold s400_196 at hh
  unfold b400_196
  refine rx_b (rs_gR hR 98 99 rfl) ?_
  obtain ⟨x1, q2, hh⟩ := db hh
  obtain ⟨h3, e4, hR, f5⟩ := rs_vI hD hR q2
  refine rx_c e4 f5 ?_
  obtain ⟨s6, q7, hh⟩ := db hh
  obtain ⟨h8, e9, hR, f10⟩ := rs_sI_ok hR q7
  refine rx_w e9 f10 ?_
  exact rx_I hR hh
def s400_184 (E : rE) (w : Nat) (i1 : Int32) (i2 : Int32) (i3 : Int32) (i5 : Int32) (j6 : Int64) (s : rS) : Option rA :=
  if mx_f1 .eq i5 = true then
    s400_196 E w i2 i3 s
  else
    ((E 389 [.ref 36, .int i1, .long j6] s).bind rxV).bind fun s2 =>
    s400_196 E w i2 i3 s2
theorem r400_184 {L : Nat} {xs : Nat → Int32} {zf : Value} {D : dD} {E : rE} {w : Nat} (hD : rO D E L xs) : ∀ (i1 : Int32) (i2 : Int32) (i3 : Int32) (i5 : Int32) (j6 : Int64) (h : rm_H) (s : rS) (r : rA), RS h s → s400_184 E w i1 i2 i3 i5 j6 s = some r → rx (b400_184 L xs zf D w (some 36) i1 i2 i3 i5 j6 h) h r := by
  intro i1 i2 i3 i5 j6 h s r hR hh
  unfold s400_184 at hh
  unfold b400_184
  rcases di hh with ⟨q1, hh⟩ | ⟨q1, hh⟩
  · refine rx_t q1 ?_
    exact r400_196 hD _ _ _ _ _ hR hh
  · refine rx_f q1 ?_
    obtain ⟨s2, q3, hh⟩ := db hh
    obtain ⟨h4, e5, hR, f6⟩ := rs_vV hD hR q3
    refine rx_w e5 f6 ?_
    exact r400_196 hD _ _ _ _ _ hR hh
def s400_24 (E : rE) (w : Nat) (i1 : Int32) (i2 : Int32) (i3 : Int32) (i4 : Int32) (s0 : Int32) (s : rS) : Option rA :=
  (rs_aI s 44 i4).bind fun x1 =>
  if mx_f2 .ne x1 4 = true then
    ((E 390 [.ref 36, .int i1] s).bind rxJ).bind fun y4 =>
    ((E 390 [.ref 36, .int i1] y4.2).bind rxJ).bind fun y9 =>
    if mx_f1 .ne (lg_cmp y4.1 0) = true then
      (rs_aI y9.2 53 i4).bind fun x15 =>
      ((E 391 [.ref 36, .int i1, .long y4.1, .int x15] y9.2).bind rxJ).bind fun y17 =>
      ((E 379 [.long y4.1] y17.2).bind rxI).bind fun x22 =>
      if mx_f2 .ne x22.1 3 = true then
        (rs_aI x22.2 88 (Int64.toInt32 y4.1)).bind fun x28 =>
        (rs_aI x22.2 53 i4).bind fun x30 =>
        (rs_sJ x22.2 96 (((400 * i1) + x28) + x30) y9.1).bind fun s32 =>
        s400_184 E w i1 i2 i3 s0 y17.1 s32
      else
        (rs_aI x22.2 53 i4).bind fun x37 =>
        (rs_sJ x22.2 95 ((8 * i1) + x37) y9.1).bind fun s39 =>
        s400_184 E w i1 i2 i3 s0 y17.1 s39
    else
      rrI (some .int) 1 y9.2
  else
    ((E 390 [.ref 36, .int i1] s).bind rxJ).bind fun y44 =>
    (rs_aI y44.2 53 i4).bind fun x49 =>
    (rs_aJ y44.2 101 ((16 * i2) + x49)).bind fun y51 =>
    (rs_aI y44.2 53 i4).bind fun x53 =>
    (rs_sJ y44.2 101 ((16 * i2) + x53) y44.1).bind fun s55 =>
    s400_184 E w i1 i2 i3 s0 y51 s55
theorem r400_24 {L : Nat} {xs : Nat → Int32} {zf : Value} {D : dD} {E : rE} {w : Nat} (hD : rO D E L xs) : ∀ (i1 : Int32) (i2 : Int32) (i3 : Int32) (i4 : Int32) (s0 : Int32) (h : rm_H) (s : rS) (r : rA), RS h s → s400_24 E w i1 i2 i3 i4 s0 s = some r → rx (b400_24 L xs zf D w (some 36) i1 i2 i3 i4 s0 h) h r := by
  intro i1 i2 i3 i4 s0 h s r hR hh
  unfold s400_24 at hh
  unfold b400_24
  refine rx_b (rs_gR hR 11 44 rfl) ?_
  obtain ⟨x1, q2, hh⟩ := db hh
  refine rx_b (rs_aI_ok hR q2) ?_
  rcases di hh with ⟨q3, hh⟩ | ⟨q3, hh⟩
  · refine rx_t q3 ?_
    obtain ⟨y4, q5, hh⟩ := db hh
    obtain ⟨h6, e7, hR, f8⟩ := rs_vJ hD hR q5
    refine rx_c e7 f8 ?_
    obtain ⟨y9, q10, hh⟩ := db hh
    obtain ⟨h11, e12, hR, f13⟩ := rs_vJ hD hR q10
    refine rx_c e12 f13 ?_
    rcases di hh with ⟨q14, hh⟩ | ⟨q14, hh⟩
    · refine rx_t q14 ?_
      refine rx_b (rs_gR hR 20 53 rfl) ?_
      obtain ⟨x15, q16, hh⟩ := db hh
      refine rx_b (rs_aI_ok hR q16) ?_
      obtain ⟨y17, q18, hh⟩ := db hh
      obtain ⟨h19, e20, hR, f21⟩ := rs_vJ hD hR q18
      refine rx_c e20 f21 ?_
      obtain ⟨x22, q23, hh⟩ := db hh
      obtain ⟨h24, e25, hR, f26⟩ := rs_cI hD hR q23
      refine rx_c e25 f26 ?_
      rcases di hh with ⟨q27, hh⟩ | ⟨q27, hh⟩
      · refine rx_t q27 ?_
        refine rx_b (rs_gR hR 95 96 rfl) ?_
        refine rx_b (rs_gR hR 86 88 rfl) ?_
        obtain ⟨x28, q29, hh⟩ := db hh
        refine rx_b (rs_aI_ok hR q29) ?_
        refine rx_b (rs_gR hR 20 53 rfl) ?_
        obtain ⟨x30, q31, hh⟩ := db hh
        refine rx_b (rs_aI_ok hR q31) ?_
        obtain ⟨s32, q33, hh⟩ := db hh
        obtain ⟨h34, e35, hR, f36⟩ := rs_sJ_ok hR q33
        refine rx_w e35 f36 ?_
        exact r400_184 hD _ _ _ _ _ _ _ _ hR hh
      · refine rx_f q27 ?_
        refine rx_b (rs_gR hR 94 95 rfl) ?_
        refine rx_b (rs_gR hR 20 53 rfl) ?_
        obtain ⟨x37, q38, hh⟩ := db hh
        refine rx_b (rs_aI_ok hR q38) ?_
        obtain ⟨s39, q40, hh⟩ := db hh
        obtain ⟨h41, e42, hR, f43⟩ := rs_sJ_ok hR q40
        refine rx_w e42 f43 ?_
        exact r400_184 hD _ _ _ _ _ _ _ _ hR hh
    · refine rx_f q14 ?_
      exact rx_I hR hh
  · refine rx_f q3 ?_
    obtain ⟨y44, q45, hh⟩ := db hh
    obtain ⟨h46, e47, hR, f48⟩ := rs_vJ hD hR q45
    refine rx_c e47 f48 ?_
    refine rx_b (rs_gR hR 100 101 rfl) ?_
    refine rx_b (rs_gR hR 20 53 rfl) ?_
    obtain ⟨x49, q50, hh⟩ := db hh
    refine rx_b (rs_aI_ok hR q50) ?_
    obtain ⟨y51, q52, hh⟩ := db hh
    refine rx_b (rs_aJ_ok hR q52) ?_
    refine rx_b (rs_gR hR 100 101 rfl) ?_
    refine rx_b (rs_gR hR 20 53 rfl) ?_
    obtain ⟨x53, q54, hh⟩ := db hh
    refine rx_b (rs_aI_ok hR q54) ?_
    obtain ⟨s55, q56, hh⟩ := db hh
    obtain ⟨h57, e58, hR, f59⟩ := rs_sJ_ok hR q56
    refine rx_w e58 f59 ?_
    exact r400_184 hD _ _ _ _ _ _ _ _ hR hh
def s400_0 (E : rE) (w : Nat) (i1 : Int32) (i2 : Int32) (i3 : Int32) (s : rS) : Option rA :=
  (rs_aI s 45 i3).bind fun x1 =>
  (rs_aI s 44 i3).bind fun x3 =>
  if mx_f2 .ne x3 7 = true then
    s400_24 E w i1 i2 i3 x1 0 s
  else
    s400_24 E w i1 i2 i3 x1 1 s
theorem r400_0 {L : Nat} {xs : Nat → Int32} {zf : Value} {D : dD} {E : rE} {w : Nat} (hD : rO D E L xs) : ∀ (i1 : Int32) (i2 : Int32) (i3 : Int32) (h : rm_H) (s : rS) (r : rA), RS h s → s400_0 E w i1 i2 i3 s = some r → rx (b400_0 L xs zf D w (some 36) i1 i2 i3 h) h r := by
  intro i1 i2 i3 h s r hR hh
  unfold s400_0 at hh
  unfold b400_0
  refine rx_b (rs_gR hR 12 45 rfl) ?_
  obtain ⟨x1, q2, hh⟩ := db hh
  refine rx_b (rs_aI_ok hR q2) ?_
  refine rx_b (rs_gR hR 11 44 rfl) ?_
  obtain ⟨x3, q4, hh⟩ := db hh
  refine rx_b (rs_aI_ok hR q4) ?_
  rcases di hh with ⟨q5, hh⟩ | ⟨q5, hh⟩
  · refine rx_t q5 ?_
    exact r400_24 hD _ _ _ _ _ _ _ _ hR hh
  · refine rx_f q5 ?_
    exact r400_24 hD _ _ _ _ _ _ _ _ hR hh
def g400 (E : rE) (w : Nat) (As : List Value) (s : rS) : Option rA := match As with
  | [.ref 36, .int i1, .int i2, .int i3] => s400_0 E w i1 i2 i3 s
  | _ => none
theorem t400 {L : Nat} {xs : Nat → Int32} {zf : Value} {D : dD} {E : rE} {w : Nat} (hD : rO D E L xs) (As : List Value) (h : rm_H) (s : rS) (r : rA) (hR : RS h s) (hh : g400 E w As s = some r) : rx (f400 L xs zf D w As h) h r := by
  unfold g400 at hh
  split at hh
  · unfold f400
    dsimp only
    refine rx_b (a := some 36) rfl ?_
    exact r400_0 hD _ _ _ _ _ _ hR hh
  · cases hh
def s401_27 (E : rE) (w : Nat) (s0 : Int32) (s : rS) : Option rA :=
  rrI (some .int) s0 s
theorem r401_27 {L : Nat} {xs : Nat → Int32} {zf : Value} {D : dD} {E : rE} {w : Nat} (hD : rO D E L xs) : ∀ (s0 : Int32) (h : rm_H) (s : rS) (r : rA), RS h s → s401_27 E w s0 s = some r → rx (b401_27 L xs zf D w s0 h) h r := by
  intro s0 h s r hR hh
  unfold s401_27 at hh
  unfold b401_27
  exact rx_I hR hh
def s401_0 (E : rE) (w : Nat) (i1 : Int32) (s : rS) : Option rA :=
  (rs_aI s 45 i1).bind fun x1 =>
  if mx_f1 .ne x1 = true then
    (rs_aI s 45 i1).bind fun x4 =>
    ((E 386 [.ref 36, .int x4] s).bind rxI).bind fun x6 =>
    s401_27 E w x6.1 x6.2
  else
    ((E 393 [.ref 36, .int i1] s).bind rxI).bind fun x11 =>
    s401_27 E w x11.1 x11.2
theorem r401_0 {L : Nat} {xs : Nat → Int32} {zf : Value} {D : dD} {E : rE} {w : Nat} (hD : rO D E L xs) : ∀ (i1 : Int32) (h : rm_H) (s : rS) (r : rA), RS h s → s401_0 E w i1 s = some r → rx (b401_0 L xs zf D w (some 36) i1 h) h r := by
  intro i1 h s r hR hh
  unfold s401_0 at hh
  unfold b401_0
  refine rx_b (rs_gR hR 12 45 rfl) ?_
  obtain ⟨x1, q2, hh⟩ := db hh
  refine rx_b (rs_aI_ok hR q2) ?_
  rcases di hh with ⟨q3, hh⟩ | ⟨q3, hh⟩
  · refine rx_t q3 ?_
    refine rx_b (rs_gR hR 12 45 rfl) ?_
    obtain ⟨x4, q5, hh⟩ := db hh
    refine rx_b (rs_aI_ok hR q5) ?_
    obtain ⟨x6, q7, hh⟩ := db hh
    obtain ⟨h8, e9, hR, f10⟩ := rs_vI hD hR q7
    refine rx_c e9 f10 ?_
    exact r401_27 hD _ _ _ _ hR hh
  · refine rx_f q3 ?_
    obtain ⟨x11, q12, hh⟩ := db hh
    obtain ⟨h13, e14, hR, f15⟩ := rs_vI hD hR q12
    refine rx_c e14 f15 ?_
    exact r401_27 hD _ _ _ _ hR hh
def g401 (E : rE) (w : Nat) (As : List Value) (s : rS) : Option rA := match As with
  | [.ref 36, .int i1] => s401_0 E w i1 s
  | _ => none
theorem t401 {L : Nat} {xs : Nat → Int32} {zf : Value} {D : dD} {E : rE} {w : Nat} (hD : rO D E L xs) (As : List Value) (h : rm_H) (s : rS) (r : rA) (hR : RS h s) (hh : g401 E w As s = some r) : rx (f401 L xs zf D w As h) h r := by
  unfold g401 at hh
  split at hh
  · unfold f401
    dsimp only
    refine rx_b (a := some 36) rfl ?_
    exact r401_0 hD _ _ _ _ hR hh
  · cases hh
def s402_10 (E : rE) (w : Nat) (s : rS) : Option rA :=
  rrI (some .int) (-1) s
theorem r402_10 {L : Nat} {xs : Nat → Int32} {zf : Value} {D : dD} {E : rE} {w : Nat} (hD : rO D E L xs) : ∀ (h : rm_H) (s : rS) (r : rA), RS h s → s402_10 E w s = some r → rx (b402_10 L xs zf D w h) h r := by
  intro h s r hR hh
  unfold s402_10 at hh
  unfold b402_10
  exact rx_I hR hh
def s402_0 (E : rE) (w : Nat) (i1 : Int32) (s : rS) : Option rA :=
  if mx_f1 .lt i1 = true then
    s402_10 E w s
  else
    if mx_f2 .le i1 7 = true then
      if mx_f1 .ne (s.1 74) = true then
        if dsw 0 6 i1 = true then
          rrI (some .int) (s.1 84) s
        else if i1 = 0 then
          rrI (some .int) (s.1 75) s
        else if i1 = 1 then
          rrI (some .int) (s.1 76) s
        else if i1 = 2 then
          rrI (some .int) (s.1 77) s
        else if i1 = 3 then
          rrI (some .int) (s.1 80) s
        else if i1 = 4 then
          rrI (some .int) (s.1 81) s
        else if i1 = 5 then
          rrI (some .int) (s.1 82) s
        else if i1 = 6 then
          rrI (some .int) (s.1 83) s
        else none
      else
        rrI (some .int) 0 s
    else
      s402_10 E w s
theorem r402_0 {L : Nat} {xs : Nat → Int32} {zf : Value} {D : dD} {E : rE} {w : Nat} (hD : rO D E L xs) : ∀ (i1 : Int32) (h : rm_H) (s : rS) (r : rA), RS h s → s402_0 E w i1 s = some r → rx (b402_0 L xs zf D w (some 36) i1 h) h r := by
  intro i1 h s r hR hh
  unfold s402_0 at hh
  unfold b402_0
  rcases di hh with ⟨q1, hh⟩ | ⟨q1, hh⟩
  · refine rx_t q1 ?_
    exact r402_10 hD  _ _ _ hR hh
  · refine rx_f q1 ?_
    rcases di hh with ⟨q2, hh⟩ | ⟨q2, hh⟩
    · refine rx_t q2 ?_
      refine rx_b (rs_gI hR 74 _ rfl) ?_
      rcases di hh with ⟨q3, hh⟩ | ⟨q3, hh⟩
      · refine rx_t q3 ?_
        rcases di hh with ⟨q4, hh⟩ | ⟨q4, hh⟩
        · refine rx_t q4 ?_
          refine rx_b (rs_gI hR 84 _ rfl) ?_
          exact rx_I hR hh
        refine rx_f q4 ?_
        rcases dp hh with ⟨q5, hh⟩ | ⟨q5, hh⟩
        · refine rx_pt q5 ?_
          refine rx_b (rs_gI hR 75 _ rfl) ?_
          exact rx_I hR hh
        refine rx_pf q5 ?_
        rcases dp hh with ⟨q6, hh⟩ | ⟨q6, hh⟩
        · refine rx_pt q6 ?_
          refine rx_b (rs_gI hR 76 _ rfl) ?_
          exact rx_I hR hh
        refine rx_pf q6 ?_
        rcases dp hh with ⟨q7, hh⟩ | ⟨q7, hh⟩
        · refine rx_pt q7 ?_
          refine rx_b (rs_gI hR 77 _ rfl) ?_
          exact rx_I hR hh
        refine rx_pf q7 ?_
        rcases dp hh with ⟨q8, hh⟩ | ⟨q8, hh⟩
        · refine rx_pt q8 ?_
          refine rx_b (rs_gI hR 80 _ rfl) ?_
          exact rx_I hR hh
        refine rx_pf q8 ?_
        rcases dp hh with ⟨q9, hh⟩ | ⟨q9, hh⟩
        · refine rx_pt q9 ?_
          refine rx_b (rs_gI hR 81 _ rfl) ?_
          exact rx_I hR hh
        refine rx_pf q9 ?_
        rcases dp hh with ⟨q10, hh⟩ | ⟨q10, hh⟩
        · refine rx_pt q10 ?_
          refine rx_b (rs_gI hR 82 _ rfl) ?_
          exact rx_I hR hh
        refine rx_pf q10 ?_
        rcases dp hh with ⟨q11, hh⟩ | ⟨q11, hh⟩
        · refine rx_pt q11 ?_
          refine rx_b (rs_gI hR 83 _ rfl) ?_
          exact rx_I hR hh
        refine rx_pf q11 ?_
        cases hh
      · refine rx_f q3 ?_
        exact rx_I hR hh
    · refine rx_f q2 ?_
      exact r402_10 hD  _ _ _ hR hh
def g402 (E : rE) (w : Nat) (As : List Value) (s : rS) : Option rA := match As with
  | [.ref 36, .int i1] => s402_0 E w i1 s
  | _ => none
theorem t402 {L : Nat} {xs : Nat → Int32} {zf : Value} {D : dD} {E : rE} {w : Nat} (hD : rO D E L xs) (As : List Value) (h : rm_H) (s : rS) (r : rA) (hR : RS h s) (hh : g402 E w As s = some r) : rx (f402 L xs zf D w As h) h r := by
  unfold g402 at hh
  split at hh
  · unfold f402
    dsimp only
    refine rx_b (a := some 36) rfl ?_
    exact r402_0 hD _ _ _ _ hR hh
  · cases hh
def s403_0 (E : rE) (w : Nat) (i1 : Int32) (i2 : Int32) (s : rS) : Option rA :=
  ((E 381 [.ref 36, .int i1] s).bind rxI).bind fun x1 =>
  if mx_f1 .ne x1.1 = true then
    if dsw 0 4 i2 = true then
      rrI (some .int) (-1) x1.2
    else if i2 = 0 then
      (rs_aI x1.2 89 i1).bind fun x9 =>
      rrI (some .int) x9 x1.2
    else if i2 = 1 then
      (rs_aI x1.2 92 i1).bind fun x12 =>
      rrI (some .int) x12 x1.2
    else if i2 = 2 then
      (rs_aI x1.2 94 i1).bind fun x15 =>
      rrI (some .int) x15 x1.2
    else if i2 = 3 then
      (rs_aI x1.2 90 i1).bind fun x18 =>
      rrI (some .int) x18 x1.2
    else if i2 = 4 then
      (rs_aI x1.2 91 i1).bind fun x21 =>
      rrI (some .int) x21 x1.2
    else none
  else
    rrI (some .int) (-1) x1.2
theorem r403_0 {L : Nat} {xs : Nat → Int32} {zf : Value} {D : dD} {E : rE} {w : Nat} (hD : rO D E L xs) : ∀ (i1 : Int32) (i2 : Int32) (h : rm_H) (s : rS) (r : rA), RS h s → s403_0 E w i1 i2 s = some r → rx (b403_0 L xs zf D w (some 36) i1 i2 h) h r := by
  intro i1 i2 h s r hR hh
  unfold s403_0 at hh
  unfold b403_0
  obtain ⟨x1, q2, hh⟩ := db hh
  obtain ⟨h3, e4, hR, f5⟩ := rs_vI hD hR q2
  refine rx_c e4 f5 ?_
  rcases di hh with ⟨q6, hh⟩ | ⟨q6, hh⟩
  · refine rx_t q6 ?_
    rcases di hh with ⟨q7, hh⟩ | ⟨q7, hh⟩
    · refine rx_t q7 ?_
      exact rx_I hR hh
    refine rx_f q7 ?_
    rcases dp hh with ⟨q8, hh⟩ | ⟨q8, hh⟩
    · refine rx_pt q8 ?_
      refine rx_b (rs_gR hR 88 89 rfl) ?_
      obtain ⟨x9, q10, hh⟩ := db hh
      refine rx_b (rs_aI_ok hR q10) ?_
      exact rx_I hR hh
    refine rx_pf q8 ?_
    rcases dp hh with ⟨q11, hh⟩ | ⟨q11, hh⟩
    · refine rx_pt q11 ?_
      refine rx_b (rs_gR hR 91 92 rfl) ?_
      obtain ⟨x12, q13, hh⟩ := db hh
      refine rx_b (rs_aI_ok hR q13) ?_
      exact rx_I hR hh
    refine rx_pf q11 ?_
    rcases dp hh with ⟨q14, hh⟩ | ⟨q14, hh⟩
    · refine rx_pt q14 ?_
      refine rx_b (rs_gR hR 93 94 rfl) ?_
      obtain ⟨x15, q16, hh⟩ := db hh
      refine rx_b (rs_aI_ok hR q16) ?_
      exact rx_I hR hh
    refine rx_pf q14 ?_
    rcases dp hh with ⟨q17, hh⟩ | ⟨q17, hh⟩
    · refine rx_pt q17 ?_
      refine rx_b (rs_gR hR 89 90 rfl) ?_
      obtain ⟨x18, q19, hh⟩ := db hh
      refine rx_b (rs_aI_ok hR q19) ?_
      exact rx_I hR hh
    refine rx_pf q17 ?_
    rcases dp hh with ⟨q20, hh⟩ | ⟨q20, hh⟩
    · refine rx_pt q20 ?_
      refine rx_b (rs_gR hR 90 91 rfl) ?_
      obtain ⟨x21, q22, hh⟩ := db hh
      refine rx_b (rs_aI_ok hR q22) ?_
      exact rx_I hR hh
    refine rx_pf q20 ?_
    cases hh
  · refine rx_f q6 ?_
    exact rx_I hR hh
def g403 (E : rE) (w : Nat) (As : List Value) (s : rS) : Option rA := match As with
  | [.ref 36, .int i1, .int i2] => s403_0 E w i1 i2 s
  | _ => none
theorem t403 {L : Nat} {xs : Nat → Int32} {zf : Value} {D : dD} {E : rE} {w : Nat} (hD : rO D E L xs) (As : List Value) (h : rm_H) (s : rS) (r : rA) (hR : RS h s) (hh : g403 E w As s = some r) : rx (f403 L xs zf D w As h) h r := by
  unfold g403 at hh
  split at hh
  · unfold f403
    dsimp only
    refine rx_b (a := some 36) rfl ?_
    exact r403_0 hD _ _ _ _ _ hR hh
  · cases hh
def s404_26 (E : rE) (w : Nat) (s : rS) : Option rA :=
  rrI (some .int) 0 s
theorem r404_26 {L : Nat} {xs : Nat → Int32} {zf : Value} {D : dD} {E : rE} {w : Nat} (hD : rO D E L xs) : ∀ (h : rm_H) (s : rS) (r : rA), RS h s → s404_26 E w s = some r → rx (b404_26 L xs zf D w h) h r := by
  intro h s r hR hh
  unfold s404_26 at hh
  unfold b404_26
  exact rx_I hR hh
def s404_56 (E : rE) (w : Nat) (s0 : Int32) (s : rS) : Option rA :=
  rrI (some .int) s0 s
theorem r404_56 {L : Nat} {xs : Nat → Int32} {zf : Value} {D : dD} {E : rE} {w : Nat} (hD : rO D E L xs) : ∀ (s0 : Int32) (h : rm_H) (s : rS) (r : rA), RS h s → s404_56 E w s0 s = some r → rx (b404_56 L xs zf D w s0 h) h r := by
  intro s0 h s r hR hh
  unfold s404_56 at hh
  unfold b404_56
  exact rx_I hR hh
def s404_0 (E : rE) (w : Nat) (i1 : Int32) (i2 : Int32) (s : rS) : Option rA :=
  if mx_f1 .eq (s.1 74) = true then
    s404_26 E w s
  else
    if mx_f1 .lt i1 = true then
      s404_26 E w s
    else
      if mx_f2 .ge i1 (s.1 81) = true then
        s404_26 E w s
      else
        if mx_f2 .lt i1 200 = true then
          if mx_f1 .ne i2 = true then
            if mx_f2 .ne i2 1 = true then
              s404_56 E w 0 s
            else
              (rs_aI s 109 i1).bind fun x7 =>
              s404_56 E w x7 s
          else
            (rs_aI s 108 i1).bind fun x9 =>
            s404_56 E w x9 s
        else
          s404_26 E w s
theorem r404_0 {L : Nat} {xs : Nat → Int32} {zf : Value} {D : dD} {E : rE} {w : Nat} (hD : rO D E L xs) : ∀ (i1 : Int32) (i2 : Int32) (h : rm_H) (s : rS) (r : rA), RS h s → s404_0 E w i1 i2 s = some r → rx (b404_0 L xs zf D w (some 36) i1 i2 h) h r := by
  intro i1 i2 h s r hR hh
  unfold s404_0 at hh
  unfold b404_0
  refine rx_b (rs_gI hR 74 _ rfl) ?_
  rcases di hh with ⟨q1, hh⟩ | ⟨q1, hh⟩
  · refine rx_t q1 ?_
    exact r404_26 hD  _ _ _ hR hh
  · refine rx_f q1 ?_
    rcases di hh with ⟨q2, hh⟩ | ⟨q2, hh⟩
    · refine rx_t q2 ?_
      exact r404_26 hD  _ _ _ hR hh
    · refine rx_f q2 ?_
      refine rx_b (rs_gI hR 81 _ rfl) ?_
      rcases di hh with ⟨q3, hh⟩ | ⟨q3, hh⟩
      · refine rx_t q3 ?_
        exact r404_26 hD  _ _ _ hR hh
      · refine rx_f q3 ?_
        rcases di hh with ⟨q4, hh⟩ | ⟨q4, hh⟩
        · refine rx_t q4 ?_
          rcases di hh with ⟨q5, hh⟩ | ⟨q5, hh⟩
          · refine rx_t q5 ?_
            rcases di hh with ⟨q6, hh⟩ | ⟨q6, hh⟩
            · refine rx_t q6 ?_
              exact r404_56 hD _ _ _ _ hR hh
            · refine rx_f q6 ?_
              refine rx_b (rs_gR hR 108 109 rfl) ?_
              obtain ⟨x7, q8, hh⟩ := db hh
              refine rx_b (rs_aI_ok hR q8) ?_
              exact r404_56 hD _ _ _ _ hR hh
          · refine rx_f q5 ?_
            refine rx_b (rs_gR hR 107 108 rfl) ?_
            obtain ⟨x9, q10, hh⟩ := db hh
            refine rx_b (rs_aI_ok hR q10) ?_
            exact r404_56 hD _ _ _ _ hR hh
        · refine rx_f q4 ?_
          exact r404_26 hD  _ _ _ hR hh
def g404 (E : rE) (w : Nat) (As : List Value) (s : rS) : Option rA := match As with
  | [.ref 36, .int i1, .int i2] => s404_0 E w i1 i2 s
  | _ => none
theorem t404 {L : Nat} {xs : Nat → Int32} {zf : Value} {D : dD} {E : rE} {w : Nat} (hD : rO D E L xs) (As : List Value) (h : rm_H) (s : rS) (r : rA) (hR : RS h s) (hh : g404 E w As s = some r) : rx (f404 L xs zf D w As h) h r := by
  unfold g404 at hh
  split at hh
  · unfold f404
    dsimp only
    refine rx_b (a := some 36) rfl ?_
    exact r404_0 hD _ _ _ _ _ hR hh
  · cases hh
def s405_30 (E : rE) (w : Nat) (s : rS) : Option rA :=
  rrI (some .int) (-1) s
theorem r405_30 {L : Nat} {xs : Nat → Int32} {zf : Value} {D : dD} {E : rE} {w : Nat} (hD : rO D E L xs) : ∀ (h : rm_H) (s : rS) (r : rA), RS h s → s405_30 E w s = some r → rx (b405_30 L xs zf D w h) h r := by
  intro h s r hR hh
  unfold s405_30 at hh
  unfold b405_30
  exact rx_I hR hh
def s405_0 (E : rE) (w : Nat) (i1 : Int32) (i2 : Int32) (s : rS) : Option rA :=
  ((E 406 [.ref 36] s).bind rxV).bind fun s1 =>
  ((E 381 [.ref 36, .int i1] s1).bind rxI).bind fun x6 =>
  if mx_f1 .eq x6.1 = true then
    s405_30 E w x6.2
  else
    if mx_f1 .lt i2 = true then
      s405_30 E w x6.2
    else
      (rs_aI x6.2 89 i1).bind fun x13 =>
      ((E 373 [.ref 36, .int x13] x6.2).bind rxI).bind fun x15 =>
      if mx_f2 .lt i2 x15.1 = true then
        (rs_aJ x15.2 95 ((8 * i1) + i2)).bind fun y21 =>
        ((E 407 [.ref 36, .long y21, .ref 96, .int (400 * i1)] x15.2).bind rxV).bind fun s23 =>
        rrI (some .int) (s23.1 111) s23
      else
        s405_30 E w x15.2
theorem r405_0 {L : Nat} {xs : Nat → Int32} {zf : Value} {D : dD} {E : rE} {w : Nat} (hD : rO D E L xs) : ∀ (i1 : Int32) (i2 : Int32) (h : rm_H) (s : rS) (r : rA), RS h s → s405_0 E w i1 i2 s = some r → rx (b405_0 L xs zf D w (some 36) i1 i2 h) h r := by
  intro i1 i2 h s r hR hh
  unfold s405_0 at hh
  unfold b405_0
  obtain ⟨s1, q2, hh⟩ := db hh
  obtain ⟨h3, e4, hR, f5⟩ := rs_vV hD hR q2
  refine rx_w e4 f5 ?_
  obtain ⟨x6, q7, hh⟩ := db hh
  obtain ⟨h8, e9, hR, f10⟩ := rs_vI hD hR q7
  refine rx_c e9 f10 ?_
  rcases di hh with ⟨q11, hh⟩ | ⟨q11, hh⟩
  · refine rx_t q11 ?_
    exact r405_30 hD  _ _ _ hR hh
  · refine rx_f q11 ?_
    rcases di hh with ⟨q12, hh⟩ | ⟨q12, hh⟩
    · refine rx_t q12 ?_
      exact r405_30 hD  _ _ _ hR hh
    · refine rx_f q12 ?_
      refine rx_b (rs_gR hR 88 89 rfl) ?_
      obtain ⟨x13, q14, hh⟩ := db hh
      refine rx_b (rs_aI_ok hR q14) ?_
      obtain ⟨x15, q16, hh⟩ := db hh
      obtain ⟨h17, e18, hR, f19⟩ := rs_vI hD hR q16
      refine rx_c e18 f19 ?_
      rcases di hh with ⟨q20, hh⟩ | ⟨q20, hh⟩
      · refine rx_t q20 ?_
        refine rx_b (rs_gR hR 94 95 rfl) ?_
        obtain ⟨y21, q22, hh⟩ := db hh
        refine rx_b (rs_aJ_ok hR q22) ?_
        refine rx_b (rs_gR hR 95 96 rfl) ?_
        obtain ⟨s23, q24, hh⟩ := db hh
        obtain ⟨h25, e26, hR, f27⟩ := rs_vV hD hR q24
        refine rx_w e26 f27 ?_
        refine rx_b (rs_gI hR 111 _ rfl) ?_
        exact rx_I hR hh
      · refine rx_f q20 ?_
        exact r405_30 hD  _ _ _ hR hh
def g405 (E : rE) (w : Nat) (As : List Value) (s : rS) : Option rA := match As with
  | [.ref 36, .int i1, .int i2] => s405_0 E w i1 i2 s
  | _ => none
theorem t405 {L : Nat} {xs : Nat → Int32} {zf : Value} {D : dD} {E : rE} {w : Nat} (hD : rO D E L xs) (As : List Value) (h : rm_H) (s : rS) (r : rA) (hR : RS h s) (hh : g405 E w As s = some r) : rx (f405 L xs zf D w As h) h r := by
  unfold g405 at hh
  split at hh
  · unfold f405
    dsimp only
    refine rx_b (a := some 36) rfl ?_
    exact r405_0 hD _ _ _ _ _ hR hh
  · cases hh
