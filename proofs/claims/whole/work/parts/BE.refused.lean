/-! BEHIND A FAULT: the class's parser goes on without harm. -/
/-- how class and reader stand behind a fault -/
def ZC (cx : Nat → Nat) (F : Nat → Nat → Int32) (q : List Value) (h : rm_H) (v : Nat → Int32) (x : Int32) (g : Nat → Nat) (ts : List Nat) (pt vr : Int32) : Prop := pC h cx F v ∧ rfd v x ∧ CH cx q h g ts pt vr
theorem va_s (p : Nat) : va_rf (some p) = .ref p := rfl
section RFU
variable {L : Nat} {xs : Nat → Int32} {zf : Value} {w k : Nat} {cx : Nat → Nat} {F : Nat → Nat → Int32} {q : List Value} {h h1 : rm_H} {g : Nat → Nat} {ts : List Nat} {pt vr x : Int32} {v : Nat → Int32}
theorem ZC_r (w : st1 (cx 0) h h1) (z : ZC cx F q h v x g ts pt vr) (hP : pC h1 cx F v) : ZC cx F q h1 v x g ts pt vr := ⟨hP, z.2.1, CH_r z.1 w z.2.2⟩
theorem ZC_ap {c : rm_E} (hcc : (∀ fs, c ≠ .inr (5, fs)) ∨ c = .inr (5, [.ref 5, .int 0, .int 0])) (z : ZC cx F q h v x g ts pt vr) : ZC cx F q (h ++ [c]) v x g ts pt vr := ⟨pC_ap z.1, z.2.1, CH_ap hcc z.2.2⟩
theorem ZC_w {a ci : Nat} {fs : List Value} (e : hc h a = some (.inr (ci, fs))) (hci : ci ≠ 4 ∧ ci ≠ 5 ∧ ci ≠ 11 ∧ ci ≠ 6 ∧ ci ≠ 8) (w : st1 a h h1) (z : ZC cx F q h v x g ts pt vr) : ZC cx F q h1 v x g ts pt vr := ⟨pC_w e ⟨hci.2.2.2.1, hci.2.2.2.2⟩ w z.1, z.2.1, CH_w e ⟨hci.1, hci.2.1, hci.2.2.1⟩ w z.2.2⟩
/-- a new Node of sort wh at the reader's place -/
theorem mk_nd (hP : pC h cx F v) (wh : Int32) : dM L xs zf w (k + 1) 120 [.ref (21 + h.length), .int wh, .int (v 7)] (h ++ [.inr (12, ah_DV 12)]) = some (none, h ++ [.inr (12, [.int wh, .int (v 7), .ref 9, .int (v 7), .int 0, .null, .null, .null, .null, .null, .null, .null, .int 0])]) := nd_new wh (v 7)
abbrev nd0 (wh pl : Int32) : rm_E := .inr (12, [.int wh, .int pl, .ref 9, .int pl, .int 0, .null, .null, .null, .null, .null, .null, .null, .int 0])
theorem nd0_5 (wh pl : Int32) : ∀ fs, nd0 wh pl ≠ .inr (5, fs) := fun fs z => by cases z
theorem zh_nd (wh pl : Int32) : zh (h ++ [nd0 wh pl]) = zh h + 13 := zh_app h _
theorem z_prim (z : ZC cx F q h v x g ts pt vr) (i2 : Int32) : ∃ h1, dM L xs zf w (k + 4) 125 [.ref (cx 7), .ref (cx 14), .int i2] h = some (some (.ref (21 + h1.length)), h1 ++ [nd0 1 (v 7)]) ∧ ZC cx F q h1 v x g ts (pt + 1) vr ∧ fr (fun y => y = cx 0 ∨ y = cx 8) h h1 ∧ h1.length = h.length ∧ zh h1 = zh h := by
  obtain ⟨z1, z2, z3⟩ := z
  obtain ⟨h2, a1, a2, a3, a4⟩ := p_parts z1 z3 (pt + 1)
  obtain ⟨h3, b1, b2, b3⟩ := z_ref (L := L) (xs := xs) (zf := zf) (w := w) (k := k + 2) z2 a2
  refine ⟨h3, ?_, ⟨b2, z2, CH_r a2 b3 a3⟩, fr_trans (fr_mono a4.1 (fun _ _ y => Or.inr y)) b3.1 (fun _ _ y => Or.inl y), by rw [b3.2.1, a4.2.1], by rw [b3.2.2, a4.2.2]⟩
  rw [e125]
  show b125_0 L xs zf (dM L xs zf w (k + 3)) w (some (cx 7)) (some (cx 14)) i2 h = _
  unfold b125_0
  have v6 := z2.2.1
  have i6 := c_I (L := L) (xs := xs) z1 6 (by omega)
  have j6 := c_I (L := L) (xs := xs) a2 6 (by omega)
  rw [v6] at i6 j6
  refine bse (c_in z1) (bse i6 (ift (by first | decide | (dsimp only; decide)) ?_))
  refine bse (c_out z1) (bse (p_gp z3) (bse a1 ?_))
  refine bse (c_in a2) (bse j6 ?_)
  refine ifn (by first | decide | exact dnl_s _ | (dsimp only; decide)) (ifn (by first | decide | exact dnl_s _ | (dsimp only; decide)) (ifn (by first | decide | exact dnl_s _ | (dsimp only; decide)) (ifn (by first | decide | exact dnl_s _ | (dsimp only; decide)) (ifn (by first | decide | exact dnl_s _ | (dsimp only; decide)) (ifn (by first | decide | exact dnl_s _ | (dsimp only; decide)) (ifn (by first | decide | exact dnl_s _ | (dsimp only; decide)) (ifn (by first | decide | exact dnl_s _ | (dsimp only; decide)) (ifn (by first | decide | exact dnl_s _ | (dsimp only; decide)) (ift (by first | decide | (dsimp only; decide)) ?_)))))))))
  refine bse (c_in a2) (bse (a := h3) (by rw [c_rv a2, b1]; rfl) (bse rfl ?_))
  refine bse (c_in (pC_ap b2)) (bse (c_I (pC_ap b2) 7 (by omega)) ?_)
  refine bse (a := h3 ++ [nd0 1 (v 7)]) ?_ rfl
  show (dM L xs zf w (k + 3) 120 [.ref (21 + h3.length), .int 1, .int (v 7)] (h3 ++ [.inr (12, ah_DV 12)])).bind dxV = _
  rw [nd_new (k := k + 2)]
  rfl
theorem z_term (hw : 1 ≤ w) (z : ZC cx F q h v x g ts pt vr) (i2 : Int32) : ∃ h1, dM L xs zf w (k + 5) 124 [.ref (cx 7), .ref (cx 14), .int i2] h = some (some (.ref (21 + h1.length)), h1 ++ [nd0 1 (v 7)]) ∧ ZC cx F q h1 v x g ts (pt + 1) vr ∧ fr (fun y => y = cx 0 ∨ y = cx 8) h h1 ∧ h1.length = h.length ∧ zh h1 = zh h := by
  obtain ⟨h1, a1, a2, a3⟩ := z_prim (L := L) (xs := xs) (zf := zf) (w := w) (k := k) z i2
  refine ⟨h1, ?_, a2, a3⟩
  obtain ⟨w', rfl⟩ : ∃ w', w = w' + 1 := ⟨w - 1, by omega⟩
  have hP : pC (h1 ++ [nd0 1 (v 7)]) cx F v := pC_ap a2.1
  have j6 := c_I (L := L) (xs := xs) hP 6 (by omega)
  rw [a2.2.1.2.1] at j6
  rw [e124]
  show b124_0 L xs zf (dM L xs zf (w' + 1) (k + 4)) (w' + 1) (some (cx 7)) (some (cx 14)) i2 h = _
  unfold b124_0
  refine bse (a := (some (21 + h1.length), h1 ++ [nd0 1 (v 7)])) (by rw [c_pv z.1, va_s, a1]; rfl) ?_
  rw [b124_10]
  refine ifn (by first | decide | exact dnl_s _ | (dsimp only; decide)) (bse (c_in hP) (bse j6 (ifn (by first | decide | exact dnl_s _ | (dsimp only; decide)) (bse (c_in hP) (bse j6 (ift (by first | decide | (dsimp only; decide)) rfl))))))
/-- an expression -/
theorem z_expr (hw : 1 ≤ w) (z : ZC cx F q h v x g ts pt vr) (i2 : Int32) : ∃ h1 pt', dM L xs zf w (k + 6) 123 [.ref (cx 7), .ref (cx 14), .int i2] h = some (some (.ref (21 + h1.length)), h1 ++ [nd0 1 (v 7)]) ∧ ZC cx F q h1 v x g ts pt' vr ∧ fr (fun y => y = cx 0 ∨ y = cx 8) h h1 ∧ h1.length = h.length ∧ zh h1 = zh h := by
  by_cases d : mx_f2 .le i2 24 = true
  · obtain ⟨h1, a1, a2, a3⟩ := z_term (L := L) (xs := xs) (zf := zf) (w := w) (k := k) hw z i2
    refine ⟨h1, pt + 1, ?_, a2, a3⟩
    obtain ⟨w', rfl⟩ : ∃ w', w = w' + 1 := ⟨w - 1, by omega⟩
    have hP : pC (h1 ++ [nd0 1 (v 7)]) cx F v := pC_ap a2.1
    rw [e123]
    show b123_0 L xs zf (dM L xs zf (w' + 1) (k + 5)) (w' + 1) (some (cx 7)) (some (cx 14)) i2 h = _
    unfold b123_0
    refine ift d (bse (a := (some (21 + h1.length), h1 ++ [nd0 1 (v 7)])) (by rw [c_pv z.1, va_s, a1]; rfl) ?_)
    rw [b123_39]
    refine ifn (by first | decide | exact dnl_s _ | (dsimp only; decide)) (bse (c_in hP) (bse (a := ((0 : Int32), h1 ++ [nd0 1 (v 7)])) ?_ (ift (by first | decide | (dsimp only; decide)) rfl)))
    rw [c_rv hP, c_op (k := k + 4) hP, a2.2.1.2.1]
    rfl
  · obtain ⟨h1, b1, b2, b3⟩ := z_ref (L := L) (xs := xs) (zf := zf) (w := w) (k := k + 4) z.2.1 z.1
    refine ⟨h1, pt, ?_, ZC_r b3 z b2, fr_mono b3.1 (fun _ _ y => Or.inl y), b3.2.1, b3.2.2⟩
    rw [e123]
    show b123_0 L xs zf (dM L xs zf w (k + 5)) w (some (cx 7)) (some (cx 14)) i2 h = _
    unfold b123_0
    refine ifn d (bse (c_in z.1) (bse (a := h1) (by rw [c_rv z.1, b1]; rfl) (bse rfl ?_)))
    refine bse (c_in (pC_ap b2)) (bse (c_I (pC_ap b2) 7 (by omega)) ?_)
    refine bse (a := h1 ++ [nd0 1 (v 7)]) ?_ rfl
    show (dM L xs zf w (k + 5) 120 [.ref (21 + h1.length), .int 1, .int (v 7)] (h1 ++ [.inr (12, ah_DV 12)])).bind dxV = _
    rw [nd_new (k := k + 4)]
    rfl
/-- a block -/
theorem z_block (hw : 1 ≤ w) (z : ZC cx F q h v x g ts pt vr) (i2 : Int32) : ∃ h', dM L xs zf w (k + 5) 119 [.ref (cx 7), .ref (cx 14), .int i2] h = some (some (.ref (21 + h.length)), h') ∧ ZC cx F q h' v x g ts pt vr ∧ nW h' (21 + h.length) ∧ fr (fun y => y = cx 0) h h' ∧ h'.length = h.length + 1 ∧ zh h' = zh h + 13 := by
  have zc : ZC cx F q (h ++ [nd0 14 (v 7)]) v x g ts pt vr := ZC_ap (Or.inl (nd0_5 _ _)) z
  have hn : nW (h ++ [nd0 14 (v 7)]) (21 + h.length) := nW_new _ _
  have hne : 21 + h.length ≠ cx 0 := by have := hc_lt (pC_r z.1); omega
  have head : ∀ r, (if mx_f2 .le i2 24 = true then ((dcV L xs (dM L xs zf w (k + 4)) 109 [8] (some (cx 7)) [.int 5] (h ++ [nd0 14 (v 7)])).bind dxV).bind fun h16 => b119_40 L xs zf (dM L xs zf w (k + 4)) w w (some (cx 7)) (some (cx 14)) i2 (some (21 + h.length)) 0 h16 else (dgR L xs (h ++ [nd0 14 (v 7)]) 0 [8] (some (cx 7))).bind fun p25 => ((dcV L xs (dM L xs zf w (k + 4)) 95 [6] p25 [] (h ++ [nd0 14 (v 7)])).bind dxV).bind fun h27 => some (some (va_rf (some (21 + h.length))), h27)) = r → dM L xs zf w (k + 5) 119 [.ref (cx 7), .ref (cx 14), .int i2] h = r := by
    intro r hr
    rw [e119]
    show b119_0 L xs zf (dM L xs zf w (k + 4)) w (some (cx 7)) (some (cx 14)) i2 h = _
    unfold b119_0
    have hP0 : pC (h ++ [.inr (12, ah_DV 12)]) cx F v := pC_ap z.1
    show (dgR L xs (h ++ [.inr (12, ah_DV 12)]) 0 [8] (some (cx 7))).bind _ = _
    rw [c_in hP0]
    show (dgI L xs (h ++ [.inr (12, ah_DV 12)]) 7 [6] (some (cx 0))).bind _ = _
    rw [c_I hP0 7 (by omega)]
    show ((dM L xs zf w (k + 4) 120 [.ref (21 + h.length), .int 14, .int (v 7)] (h ++ [.inr (12, ah_DV 12)])).bind dxV).bind _ = _
    rw [nd_new (k := k + 3)]
    exact hr
  by_cases d : mx_f2 .le i2 24 = true
  · obtain ⟨h1, a1, a2, a3⟩ := z_take (L := L) (xs := xs) (zf := zf) (w := w) (k := k) zc.2.1 zc.1 5 (by decide)
    have n1 : nW h1 (21 + h.length) := nW_st hn a3 hne
    obtain ⟨h2, b1, b2, b3, b4, b5⟩ := nW_w (j := 3) (v := .int (v 7)) n1 (by decide) (by decide) (fun y => absurd y (by decide)) rfl
    obtain ⟨fs, ec, _⟩ := id n1
    have z2 : ZC cx F q h2 v x g ts pt vr := ZC_w ec (by decide) b4 (ZC_r a3 zc a2)
    obtain ⟨h3, c1, c2, c3⟩ := z_take (L := L) (xs := xs) (zf := zf) (w := w) (k := k) z2.2.1 z2.1 6 (by decide)
    refine ⟨h3, head _ ?_, ZC_r c3 z2 c2, nW_st b5 c3 hne, ?_, ?_, ?_⟩
    · rw [if_pos d, c_pv zc.1, a1]
      obtain ⟨w', rfl⟩ : ∃ w', w = w' + 1 := ⟨w - 1, by omega⟩
      show b119_40 L xs zf (dM L xs zf (w' + 1) (k + 4)) (w' + 1) (w' + 1) (some (cx 7)) (some (cx 14)) i2 (some (21 + h.length)) 0 h1 = _
      rw [b119_40]
      have i6 := c_I (L := L) (xs := xs) a2 6 (by omega)
      rw [zc.2.1.2.1] at i6
      have i8 := c_I (L := L) (xs := xs) a2 8 (by omega)
      refine ifn (by first | decide | exact dnl_s _ | (dsimp only; decide)) (bse (c_in a2) (bse i6 (ifn (by first | decide | exact dnl_s _ | (dsimp only; decide)) (bse (c_in a2) (bse i8 (ift ?_ ?_))))))
      · rw [f2_ne]
        apply decide_eq_true
        rw [zc.2.1.1]
        exact zc.2.1.2.2
      · unfold b119_87
        refine bse (c_in a2) (bse (c_I a2 7 (by omega)) (bse b1 ?_))
        exact bse (a := h3) (by rw [c_pv z2.1, c1]; rfl) rfl
    · refine fr_trans (fr_trans (fr_trans (fr_app _ _) a3.1 (fun _ _ y => y)) b4.1 (fun y hy e => ?_)) c3.1 (fun _ _ y => y)
      omega
    · rw [c3.2.1, b4.2.1, a3.2.1, List.length_append]; rfl
    · rw [c3.2.2, b4.2.2, a3.2.2, zh_nd]
  · obtain ⟨h1, b1, b2, b3⟩ := z_ref (L := L) (xs := xs) (zf := zf) (w := w) (k := k + 3) zc.2.1 zc.1
    refine ⟨h1, head _ ?_, ZC_r b3 zc b2, nW_st hn b3 hne, fr_trans (fr_app _ _) b3.1 (fun _ _ y => y), ?_, ?_⟩
    · rw [if_neg d, c_in zc.1]
      show ((dcV L xs (dM L xs zf w (k + 4)) 95 [6] (some (cx 0)) [] _).bind dxV).bind _ = _
      rw [c_rv zc.1, b1]
      rfl
    · rw [b3.2.1, List.length_append]; rfl
    · rw [b3.2.2, zh_nd]
end RFU
