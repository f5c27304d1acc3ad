/-! A DECLARATION (NAME : TYPE) IS READ BY THE CLASS. -/
section DC
variable {L : Nat} {xs : Nat → Int32} {zf : Value} {w k i : Nat} {cx : Nat → Nat} {F : Nat → Nat → Int32} {N : Nat → Int64} {q : List Value} {h h1 h2 : rm_H} {g : Nat → Nat} {ts : List Nat} {pt vr x : Int32} {v0 : Nat → Int32}
theorem st1_trans {a : Nat} (s1 : st1 a h h1) (s2 : st1 a h1 h2) : st1 a h h2 := ⟨fr_trans s1.1 s2.1 (fun _ _ z => z), s2.2.1.trans s1.2.1, s2.2.2.trans s1.2.2⟩
theorem st1_refl (a : Nat) (h : rm_H) : st1 a h h := ⟨fr_refl _ _, rfl, rfl⟩
theorem dc_init {d nm : Nat} {pl : Int32} (hd : hc h d = some (.inr (10, ah_DV 10))) : ∃ h', dM L xs zf w (k + 1) 112 [.ref d, .ref nm, .int pl] h = some (none, h') ∧ hc h' d = some (dcC nm pl (-1) (-1) none (-1) 0 0 0) ∧ st1 d h h' := by
  obtain ⟨a1, b1, c1, d1⟩ := pF_ex (j := 0) (cis := [10]) (v := .ref nm) (u := .null) hd rfl (by decide) rfl (by decide)
  obtain ⟨a2, b2, c2, d2⟩ := pF_ex (j := 1) (cis := [10]) (v := .int pl) (u := .int 0) c1 rfl (by decide) rfl (by decide)
  obtain ⟨a3, b3, c3, d3⟩ := pF_ex (j := 2) (cis := [10]) (v := .int (-1)) (u := .int 0) c2 rfl (by decide) rfl (by decide)
  obtain ⟨a4, b4, c4, d4⟩ := pF_ex (j := 3) (cis := [10]) (v := .int (-1)) (u := .int 0) c3 rfl (by decide) rfl (by decide)
  obtain ⟨a5, b5, c5, d5⟩ := pF_ex (j := 4) (cis := [10]) (v := .null) (u := .null) c4 rfl (by decide) rfl (by decide)
  obtain ⟨a6, b6, c6, d6⟩ := pF_ex (j := 5) (cis := [10]) (v := .int (-1)) (u := .int 0) c5 rfl (by decide) rfl (by decide)
  obtain ⟨a7, b7, c7, d7⟩ := pF_ex (j := 6) (cis := [10]) (v := .int 0) (u := .int 0) c6 rfl (by decide) rfl (by decide)
  obtain ⟨a8, b8, c8, d8⟩ := pF_ex (j := 7) (cis := [10]) (v := .int 0) (u := .int 0) c7 rfl (by decide) rfl (by decide)
  obtain ⟨a9, b9, c9, d9⟩ := pF_ex (j := 8) (cis := [10]) (v := .int 0) (u := .int 0) c8 rfl (by decide) rfl (by decide)
  refine ⟨a9, ?_, c9, st1_trans (st1_trans (st1_trans (st1_trans (st1_trans (st1_trans (st1_trans (st1_trans d1 d2) d3) d4) d5) d6) d7) d8) d9⟩
  rw [e112]
  show b112_0 L xs zf (dM L xs zf w k) w (some d) (some nm) pl h = _
  unfold b112_0
  exact ifn (dnl_s _) (bse b1 (bse b2 (bse b3 (bse b4 (bse b5 (bse b6 (bse b7 (bse b8 (bse b9 rfl)))))))))
/-- behind a fault -/
theorem z_decl (z : ZC cx F q h v0 x g ts pt vr) (hn : ts.length ≤ 99000) : ∃ h' ar' cap', dM L xs zf w (k + 8) 111 [.ref (cx 7)] h = some (some (.ref (21 + h.length)), h') ∧ ZC cx F q h' v0 x (gu (gu g 1 ar') 2 cap') (ts ++ [21 + h.length]) pt vr ∧ (∃ nm pl cp cpl' ti tp, hc h' (21 + h.length) = some (dcC nm pl cp cpl' ti tp 0 0 0)) ∧ fr (fun y => y = cx 0 ∨ y = cx 11 ∨ y = g 1) h h' ∧ h'.length ≤ h.length + 2 ∧ (ar' = g 1 ∨ 21 + h.length ≤ ar') ∧ zh h' + 4 * g 2 ≤ zh h + 4 * cap' + 9 := by
  have z1 : ZC cx F q (h ++ [.inr (10, ah_DV 10)]) v0 x g ts pt vr := ZC_ap (Or.inl (fun fs y => by cases y)) z
  obtain ⟨h2, a1, a2, a3⟩ := z_tw (L := L) (xs := xs) (zf := zf) (w := w) (k := k + 5) z1.2.1 z1.1 2 (by decide)
  have z2 := ZC_r a3 z1 a2
  have d0 : 21 + h.length ≠ cx 0 := by have := hc_lt (pC_r z.1); omega
  have hd2 : hc h2 (21 + h.length) = some (.inr (10, ah_DV 10)) := st1_old a3 (hc_new _) d0
  obtain ⟨h3, b1, b2, b3⟩ := dc_init (L := L) (xs := xs) (zf := zf) (w := w) (k := k + 6) (nm := 9) (pl := v0 7) hd2
  have z3 := ZC_w hd2 (by decide) b3 z2
  obtain ⟨h4, c1, c2, c3⟩ := z_take (L := L) (xs := xs) (zf := zf) (w := w) (k := k + 3) z3.2.1 z3.1 11 (by decide)
  have z4 := ZC_r c3 z3 c2
  have hd4 := st1_old c3 b2 d0
  obtain ⟨h5, ar', cap', e1, e2, e3, e4, e5, e6, e7⟩ := z_type (L := L) (xs := xs) (zf := zf) (w := w) (k := k) z4 hd4 hn
  have l4 : h4.length = h.length + 1 := by rw [c3.2.1, b3.2.1, a3.2.1, List.length_append]; rfl
  have y4 : zh h4 = zh h + 9 := by rw [c3.2.2, b3.2.2, a3.2.2, zh_app]; rfl
  refine ⟨h5, ar', cap', ?_, e2, ⟨_, _, _, _, _, _, e3⟩, ?_, by omega, ?_, by omega⟩
  · rw [e111]
    show b111_0 L xs zf (dM L xs zf w (k + 7)) w (some (cx 7)) h = _
    unfold b111_0
    refine bse (c_in z.1) (bse (c_I z.1 7 (by omega)) (bse rfl ?_))
    refine bse (a := (some 9, h2)) (by rw [c_pv z1.1, a1]; rfl) ?_
    refine bse (a := h3) ?_ ?_
    · show (dM L xs zf w (k + 7) 112 [.ref (21 + h.length), .ref 9, .int (v0 7)] h2).bind dxV = _
      rw [b1]
      rfl
    refine bse (a := h4) (by rw [c_pv z3.1, c1]; rfl) ?_
    exact bse (a := h5) (by rw [c_pv z4.1, show va_rf (some (21 + h.length)) = .ref (21 + h.length) from rfl, e1]; rfl) rfl
  · refine fr_trans (fr_trans (fr_trans (fr_trans (fr_app _ _) a3.1 (fun _ _ u => Or.inl u)) b3.1 (fun y hy u => ?_)) c3.1 (fun _ _ u => Or.inl u)) e4 (fun y hy u => ?_)
    · omega
    · rcases u with u | u | u | u
      · exact Or.inl u
      · exact Or.inr (Or.inl u)
      · exact Or.inr (Or.inr u)
      · omega
  · omega
/-- what the class has read of a declaration -/
def dcO (L : Nat) (xs : Nat → Int32) (cx : Nat → Nat) (F : Nat → Nat → Int32) (N : Nat → Int64) (h : rm_H) (i d : Nat) (v : Nat → Int32) : Prop :=
  (ctk cx F i = 2 ∧ ctk cx F (i + 1) = 11 ∧ i + 2 ≤ cx 16 ∧ ∃ nm, nS L xs h nm (N i) ∧ tcO L xs cx F N h (i + 2) d nm (cpl cx F i) 0 0 0 v)
  ∨ (ctk cx F i = 2 ∧ ¬ ctk cx F (i + 1) = 11 ∧ i + 1 ≤ cx 16 ∧ rfd v (cpl cx F (i + 1)))
  ∨ (¬ ctk cx F i = 2 ∧ rfd v (cpl cx F i))
theorem tc_decl (hT : TF cx F N) (hi : i ≤ cx 16) (hP : pC h cx F (vS cx F i)) (c : CH cx q h g ts pt vr) (hn : ts.length ≤ 99000) : ∃ h' ar' cap' v, dM L xs zf w (k + 10) 111 [.ref (cx 7)] h = some (some (.ref (21 + h.length)), h') ∧ CH cx q h' (gu (gu g 1 ar') 2 cap') (ts ++ [21 + h.length]) pt vr ∧ pC h' cx F v ∧ (∃ nm cp cpl' ti tp, hc h' (21 + h.length) = some (dcC nm (cpl cx F i) cp cpl' ti tp 0 0 0)) ∧ fr (fun y => y = cx 0 ∨ y = cx 11 ∨ y = g 1) h h' ∧ (h'.length ≤ h.length + 6 ∧ (ctk cx F i = 2 → ctk cx F (i + 1) = 11 → nE (21 + h.length) h h')) ∧ (ar' = g 1 ∨ 21 + h.length ≤ ar') ∧ zh h' + 4 * g 2 ≤ zh h + 4 * cap' + 33 ∧ dcO L xs cx F N h' i (21 + h.length) v := by
  have P1 : pC (h ++ [.inr (10, ah_DV 10)]) cx F (vS cx F i) := pC_ap hP
  have c1 : CH cx q (h ++ [.inr (10, ah_DV 10)]) g ts pt vr := CH_ap (Or.inl (fun fs y => by cases y)) c
  have d0 : 21 + h.length ≠ cx 0 := by have := hc_lt (pC_r hP); omega
  have head : ∀ (nm : Nat) (h2 h3 h4 h5 : rm_H) (v2 v3 : Nat → Int32), dM L xs zf w (k + 9) 94 [.ref (cx 7), .int 2] (h ++ [.inr (10, ah_DV 10)]) = some (some (.ref nm), h2) → dM L xs zf w (k + 9) 112 [.ref (21 + h.length), .ref nm, .int (cpl cx F i)] h2 = some (none, h3) → pC h3 cx F v2 → dM L xs zf w (k + 9) 109 [.ref (cx 7), .int 11] h3 = some (none, h4) → pC h4 cx F v3 → dM L xs zf w (k + 9) 113 [.ref (cx 7), .ref (21 + h.length)] h4 = some (none, h5) → dM L xs zf w (k + 10) 111 [.ref (cx 7)] h = some (some (.ref (21 + h.length)), h5) := by
    intro nm h2 h3 h4 h5 v2 v3 e1 e2 p3 e3 p4 e4
    rw [e111]
    show b111_0 L xs zf (dM L xs zf w (k + 9)) w (some (cx 7)) h = _
    unfold b111_0
    refine bse (c_in hP) (bse (c_I hP 7 (by omega)) (bse rfl ?_))
    refine bse (a := (some nm, h2)) (by rw [c_pv P1, e1]; rfl) ?_
    refine bse (a := h3) ?_ ?_
    · show (dM L xs zf w (k + 9) 112 [.ref (21 + h.length), .ref nm, .int (cpl cx F i)] h2).bind dxV = _
      rw [e2]
      rfl
    refine bse (a := h4) (by rw [c_pv p3, e3]; rfl) ?_
    exact bse (a := h5) (by rw [c_pv p4, show va_rf (some (21 + h.length)) = .ref (21 + h.length) from rfl, e4]; rfl) rfl
  -- behind a fault in the name or the colon
  have fault : ∀ (nm : Nat) (h2 h4 : rm_H) (v : Nat → Int32) (x : Int32), pC h4 cx F v → rfd v x → CH cx q h4 g ts pt vr → hc h4 (21 + h.length) = some (dcC nm (cpl cx F i) (-1) (-1) none (-1) 0 0 0) → fr (fun y => y = cx 0 ∨ y = cx 11 ∨ y = g 1) h h4 → h4.length ≤ h.length + 3 → zh h4 ≤ zh h + 21 → ∃ h5 ar' cap', dM L xs zf w (k + 9) 113 [.ref (cx 7), .ref (21 + h.length)] h4 = some (none, h5) ∧ CH cx q h5 (gu (gu g 1 ar') 2 cap') (ts ++ [21 + h.length]) pt vr ∧ pC h5 cx F v ∧ (∃ nm cp cpl' ti tp, hc h5 (21 + h.length) = some (dcC nm (cpl cx F i) cp cpl' ti tp 0 0 0)) ∧ fr (fun y => y = cx 0 ∨ y = cx 11 ∨ y = g 1) h h5 ∧ h5.length ≤ h.length + 6 ∧ (ar' = g 1 ∨ 21 + h.length ≤ ar') ∧ zh h5 + 4 * g 2 ≤ zh h + 4 * cap' + 33 := by
    intro nm h2 h4 v x p4 r4 c4 d4 f4 l4 y4
    obtain ⟨h5, ar', cap', e1, e2, e3, e4, e5, e6, e7⟩ := z_type (L := L) (xs := xs) (zf := zf) (w := w) (k := k + 2) ⟨p4, r4, c4⟩ d4 hn
    refine ⟨h5, ar', cap', e1, e2.2.2, e2.1, ⟨_, _, _, _, _, e3⟩, fr_trans f4 e4 (fun y hy u => ?_), by omega, ?_, by omega⟩
    · rcases u with u | u | u | u
      · exact Or.inl u
      · exact Or.inr (Or.inl u)
      · exact Or.inr (Or.inr u)
      · omega
    · have := f4.1
      omega
  have l1 : (h ++ [Sum.inr (10, ah_DV 10)] : rm_H).length = h.length + 1 := by rw [List.length_append]; rfl
  have y1 : zh (h ++ [.inr (10, ah_DV 10)]) = zh h + 9 := zh_app h _
  by_cases t2 : ctk cx F i = 2
  · obtain ⟨nm, h2, a1, a2, a3, a4, a5, a6, a7, a8⟩ := y_twT (L := L) (xs := xs) (zf := zf) (w := w) (k := k + 1) hT hi P1 2 t2 (Or.inl rfl)
    have c2 := CH_fr P1 a5 a6 c1
    have hd2 : hc h2 (21 + h.length) = some (.inr (10, ah_DV 10)) := fr_old a5 (hc_new _) d0
    obtain ⟨h3, b1, b2, b3⟩ := dc_init (L := L) (xs := xs) (zf := zf) (w := w) (k := k + 8) (nm := nm) (pl := cpl cx F i) hd2
    have P3 := pC_w hd2 (by decide) b3 a3
    have c3 := CH_w hd2 (by decide) b3 c2
    have f3 : fr (fun y => y = cx 0 ∨ y = cx 11 ∨ y = g 1) h h3 := fr_trans (fr_trans (fr_app _ _) a5 (fun _ _ u => Or.inl u)) b3.1 (fun y hy u => by omega)
    have hi1 : i + 1 ≤ cx 16 := a2
    by_cases t11 : ctk cx F (i + 1) = 11
    · have hlt : i + 1 < cx 16 := tk_lt hT hi1 (by rw [t11]; decide) (by rw [t11]; decide)
      obtain ⟨h4, e1, e2, e3⟩ := y_takeT (L := L) (xs := xs) (zf := zf) (w := w) (k := k + 5) hT hlt P3 11 t11
      have c4 := CH_r P3 e3 c3
      obtain ⟨h5, ar', cap', v, g1, g2, g3, g4, g5, g6, g7, g8⟩ := tc_type (L := L) (xs := xs) (zf := zf) (w := w) (k := k) hT (show i + 2 ≤ cx 16 by omega) e2 c4 (st1_old e3 b2 d0) (Or.inl rfl) hn
      have l4 := e3.2.1
      have l3 := b3.2.1
      have y4 := e3.2.2
      have y3 := b3.2.2
      have l2 := a5.1
      rw [l1] at l2
      refine ⟨h5, ar', cap', v, head nm h2 h3 h4 h5 _ _ a1 b1 P3 e1 e2 g1, g2, g3, ?_, fr_trans (fr_trans f3 e3.1 (fun _ _ u => Or.inl u)) g4 (fun y hy u => ?_), ⟨by omega, fun _ _ => nE_r (nE_st (nE_st (nE_r nE_ap a5 a7.2) b3) e3) g4 g5.2⟩, by omega, by omega, Or.inl ⟨t2, t11, by omega, nm, nS_fr g4 (nS_fr e3.1 (nS_fr b3.1 a4)), g8⟩⟩
      · rcases g8 with ⟨_, _, _, _, z⟩ | ⟨_, t3, cp, cq, z, _⟩
        · exact ⟨_, _, _, _, _, z⟩
        · exact ⟨_, _, _, _, _, z⟩
      · rcases u with u | u | u | u
        · exact Or.inl u
        · exact Or.inr (Or.inl u)
        · exact Or.inr (Or.inr u)
        · omega
    · obtain ⟨h4, v, e1, e2, e3, e4⟩ := y_takeF (L := L) (xs := xs) (zf := zf) (w := w) (k := k + 5) hT hi1 P3 11 t11
      have l4 := e4.2.1
      have l3 := b3.2.1
      have y4 := e4.2.2
      have y3 := b3.2.2
      obtain ⟨h5, ar', cap', g1, g2, g3, g4, g5, g6, g7, g8⟩ := fault nm h2 h4 v _ e2 e3 (CH_r P3 e4 c3) (st1_old e4 b2 d0) (fr_trans f3 e4.1 (fun _ _ u => Or.inl u)) (by omega) (by omega)
      exact ⟨h5, ar', cap', v, head nm h2 h3 h4 h5 _ _ a1 b1 P3 e1 e2 g1, g2, g3, g4, g5, ⟨g6, fun _ z => absurd z t11⟩, g7, g8, Or.inr (Or.inl ⟨t2, t11, hi1, e3⟩)⟩
  · obtain ⟨h2, v, a1, a2, a3, a4⟩ := y_twF (L := L) (xs := xs) (zf := zf) (w := w) (k := k + 7) hT hi P1 2 t2
    have c2 := CH_r P1 a4 c1
    have hd2 : hc h2 (21 + h.length) = some (.inr (10, ah_DV 10)) := st1_old a4 (hc_new _) d0
    obtain ⟨h3, b1, b2, b3⟩ := dc_init (L := L) (xs := xs) (zf := zf) (w := w) (k := k + 8) (nm := 9) (pl := cpl cx F i) hd2
    have P3 := pC_w hd2 (by decide) b3 a2
    have c3 := CH_w hd2 (by decide) b3 c2
    obtain ⟨h4, e1, e2, e3⟩ := z_take (L := L) (xs := xs) (zf := zf) (w := w) (k := k + 5) a3 P3 11 (by decide)
    have l4 := e3.2.1
    have l3 := b3.2.1
    have l2 := a4.2.1
    have y4 := e3.2.2
    have y3 := b3.2.2
    have y2 := a4.2.2
    obtain ⟨h5, ar', cap', g1, g2, g3, g4, g5, g6, g7, g8⟩ := fault 9 h2 h4 v _ e2 a3 (CH_r P3 e3 c3) (st1_old e3 b2 d0) (fr_trans (fr_trans (fr_trans (fr_app _ _) a4.1 (fun _ _ u => Or.inl u)) b3.1 (fun y hy u => by omega)) e3.1 (fun _ _ u => Or.inl u)) (by omega) (by omega)
    exact ⟨h5, ar', cap', v, head 9 h2 h3 h4 h5 _ _ a1 b1 P3 e1 e2 g1, g2, g3, g4, g5, ⟨g6, fun z => absurd z t2⟩, g7, g8, Or.inr (Or.inr ⟨t2, a3⟩)⟩
end DC
