/-! PARAMETERS: all of them. -/
/-- what both have of parameters -/
def PRS (L : Nat) (xs : Nat → Int32) (cx : Nat → Nat) (F : Nat → Nat → Int32) (N : Nat → Int64) (q : List Value) (l M np : Nat) (qm : List Value) (h : rm_H) (s : rS) (g : Nat → Nat) (ts : List Nat) (rc : Option dR) (rr : Option rA) : Prop := ∃ h' s' g' ts' ds ar cap, rc = some (none, h') ∧ rr = some (none, s') ∧ OPX (fun y => y = l ∨ y = M) cx F N q 0 0 h s g ts h' s' g' ts' ∧ g' 6 ≤ g 6 + 12 ∧ g' 3 = g 3 ∧ rPm s s' np ∧ QJ L xs cx F N q l M np (qm.set 10 (.int (Int32.ofNat ds.length))) h h' s' g' ts' ds ar cap ∧ ds.length ≤ 7 ∧ (SY cx F N q h' s' g' ts' → ds.length ≤ 6)
section PA4
variable {L : Nat} {xs : Nat → Int32} {zf : Value} {w k k2 i n y np : Nat} {cx : Nat → Nat} {F : Nat → Nat → Int32} {N : Nat → Int64} {q qm : List Value} {h0 h h' h1 h2 h5 : rm_H} {s0 s s' s1 s2 : rS} {g0 g g' g1 g2 : Nat → Nat} {t0 ts ts' ts1 ts2 : List Nat} {v v0 : Nat → Int32} {pt vr i3 : Int32} {P : Nat → Prop} {l ar cap M d : Nat} {ds es : List Nat} {c1 c2 : Nat}
theorem r308_Pm {c : Int32} (hT : TF cx F N) (z : SY cx F N q h s g ts ∨ FLT cx F N q h s g ts) (e : rM w (k + 3) 308 [.ref 36, .int c] s = some (none, s')) : rPm s s' np := by
  have nl := n_lt hT z
  rcases z with z | z
  · rw [q308 c z.1.2.1.1 nl.2.2.2 nl.1] at e
    have this : (if _ then _ else _) = s' := congrArg Prod.snd (Option.some.inj e)
    rw [← this]
    split
    · exact rPm_nx
    · exact rPm_st
  · rw [z308 c z.2.1 nl.2.2.2 nl.1] at e
    have this : s = s' := congrArg Prod.snd (Option.some.inj e)
    rw [← this]
    exact rPm_refl _ _
theorem r309_Pm {c : Int32} {b : Bool} (hT : TF cx F N) (z : SY cx F N q h s g ts ∨ FLT cx F N q h s g ts) (e : rM w (k + 2) 309 [.ref 36, .int c] s = some (some (.int (rd_01 b)), s')) : rPm s s' np := by
  have nl := n_lt hT z
  rcases z with z | z
  · rw [q309 c z.1.2.1.1 nl.2.2.2 nl.1] at e
    have this : (if _ then _ else _) = s' := congrArg Prod.snd (Option.some.inj e)
    rw [← this]
    split
    · exact rPm_nx
    · exact rPm_refl _ _
  · rw [z309 c z.2.1] at e
    have this : s = s' := congrArg Prod.snd (Option.some.inj e)
    rw [← this]
    exact rPm_refl _ _
/-- the end of the parameters, by both -/
theorem x_pend (hT : TF cx F N) (h14 : cx 14 = 0) (a : OPX P cx F N q c1 c2 h0 s0 g0 t0 h s g ts) (hPM : P M) (j : QJ L xs cx F N q l M np qm h0 h s g ts ds ar cap) (h5m : qm[5]? = some (.ref l)) (hq : qm.length = 14) (hl : l ≠ cx 11) (M1 M2 : Nat) (i3 i2 : Int32) : ∃ h' s' g', b117_26 L xs zf (dM L xs zf w (k + 10)) w (M1 + 1) (some (cx 7)) (some M) 0 i3 h = some (none, h') ∧ s315_33 (rM w (k2 + 4)) w (M2 + 1) 0 i2 s = some (none, s') ∧ OPX P cx F N q c1 c2 h0 s0 g0 t0 h' s' g' ts ∧ (g' 6 = g 6 ∧ g' 3 = g 3) ∧ QJ L xs cx F N q l M np (qm.set 10 (.int (Int32.ofNat ds.length))) h0 h' s' g' ts ds ar cap ∧ (SY cx F N q h' s' g' ts → SY cx F N q h s g ts) ∧ rPm s s' np ∧ (FLT cx F N q h s g ts → s' = s ∧ FLT cx F N q h' s' g' ts) := by
  obtain ⟨j1, j2, j3, j4, j5, j6⟩ := id j
  obtain ⟨v, pt, vr, p0, ch⟩ := sy_pc a.1
  have q10 : ∃ u, qm[10]? = some u := ⟨qm[10], List.getElem?_eq_getElem (by omega)⟩
  obtain ⟨u10, q10⟩ := q10
  obtain ⟨h1, d1, d2, d3⟩ := pF_ex (j := 10) (cis := [11]) (v := .int (Int32.ofNat ds.length)) j1 q10 (by decide) rfl (by decide)
  have toS : SY cx F N q h s g ts → SY cx F N q h1 s g ts := by
    intro z
    obtain ⟨⟨p1, t1, rt, c, cs, b⟩, g6⟩ := z
    exact ⟨⟨pC_w j1 (by decide) d3 p1, t1, rt, CH_w0 h14 j1 (by decide) d3 c, cs, b⟩, g6.1, TSI_w g6.2 j1 (by decide) d3 rfl rfl rfl rfl⟩
  have toF : FLT cx F N q h s g ts → FLT cx F N q h1 s g ts := by
    intro z
    obtain ⟨⟨v, p1, rr⟩, t1, rt, ⟨pt, vr, c⟩, cs, b⟩ := z
    exact ⟨⟨v, pC_w j1 (by decide) d3 p1, rr⟩, t1, rt, ⟨pt, vr, CH_w0 h14 j1 (by decide) d3 c⟩, cs, b⟩
  have bk : SY cx F N q h1 s g ts → SY cx F N q h s g ts := fun y => by
    rcases a.1 with u | u
    · exact u
    · exact (sy_no y (toF u)).elim
  have st1' : SY cx F N q h1 s g ts ∨ FLT cx F N q h1 s g ts := a.1.elim (fun u => Or.inl (toS u)) (fun u => Or.inr (toF u))
  have l1 := d3.2.1
  have y1 := d3.2.2
  have o1 : OPX (fun y => y = M) cx F N q 0 0 h s g ts h1 s g ts := ⟨st1', fun y => ⟨bk y, sX_refl _, yA_refl _⟩, fr_mono d3.1 (fun _ _ u => Or.inr u), Or.inl rfl, ⟨Nat.le_refl _, Nat.le_refl _⟩, by omega, by omega, by omega⟩
  have a1 := OPX_trans a o1 (fun y hy u => by rw [u]; exact hPM)
  have jj : QJ L xs cx F N q l M np (qm.set 10 (.int (Int32.ofNat ds.length))) h0 h1 s g ts ds ar cap := by
    refine ⟨d2, aL_st j1 (by decide) d3 j2, j3, fun y hy => oK_fr d3.1 (j4 y hy), fun l2 ar2 cap2 es2 n1 n2 e => aL_st j1 (by decide) d3 (j5 l2 ar2 cap2 es2 n1 n2 e), fun y => ?_⟩
    obtain ⟨k1, kd⟩ := j6 (bk y)
    refine ⟨k1, fun i d hi => ?_⟩
    obtain ⟨n1, n2, n3⟩ := kd i d hi
    refine ⟨DCR_fr (fun j hj u e => ?_) (fun _ _ => nS_fr d3.1) (yA_refl _) rfl rfl rfl n1, n2, by omega⟩
    obtain ⟨fs, e1, e2⟩ := fd_c e
    have dM' : d ≠ M := fun z => by rw [z, j1] at e1; cases e1
    rw [fd_st d3 dM']
    exact e
  obtain ⟨v1, p1⟩ := op_pC st1'
  obtain ⟨h', s', g', e1, e2, op, n3, w3, s3e, z1, z2, z3, z4, z5, z6⟩ := op_need (L := L) (xs := xs) (zf := zf) (w := w) (k := k + 6) (k2 := k2 + 1) hT P41 st1'
  refine ⟨h', s', g', ?_, ?_, OPX_le (OPX_op a1 op) (by omega) (by omega), ⟨z6, z3⟩, QJ_keep h14 st1' op hl jj, fun u => bk (op.2.1 u).1, ?_, fun fl => ?_⟩
  · rw [b117_26]
    refine ift (by decide) ?_
    unfold b117_86
    refine bse (hc_gR (p := some l) j1 h5m (by decide)) ?_
    refine bse (a := (Int32.ofNat ds.length, h)) (by rw [al_v j2, al_size (k := k + 9) j2]; rfl) ?_
    refine bse d1 ?_
    exact bse (a := h') (by rw [c_pv p1, e1]; rfl) rfl
  · rw [s315_33]
    exact ift (by decide) (bse (a := s') (by rw [e2]; rfl) rfl)
  · exact r308_Pm hT st1' e2
  · have nl := n_lt hT (Or.inr (toF fl))
    have e3 := z308 (w := w) (k := k2 + 1) 41 fl.2.1 nl.2.2.2 nl.1
    rw [e3] at e2
    have ss : s' = s := by
      have := Option.some.inj e2
      exact (congrArg Prod.snd this).symm
    refine ⟨ss, ?_⟩
    rcases op.1 with u | u
    · exact (sy_no (op.2.1 u).1 (toF fl)).elim
    · exact u
/-- a parameter behind a fault, by the class alone -/
theorem z_par1 (hT : TF cx F N) (h14 : cx 14 = 0) (z : FLT cx F N q h s g ts) (a : OPX P cx F N q c1 c2 h0 s0 g0 t0 h s g ts) (hPl : P l) (j : QJ L xs cx F N q l M np qm h0 h s g ts ds ar cap) (h5m : qm[5]? = some (.ref l)) (hlen : ds.length ≤ 6) (hl : l ≠ cx 11) (hg : g 6 ≤ 3000) : ∃ h7 g7 ts7 ar7 cap7, (∀ K, b117_49 L xs zf (dM L xs zf w (k + 10)) w K (some (cx 7)) (some M) i3 h = (((dcV L xs (dM L xs zf w (k + 10)) 118 [8] (some (cx 7)) [.int 10] h7).bind dxI).bind fun x17 => K (some (cx 7)) (some M) x17.1 (i3 + 1) x17.2)) ∧ FLT cx F N q h7 s g7 ts7 ∧ OPX P cx F N q c1 c2 h0 s0 g0 t0 h7 s g7 ts7 ∧ QJ L xs cx F N q l M np qm h0 h7 s g7 ts7 (ds ++ [21 + h.length]) ar7 cap7 ∧ g7 6 = g 6 + 12 ∧ g7 3 = g 3 := by
  obtain ⟨⟨v, p0, r⟩, h57, rt, ⟨pt, vr, ch⟩, cs, b⟩ := id z
  obtain ⟨j1, j2, j3, j4, j5, j6⟩ := id j
  have hT1 := hT.1
  have alen := a.2.2.1.1
  obtain ⟨h5, ar', cap', e1, e2, e3, e4, e5, e6, e7⟩ := z_decl (L := L) (xs := xs) (zf := zf) (w := w) (k := k + 2) ⟨p0, r, ch⟩ (by omega)
  obtain ⟨nm0, pl0, cp0, cq0, ti0, tp0, hd5⟩ := e3
  have f45 : fr (M4 cx (g 1)) h h5 := fr_mono e4 (fun y _ u => by
    rcases u with u | u | u
    · exact Or.inl u
    · exact Or.inr (Or.inr (Or.inl u))
    · exact Or.inr (Or.inr (Or.inr (Or.inr u))))
  have hM5 := ob_keep h14 p0 ch f45 j1 (by decide)
  have aL5 := aL_op (Or.inr z) f45 j2 hl
  have cp2 := aL_cap j2
  obtain ⟨h7, ar7, cap7, m1, m2, m3, m4, m5, m6, m7, m8, m9, m10, m11, m12⟩ := c_49 (L := L) (xs := xs) (zf := zf) (w := w) (k := k + 4) (i3 := i3) p0 e1 e2.1 e2.2.2 hd5 rfl hM5 h5m aL5 (fun y hy => oK_fr e4 (j4 y hy)) (by omega) hl
  have cp7 := aL_cap m4
  have lds : (ds ++ [21 + h.length]).length = ds.length + 1 := by rw [List.length_append]; rfl
  rw [lds] at cp7
  have cap24 : 4 * cap7 ≤ 4 * cap + 56 := by
    rcases cp2.2 with e | e
    · rw [e] at cp7
      have cp7 : cap7 ≤ 2 * (0 + 1) + 10 ∧ _ := cp7
      omega
    · omega
  have lt1 : (ts ++ [21 + h.length]).length = ts.length + 1 := by rw [List.length_append]; rfl
  have l5 := e4.1
  have fq : fr (fun y => M4 cx (g 1) y ∨ ((y = l ∨ y = ar) ∧ 21 ≤ y)) h h7 := by
    refine fr_trans (fr_mono f45 (fun _ _ u => Or.inl u)) (fr_21 m8) (fun y hy u => ?_)
    obtain ⟨u, u21⟩ := u
    rcases u with u | u | u
    · omega
    · exact Or.inr ⟨Or.inl u, u21⟩
    · exact Or.inr ⟨Or.inr u, u21⟩
  have fl : FLT cx F N q h7 s (gu (gu (gu g 1 ar') 2 cap') 6 (g 6 + 12)) (ts ++ [21 + h.length]) := by
    refine ⟨⟨v, m2, r⟩, h57, rt, ⟨_, _, CH_g (g := gu (gu g 1 ar') 2 cap') rfl rfl rfl m3⟩, cs, ?_⟩
    show g 0 ≤ _ ∧ (ts ++ [21 + h.length]).length ≤ g 0 + (g 6 + 12) ∧ g 4 ≤ g 0 + 2 + (g 6 + 12)
    omega
  have o1 : OPX (fun y => (y = l ∨ y = ar) ∧ 21 ≤ y) cx F N q 0 0 h s g ts h7 s (gu (gu (gu g 1 ar') 2 cap') 6 (g 6 + 12)) (ts ++ [21 + h.length]) := by
    refine ⟨Or.inr fl, fun u => (sy_no u fl).elim, fq, e6, ?_⟩
    show (g 0 ≤ g 0 ∧ g 4 ≤ g 4) ∧ h7.length + 10 * g 0 + g 6 + 0 ≤ h.length + 10 * g 0 + (g 6 + 12) ∧ zh h7 + 4 * g 2 + 80 * g 0 + 8 * g 6 + 0 ≤ zh h + 4 * cap' + 80 * g 0 + 8 * (g 6 + 12) ∧ g 4 + g 0 + g 6 ≤ g 4 + g 0 + (g 6 + 12)
    omega
  refine ⟨h7, _, _, ar7, cap7, m1, fl, OPX_le (OPX_trans a o1 (fun y hy u => ?_)) (by omega) (by omega), ⟨m7, m4, by omega, m5, fun l2 ar2 cap2 es2 n1 n2 e => m12 l2 ar2 cap2 es2 n1 (aL_op (Or.inr z) f45 (j5 l2 ar2 cap2 es2 n1 n2 e) n2), fun u => (sy_no u fl).elim⟩, rfl, rfl⟩
  obtain ⟨u, u21⟩ := u
  rcases u with u | u
  · rw [u]; exact hPl
  · omega
/-- the class behind a fault, to the end -/
theorem z_ptl (hT : TF cx F N) (h14 : cx 14 = 0) (z : FLT cx F N q h s g ts) (a : OPX P cx F N q c1 c2 h0 s0 g0 t0 h s g ts) (hPM : P M) (j : QJ L xs cx F N q l M np qm h0 h s g ts ds ar cap) (h5m : qm[5]? = some (.ref l)) (hq : qm.length = 14) (hl : l ≠ cx 11) (M1 : Nat) (i3 : Int32) : ∃ h' g', (((dcV L xs (dM L xs zf w (k + 10)) 118 [8] (some (cx 7)) [.int 10] h).bind dxI).bind fun x17 => b117_26 L xs zf (dM L xs zf w (k + 10)) w (M1 + 1) (some (cx 7)) (some M) x17.1 i3 x17.2) = some (none, h') ∧ OPX P cx F N q c1 c2 h0 s0 g0 t0 h' s g' ts ∧ FLT cx F N q h' s g' ts ∧ (g' 6 = g 6 ∧ g' 3 = g 3) ∧ QJ L xs cx F N q l M np (qm.set 10 (.int (Int32.ofNat ds.length))) h0 h' s g' ts ds ar cap := by
  obtain ⟨h1, e1, e2, op1, y1, w1⟩ := op_skipF (L := L) (xs := xs) (zf := zf) (w := w) (k := k + 6) (k2 := 0) P44 z
  have j1 := QJ_keep h14 (Or.inr z) op1 hl j
  obtain ⟨v, p0⟩ := op_pC (Or.inr z)
  obtain ⟨h', s', g', d1, d2, d3, d4, d5, d6, d7, d8⟩ := x_pend (L := L) (xs := xs) (zf := zf) (w := w) (k := k) (k2 := 0) hT h14 (OPX_op a op1) hPM j1 h5m hq hl M1 0 i3 0
  obtain ⟨ss, fl⟩ := d8 y1
  subst ss
  refine ⟨h', g', ?_, d3, fl, d4, d5⟩
  rw [c_pv p0, e1]
  exact d1
end PA4
