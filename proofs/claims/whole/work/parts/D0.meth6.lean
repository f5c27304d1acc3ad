/-! A METHOD behind a fault, by the class alone: from its word on. -/
section MF
variable {L : Nat} {xs : Nat → Int32} {zf : Value} {w k k2 i m np kk t : Nat} {cx : Nat → Nat} {F : Nat → Nat → Int32} {N : Nat → Int64} {q : List Value} {hb h h' h1 h2 : rm_H} {sb s s' s1 : rS} {gb g g' : Nat → Nat} {tb ts ts' : List Nat} {M K l a10 c10 am cm mlK nm d : Nat} {v : Nat → Int32} {pt vr so cv cp : Int32} {fsK : List Value} {ml mks : List Nat} {P : Nat → Prop}
theorem z_m79 (hT : TF cx F N) (hw : 2100 ≤ w) (h14 : cx 14 = 0) (z : FLT cx F N q h s g ts) (a : OPY P cx F N q 0 0 0 hb sb gb tb h s g ts) (hP : P mlK ∧ P (cx 10) ∧ (21 ≤ am → am < 21 + hb.length → P am) ∧ (21 ≤ a10 → a10 < 21 + hb.length → P a10)) (hg : g 6 ≤ 2000) (hK : hc h K = some (.inr (9, fsK))) (k5 : fsK[5]? = some (.ref mlK)) (em : aL h mlK am cm mks) (hom : ∀ y ∈ mks, oK h y) (e10 : aL h (cx 10) a10 c10 ml) (ho : ∀ y ∈ ml, oK h y) (nm1 : mlK ≠ cx 11) (n10 : cx 10 ≠ cx 11) (nmm : mlK ≠ cx 10) (hml : ml.length ≤ 100) (hmk : mks.length ≤ 100) : ∃ h' g' ts' am' cm' a10' c10', b142_79 L xs zf (dM L xs zf w (200 + k)) w (some (cx 7)) (some K) so cp cv h = some (none, h') ∧ FLT cx F N q h' s g' ts' ∧ OPY P cx F N q 0 (4 * cm + 4 * c10) (4 * cm' + 4 * c10') hb sb gb tb h' s g' ts' ∧ g' 6 ≤ g 6 + 20 ∧ hc h' K = some (.inr (9, fsK)) ∧ aL h' mlK am' cm' (mks ++ [21 + h.length]) ∧ (∀ y ∈ mks ++ [21 + h.length], oK h' y) ∧ aL h' (cx 10) a10' c10' (ml ++ [21 + h.length]) ∧ (∀ y ∈ ml ++ [21 + h.length], oK h' y) ∧ (am' = am ∨ 21 + h.length ≤ am') ∧ (a10' = a10 ∨ 21 + h.length ≤ a10') ∧ (∀ l2 ar2 cap2 es2, l2 ≠ mlK → l2 ≠ cx 10 → l2 ≠ cx 11 → aL h l2 ar2 cap2 es2 → aL h' l2 ar2 cap2 es2) := by
  obtain ⟨⟨v, p0, r⟩, h57, rt, ⟨pt, vr, ch⟩, cs, b⟩ := id z
  have p1 : pC (h ++ [.inr (11, ah_DV 11)]) cx F v := pC_ap p0
  obtain ⟨h6, e1, e2, e3⟩ := z_tw (L := L) (xs := xs) (zf := zf) (w := w) (k := 198 + k) r p1 2 (by decide)
  rw [show 198 + k + 2 = 200 + k from by omega] at e1
  have ch1 : CH cx q (h ++ [.inr (11, ah_DV 11)]) g ts pt vr := CH_ap (Or.inl (fun fs z => by cases z)) ch
  have ch6 := CH_r p1 e3 ch1
  have M0 : 21 + h.length ≠ cx 0 := by have := hc_lt (pC_r p0); omega
  have K0 : K ≠ cx 0 := fun e => by rw [e, pC_r p0] at hK; cases hK
  have hM6 : hc h6 (21 + h.length) = some (.inr (11, ah_DV 11)) := st1_old e3 (hc_new _) M0
  have hK6 : hc h6 K = some (.inr (9, fsK)) := st1_old e3 (hc_up hK) K0
  have l6 : h6.length = h.length + 1 := by rw [e3.2.1, List.length_append]; rfl
  have z6 : zh h6 = zh h + 14 := by rw [e3.2.2]; exact zh_app h _
  have lk6 : ∀ l2 ar2 cap2 es2, aL h l2 ar2 cap2 es2 → aL h6 l2 ar2 cap2 es2 := fun l2 ar2 cap2 es2 e => aL_st (pC_r p1) (by decide) e3 (aL_app e)
  have f6 : fr (fun y => y = cx 0) h h6 := fr_trans (fr_app _ _) e3.1 (fun _ _ u => u)
  obtain ⟨h9, am', cm', a10', c10', m1, m2, m3, m4, m5, m6, m7, m8, m9, m10, m11, m12, m13, m14, m15, m16, m17⟩ := c_meth0 (L := L) (xs := xs) (zf := zf) (w := w) (k := 194 + k) (so := so) (cv := cv) (cp := cp) (x8 := v 7) (nm := 9) h14 e2 ch6 hM6 hK6 k5 (lk6 _ _ _ _ em) (fun y hy => oK_fr f6 (hom y hy)) (lk6 _ _ _ _ e10) (fun y hy => oK_fr f6 (ho y hy)) nm1 n10 nmm ⟨by omega, by omega⟩ (Int32.ofNat ml.length)
  rw [show 194 + k + 6 = 200 + k from by omega] at m1
  have fl9 : FLT cx F N q h9 s (gu g 6 (g 6 + 4)) ts := by
    refine ⟨⟨v, m2 _ e2, r⟩, h57, rt, ⟨pt, vr, CH_g (g := g) rfl rfl rfl (m3 _ _ ch6)⟩, cs, ?_⟩
    show g 0 ≤ _ ∧ _ ≤ g 0 + (g 6 + 4) ∧ g 4 ≤ g 0 + 2 + (g 6 + 4)
    omega
  have n11 : 21 + h6.length ≠ cx 11 := by have := (aL_lt ch.2.1).1; omega
  obtain ⟨h2, h', g', ts', fsM, b1, ⟨v2, p2⟩, b2, b3, b4, b5, b6, b7⟩ := z_mth (L := L) (xs := xs) (zf := zf) (w := w) (k := 189 + k) hT hw h14 fl9 (by show g 6 + 4 ≤ 2800; omega) m4 rfl rfl n11 m5 so
  rw [show 189 + k + 11 = 200 + k from by omega] at b1 b2
  have hl := a.2.2.1.1
  have op9 : OPY P cx F N q 0 (4 * cm + 4 * c10) (4 * cm' + 4 * c10') hb sb gb tb h9 s (gu g 6 (g 6 + 4)) ts := by
    obtain ⟨a1, a2, a3, a4, a5, a6, a7⟩ := a
    refine ⟨Or.inr fl9, fun u => (sy_no u fl9).elim, fr_trans (fr_trans a3 f6 (fun y hy u => Or.inl (Or.inl u))) m11 (fun y hy u => ?_), a4, a5, ?_⟩
    · right
      rcases u with u | u | ⟨u, u21⟩ | u | ⟨u, u21⟩
      · omega
      · rw [u]; exact hP.1
      · rw [u]; exact hP.2.2.1 (by omega) (by omega)
      · rw [u]; exact hP.2.1
      · rw [u]; exact hP.2.2.2 (by omega) (by omega)
    · show h9.length + 10 * gb 0 + gb 6 + 0 ≤ hb.length + 10 * g 0 + (g 6 + 4) ∧ zh h9 + 4 * gb 2 + 80 * gb 0 + 8 * gb 6 + (4 * cm + 4 * c10) ≤ zh hb + 4 * g 2 + 80 * g 0 + 8 * (g 6 + 4) + (4 * cm' + 4 * c10')
      omega
  have nlm : mlK ≠ 21 + h6.length := by have := (aL_lt em).1; omega
  have nl10 : cx 10 ≠ 21 + h6.length := by have := (aL_lt e10).1; omega
  have fM := b4.2.2.1
  refine ⟨h', g', ts', am', cm', a10', c10', ?_, b3, OPY_le (OPY_trans op9 b4 (fun y hy u => by
    rcases u with u | u
    · omega
    · omega)) (by omega) (by omega), ?_, ob_keep3 h14 (Or.inr fl9) fM m4 m5 m6 (by decide), b7 _ _ _ _ nlm nm1 m7, fun y hy => oK_fr fM (m8 y hy), b7 _ _ _ _ nl10 n10 m9, fun y hy => oK_fr fM (m10 y hy), by omega, by omega, fun l2 ar2 cap2 es2 n1 n2 n3 e => b7 _ _ _ _ (by have := (aL_lt e).1; omega) n3 (m16 _ _ _ _ n1 n2 (lk6 _ _ _ _ e))⟩
  · have e79 := b142_79r (L := L) (xs := xs) (zf := zf) (w := w) (k := 199 + k) (K := K) (i2 := so) (i3 := cp) (s0 := cv) (h6 := h6) (v6 := v) p0 e10 ch (by rw [show 199 + k + 1 = 200 + k from by omega]; exact e1)
    rw [show 199 + k + 1 = 200 + k from by omega] at e79
    rw [e79, m1, c_pv (m2 _ e2), b1]
    exact b2
  · have b5 : g' 6 ≤ (g 6 + 4) + 14 := b5
    omega
/-- from the word on -/
theorem z_m51 (hT : TF cx F N) (hw : 2100 ≤ w) (h14 : cx 14 = 0) (z : FLT cx F N q h s g ts) (a : OPY P cx F N q 0 0 0 hb sb gb tb h s g ts) (hP : P mlK ∧ P (cx 10) ∧ (21 ≤ am → am < 21 + hb.length → P am) ∧ (21 ≤ a10 → a10 < 21 + hb.length → P a10)) (hg : g 6 ≤ 2000) (hK : hc h K = some (.inr (9, fsK))) (k5 : fsK[5]? = some (.ref mlK)) (em : aL h mlK am cm mks) (hom : ∀ y ∈ mks, oK h y) (e10 : aL h (cx 10) a10 c10 ml) (ho : ∀ y ∈ ml, oK h y) (nm1 : mlK ≠ cx 11) (n10 : cx 10 ≠ cx 11) (nmm : mlK ≠ cx 10) (hml : ml.length ≤ 100) (hmk : mks.length ≤ 100) : ∃ h' g' ts' am' cm' a10' c10', b142_51 L xs zf (dM L xs zf w (200 + k)) w (some (cx 7)) (some K) so h = some (none, h') ∧ FLT cx F N q h' s g' ts' ∧ OPY P cx F N q 0 (4 * cm + 4 * c10) (4 * cm' + 4 * c10') hb sb gb tb h' s g' ts' ∧ g' 6 ≤ g 6 + 20 ∧ hc h' K = some (.inr (9, fsK)) ∧ aL h' mlK am' cm' (mks ++ [21 + h.length]) ∧ (∀ y ∈ mks ++ [21 + h.length], oK h' y) ∧ aL h' (cx 10) a10' c10' (ml ++ [21 + h.length]) ∧ (∀ y ∈ ml ++ [21 + h.length], oK h' y) ∧ (am' = am ∨ 21 + h.length ≤ am') ∧ (a10' = a10 ∨ 21 + h.length ≤ a10') ∧ (∀ l2 ar2 cap2 es2, l2 ≠ mlK → l2 ≠ cx 10 → l2 ≠ cx 11 → aL h l2 ar2 cap2 es2 → aL h' l2 ar2 cap2 es2) := by
  obtain ⟨⟨v, p0, r⟩, h57, rt, ⟨pt, vr, ch⟩, cs, b⟩ := id z
  obtain ⟨h1, e1, e2, e3⟩ := z_adv (L := L) (xs := xs) (zf := zf) (w := w) (k := 197 + k) r p0
  rw [show 197 + k + 3 = 200 + k from by omega] at e1
  -- one write of the reader more or less
  have gen : ∀ (hx : rm_H) (cv : Int32), pC hx cx F v → st1 (cx 0) h hx → b142_51 L xs zf (dM L xs zf w (200 + k)) w (some (cx 7)) (some K) so h = b142_79 L xs zf (dM L xs zf w (200 + k)) w (some (cx 7)) (some K) so (v 7) cv hx → ∃ h' g' ts' am' cm' a10' c10', b142_51 L xs zf (dM L xs zf w (200 + k)) w (some (cx 7)) (some K) so h = some (none, h') ∧ FLT cx F N q h' s g' ts' ∧ OPY P cx F N q 0 (4 * cm + 4 * c10) (4 * cm' + 4 * c10') hb sb gb tb h' s g' ts' ∧ g' 6 ≤ g 6 + 20 ∧ hc h' K = some (.inr (9, fsK)) ∧ aL h' mlK am' cm' (mks ++ [21 + h.length]) ∧ (∀ y ∈ mks ++ [21 + h.length], oK h' y) ∧ aL h' (cx 10) a10' c10' (ml ++ [21 + h.length]) ∧ (∀ y ∈ ml ++ [21 + h.length], oK h' y) ∧ (am' = am ∨ 21 + h.length ≤ am') ∧ (a10' = a10 ∨ 21 + h.length ≤ a10') ∧ (∀ l2 ar2 cap2 es2, l2 ≠ mlK → l2 ≠ cx 10 → l2 ≠ cx 11 → aL h l2 ar2 cap2 es2 → aL h' l2 ar2 cap2 es2) := by
    intro hx cv px wx eq
    have fl : FLT cx F N q hx s g ts := FL_r wx p0 px r h57 rt ch cs b
    have K0 : K ≠ cx 0 := fun e => by rw [e, pC_r p0] at hK; cases hK
    have lk : ∀ l2 ar2 cap2 es2, aL h l2 ar2 cap2 es2 → aL hx l2 ar2 cap2 es2 := fun l2 ar2 cap2 es2 e => aL_st (pC_r p0) (by decide) wx e
    have op : OPY P cx F N q 0 0 0 hb sb gb tb hx s g ts := by
      have l := wx.2.1
      have y := wx.2.2
      obtain ⟨a1, a2, a3, a4, a5, a6, a7⟩ := a
      exact ⟨Or.inr fl, fun u => (sy_no u fl).elim, fr_trans a3 wx.1 (fun _ _ u => Or.inl (Or.inl u)), a4, a5, by omega, by omega⟩
    obtain ⟨h', g', ts', am', cm', a10', c10', n1, n2, n3, n4, n5, n6, n7, n8, n9, n10', n11, n12⟩ := z_m79 (L := L) (xs := xs) (zf := zf) (w := w) (k := k) (so := so) (cp := v 7) (cv := cv) hT hw h14 fl op hP hg (st1_old wx hK K0) k5 (lk _ _ _ _ em) (fun y hy => oK_fr wx.1 (hom y hy)) (lk _ _ _ _ e10) (fun y hy => oK_fr wx.1 (ho y hy)) nm1 n10 nmm hml hmk
    rw [wx.2.1] at n6 n7 n8 n9 n10' n11
    exact ⟨h', g', ts', am', cm', a10', c10', eq.trans n1, n2, n3, n4, n5, n6, n7, n8, n9, n10', n11, fun l2 ar2 cap2 es2 q1 q2 q3 e => n12 _ _ _ _ q1 q2 q3 (lk _ _ _ _ e)⟩
  by_cases s1 : mx_f2 .ne so 1 = true
  · refine gen h1 2 e2 e3 ?_
    unfold b142_51
    rw [c_in p0, Option.bind_some, show (dcV L xs (dM L xs zf w (200 + k)) 92 [6] (some (cx 0)) [] h).bind dxV = some h1 from by rw [c_rv p0, e1]; rfl, Option.bind_some, c_in e2, Option.bind_some, c_I e2 7 (by omega), Option.bind_some, if_pos s1]
  · obtain ⟨h3, d1, d2, d3⟩ := z_ref (L := L) (xs := xs) (zf := zf) (w := w) (k := 198 + k) r e2
    refine gen h3 2 d2 (st1_trans e3 d3) ?_
    unfold b142_51
    rw [c_in p0, Option.bind_some, show (dcV L xs (dM L xs zf w (200 + k)) 92 [6] (some (cx 0)) [] h).bind dxV = some h1 from by rw [c_rv p0, e1]; rfl, Option.bind_some, c_in e2, Option.bind_some, c_I e2 7 (by omega), Option.bind_some, if_neg s1, show (dcV L xs (dM L xs zf w (200 + k)) 143 [8] (some (cx 7)) [] h1).bind dxI = some (2, h3) from by
      rw [c_pv e2, show 200 + k = 199 + k + 1 from by omega, e143]
      refine bse (a := (some (.int 2), h3)) ?_ rfl
      show b143_0 L xs zf (dM L xs zf w (199 + k)) w (some (cx 7)) h1 = _
      unfold b143_0
      refine bse (c_in e2) (bse (a := ((0 : Int32), h1)) ?_ (ifn (show ¬ mx_f1 .ne 0 = true by decide) (bse (c_in e2) (bse (a := h3) ?_ rfl))))
      · rw [c_rv e2]
        have := c_cap (L := L) (xs := xs) (zf := zf) (w := w) (k := 198 + k) e2
        rw [show 198 + k + 1 = 199 + k from by omega, r.2.1] at this
        rw [this]
        rfl
      · rw [c_rv e2, show 199 + k = 198 + k + 1 from by omega, d1]
        rfl, Option.bind_some]
end MF
