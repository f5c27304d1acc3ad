/-! A METHOD, by both: all of it. -/
section MI
variable {L : Nat} {xs : Nat → Int32} {zf : Value} {w k k2 i m np kk t : Nat} {cx : Nat → Nat} {F : Nat → Nat → Int32} {N : Nat → Int64} {q : List Value} {h h' h1 h2 : rm_H} {s s' s1 s2 s4 : rS} {g g' : Nat → Nat} {ts ts' : List Nat} {M K l a10 c10 am cm mlK nm d : Nat} {v : Nat → Int32} {pt vr cv cp ax : Int32} {fsK : List Value} {ml mks : List Nat}
theorem x_meth1 (hT : TF cx F N) (hw : 2100 ≤ w) (h14 : cx 14 = 0) (z : SY cx F N q h s g ts) (so : Nat) (htk : (so = 1 ∧ ctk cx F (g 0) = 23) ∨ (so = 2 ∧ ctk cx F (g 0) = 24 ∧ mx_f1 .ne ax = true)) (hK : hc h K = some (.inr (9, fsK))) (k2' : fsK[2]? = some (.int ax)) (k5 : fsK[5]? = some (.ref mlK)) (em : aL h mlK am cm mks) (hom : ∀ y ∈ mks, oK h y) (e10 : aL h (cx 10) a10 c10 ml) (ho : ∀ y ∈ ml, oK h y) (nm1 : mlK ≠ cx 11) (n10 : cx 10 ≠ cx 11) (nmm : mlK ≠ cx 10) (hml : ml.length ≤ 71) (hmk : mks.length < 8) (hnp : np + 7 < 440) (x42 : s.1 42 = Int32.ofNat ml.length) (x52 : s.1 52 = Int32.ofNat np) : ∃ h' s' g' ts' am' cm' a10' c10', dM L xs zf w (201 + k) 142 [.ref (cx 7), .ref K] h = some (none, h') ∧ rM w (100 + k2) 314 [.ref 36, .int (Int32.ofNat kk), .int (Int32.ofNat so)] s = some (none, s') ∧ OPY (fun y => y = mlK ∨ (y = am ∧ 21 ≤ y) ∨ y = cx 10 ∨ (y = a10 ∧ 21 ≤ y)) cx F N q 0 (4 * cm + 4 * c10) (4 * cm' + 4 * c10') h s g ts h' s' g' ts' ∧ g' 6 ≤ 962 ∧ rMm s s' ml.length np ∧ hc h' K = some (.inr (9, fsK)) ∧ aL h' mlK am' cm' (mks ++ [21 + h.length]) ∧ (∀ y ∈ mks ++ [21 + h.length], oK h' y) ∧ aL h' (cx 10) a10' c10' (ml ++ [21 + h.length]) ∧ (∀ y ∈ ml ++ [21 + h.length], oK h' y) ∧ (am' = am ∨ 21 + h.length ≤ am') ∧ (a10' = a10 ∨ 21 + h.length ≤ a10') ∧ (∀ l2 ar2 cap2 es2, l2 ≠ mlK → l2 ≠ cx 10 → l2 ≠ cx 11 → aL h l2 ar2 cap2 es2 → aL h' l2 ar2 cap2 es2) ∧ (SY cx F N q h' s' g' ts' → g 0 < g' 0 ∧ (∃ pl, 22 + h.length ≤ pl ∧ MTR L xs h' s' (g 4) (g' 4) pl (21 + h'.length) ml.length (21 + h.length) kk K ∧ fd h' 11 (21 + h.length) 0 = some (.int (Int32.ofNat so))) ∧ s'.1 42 = Int32.ofNat (ml.length + 1) ∧ ∃ np', np ≤ np' ∧ np' ≤ np + 6 ∧ s'.1 52 = Int32.ofNat np' ∧ s'.2.1 77 (ml.length + 1) = Int32.ofNat np' ∧ s'.2.1 77 ml.length = Int32.ofNat np) := by
  obtain ⟨⟨p0, ⟨a1, a2, a3, a4⟩, rt, ch, ⟨c1, c2, c3, c4⟩, b1, b2, b3, b4⟩, g6⟩ := id z
  have hT1 := hT.1
  have nl := n_lt hT (Or.inl z)
  have hlt : g 0 < cx 16 := by
    rcases htk with ⟨_, e⟩ | ⟨_, e, _⟩
    · exact w_pass hT z 23 e (by decide) (by decide)
    · exact w_pass hT z 24 e (by decide) (by decide)
  have so12 : so = 1 ∨ so = 2 := by rcases htk with e | e <;> omega
  obtain ⟨h3, e1, e2, e3⟩ := y_adv (L := L) (xs := xs) (zf := zf) (w := w) (k := 197 + k) hT hlt p0
  rw [show 197 + k + 3 = 200 + k from by omega] at e1
  have l3 := e3.2.1
  have y3 := e3.2.2
  have sy3 := mh_SY (m := ml.length) (kk := kk) (so := Int32.ofNat so) z hlt e2 (CH_r p0 e3 ch) (TSI_w g6.2 (pC_r p0) (by decide) e3 rfl rfl rfl rfl)
  have mj := (mh_1 (s := s) (m := ml.length) (kk := kk) (i := g 0) (so := Int32.ofNat so)).2
  have K0 : K ≠ cx 0 := fun e => by rw [e, pC_r p0] at hK; cases hK
  -- from the place behind the head on
  have go : ∀ (hx : rm_H) (sx : rS) (gx : Nat → Nat) (cv : Int32), (SY cx F N q hx sx gx ts ∨ FLT cx F N q hx sx gx ts) → st1 (cx 0) h hx → hA s sx ml.length → sx.1 42 = Int32.ofNat (ml.length + 1) → g 0 + 1 ≤ gx 0 → gx 1 = g 1 → gx 2 = g 2 → gx 4 = g 4 → gx 6 = g 6 → (SY cx F N q hx sx gx ts → sx.2.1 75 ml.length = -1 ∧ sx.2.1 70 ml.length = Int32.ofNat so ∧ sx.2.1 71 ml.length = Int32.ofNat kk ∧ ((so = 2 ∧ cv = 2 ∧ sx.2.1 72 ml.length = -1) ∨ (so = 1 ∧ ∃ c, c < 5 ∧ cv = Int32.ofNat c ∧ sx.2.1 72 ml.length = Int32.ofNat c ∧ cpl cx F (g 0 + 1) = sx.2.1 73 ml.length))) → dM L xs zf w (201 + k) 142 [.ref (cx 7), .ref K] h = b142_79 L xs zf (dM L xs zf w (200 + k)) w (some (cx 7)) (some K) (Int32.ofNat so) (cpl cx F (g 0 + 1)) cv hx → rM w (100 + k2) 314 [.ref 36, .int (Int32.ofNat kk), .int (Int32.ofNat so)] s = s314_141 (rM w (99 + k2)) w (Int32.ofNat so) (Int32.ofNat ml.length) sx → ∃ h' s' g' ts' am' cm' a10' c10', dM L xs zf w (201 + k) 142 [.ref (cx 7), .ref K] h = some (none, h') ∧ rM w (100 + k2) 314 [.ref 36, .int (Int32.ofNat kk), .int (Int32.ofNat so)] s = some (none, s') ∧ OPY (fun y => y = mlK ∨ (y = am ∧ 21 ≤ y) ∨ y = cx 10 ∨ (y = a10 ∧ 21 ≤ y)) cx F N q 0 (4 * cm + 4 * c10) (4 * cm' + 4 * c10') h s g ts h' s' g' ts' ∧ g' 6 ≤ 962 ∧ rMm s s' ml.length np ∧ hc h' K = some (.inr (9, fsK)) ∧ aL h' mlK am' cm' (mks ++ [21 + h.length]) ∧ (∀ y ∈ mks ++ [21 + h.length], oK h' y) ∧ aL h' (cx 10) a10' c10' (ml ++ [21 + h.length]) ∧ (∀ y ∈ ml ++ [21 + h.length], oK h' y) ∧ (am' = am ∨ 21 + h.length ≤ am') ∧ (a10' = a10 ∨ 21 + h.length ≤ a10') ∧ (∀ l2 ar2 cap2 es2, l2 ≠ mlK → l2 ≠ cx 10 → l2 ≠ cx 11 → aL h l2 ar2 cap2 es2 → aL h' l2 ar2 cap2 es2) ∧ (SY cx F N q h' s' g' ts' → g 0 < g' 0 ∧ (∃ pl, 22 + h.length ≤ pl ∧ MTR L xs h' s' (g 4) (g' 4) pl (21 + h'.length) ml.length (21 + h.length) kk K ∧ fd h' 11 (21 + h.length) 0 = some (.int (Int32.ofNat so))) ∧ s'.1 42 = Int32.ofNat (ml.length + 1) ∧ ∃ np', np ≤ np' ∧ np' ≤ np + 6 ∧ s'.1 52 = Int32.ofNat np' ∧ s'.2.1 77 (ml.length + 1) = Int32.ofNat np' ∧ s'.2.1 77 ml.length = Int32.ofNat np) := by
    intro hx sx gx cv st wx ha x42' q0 q1 q2 q4 q6 fx ceq req
    have lx := wx.2.1
    have yx := wx.2.2
    have lk : ∀ l2 ar2 cap2 es2, aL h l2 ar2 cap2 es2 → aL hx l2 ar2 cap2 es2 := fun l2 ar2 cap2 es2 e => aL_st (pC_r p0) (by decide) wx e
    have opx : OPY (fun y => y = mlK ∨ (y = am ∧ 21 ≤ y) ∨ y = cx 10 ∨ (y = a10 ∧ 21 ≤ y)) cx F N q 4 17 0 h s g ts hx sx gx ts := ⟨st, fun _ => ⟨z, hA_sX ha _, hA_yA ha⟩, fr_mono wx.1 (fun _ _ u => Or.inl (Or.inl u)), Or.inl q1, ⟨by omega, by omega⟩, by omega, by omega⟩
    obtain ⟨h', s', g', ts', am', cm', a10', c10', n1, n2, n3, n4, ⟨s7, n5, n6, n7, n8, n9, n10'⟩, n11, n12, n13, n14, n15, n16, n17, n18, n19⟩ := x_mt2 (L := L) (xs := xs) (zf := zf) (w := w) (k := k) (k2 := k2) (np := np) (kk := kk) (cv := cv) (cp := cpl cx F (g 0 + 1)) hT hw h14 opx ⟨Or.inl rfl, Or.inr (Or.inr (Or.inl rfl)), fun e _ => Or.inr (Or.inl ⟨rfl, e⟩), fun e _ => Or.inr (Or.inr (Or.inr ⟨rfl, e⟩))⟩ (by omega) (st1_old wx hK K0) k5 (lk _ _ _ _ em) (fun y hy => oK_fr wx.1 (hom y hy)) (lk _ _ _ _ e10) (fun y hy => oK_fr wx.1 (ho y hy)) nm1 n10 nmm hml (by omega) hnp so so12 (fun u => by
      obtain ⟨f1, f2, f3, f4⟩ := fx u
      exact ⟨(ha.1 52 (by decide) (by decide) (by decide) (by decide)).trans x52, by omega, f1, f2, f3, f4⟩)
    rw [lx] at n12 n13 n14 n15 n16 n17 n19
    refine ⟨h', s', g', ts', am', cm', a10', c10', ceq.trans n1, req.trans n2, n3, by omega, rMm_of2 ha ⟨n6, n7, n8, n9, n10'⟩ n5, n11, n12, n13, n14, n15, n16, n17, fun l2 ar2 cap2 es2 r1 r2 r3 e => n18 _ _ _ _ r1 r2 r3 (lk _ _ _ _ e), fun u => ?_⟩
    obtain ⟨w1, w2, w3⟩ := n19 u
    rw [q4] at w2
    refine ⟨by omega, w2, ?_, w3⟩
    rw [n5.1 42 (by decide) (by decide) (by decide) (by decide) (by decide) (by decide) (by decide) (by decide) (by decide), n6 42 (by decide) (by decide) (by decide)]
    exact x42'
  have szK : (dgR L xs h 5 [9] (some K)) = some (some mlK) := hc_gR (p := some mlK) hK k5 (by decide)
  have ge8 : ¬ mx_f2 .ge (Int32.ofNat mks.length) 8 = true := by
    rw [f2_ge, of_int (by omega), show (8 : Int32).toInt = 8 from by decide]
    simp
    omega
  have c17 : dM L xs zf w (201 + k) 142 [.ref (cx 7), .ref K] h = b142_51 L xs zf (dM L xs zf w (200 + k)) w (some (cx 7)) (some K) (Int32.ofNat so) h := by
    have sz : (dcV L xs (dM L xs zf w (200 + k)) 101 [5] (some mlK) [] h).bind dxI = some (Int32.ofNat mks.length, h) := by
      rw [al_v em, show 200 + k = 199 + k + 1 from by omega, al_size (k := 199 + k) em]
      rfl
    rw [show 201 + k = 200 + k + 1 from by omega, e142]
    show b142_0 L xs zf (dM L xs zf w (200 + k)) w (some (cx 7)) (some K) h = _
    unfold b142_0
    rw [c_in p0, Option.bind_some, c_I p0 6 (by omega), Option.bind_some, vS_6]
    rcases htk with ⟨e, tk⟩ | ⟨e, tk, act⟩
    · subst e
      rw [tk, if_neg (by decide)]
      unfold b142_17
      rw [szK, Option.bind_some, sz, Option.bind_some, if_neg ge8, if_pos (by decide)]
      rfl
    · subst e
      rw [tk, if_pos (by decide)]
      unfold b142_17
      rw [szK, Option.bind_some, sz, Option.bind_some, if_neg ge8, if_neg (by decide), hc_gI hK k2' (by decide), Option.bind_some, if_pos act]
      rfl
  have c51 : ∀ (hx : rm_H) (cv : Int32), (so = 2 → hx = h3 ∧ cv = 2) → (so = 1 → dM L xs zf w (200 + k) 143 [.ref (cx 7)] h3 = some (some (.int cv), hx)) → b142_51 L xs zf (dM L xs zf w (200 + k)) w (some (cx 7)) (some K) (Int32.ofNat so) h = b142_79 L xs zf (dM L xs zf w (200 + k)) w (some (cx 7)) (some K) (Int32.ofNat so) (cpl cx F (g 0 + 1)) cv hx := by
    intro hx cv s2 s1
    unfold b142_51
    rw [c_in p0, Option.bind_some, show (dcV L xs (dM L xs zf w (200 + k)) 92 [6] (some (cx 0)) [] h).bind dxV = some h3 from by rw [c_rv p0, e1]; rfl, Option.bind_some, c_in e2, Option.bind_some, c_I e2 7 (by omega), Option.bind_some, vS_7]
    rcases so12 with e | e
    · subst e
      rw [if_neg (by decide), show (dcV L xs (dM L xs zf w (200 + k)) 143 [8] (some (cx 7)) [] h3).bind dxI = some (cv, hx) from by rw [c_pv e2, s1 rfl]; rfl, Option.bind_some]
    · subst e
      obtain ⟨f1, f2⟩ := s2 rfl
      subst f1
      subst f2
      rw [if_pos (by decide)]
  have r314 := r_314h (w := w) (k := 99 + k2) (kk := kk) (so := Int32.ofNat so) (m := ml.length) (by omega) x42 c1 nl.1
  rw [show 99 + k2 + 1 = 100 + k2 from by omega] at r314
  rcases so12 with e | e
  · subst e
    obtain ⟨h4, s4, g4, cv, d1, d2, d3, d4, d5, d6, ⟨d7, d8, d9, d10, d11, d12, d13⟩, d14, d15, d16⟩ := op_cap (L := L) (xs := xs) (zf := zf) (w := w) (k := 195 + k) (k2 := 97 + k2) (m := ml.length) hT sy3 (by omega)
    rw [show 195 + k + 5 = 200 + k from by omega] at d1
    rw [show 97 + k2 + 2 = 99 + k2 from by omega] at d2
    rw [if_neg (by decide)] at r314
    refine go h4 s4 g4 cv d3 (st1_trans e3 d4) (hA_trans hA_mh d5) (d6.trans mj.1) d7 d8 d9 d11 d13 (fun u => ?_) (c17.trans (c51 h4 cv (fun e => by omega) (fun _ => d1))) (r314.trans d2)
    obtain ⟨c, hc5, f1, f2, f3⟩ := d16 u
    refine ⟨?_, ?_, ?_, Or.inr ⟨rfl, c, hc5, f1, f2, f3.symm⟩⟩
    · rw [d14 75 (by decide) (by decide), mh_get, if_neg (by omega), if_pos ⟨rfl, rfl⟩]
    · rw [d14 70 (by decide) (by decide), mh_get, if_neg (by omega), if_neg (by omega), if_neg (by omega), if_neg (by omega), if_pos ⟨rfl, rfl⟩]
    · rw [d14 71 (by decide) (by decide), mh_get, if_neg (by omega), if_neg (by omega), if_neg (by omega), if_pos ⟨rfl, rfl⟩]
  · subst e
    rw [if_pos (by decide)] at r314
    refine go h3 _ (gu g 0 (g 0 + 1)) 2 (Or.inl sy3) e3 hA_mh mj.1 (Nat.le_refl _) rfl rfl rfl rfl (fun _ => ⟨?_, ?_, ?_, Or.inl ⟨rfl, rfl, ?_⟩⟩) (c17.trans (c51 h3 2 (fun _ => ⟨rfl, rfl⟩) (fun e => by omega))) r314
    · rw [mh_get, if_neg (by omega), if_pos ⟨rfl, rfl⟩]
    · rw [mh_get, if_neg (by omega), if_neg (by omega), if_neg (by omega), if_neg (by omega), if_pos ⟨rfl, rfl⟩]
    · rw [mh_get, if_neg (by omega), if_neg (by omega), if_neg (by omega), if_pos ⟨rfl, rfl⟩]
    · rw [mh_get, if_neg (by omega), if_neg (by omega), if_pos ⟨rfl, rfl⟩]
end MI
