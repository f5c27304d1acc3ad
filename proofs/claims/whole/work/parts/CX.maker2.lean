/-! A MAKER, by both: all of it. -/
/-- the reference at a maker -/
def rmkE (E : rE) (w : Nat) (i1 : Int32) (s : rS) : Option rA :=
  ((E 303 [.ref 36, .int 2] s).bind rxI).bind fun x17 =>
  if mx_f1 .ne x17.1 = true then
    s306_154 E w i1 x17.2
  else
    ((E 304 [.ref 36] x17.2).bind rxV).bind fun s23 =>
    s306_154 E w i1 s23
section MB
variable {L : Nat} {xs : Nat → Int32} {zf : Value} {w k k2 i m np kk t : Nat} {cx : Nat → Nat} {F : Nat → Nat → Int32} {N : Nat → Int64} {q : List Value} {h h' h1 h2 : rm_H} {s s' s1 : rS} {g g' : Nat → Nat} {ts ts' : List Nat} {M K l a10 c10 d : Nat} {v : Nat → Int32} {pt vr so : Int32} {fsK : List Value} {ml : List Nat}
theorem ob_keep3 {ci : Nat} {fs : List Value} {qm : List Value} {ar cap : Nat} {es : List Nat} (h14 : cx 14 = 0) (z : SY cx F N q h s g ts ∨ FLT cx F N q h s g ts) (f : fr (fun y => M4 cx (g 1) y ∨ y = l ∨ y = M) h h') (hM : hc h M = some (.inr (11, qm))) (el : aL h l ar cap es) (hd : hc h d = some (.inr (ci, fs))) (hci : ci ≠ 4 ∧ ci ≠ 5 ∧ ci ≠ 6 ∧ ci ≠ 11) : hc h' d = some (.inr (ci, fs)) := by
  obtain ⟨v, pt, vr, p1, ch⟩ := sy_pc z
  refine fr_old f hd (fun u => ?_)
  rcases u with u | u | u
  · rcases u with u | u | u | u | u
    · rw [u, pC_r p1] at hd; cases hd; exact hci.2.2.1 rfl
    · rw [u, ch.1] at hd; cases hd; exact hci.1 rfl
    · obtain ⟨mc, e, _⟩ := ch.2.1
      rw [u, e] at hd; cases hd; exact hci.2.1 rfl
    · have := hc_ge hd
      omega
    · obtain ⟨mc, _, _, _, e3⟩ := ch.2.1
      rcases e3 with ⟨e3, _⟩ | ⟨f0, e3, _⟩
      · have := hc_ge hd
        omega
      · rw [u, e3] at hd; cases hd
  · obtain ⟨mc, e, _⟩ := el
    rw [u, e] at hd; cases hd; exact hci.2.1 rfl
  · rw [u, hM] at hd; cases hd; exact hci.2.2.2 rfl
theorem mh_sX {nd : Nat} : sX s (mhS s m kk i so) nd := fun j _ => ⟨fun p h1 h2 => by rw [mh_get, if_neg (by omega), if_neg (by omega), if_neg (by omega), if_neg (by omega), if_neg (by omega)], by rw [mh_J, if_neg (by omega)]⟩
theorem mh_yA : yA s (mhS s m kk i so) := by
  refine yA_of (mh_1.2.2 26 (by decide) (by decide)) (fun p h1 h2 => ?_) ?_
  · funext j; rw [mh_get, if_neg (by omega), if_neg (by omega), if_neg (by omega), if_neg (by omega), if_neg (by omega)]
  · funext j; rw [mh_J, if_neg (by omega)]
theorem mh_rT (rt : rTk F N s) : rTk F N (mhS s m kk i so) := by
  obtain ⟨t1, t2, t3, t4⟩ := rt
  refine ⟨?_, ?_, ?_, ?_⟩
  · rw [← t1]; funext j; rw [mh_get, if_neg (by omega), if_neg (by omega), if_neg (by omega), if_neg (by omega), if_neg (by omega)]
  · rw [← t2]; funext j; rw [mh_get, if_neg (by omega), if_neg (by omega), if_neg (by omega), if_neg (by omega), if_neg (by omega)]
  · rw [← t3]; funext j; rw [mh_get, if_neg (by omega), if_neg (by omega), if_neg (by omega), if_neg (by omega), if_neg (by omega)]
  · rw [← t4]; funext j; rw [mh_J, if_neg (by omega)]
theorem mh_rQ : rQ s (mhS s m kk i so) := by
  refine ⟨fun p hp => ?_, ?_, ?_⟩
  · funext j; rw [mh_get, if_neg (by omega), if_neg (by omega), if_neg (by omega), if_neg (by omega), if_neg (by omega)]
  · funext j; rw [mh_J, if_neg (by omega)]
  · funext j; rw [mh_J, if_neg (by omega)]
theorem mh_SY (z : SY cx F N q h s g ts) (hlt : g 0 < cx 16) (p : pC h1 cx F (vS cx F (g 0 + 1))) (ch : CH cx q h1 g ts (s.1 24) (s.1 25)) (tt : TSI cx h1 s g ts) : SY cx F N q h1 (mhS s m kk (g 0) so) (gu g 0 (g 0 + 1)) ts := by
  obtain ⟨⟨p0, ⟨a1, a2, a3, a4⟩, rt, ch0, ⟨c1, c2, c3, c4⟩, b1, b2, b3, b4⟩, g6⟩ := z
  have e := (mh_1 (s := s) (m := m) (kk := kk) (i := g 0) (so := so)).2.2
  refine ⟨⟨p, ⟨(e 57 (by decide) (by decide)).trans a1, (e 58 (by decide) (by decide)).trans a2, fun hh => (e 59 (by decide) (by decide)).trans (a3 hh), a4⟩, mh_rT rt, ?_, ⟨mh_1.1, (e 10 (by decide) (by decide)).trans c2, (e 26 (by decide) (by decide)).trans c3, c4⟩, ?_⟩, g6.1, TSI_s (TSI_e tt mh_rQ) rfl rfl rfl rfl⟩
  · rw [e 24 (by decide) (by decide), e 25 (by decide) (by decide)]
    exact CH_g (g := g) rfl rfl rfl ch
  · show g 0 + 1 ≤ _ ∧ _ ≤ g 0 + 1 ∧ g 4 ≤ g 0 + 1 + 2 ∧ g 5 + 2 ≤ g 0 + 1
    omega
theorem x_maker (hT : TF cx F N) (hw : 2100 ≤ w) (h14 : cx 14 = 0) (z : SY cx F N q h s g ts ∨ FLT cx F N q h s g ts) (hg : g 6 ≤ 1900) (hK : hc h K = some (.inr (9, fsK))) (k6 : ∃ u, fsK[6]? = some u) (e10 : aL h (cx 10) a10 c10 ml) (ho : ∀ y ∈ ml, oK h y) (n10 : cx 10 ≠ cx 11) (hml : ml.length ≤ 71) (hnp : np + 7 < 440) (hsy : SY cx F N q h s g ts → s.1 42 = Int32.ofNat ml.length ∧ s.1 52 = Int32.ofNat np) : ∃ h' s' g' ts' a10' c10', dM L xs zf w (201 + k) 115 [.ref (cx 7), .ref K] h = some (none, h') ∧ rmkE (rM w (100 + k2)) w (Int32.ofNat kk) s = s306_167 (rM w (100 + k2)) w w (Int32.ofNat kk) s' ∧ OPY (fun y => y = K ∨ y = cx 10 ∨ (y = a10 ∧ 21 ≤ y)) cx F N q 0 (4 * c10) (4 * c10') h s g ts h' s' g' ts' ∧ (g' 6 ≤ 962 ∨ g' 6 ≤ g 6 + 40) ∧ rMm s s' ml.length np ∧ hc h' K = some (.inr (9, fsK.set 6 (.ref (21 + h.length)))) ∧ aL h' (cx 10) a10' c10' (ml ++ [21 + h.length]) ∧ (∀ y ∈ ml ++ [21 + h.length], oK h' y) ∧ (a10' = a10 ∨ 21 + h.length ≤ a10') ∧ (∀ l2 ar2 cap2 es2, l2 ≠ cx 10 → l2 ≠ cx 11 → aL h l2 ar2 cap2 es2 → aL h' l2 ar2 cap2 es2) ∧ (SY cx F N q h' s' g' ts' → g 0 < g' 0 ∧ MTR L xs h' s' (g 4) (g' 4) (22 + h.length) (21 + h'.length) ml.length (21 + h.length) kk K ∧ s'.2.1 70 ml.length = 0 ∧ s'.1 42 = Int32.ofNat (ml.length + 1) ∧ ∃ np', np ≤ np' ∧ np' ≤ np + 6 ∧ s'.1 52 = Int32.ofNat np' ∧ s'.2.1 77 (ml.length + 1) = Int32.ofNat np' ∧ s'.2.1 77 ml.length = Int32.ofNat np) := by
  obtain ⟨v, pt, vr, p0, ch⟩ := sy_pc z
  have nl := n_lt hT z
  have mkC : ∀ v, pC h cx F v → ∃ h4 a10' c10', dM L xs zf w (201 + k) 115 [.ref (cx 7), .ref K] h = (((dcV L xs (dM L xs zf w (200 + k)) 109 [8] (some (cx 7)) [.int 22] h4).bind dxV).bind fun h32 => ((dcV L xs (dM L xs zf w (200 + k)) 117 [8] (some (cx 7)) [.ref (21 + h.length)] h32).bind dxV).bind fun h36 => b142_220 L xs zf (dM L xs zf w (200 + k)) w (some (cx 7)) (some (21 + h.length)) h36) ∧ (∀ v, pC h cx F v → pC h4 cx F v) ∧ (∀ pt vr, CH cx q h g ts pt vr → CH cx q h4 g ts pt vr) ∧ hc h4 (21 + h.length) = some (.inr (11, mtC 0 K (Int32.ofNat ml.length) 10 (v 7) (22 + h.length))) ∧ aL h4 (22 + h.length) 5 0 [] ∧ hc h4 K = some (.inr (9, fsK.set 6 (.ref (21 + h.length)))) ∧ aL h4 (cx 10) a10' c10' (ml ++ [21 + h.length]) ∧ (∀ y ∈ ml ++ [21 + h.length], oK h4 y) ∧ fr (fun y => y = K ∨ y = cx 10 ∨ (y = a10 ∧ 21 ≤ y)) h h4 ∧ (h4.length ≤ h.length + 3 ∧ nD h h4) ∧ zh h4 + 4 * c10 ≤ zh h + 4 * c10' + 17 ∧ (a10' = a10 ∨ 21 + h.length ≤ a10') ∧ (∀ l2 ar2 cap2 es2, l2 ≠ cx 10 → aL h l2 ar2 cap2 es2 → aL h4 l2 ar2 cap2 es2) ∧ 22 + h.length < 21 + h4.length := by
    intro v pv
    have := c_mk0 (L := L) (xs := xs) (zf := zf) (w := w) (k := 194 + k) h14 pv ch hK k6 e10 ho n10 (by omega)
    rw [show 194 + k + 7 = 201 + k from by omega, show 194 + k + 6 = 200 + k from by omega] at this
    exact this
  have n11 : 22 + h.length ≠ cx 11 := by have := (aL_lt ch.2.1).1; omega
  have nl10 : cx 10 ≠ 22 + h.length := by have := (aL_lt e10).1; omega
  have nK : K < 21 + h.length := hc_lt hK
  -- behind a fault
  have fault : ∀ (v : Nat → Int32) (h4 h5 : rm_H) (a10' c10' : Nat) (s5 : rS), dM L xs zf w (201 + k) 115 [.ref (cx 7), .ref K] h = (((dcV L xs (dM L xs zf w (200 + k)) 109 [8] (some (cx 7)) [.int 22] h4).bind dxV).bind fun h32 => ((dcV L xs (dM L xs zf w (200 + k)) 117 [8] (some (cx 7)) [.ref (21 + h.length)] h32).bind dxV).bind fun h36 => b142_220 L xs zf (dM L xs zf w (200 + k)) w (some (cx 7)) (some (21 + h.length)) h36) → pC h4 cx F v → dM L xs zf w (200 + k) 109 [.ref (cx 7), .int 22] h4 = some (none, h5) → st1 (cx 0) h4 h5 → FLT cx F N q h5 s5 (gu g 6 (g 6 + 3)) ts → hc h4 (21 + h.length) = some (.inr (11, mtC 0 K (Int32.ofNat ml.length) 10 (v 7) (22 + h.length))) → aL h4 (22 + h.length) 5 0 [] → hc h4 K = some (.inr (9, fsK.set 6 (.ref (21 + h.length)))) → aL h4 (cx 10) a10' c10' (ml ++ [21 + h.length]) → (∀ y ∈ ml ++ [21 + h.length], oK h4 y) → fr (fun y => y = K ∨ y = cx 10 ∨ (y = a10 ∧ 21 ≤ y)) h h4 → h4.length ≤ h.length + 3 → zh h4 + 4 * c10 ≤ zh h + 4 * c10' + 17 → (a10' = a10 ∨ 21 + h.length ≤ a10') → (∀ l2 ar2 cap2 es2, l2 ≠ cx 10 → aL h l2 ar2 cap2 es2 → aL h4 l2 ar2 cap2 es2) → rmkE (rM w (100 + k2)) w (Int32.ofNat kk) s = s306_167 (rM w (100 + k2)) w w (Int32.ofNat kk) s5 → rMm s s5 ml.length np → ∃ h' s' g' ts' a10' c10', dM L xs zf w (201 + k) 115 [.ref (cx 7), .ref K] h = some (none, h') ∧ rmkE (rM w (100 + k2)) w (Int32.ofNat kk) s = s306_167 (rM w (100 + k2)) w w (Int32.ofNat kk) s' ∧ OPY (fun y => y = K ∨ y = cx 10 ∨ (y = a10 ∧ 21 ≤ y)) cx F N q 0 (4 * c10) (4 * c10') h s g ts h' s' g' ts' ∧ (g' 6 ≤ 962 ∨ g' 6 ≤ g 6 + 40) ∧ rMm s s' ml.length np ∧ hc h' K = some (.inr (9, fsK.set 6 (.ref (21 + h.length)))) ∧ aL h' (cx 10) a10' c10' (ml ++ [21 + h.length]) ∧ (∀ y ∈ ml ++ [21 + h.length], oK h' y) ∧ (a10' = a10 ∨ 21 + h.length ≤ a10') ∧ (∀ l2 ar2 cap2 es2, l2 ≠ cx 10 → l2 ≠ cx 11 → aL h l2 ar2 cap2 es2 → aL h' l2 ar2 cap2 es2) ∧ (SY cx F N q h' s' g' ts' → g 0 < g' 0 ∧ MTR L xs h' s' (g 4) (g' 4) (22 + h.length) (21 + h'.length) ml.length (21 + h.length) kk K ∧ s'.2.1 70 ml.length = 0 ∧ s'.1 42 = Int32.ofNat (ml.length + 1) ∧ ∃ np', np ≤ np' ∧ np' ≤ np + 6 ∧ s'.1 52 = Int32.ofNat np' ∧ s'.2.1 77 (ml.length + 1) = Int32.ofNat np' ∧ s'.2.1 77 ml.length = Int32.ofNat np) := by
    intro v h4 h5 a10' c10' s5 ceq p4 e109 w5 fl M4' l4 K4 e10' ho' f4 len4 z4 a10e lists req rr
    have M0 : 21 + h.length ≠ cx 0 := by have := hc_lt (pC_r p0); omega
    have K0 : K ≠ cx 0 := fun e => by rw [e, pC_r p0] at hK; cases hK
    obtain ⟨h2, h', g', ts', fsM, b1, ⟨v2, p2⟩, b2, b3, b4, b5, b6, b7⟩ := z_mth (L := L) (xs := xs) (zf := zf) (w := w) (k := 189 + k) hT hw h14 fl (by show g 6 + 3 ≤ 2800; omega) (st1_old w5 M4' M0) rfl rfl n11 (aL_st (pC_r p4) (by decide) w5 l4) 0
    rw [show 189 + k + 11 = 200 + k from by omega] at b1 b2
    have l5 := w5.2.1
    have y5 := w5.2.2
    obtain ⟨v5, p5⟩ := op_pC (Or.inr fl)
    have op5 : OPY (fun y => y = K ∨ y = cx 10 ∨ (y = a10 ∧ 21 ≤ y)) cx F N q 0 (4 * c10) (4 * c10') h s g ts h5 s5 (gu g 6 (g 6 + 3)) ts := by
      refine ⟨Or.inr fl, fun u => (sy_no u fl).elim, fr_trans (fr_mono f4 (fun _ _ u => Or.inr u)) w5.1 (fun _ _ u => Or.inl (Or.inl u)), Or.inl rfl, ⟨Nat.le_refl _, Nat.le_refl _⟩, ?_⟩
      show h5.length + 10 * g 0 + g 6 + 0 ≤ h.length + 10 * g 0 + (g 6 + 3) ∧ zh h5 + 4 * g 2 + 80 * g 0 + 8 * g 6 + 4 * c10 ≤ zh h + 4 * g 2 + 80 * g 0 + 8 * (g 6 + 3) + 4 * c10'
      omega
    have K5 := st1_old w5 K4 K0
    have e5 := aL_st (pC_r p4) (by decide) w5 e10'
    have fM := b4.2.2.1
    refine ⟨h', s5, g', ts', a10', c10', ?_, req, OPY_le (OPY_trans op5 b4 (fun y hy u => by
      rcases u with u | u
      · omega
      · omega)) (by omega) (by omega), ?_, rr, ob_keep3 h14 (Or.inr fl) fM (st1_old w5 M4' M0) (aL_st (pC_r p4) (by decide) w5 l4) K5 (by decide), b7 _ _ _ _ nl10 n10 e5, fun y hy => oK_fr fM (oK_fr w5.1 (ho' y hy)), a10e, fun l2 ar2 cap2 es2 n1 n2 e => b7 _ _ _ _ (by have := (aL_lt e).1; omega) n2 (aL_st (pC_r p4) (by decide) w5 (lists l2 ar2 cap2 es2 n1 e)), fun u => (sy_no u b3).elim⟩
    · rw [ceq, c_pv p4, e109]
      show ((dcV L xs (dM L xs zf w (200 + k)) 117 [8] (some (cx 7)) [.ref (21 + h.length)] h5).bind dxV).bind _ = _
      rw [c_pv p5, b1]
      unfold mtl at b2
      rw [if_pos (by decide)] at b2
      exact b2
    · have b5 : g' 6 ≤ (g 6 + 3) + 14 := b5
      omega
  rcases z with z | z
  · obtain ⟨⟨p1, ⟨a1, a2, a3, a4⟩, rt, ch1, ⟨c1, c2, c3, c4⟩, b1, b2, b3, b4⟩, g6⟩ := id z
    have hT1 := hT.1
    obtain ⟨⟨f5, _, tr⟩, _⟩ := hT.2.2 (g 0) b1
    obtain ⟨x42, x52⟩ := hsy z
    obtain ⟨h4, a10', c10', m1, m2, m3, m4, m5, m6, m7, m8, m9, m10, m11, m12, m13, m14⟩ := mkC _ p1
    have p4 := m2 _ p1
    have q3 := q303 (w := w) (k := 99 + k2) 2 a1 c1 nl.1
    rw [rt.1, rt.2.2.1, show 99 + k2 + 1 = 100 + k2 from by omega] at q3
    by_cases t22 : ctk cx F (g 0) = 22
    · have hlt := w_pass hT z 22 t22 (by decide) (by decide)
      obtain ⟨h5, e1, e2, e3⟩ := y_takeT (L := L) (xs := xs) (zf := zf) (w := w) (k := 196 + k) hT hlt p4 22 t22
      rw [show 196 + k + 4 = 200 + k from by omega] at e1
      rw [decide_eq_true ((wd_iff tr Q2).mpr t22)] at q3
      have hPd : ∀ d fs, hc h d = some (.inr (10, fs)) → ¬ (d = K ∨ d = cx 10 ∨ (d = a10 ∧ 21 ≤ d)) := by
        intro d fs ed u
        rcases u with u | u | u
        · rw [u, hK] at ed; cases ed
        · exact aL_10 e10 d fs ed (Or.inl u)
        · exact aL_10 e10 d fs ed (Or.inr u.1)
      have sy5 := mh_SY (m := ml.length) (kk := kk) (so := 0) z hlt e2 (CH_r p4 e3 (m3 _ _ ch1)) (TSI_w (TSI_0 g6.2 m9 hPd m10.2 rfl rfl rfl rfl) (pC_r p4) (by decide) e3 rfl rfl rfl rfl)
      have M0 : 21 + h.length ≠ cx 0 := by have := hc_lt (pC_r p1); omega
      have K0 : K ≠ cx 0 := fun e => by rw [e, pC_r p1] at hK; cases hK
      have hM5 := st1_old e3 m4 M0
      have el5 := aL_st (pC_r p4) (by decide) e3 m5
      have l5 := e3.2.1
      have y5 := e3.2.2
      have mj := (mh_1 (s := s) (m := ml.length) (kk := kk) (i := g 0) (so := 0)).2.2
      obtain ⟨h2, h', s', g', ts', fsM, b1', b2', b3', b4', b5', b6', b7', b8', b9', ⟨v2, p2⟩, b10'⟩ := x_mth (L := L) (xs := xs) (zf := zf) (w := w) (k := k) (k2 := k2) (m := ml.length) (np := np) (kk := kk) (K := K) hT hw h14 (Or.inl sy5) (by show g 6 ≤ 2000; omega) hM5 rfl rfl rfl ⟨rfl, rfl, rfl⟩ n11 el5 (by omega) hnp 0 (by omega) (fun _ => ⟨(mj 52 (by decide) (by decide)).trans x52, by show g 4 ≤ g 0 + 1 + 1; omega, by rw [mh_get, if_neg (by omega), if_pos ⟨rfl, rfl⟩], ⟨⟨0, by omega, by rw [fd_of hM5]; rfl, by rw [mh_get, if_neg (by omega), if_neg (by omega), if_neg (by omega), if_neg (by omega), if_pos ⟨rfl, rfl⟩]; rfl, Or.inl ⟨rfl, by rw [fd_of hM5]; rfl, by rw [mh_J, if_pos ⟨rfl, rfl⟩]⟩, Or.inl ⟨by omega, by rw [fd_of hM5]; rfl, by rw [mh_get, if_neg (by omega), if_neg (by omega), if_pos ⟨rfl, rfl⟩]⟩⟩, by rw [fd_of hM5]; rfl, by rw [mh_get, if_neg (by omega), if_neg (by omega), if_neg (by omega), if_pos ⟨rfl, rfl⟩], by rw [fd_of hM5]; rfl, by rw [fd_of hM5, mh_get, if_pos ⟨rfl, rfl⟩, rt.2.1, f5]; rfl⟩, by rw [mh_get, if_neg (by omega), if_neg (by omega), if_neg (by omega), if_neg (by omega), if_pos ⟨rfl, rfl⟩]; rfl⟩)
      have op5 : OPY (fun y => y = K ∨ y = cx 10 ∨ (y = a10 ∧ 21 ≤ y)) cx F N q 0 (4 * c10) (4 * c10') h s g ts h5 (mhS s ml.length kk (g 0) 0) (gu g 0 (g 0 + 1)) ts := by
        refine ⟨Or.inl sy5, fun _ => ⟨z, mh_sX, mh_yA⟩, fr_trans (fr_mono m9 (fun _ _ u => Or.inr u)) e3.1 (fun _ _ u => Or.inl (Or.inl u)), Or.inl rfl, ?_⟩
        show (g 0 ≤ g 0 + 1 ∧ g 4 ≤ g 4) ∧ h5.length + 10 * g 0 + g 6 + 0 ≤ h.length + 10 * (g 0 + 1) + g 6 ∧ zh h5 + 4 * g 2 + 80 * g 0 + 8 * g 6 + 4 * c10 ≤ zh h + 4 * g 2 + 80 * (g 0 + 1) + 8 * g 6 + 4 * c10'
        omega
      have K5 := st1_old e3 m6 K0
      have e5 := aL_st (pC_r p4) (by decide) e3 m7
      have fM := b4'.2.2.1
      refine ⟨h', s', g', ts', a10', c10', ?_, ?_, OPY_le (OPY_trans op5 b4' (fun y hy u => by
        rcases u with u | u
        · omega
        · omega)) (by omega) (by omega), ?_, rMm_of b6', ob_keep3 h14 (Or.inl sy5) fM hM5 el5 K5 (by decide), b9' _ _ _ _ nl10 n10 e5, fun y hy => oK_fr fM (oK_fr e3.1 (m8 y hy)), m12, fun l2 ar2 cap2 es2 n1 n2 e => b9' _ _ _ _ (by have := (aL_lt e).1; omega) n2 (aL_st (pC_r p4) (by decide) e3 (m13 l2 ar2 cap2 es2 n1 e)), fun u => ?_⟩
      · rw [m1, c_pv p4, e1]
        show ((dcV L xs (dM L xs zf w (200 + k)) 117 [8] (some (cx 7)) [.ref (21 + h.length)] h5).bind dxV).bind _ = _
        rw [c_pv e2, b1']
        unfold mtl at b2'
        rw [if_pos (by decide)] at b2'
        exact b2'
      · have r314 := r_314h (w := w) (k := 99 + k2) (kk := kk) (so := 0) (m := ml.length) (by omega) x42 c1 nl.1
        rw [if_pos (by decide), show 99 + k2 + 1 = 100 + k2 from by omega] at r314
        unfold s314_141 at r314
        rw [if_pos (by decide)] at r314
        have b3'' : s314_178 (rM w (99 + k2)) w 0 (Int32.ofNat ml.length) (mhS s ml.length kk (g 0) 0) = some (none, s') := b3'
        rw [b3''] at r314
        unfold rmkE
        rw [show (rM w (100 + k2) 303 [.ref 36, .int 2] s).bind rxI = some (rd_01 true, s) from by rw [q3]; rfl, Option.bind_some, if_pos (show mx_f1 .ne (rd_01 true) = true by decide)]
        unfold s306_154
        rw [a1, if_neg (by decide), show (rM w (100 + k2) 314 [.ref 36, .int (Int32.ofNat kk), .int 0] s).bind rxV = some s' from by rw [r314]; rfl, Option.bind_some]
      · have : gu g 0 (g 0 + 1) 6 = g 6 := rfl
        omega
      · obtain ⟨w1, w2, w3⟩ := b10' u
        have e0 : gu g 0 (g 0 + 1) 0 = g 0 + 1 := rfl
        refine ⟨by omega, w2, by rw [b6'.2.1 70 (Or.inr (Or.inl ⟨by decide, by decide⟩)), mh_get, if_neg (by omega), if_neg (by omega), if_neg (by omega), if_neg (by omega), if_pos ⟨rfl, rfl⟩], ?_, w3⟩
        rw [b6'.1 42 (by decide) (by decide) (by decide) (by decide) (by decide) (by decide) (by decide) (by decide) (by decide)]
        exact mh_1.2.1
    · obtain ⟨h5, v5, e1, e2, e3, e4⟩ := y_takeF (L := L) (xs := xs) (zf := zf) (w := w) (k := 196 + k) hT b1 p4 22 t22
      rw [show 196 + k + 4 = 200 + k from by omega] at e1
      rw [decide_eq_false (fun u => t22 ((wd_iff tr Q2).mp u))] at q3
      have fl : FLT cx F N q h5 (stS s (g 0)) (gu g 6 (g 6 + 3)) ts := by
        refine ⟨⟨v5, e2, ?_⟩, rfl, rt, ⟨_, _, CH_g (g := g) rfl rfl rfl (CH_r p4 e4 (m3 _ _ ch1))⟩, ⟨c1, c2, c3, c4⟩, ?_⟩
        · show rfd v5 (s.2.1 41 (g 0))
          rw [rt.2.1, f5]
          exact e3
        · show g 0 ≤ _ ∧ _ ≤ g 0 + (g 6 + 3) ∧ g 4 ≤ g 0 + 2 + (g 6 + 3)
          omega
      refine fault _ h4 h5 a10' c10' (stS s (g 0)) m1 p4 e1 e4 fl m4 m5 m6 m7 m8 m9 m10.1 m11 m12 m13 ?_ rMm_st
      unfold rmkE
      rw [show (rM w (100 + k2) 303 [.ref 36, .int 2] s).bind rxI = some (rd_01 false, s) from by rw [q3]; rfl, Option.bind_some, if_neg (show ¬ mx_f1 .ne (rd_01 false) = true by decide), show (rM w (100 + k2) 304 [.ref 36] s).bind rxV = some (stS s (g 0)) from by
        have := q304 (w := w) (k := 98 + k2) a1 c1 nl.1
        rw [show 98 + k2 + 2 = 100 + k2 from by omega] at this
        rw [this]
        rfl, Option.bind_some]
      unfold s306_154
      rw [if_pos (show mx_f1 .ne ((stS s (g 0)).1 57) = true from by rw [show (stS s (g 0)).1 57 = 1 from rfl]; decide)]
  · obtain ⟨⟨v1, p1, r⟩, h57, rt, ⟨pt1, vr1, ch1⟩, cs, b⟩ := id z
    obtain ⟨h4, a10', c10', m1, m2, m3, m4, m5, m6, m7, m8, m9, m10, m11, m12, m13, m14⟩ := mkC _ p1
    have p4 := m2 _ p1
    obtain ⟨h5, e1, e2, e3⟩ := z_take (L := L) (xs := xs) (zf := zf) (w := w) (k := 196 + k) r p4 22 (by decide)
    rw [show 196 + k + 4 = 200 + k from by omega] at e1
    have fl : FLT cx F N q h5 s (gu g 6 (g 6 + 3)) ts := by
      refine ⟨⟨v1, e2, r⟩, h57, rt, ⟨_, _, CH_g (g := g) rfl rfl rfl (CH_r p4 e3 (m3 _ _ ch1))⟩, cs, ?_⟩
      show g 0 ≤ _ ∧ _ ≤ g 0 + (g 6 + 3) ∧ g 4 ≤ g 0 + 2 + (g 6 + 3)
      omega
    refine fault _ h4 h5 a10' c10' s m1 p4 e1 e3 fl m4 m5 m6 m7 m8 m9 m10.1 m11 m12 m13 ?_ (rMm_refl _ _ _)
    unfold rmkE
    rw [show (rM w (100 + k2) 303 [.ref 36, .int 2] s).bind rxI = some (0, s) from by
      have := z303 (w := w) (k := 99 + k2) 2 h57
      rw [show 99 + k2 + 1 = 100 + k2 from by omega] at this
      rw [this]
      rfl, Option.bind_some, if_neg (show ¬ mx_f1 .ne 0 = true by decide), show (rM w (100 + k2) 304 [.ref 36] s).bind rxV = some s from by
      have := z304 (w := w) (k := 98 + k2) h57 cs.1 nl.1
      rw [show 98 + k2 + 2 = 100 + k2 from by omega] at this
      rw [this]
      rfl, Option.bind_some]
    unfold s306_154
    rw [if_pos (ne1 h57)]
end MB
