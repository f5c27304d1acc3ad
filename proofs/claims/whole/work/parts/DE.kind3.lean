/-! A KIND, by both. -/
/-- a Kind that is read -/
def KX (L : Nat) (xs : Nat → Int32) (h : rm_H) (s : rS) (gn A B np fN : Nat) (ml : List Nat) (kk K : Nat) : Prop := ∃ nm pl ac fl mlK mk af cf am cm fds mks f0 m0, hc h K = some (.inr (9, [.ref nm, .int pl, .int ac, .int (Int32.ofNat kk), .ref fl, .ref mlK, .ref mk])) ∧ nS L xs h nm (s.2.2 62 kk) ∧ s.2.1 63 kk = pl ∧ s.2.1 66 kk = ac ∧ (ac = 0 ∨ ac = 1) ∧ (s.2.1 64 kk = Int32.ofNat f0 ∧ s.2.1 64 (kk + 1) = Int32.ofNat (f0 + fds.length) ∧ fds.length ≤ 8 ∧ f0 + fds.length ≤ fN) ∧ (s.2.1 65 kk = Int32.ofNat m0 ∧ s.2.1 65 (kk + 1) = Int32.ofNat (m0 + 1 + mks.length) ∧ mks.length ≤ 8) ∧ (aL h fl af cf fds ∧ A ≤ fl) ∧ (aL h mlK am cm mks ∧ A ≤ mlK) ∧ (∀ i d, fds[i]? = some d → FX L xs h s d (f0 + i) i ∧ A ≤ d) ∧ (MX L xs h s gn A B np m0 mk kk K ∧ ml[m0]? = some mk ∧ s.2.1 70 m0 = 0) ∧ ∀ i d, mks[i]? = some d → MX L xs h s gn A B np (m0 + 1 + i) d kk K ∧ ml[m0 + 1 + i]? = some d ∧ s.2.1 70 (m0 + 1 + i) ≠ 0 ∧ (ac = 0 → s.2.1 70 (m0 + 1 + i) = 1)
section KE
variable {L : Nat} {xs : Nat → Int32} {zf : Value} {w k k2 kk i f0 np : Nat} {cx : Nat → Nat} {F : Nat → Nat → Int32} {N : Nat → Int64} {q : List Value} {h h' h1 h2 : rm_H} {s s' s1 s2 : rS} {g g' : Nat → Nat} {ts ts' : List Nat} {K nm a9 c9 a10 c10 A B : Nat} {v : Nat → Int32} {pt vr pl ac ix i1 : Int32} {kl ml : List Nat} {K9 : Option Nat → Int32 → rm_H → Option dR}
theorem OPW_mono {P Q : Nat → Prop} {c1 c2 d2 : Nat} (a : OPW P cx F N q c1 c2 d2 h s g ts h' s' g' ts') (hQ : ∀ y, y < 21 + h.length → P y → Q y) : OPW Q cx F N q c1 c2 d2 h s g ts h' s' g' ts' := by
  obtain ⟨a1, a2, a3, a4, a5, a6, a7⟩ := a
  exact ⟨a1, a2, fr_mono a3 (fun y hy u => u.elim Or.inl (fun u => Or.inr (hQ y hy u))), a4, a5, a6, a7⟩
theorem MX_leA {gn np m M kk K A2 : Nat} (e : MX L xs h s gn A B np m M kk K) (h1 : A2 ≤ A) : MX L xs h s gn A2 B np m M kk K := by
  obtain ⟨lo, hi, pl, ph, x, a1, a2, a3, a4, a5, a6, a7, a8, a9⟩ := e
  exact ⟨lo, hi, pl, ph, x, a1, a2, ⟨a3.1, a3.2.1, Nat.le_trans h1 a3.2.2⟩, by omega, a5, a6, a7, a8, a9⟩
theorem x_kind (hT : TF cx F N) (hw : 2100 ≤ w) (h14 : cx 14 = 0) (z : SZ cx F N q h s g ts) (ax : Int32) (htk : (ctk cx F (g 0) = 20 ∧ ax = 0) ∨ (ctk cx F (g 0) = 21 ∧ ax = 1)) (hkk : kk < 8) (x32 : s.1 32 = Int32.ofNat kk) (e9 : aL h (cx 9) a9 c9 kl) (ho9 : ∀ y ∈ kl, oK h y) (e10 : aL h (cx 10) a10 c10 ml) (ho10 : ∀ y ∈ ml, oK h y) (n9 : cx 9 ≠ cx 11) (n10 : cx 10 ≠ cx 11) (n90 : cx 9 ≠ cx 10) (hkl : kl.length = kk) (hml : ml.length ≤ 9 * kk) (x38 : s.1 38 = Int32.ofNat f0) (hf0 : f0 ≤ 8 * kk) (x42 : s.1 42 = Int32.ofNat ml.length) (x52 : s.1 52 = Int32.ofNat np) (hnp : np ≤ 6 * ml.length) (x77 : s.2.1 77 ml.length = Int32.ofNat np) : ∃ h' s' g' ts' a9' c9' a10' c10' mk mks, b91_39 L xs zf (dM L xs zf w (201 + k)) w K9 (some (cx 7)) i1 h = K9 (some (cx 7)) (i1 + 1) h' ∧ rM w (101 + k2) 306 [.ref 36] s = some (none, s') ∧ OPW (fun y => y = cx 9 ∨ (y = a9 ∧ 21 ≤ y) ∨ y = cx 10 ∨ (y = a10 ∧ 21 ≤ y)) cx F N q 0 (4 * c9 + 4 * c10) (4 * c9' + 4 * c10' + 216) h s g ts h' s' g' ts' ∧ g' 6 ≤ 1010 ∧ rKd s s' kk f0 ml.length np ∧ aL h' (cx 9) a9' c9' (kl ++ [21 + h.length]) ∧ (∀ y ∈ kl ++ [21 + h.length], oK h' y) ∧ aL h' (cx 10) a10' c10' (ml ++ [mk] ++ mks) ∧ (∀ y ∈ ml ++ [mk] ++ mks, oK h' y) ∧ (a9' = a9 ∨ 21 + h.length ≤ a9') ∧ (a10' = a10 ∨ 21 + h.length ≤ a10') ∧ (∀ l2 ar2 cap2 es2, l2 ≠ cx 9 → l2 ≠ cx 10 → l2 ≠ cx 11 → aL h l2 ar2 cap2 es2 → aL h' l2 ar2 cap2 es2) ∧ s'.1 32 = Int32.ofNat (kk + 1) ∧ mks.length ≤ 9 ∧ (SY cx F N q h' s' g' ts' → (g 0 < g' 0 ∧ ∃ b0, s'.2.1 76 ml.length = Int32.ofNat b0 ∧ g 4 ≤ b0 ∧ b0 < 4400) ∧ s'.1 42 = Int32.ofNat (ml ++ [mk] ++ mks).length ∧ mks.length ≤ 8 ∧ s'.2.1 77 ml.length = s.2.1 77 ml.length ∧ (s'.2.1 64 (kk + 1) = s'.1 38 ∧ s'.2.1 65 (kk + 1) = s'.1 42 ∧ s'.2.1 64 kk = s.1 38 ∧ s'.2.1 65 kk = s.1 42) ∧ ∃ f1 np', f0 ≤ f1 ∧ f1 ≤ f0 + 8 ∧ s'.1 38 = Int32.ofNat f1 ∧ np ≤ np' ∧ np' ≤ 6 * (ml ++ [mk] ++ mks).length ∧ s'.1 52 = Int32.ofNat np' ∧ s'.2.1 77 (ml ++ [mk] ++ mks).length = Int32.ofNat np' ∧ KX L xs h' s' (g' 4) (22 + h.length) (21 + h'.length) np' f1 (ml ++ [mk] ++ mks) kk (21 + h.length)) := by
  obtain ⟨w', rfl⟩ : ∃ w', w = w' + 2 := ⟨w - 2, by omega⟩
  have p0 := z.1.1
  have ch0 := z.1.2.2.2.1
  have lt9 := (aL_lt e9).1
  have lt10 := (aL_lt e10).1
  have lt11 := (aL_lt ch0.2.1).1
  -- the head
  obtain ⟨h1, s1, g1, a9', c9', nm, fl, mlK, pl, t1, t2, t3, t4, t5, t6, ⟨t7, t7', t7''⟩, t8, t9, t10, t11, t12, t13, t14, t15, t16, t17⟩ := x_head (L := L) (xs := xs) (zf := zf) (w := w' + 2) (k := 192 + k) (k2 := 95 + k2) hT h14 z ax htk hkk x32 e9 ho9 n9 (by omega)
  rw [show 192 + k + 9 = 201 + k from by omega] at t1
  rw [show 95 + k2 + 5 = 100 + k2 from by omega] at t2
  have hax : ax = 0 ∨ ax = 1 := by rcases htk with ⟨_, e⟩ | ⟨_, e⟩ <;> simp [e]
  have len1 := t3.2.2.1.1
  have nf : fl ≠ cx 11 := by omega
  -- fields
  have fj0 : FJs L xs cx F N q fl (21 + h.length) f0 (kdC nm pl ax (Int32.ofNat kl.length) fl mlK) h1 h1 s1 g1 ts [] 5 5 0 := ⟨t6, t8, Or.inl rfl, fun y hy => (by cases hy), fun _ _ _ _ _ _ e => e, (t5.1 38 (by decide) (by decide) (by decide) (by decide) (by decide)).trans x38, fun _ i d hi => (by cases hi)⟩
  obtain ⟨h2, s2, g2, ts2, fds, af, cf, u1, u2, u3, u4, u5, u6, u7, u8⟩ := x_fll (L := L) (xs := xs) (zf := zf) (w := w' + 2) (k := 190 + k) (k2 := 95 + k2) (K := 21 + h.length) (fl := fl) (af0 := 5) (cf0 := 0) hT h14 hkk (fsK := kdC nm pl ax (Int32.ofNat kl.length) fl mlK) rfl nf (by omega) (t16.trans x38) 8 [] 5 0 h1 s1 g1 ts (w' + 1) (w' + 1) rfl (by omega) (by omega) (OPY_refl t3.1) (by omega) rfl (rFl_refl _ _) fj0
  rw [show 190 + k + 10 = 200 + k from by omega] at u1
  rw [show 95 + k2 + 5 = 100 + k2 from by omega] at u2
  obtain ⟨j1, j2, j3, j4, j5, j6, j7⟩ := id u7
  have len2 := u3.2.2.1.1
  have cf26 : cf ≤ 26 := by obtain ⟨_, _, _, e, _⟩ := j2; omega
  have ofe : ∀ P, OPY P cx F N q 0 0 0 h2 s2 g2 ts2 h2 (feS s2 kk) g2 ts2 := fun P => op_fe u3.1
  have fl10 : cx 10 ≠ fl := by omega
  have e102 := j5 _ _ _ _ fl10 n10 (t13 _ _ _ _ n90.symm e10)
  have f12 : ∀ y, oK h y → oK h2 y := fun y e => oK_fr u3.2.2.1 (oK_fr t3.2.2.1 e)
  have y42 : s2.1 42 = Int32.ofNat ml.length := by rw [u6.1 42 (by decide) (by decide) (by decide) (by decide) (by decide), t5.1 42 (by decide) (by decide) (by decide) (by decide) (by decide)]; exact x42
  have y52 : s2.1 52 = Int32.ofNat np := by rw [u6.1 52 (by decide) (by decide) (by decide) (by decide) (by decide), t5.1 52 (by decide) (by decide) (by decide) (by decide) (by decide)]; exact x52
  -- the maker
  obtain ⟨h4, s4, g4, ts4, b10, d10, v1, v2, v3, v4, v5, v6, v7, v8, v9, v10, v11⟩ := x_maker (L := L) (xs := xs) (zf := zf) (w := w' + 2) (k := k) (k2 := k2) (kk := kk) (np := np) hT hw h14 (ofe (fun _ => False)).1 (by omega) j1 ⟨_, rfl⟩ e102 (fun y hy => f12 y (ho10 y hy)) n10 (by omega) (by omega) (fun _ => ⟨y42, y52⟩)
  have len4 := v3.2.2.1.1
  obtain ⟨v, pt, vr, p2, ch2⟩ := sy_pc u3.1
  have ltM : 21 + h2.length < 21 + h4.length := by
    obtain ⟨ci, fs, e, _⟩ := v8 (21 + h2.length) (List.mem_append_right _ (List.mem_singleton.mpr rfl))
    exact hc_lt e
  have hA : bl cx (22 + h2.length) := by
    refine ⟨?_, ?_, ?_, ?_⟩
    · have := hc_lt (pC_r p2); omega
    · have := hc_lt ch2.1; omega
    · have := (aL_lt ch2.2.1).1; omega
    · omega
  have e66 : s4.2.1 66 kk = ax := by rw [v5.2.1 66 (by omega), fe_get, if_neg (by omega), if_neg (by omega), u6.2.1 66 (by omega) (by decide) (by decide)]; exact t15
  have e65 : s4.2.1 65 kk = Int32.ofNat ml.length := by rw [v5.2.1 65 (by omega), fe_get, if_pos ⟨rfl, rfl⟩]; exact y42
  have em4 : aL h4 mlK 5 0 [] := v10 _ _ _ _ (by omega) (by omega) (j5 _ _ _ _ (by omega) (by omega) t9)
  have nl2 := n_lt hT u3.1
  -- methods
  have mj0 : MJs L xs cx F N q mlK (21 + h.length) kk ml.length (22 + h2.length) (21 + h2.length) (ml ++ [21 + h2.length]) ((kdC nm pl ax (Int32.ofNat kl.length) fl mlK).set 6 (.ref (21 + h2.length))) h4 5 b10 np h4 s4 g4 ts4 [] 5 0 b10 d10 := by
    refine ⟨v6, em4, fun y hy => (by cases hy), (by rw [List.append_nil]; exact v7), (by rw [List.append_nil]; exact v8), Or.inl rfl, Or.inl rfl, fun _ _ _ _ _ _ _ e => e, fun u => ?_⟩
    obtain ⟨o1, o2, o2b, o3, np', o4, o5, o6, o7, o8⟩ := v11 u
    have ll : (ml ++ [21 + h2.length] ++ ([] : List Nat)).length = ml.length + 1 := by rw [List.append_nil, List.length_append]; rfl
    rw [ll]
    exact ⟨o3, np', o4, by omega, o6, o7, ⟨g2 4, g4 4, 22 + h2.length, 21 + h4.length, np', o2, nl2.2.2.1, ⟨Nat.le_refl _, fun m2 b2 h1 h2 _ _ => by rw [o3, of_int (by omega)] at h2; omega, by omega⟩, Nat.le_refl _, Nat.le_refl _, by omega, o7, Nat.le_refl _, by omega⟩, o2b, fun i d hi => (by cases hi)⟩
  have res := x_mtl (L := L) (xs := xs) (zf := zf) (w := w' + 2) (k := k) (k2 := k2) (K := 21 + h.length) (kk := kk) (mlK := mlK) (A := 22 + h2.length) (m0 := ml.length) (mk0 := 21 + h2.length) (am0 := 5) (cm0 := 0) (a100 := b10) (c100 := d10) (np0 := np) (ax := ax) (h0 := h4) (s0 := s4) (g0 := g4) (t0 := ts4) (i1 := i1) (K9 := K9) (ml0 := ml ++ [21 + h2.length]) (fsK := (kdC nm pl ax (Int32.ofNat kl.length) fl mlK).set 6 (.ref (21 + h2.length))) hT hw h14 hkk hA ⟨by omega, by omega⟩ (by omega) rfl rfl (by omega) n10 (by omega) (by rw [List.length_append]; rfl) (by omega) e65 e66 8 [] 5 0 b10 d10 h4 s4 g4 ts4 w' w' rfl (by omega) (by omega) (OPY_le (OPY_refl v3.1) (by omega) (by omega)) (by omega) rMl_refl mj0
  obtain ⟨h5, s5, g5, ts5, mks, am, cm, a10', c10', w1, w2, w3, w4, w5, w6, w7, w8⟩ := res
  obtain ⟨m1, m2, m3, m4, m5, m6, m7, m8, m9⟩ := id w6
  have len5 := w3.2.2.1.1
  have cm28 : cm ≤ 28 := by obtain ⟨_, _, _, e, _⟩ := m2; omega
  have l25 : ∀ l2 ar2 cap2 es2, l2 ≠ fl → l2 ≠ mlK → l2 ≠ cx 10 → l2 ≠ cx 11 → aL h1 l2 ar2 cap2 es2 → aL h5 l2 ar2 cap2 es2 := fun l2 ar2 cap2 es2 q1 q2 q3 q4 e => m8 _ _ _ _ q2 q3 q4 (v10 _ _ _ _ q3 q4 (j5 _ _ _ _ q1 q4 e))
  have o15 : ∀ y, oK h1 y → oK h5 y := fun y e => oK_fr w3.2.2.1 (oK_fr v3.2.2.1 (oK_fr u3.2.2.1 e))
  have opw := OPW_trans (OPW_trans (OPW_trans (OPW_trans (OPW_mono (Q := fun y => y = cx 9 ∨ (y = a9 ∧ 21 ≤ y) ∨ y = cx 10 ∨ (y = a10 ∧ 21 ≤ y)) t3 (fun y _ u => u.elim Or.inl (fun u => Or.inr (Or.inl u)))) u3 (fun y hy u => by
    rcases u with u | ⟨u, _⟩ <;> omega)) (ofe (fun _ => False)) (fun _ _ u => u.elim)) v3 (fun y hy u => by
    rcases u with u | u | u
    · omega
    · exact Or.inr (Or.inr (Or.inl u))
    · exact Or.inr (Or.inr (Or.inr u)))) w3 (fun y hy u => by
    rcases u with u | ⟨u, _⟩ | u | ⟨u, u21⟩
    · omega
    · omega
    · exact Or.inr (Or.inr (Or.inl u))
    · rcases v9 with e | e
      · exact Or.inr (Or.inr (Or.inr ⟨u.trans e, u21⟩))
      · omega)
  refine ⟨h5, s5, g5, ts5, a9', c9', a10', c10', 21 + h2.length, mks, ?_, ?_, OPW_le opw (by omega) (by omega), w4, rKd_trans (rKd_trans (rKd_trans (rKd_trans (rKd_h t5) (rKd_f u6)) rKd_fe) (rKd_m v5 (Nat.le_refl _) (Nat.le_refl _))) (rKd_l w5 (by omega) (Nat.le_refl _)), l25 _ _ _ _ (by omega) (by omega) n90 n9 t10, fun y hy => o15 y (t11 y hy), m4, m5, t12, by omega, fun l2 ar2 cap2 es2 q1 q2 q3 e => by
    have := (aL_lt e).1
    exact l25 _ _ _ _ (by omega) (by omega) q2 q3 (t13 _ _ _ _ q1 e), ?_, w7, fun u => ?_⟩
  · unfold b91_39
    rw [show (dcV L xs (dM L xs zf (w' + 2) (201 + k)) 93 [8] (some (cx 7)) [] h).bind dxR = some (some (21 + h.length), h1) from by rw [c_pv p0, t1]; rfl, Option.bind_some]
    obtain ⟨vv1, p1⟩ := op_pC t3.1
    have c110 : dM L xs zf (w' + 2) (201 + k) 110 [.ref (cx 7), .ref (21 + h.length)] h1 = some (none, h2) := by
      rw [show 201 + k = 200 + k + 1 from by omega, e110]
      exact u1
    rw [show (dcV L xs (dM L xs zf (w' + 2) (201 + k)) 110 [8] (some (cx 7)) [va_rf (some (21 + h.length))] h1).bind dxV = some h2 from by rw [c_pv p1, va_s, c110]; rfl, Option.bind_some, show (dcV L xs (dM L xs zf (w' + 2) (201 + k)) 115 [8] (some (cx 7)) [va_rf (some (21 + h.length))] h2).bind dxV = some h4 from by rw [c_pv p2, va_s, v1]; rfl, Option.bind_some]
    exact w1
  · rw [show 101 + k2 = 100 + k2 + 1 from by omega, y306]
    show s306_0 (rM (w' + 2) (100 + k2)) (w' + 2) s = _
    rw [t2, u2, v2]
    exact w2
  · rw [w5.1 32 (by decide) (by decide) (by decide) (by decide) (by decide) (by decide) (by decide) (by decide) (by decide) (by decide), v5.1 32 (by decide) (by decide) (by decide) (by decide) (by decide) (by decide) (by decide) (by decide) (by decide) (by decide)]
    show s2.1 32 = _
    rw [u6.1 32 (by decide) (by decide) (by decide) (by decide) (by decide)]
    exact t14
  · have y4 := (w3.2.1 u).1
    have y2f := (v3.2.1 y4).1
    have y2 := ((ofe (fun _ => False)).2.1 y2f).1
    have y1 := (u3.2.1 y2).1
    obtain ⟨q1, q2, q3⟩ := t17 y1
    obtain ⟨r1, r2, r3⟩ := w8 u
    obtain ⟨z1, np', z2, z3, z4, z5, z6, z6b, z7⟩ := m9 u
    obtain ⟨o1, o2, o2b, o3, np1, o4, o5, o6, o7, o8⟩ := v11 y4
    have g01 := u3.2.2.2.2.1.1
    have ll : (ml ++ [21 + h2.length] ++ mks).length = ml.length + 1 + mks.length := by rw [List.length_append, List.length_append]; rfl
    have s38 : s5.1 38 = Int32.ofNat (f0 + fds.length) := by
      rw [w5.1 38 (by decide) (by decide) (by decide) (by decide) (by decide) (by decide) (by decide) (by decide) (by decide) (by decide), v5.1 38 (by decide) (by decide) (by decide) (by decide) (by decide) (by decide) (by decide) (by decide) (by decide) (by decide)]
      exact j6
    have r77 : s5.2.1 77 ml.length = s.2.1 77 ml.length := by rw [w5.2.2.2.1 77 ml.length (by omega) (by omega) (by omega), o8, x77]
    have row : ∀ p, 60 < p → p < 68 → p ≠ 65 → ∀ i, s5.2.1 p i = (feS s2 kk).2.1 p i := fun p h1 h2 h3 i => by rw [w5.2.1 p (by omega), v5.2.1 p (by omega)]
    have rw2 : s5.2.2 62 = s1.2.2 62 := by rw [w5.2.2.2.2.1 62 (by decide) (by decide) (by decide) (by decide), v5.2.2.2.2.1 62 (by decide) (by decide) (by decide) (by decide)]; exact u6.2.2.1 62 (by decide) (by decide)
    have e64 : s5.2.1 64 kk = s.1 38 := by rw [row 64 (by omega) (by omega) (by omega), fe_get, if_neg (by omega), if_neg (by omega), u6.2.1 64 (by omega) (by decide) (by decide), t16]
    have e64' : s5.2.1 64 (kk + 1) = Int32.ofNat (f0 + fds.length) := by rw [row 64 (by omega) (by omega) (by omega), fe_get, if_neg (by omega), if_pos ⟨rfl, rfl⟩]; exact j6
    have e65' : s5.2.1 65 kk = Int32.ofNat ml.length := by rw [w5.2.2.1 kk (by omega)]; exact e65
    have b76 : ∃ b0, s5.2.1 76 ml.length = Int32.ofNat b0 ∧ g 4 ≤ b0 ∧ b0 < 4400 := by
      obtain ⟨_, _, _, _, _, _, _, Bb, bb, cc, lo', hi', pl2, ph2, _, ob, l1, l2', l3, l4, _⟩ := o2
      have nl4 := n_lt hT v3.1
      have q1 := t3.2.2.2.2.1.2
      have q2 := u3.2.2.2.2.1.2
      exact ⟨bb, by rw [w5.2.2.2.1 76 ml.length (by omega) (by omega) (by omega)]; exact ob, by omega, by omega⟩
    refine ⟨⟨by omega, b76⟩, z1, r3, r77, ⟨e64'.trans s38.symm, r1.trans z1.symm, e64, e65'.trans x42.symm⟩, f0 + fds.length, np', by omega, by omega, s38, z2, z3, z4, z5, nm, pl, ax, fl, mlK, 21 + h2.length, af, cf, am, cm, fds, mks, f0, ml.length, ?_, ?_, ?_, ?_, hax, ⟨?_, ?_, u8, Nat.le_refl _⟩, ⟨?_, ?_, r3⟩, ⟨m8 _ _ _ _ (by omega) (by omega) nf (v10 _ _ _ _ (by omega) nf j2), t7⟩, ⟨m2, by omega⟩, fun i d hi => ?_, ⟨MX_leA z6 (by omega), ?_, z6b⟩, fun i d hi => ⟨MX_leA (z7 i d hi).1 (by omega), ?_, (z7 i d hi).2.2.1, fun z => (z7 i d hi).2.2.2 (by rw [z]; rfl)⟩⟩
    · rw [m1, hkl]
      rfl
    · rw [rw2]
      exact nS_fr w3.2.2.1 (nS_fr v3.2.2.1 (nS_fr u3.2.2.1 q2))
    · rw [row 63 (by omega) (by omega) (by omega), fe_get, if_neg (by omega), if_neg (by omega), u6.2.1 63 (by omega) (by decide) (by decide)]
      exact q3
    · rw [w5.2.1 66 (by omega)]
      exact e66
    · rw [row 64 (by omega) (by omega) (by omega), fe_get, if_neg (by omega), if_neg (by omega), u6.2.1 64 (by omega) (by decide) (by decide), t16]
      exact x38
    · rw [row 64 (by omega) (by omega) (by omega), fe_get, if_neg (by omega), if_pos ⟨rfl, rfl⟩]
      exact j6
    · rw [w5.2.2.1 kk (by omega)]
      exact e65
    · rw [r1, ll]
    · obtain ⟨x1, x1b, _⟩ := j7 y2 i d hi
      have k1 : FX L xs h2 (feS s2 kk) d (f0 + i) i := FX_keep (A := 0) (B := 0) h14 (ofe (fun _ => False)) y2f Pok_no rfl (by rw [fe_get, if_neg (by omega), if_neg (by omega)]) (by rw [fe_get, if_neg (by omega), if_neg (by omega)]) x1
      have k3 : FX L xs h4 s4 d (f0 + i) i := FX_keep (A := 0) (B := 0) h14 v3 y4 (Pok_mk ch2 j1 e102 (by omega) (by omega)) (by rw [v5.2.2.2.2.1 67 (by decide) (by decide) (by decide) (by decide)]) (by rw [v5.2.1 68 (by omega)]) (by rw [v5.2.1 69 (by omega)]) k1
      exact ⟨FX_keep (A := 0) (B := 0) h14 w3 u (Pok_ml y4.1.2.2.2.1 em4 v7 (by omega) (by omega)) (by rw [w5.2.2.2.2.1 67 (by decide) (by decide) (by decide) (by decide)]) (by rw [w5.2.1 68 (by omega)]) (by rw [w5.2.1 69 (by omega)]) k3, by have := t3.2.2.1.1; omega⟩
    · rw [List.append_assoc, List.getElem?_append_right (Nat.le_refl _), Nat.sub_self]
      rfl
    · rw [List.getElem?_append_right (by rw [List.length_append]; show ml.length + 1 ≤ _; omega), List.length_append, show ml.length + 1 + i - (ml.length + [21 + h2.length].length) = i from by show ml.length + 1 + i - (ml.length + 1) = i; omega]
      exact hi
end KE
