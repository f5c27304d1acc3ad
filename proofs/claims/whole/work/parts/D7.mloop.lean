/-! METHODS: the loop of them. -/
/-- what the methods of Kind kk, from method m on, leave alone -/
def rMl (s s' : rS) (m np kk : Nat) : Prop := (∀ j, j ≠ 10 → j ≠ 24 → j ≠ 25 → j ≠ 26 → j ≠ 42 → j ≠ 52 → j ≠ 56 → j ≠ 57 → j ≠ 58 → j ≠ 59 → s'.1 j = s.1 j) ∧ (∀ p, p < 44 ∨ (60 < p ∧ p < 70 ∧ p ≠ 65) ∨ 81 < p → s'.2.1 p = s.2.1 p) ∧ (∀ i, i ≠ kk + 1 → s'.2.1 65 i = s.2.1 65 i) ∧ (∀ p i, 70 ≤ p → p ≤ 77 → i < m → s'.2.1 p i = s.2.1 p i) ∧ (∀ p, p ≠ 56 → p ≠ 61 → p ≠ 78 → p ≠ 79 → s'.2.2 p = s.2.2 p) ∧ (∀ i, i < m → s'.2.2 78 i = s.2.2 78 i) ∧ ∀ f, f < np → s'.2.2 79 f = s.2.2 79 f ∧ s'.2.1 80 f = s.2.1 80 f ∧ s'.2.1 81 f = s.2.1 81 f
section ML
variable {L : Nat} {xs : Nat → Int32} {zf : Value} {w k k2 i m m' np np' kk t : Nat} {cx : Nat → Nat} {F : Nat → Nat → Int32} {N : Nat → Int64} {q : List Value} {h h' h1 h2 : rm_H} {s s' s1 s2 s4 : rS} {g g' : Nat → Nat} {ts ts' : List Nat} {M K l a10 c10 am cm mlK nm d A B : Nat} {v : Nat → Int32} {pt vr cv cp ax i1 i3 : Int32} {fsK : List Value} {ml mks : List Nat} {P : Nat → Prop}
theorem rMl_refl : rMl s s m np kk := ⟨fun _ _ _ _ _ _ _ _ _ _ _ => rfl, fun _ _ => rfl, fun _ _ => rfl, fun _ _ _ _ _ => rfl, fun _ _ _ _ _ => rfl, fun _ _ => rfl, fun _ _ => ⟨rfl, rfl, rfl⟩⟩
theorem rMl_trans (a : rMl s s1 m np kk) (b : rMl s1 s2 m np kk) : rMl s s2 m np kk := by
  obtain ⟨a1, a2, a3, a4, a5, a6, a7⟩ := a
  obtain ⟨b1, b2, b3, b4, b5, b6, b7⟩ := b
  exact ⟨fun j h1 h2 h3 h4 h5 h6 h7 h8 h9 h10 => (b1 j h1 h2 h3 h4 h5 h6 h7 h8 h9 h10).trans (a1 j h1 h2 h3 h4 h5 h6 h7 h8 h9 h10), fun p hp => (b2 p hp).trans (a2 p hp), fun i hi => (b3 i hi).trans (a3 i hi), fun p i h1 h2 h3 => (b4 p i h1 h2 h3).trans (a4 p i h1 h2 h3), fun p h1 h2 h3 h4 => (b5 p h1 h2 h3 h4).trans (a5 p h1 h2 h3 h4), fun i hi => (b6 i hi).trans (a6 i hi), fun f hf => ⟨(b7 f hf).1.trans (a7 f hf).1, (b7 f hf).2.1.trans (a7 f hf).2.1, (b7 f hf).2.2.trans (a7 f hf).2.2⟩⟩
theorem rMl_m (a : rMm s s' m' np') (hm : m ≤ m') (hn : np ≤ np') : rMl s s' m np kk := by
  obtain ⟨a1, a2, a3, a4, a5, a6, a7⟩ := a
  refine ⟨a1, fun p hp => a2 p (by omega), fun i _ => by rw [a2 65 (by omega)], fun p i h1 h2 h3 => ?_, a5, fun i hi => a6 i (by omega), fun f hf => a7 f (by omega)⟩
  by_cases e : p = 77
  · rw [e]; exact a4 i (by omega) (by omega)
  · exact a3 p i h1 (by omega) (by omega)
theorem rMl_ty (a : rTy s s') : rMl s s' m np kk := by
  obtain ⟨a1, a2, a3⟩ := a
  exact ⟨fun j _ _ _ h4 _ _ h7 h8 h9 _ => a1 j h4 h7 h8 h9, fun p hp => a2 p (by omega), fun i _ => by rw [a2 65 (by omega)], fun p i h1 h2 h3 => by rw [a2 p (by omega)], fun p _ h2 _ _ => a3 p h2, fun i _ => by rw [a3 78 (by decide)], fun f _ => ⟨by rw [a3 79 (by decide)], by rw [a2 80 (by omega)], by rw [a2 81 (by omega)]⟩⟩
theorem rMl_65 {x : Int32} : rMl s (rs_wA s 65 (kk + 1) x) m np kk := ⟨fun _ _ _ _ _ _ _ _ _ _ _ => rfl, fun p hp => wA_ne _ _ _ (by omega), fun i hi => by rw [wA_get, if_neg (by omega)], fun p i h1 h2 h3 => by rw [wA_get, if_neg (by omega)], fun _ _ _ _ _ => rfl, fun _ _ => rfl, fun f _ => ⟨rfl, by rw [wA_get, if_neg (by omega)], by rw [wA_get, if_neg (by omega)]⟩⟩
/-- both end the methods -/
theorem m_end (hT : TF cx F N) (hkk : kk < 8) (z : SY cx F N q h s g ts ∨ FLT cx F N q h s g ts) : ∃ h' s' g', dM L xs zf w (201 + k) 109 [.ref (cx 7), .int 6] h = some (none, h') ∧ s306_238 (rM w (100 + k2)) w (Int32.ofNat kk) s = some (none, s') ∧ (∀ P, OPY P cx F N q 0 0 0 h s g ts h' s' g' ts) ∧ g' 6 = g 6 ∧ g' 4 = g 4 ∧ st1 (cx 0) h h' ∧ rTy (rs_wA s 65 (kk + 1) (s.1 42)) s' ∧ (SY cx F N q h' s' g' ts → g 0 < g' 0) := by
  have rt : rTk F N s := z.elim (fun u => u.1.2.2.1) (fun u => u.2.2.1)
  have rt1 : rTk F N (rs_wA s 65 (kk + 1) (s.1 42)) := by
    obtain ⟨t1, t2, t3, t4⟩ := rt
    exact ⟨(wA_ne _ _ _ (by omega)).trans t1, (wA_ne _ _ _ (by omega)).trans t2, (wA_ne _ _ _ (by omega)).trans t3, t4⟩
  have z1 : SY cx F N q h (rs_wA s 65 (kk + 1) (s.1 42)) g ts ∨ FLT cx F N q h (rs_wA s 65 (kk + 1) (s.1 42)) g ts := z.elim (fun u => Or.inl (SY_sc (s := s) rt1 (fun _ _ => rfl) (rQ_A (p := 65) (by omega)) u)) (fun u => Or.inr (FLT_sc rt1 (fun _ _ => rfl) u))
  obtain ⟨h', s', g', r1, r2, op, r3, w8, s10e, z1', z2, z3, z4, z5, z6⟩ := op_need (L := L) (xs := xs) (zf := zf) (w := w) (k := 197 + k) (k2 := 97 + k2) hT P125 z1
  have ty := r308_Ty hT z1 r2
  rw [show 197 + k + 4 = 201 + k from by omega] at r1
  rw [show 97 + k2 + 3 = 100 + k2 from by omega] at r2
  have l := w8.2.1
  have y := w8.2.2
  have og := op.2.2.2.2.2.1
  refine ⟨h', s', g', r1, ?_, fun P => ⟨op.1, fun u => ?_, fr_mono w8.1 (fun _ _ u => Or.inl (Or.inl u)), Or.inl z1', og, by omega, by omega⟩, z6, z4, w8, ty, fun u => by rw [(r3 u).2]; exact Nat.lt_succ_self _⟩
  · unfold s306_238
    rw [show Int32.ofNat kk + 1 = Int32.ofNat (kk + 1) from of_add kk 1, kWt (Or.inr rfl) (by omega), Option.bind_some, show (rM w (100 + k2) 308 [.ref 36, .int 125] (rs_wA s 65 (kk + 1) (s.1 42))).bind rxV = some s' from by rw [r2]; rfl]
    rfl
  · obtain ⟨x1, x2, x3⟩ := op.2.1 u
    refine ⟨SY_sc (s := rs_wA s 65 (kk + 1) (s.1 42)) rt (fun _ _ => rfl) (rQ_sym (rQ_A (p := 65) (by omega))) x1, fun j hj => ⟨fun p h1 h2 => ?_, ?_⟩, yA_trans (yA_of (s1 := rs_wA s 65 (kk + 1) (s.1 42)) rfl (fun p h1 h2 => wA_ne _ _ _ (by omega)) rfl) x3⟩
    · rw [(x2 j hj).1 p h1 h2, wA_get, if_neg (by omega)]
    · rw [(x2 j hj).2]
      rfl
theorem aB_at {p n i : Nat} (hp : 37 ≤ p ∧ p ≤ 114) (ht : rs_t p = (3, n, false)) (hi : i < n) (hn : n ≤ 100000000) : rs_aB s p (Int32.ofNat i) = some (s.2.1 p i) := by
  unfold rs_aB
  rw [ht, if_pos, of_clamp (by omega)]
  show (rs_in p && true && true && rm_in (Int32.ofNat i) n) = true
  rw [of_in hi hn]
  unfold rs_in
  rw [decide_eq_true hp]
  rfl
theorem sB_at {p n i : Nat} {x : Int32} (hp : 37 ≤ p ∧ p ≤ 114) (ht : rs_t p = (3, n, false)) (hi : i < n) (hn : n ≤ 100000000) : rs_sB s p (Int32.ofNat i) x = some (rs_wA s p i (x &&& 1)) := by
  unfold rs_sB
  rw [ht, if_pos, of_clamp (by omega)]
  show (rs_in p && true && true && rm_in (Int32.ofNat i) n) = true
  rw [of_in hi hn]
  unfold rs_in
  rw [decide_eq_true hp]
  rfl
theorem t66 : rs_t 66 = (3, 8, false) := by decide
/-- a list that grows leaves what lies between alone -/
theorem Pok_ml (ch : CH cx q h g ts pt vr) (em : aL h mlK am cm mks) (e10 : aL h (cx 10) a10 c10 ml) (h1 : mlK < A ∨ B ≤ mlK) (h2 : cx 10 < A ∨ B ≤ cx 10) : Pok h (fun y => y = mlK ∨ (y = am ∧ 21 ≤ y) ∨ y = cx 10 ∨ (y = a10 ∧ 21 ≤ y)) A B := by
  have arr : ∀ {l ar cap es}, aL h l ar cap es → 21 ≤ ar → ∀ ci fs, hc h ar ≠ some (.inr (ci, fs)) := by
    intro l ar cap es e h21 ci fs y
    obtain ⟨mc, _, _, _, e3⟩ := e
    rcases e3 with ⟨e3, _⟩ | ⟨f0, e3, _⟩
    · omega
    · rw [e3] at y; cases y
  obtain ⟨_, _, _, uu, _⟩ := ch
  have lst : ∀ {l ar cap es}, aL h l ar cap es → ∃ mc, hc h l = some (.inr (5, [.ref ar, .int (Int32.ofNat es.length), .int mc])) := fun e => ⟨_, e.choose_spec.1⟩
  refine ⟨fun y ci fs hy e => ?_, fun l ar cap es l1 l2 e h5 hy => ?_⟩
  · rcases hy with u | ⟨u, u21⟩ | u | ⟨u, u21⟩
    · obtain ⟨mc, e0⟩ := lst em
      rw [u, e0] at e; cases e
      exact ⟨Or.inl rfl, by omega⟩
    · exact absurd e (u ▸ arr em (by omega) ci fs)
    · obtain ⟨mc, e0⟩ := lst e10
      rw [u, e0] at e; cases e
      exact ⟨Or.inl rfl, by omega⟩
    · exact absurd e (u ▸ arr e10 (by omega) ci fs)
  · have ge : 21 ≤ ar := by
      obtain ⟨mc, _, _, _, e3⟩ := e
      rcases e3 with ⟨e3, _⟩ | ⟨f0, e3, _⟩
      · exact absurd e3 h5
      · exact hc_ge e3
    obtain ⟨mc, e0⟩ := lst e
    rcases hy with u | ⟨u, u21⟩ | u | ⟨u, u21⟩
    · obtain ⟨mc1, e1⟩ := lst em
      exact arr e ge _ _ (u ▸ e1)
    · obtain ⟨mc1, e1⟩ := lst em
      subst u
      rcases uu.2 _ _ _ _ _ e0 e1 with z | z
      · exact h5 z
      · omega
    · obtain ⟨mc1, e1⟩ := lst e10
      exact arr e ge _ _ (u ▸ e1)
    · obtain ⟨mc1, e1⟩ := lst e10
      subst u
      rcases uu.2 _ _ _ _ _ e0 e1 with z | z
      · exact h5 z
      · omega
/-- the class refuses a method -/
theorem x_mref (hT : TF cx F N) (hw : 2100 ≤ w) (h14 : cx 14 = 0) (z : SY cx F N q h s g ts) (htk : ctk cx F (g 0) = 23 ∨ ctk cx F (g 0) = 24) (hno : 8 ≤ mks.length ∨ (ctk cx F (g 0) = 24 ∧ ax = 0)) (hK : hc h K = some (.inr (9, fsK))) (k2' : fsK[2]? = some (.int ax)) (k5 : fsK[5]? = some (.ref mlK)) (em : aL h mlK am cm mks) (hom : ∀ y ∈ mks, oK h y) (e10 : aL h (cx 10) a10 c10 ml) (ho : ∀ y ∈ ml, oK h y) (nm1 : mlK ≠ cx 11) (n10 : cx 10 ≠ cx 11) (nmm : mlK ≠ cx 10) (hml : ml.length ≤ 100) (hmk : mks.length ≤ 8) : ∃ h' g' ts' am' cm' a10' c10', dM L xs zf w (201 + k) 142 [.ref (cx 7), .ref K] h = some (none, h') ∧ FLT cx F N q h' (stS s (g 0)) g' ts' ∧ OPY (fun y => y = mlK ∨ (y = am ∧ 21 ≤ y) ∨ y = cx 10 ∨ (y = a10 ∧ 21 ≤ y)) cx F N q 0 (4 * cm + 4 * c10) (4 * cm' + 4 * c10') h s g ts h' (stS s (g 0)) g' ts' ∧ g' 6 ≤ 20 ∧ hc h' K = some (.inr (9, fsK)) ∧ aL h' mlK am' cm' (mks ++ [21 + h.length]) ∧ (∀ y ∈ mks ++ [21 + h.length], oK h' y) ∧ aL h' (cx 10) a10' c10' (ml ++ [21 + h.length]) ∧ (∀ y ∈ ml ++ [21 + h.length], oK h' y) ∧ (am' = am ∨ 21 + h.length ≤ am') ∧ (a10' = a10 ∨ 21 + h.length ≤ a10') ∧ (∀ l2 ar2 cap2 es2, l2 ≠ mlK → l2 ≠ cx 10 → l2 ≠ cx 11 → aL h l2 ar2 cap2 es2 → aL h' l2 ar2 cap2 es2) := by
  obtain ⟨⟨p0, ⟨a1, a2, a3, a4⟩, rt, ch, ⟨c1, c2, c3, c4⟩, b1, b2, b3, b4⟩, g6⟩ := id z
  obtain ⟨h1, v1, d1, d2, d3, d4⟩ := y_ref (L := L) (xs := xs) (zf := zf) (w := w) (k := 199 + k) hT b1 p0
  rw [show 199 + k + 1 = 200 + k from by omega] at d1
  have fl1 := SY_st hT z d2 d3 d4
  have l1 := d4.2.1
  have y1 := d4.2.2
  have K0 : K ≠ cx 0 := fun e => by rw [e, pC_r p0] at hK; cases hK
  have lk : ∀ l2 ar2 cap2 es2, aL h l2 ar2 cap2 es2 → aL h1 l2 ar2 cap2 es2 := fun l2 ar2 cap2 es2 e => aL_st (pC_r p0) (by decide) d4 e
  have op : OPY (fun y => y = mlK ∨ (y = am ∧ 21 ≤ y) ∨ y = cx 10 ∨ (y = a10 ∧ 21 ≤ y)) cx F N q 0 0 0 h s g ts h1 (stS s (g 0)) g ts := ⟨Or.inr fl1, fun u => (sy_no u fl1).elim, fr_mono d4.1 (fun _ _ u => Or.inl (Or.inl u)), Or.inl rfl, ⟨Nat.le_refl _, Nat.le_refl _⟩, by omega, by omega⟩
  have res := fun so => z_m51 (L := L) (xs := xs) (zf := zf) (w := w) (k := k) (so := so) hT hw h14 fl1 op ⟨Or.inl rfl, Or.inr (Or.inr (Or.inl rfl)), fun e _ => Or.inr (Or.inl ⟨rfl, e⟩), fun e _ => Or.inr (Or.inr (Or.inr ⟨rfl, e⟩))⟩ (by omega) (st1_old d4 hK K0) k5 (lk _ _ _ _ em) (fun y hy => oK_fr d4.1 (hom y hy)) (lk _ _ _ _ e10) (fun y hy => oK_fr d4.1 (ho y hy)) nm1 n10 nmm hml (by omega)
  have szK : (dgR L xs h 5 [9] (some K)) = some (some mlK) := hc_gR (p := some mlK) hK k5 (by decide)
  have sz : (dcV L xs (dM L xs zf w (200 + k)) 101 [5] (some mlK) [] h).bind dxI = some (Int32.ofNat mks.length, h) := by
    rw [al_v em, show 200 + k = 199 + k + 1 from by omega, al_size (k := 199 + k) em]
    rfl
  have c44 : ∀ so, b142_44 L xs zf (dM L xs zf w (200 + k)) w (some (cx 7)) (some K) so h = b142_51 L xs zf (dM L xs zf w (200 + k)) w (some (cx 7)) (some K) so h1 := by
    intro so
    unfold b142_44
    rw [c_in p0, Option.bind_some, show (dcV L xs (dM L xs zf w (200 + k)) 95 [6] (some (cx 0)) [] h).bind dxV = some h1 from by rw [c_rv p0, d1]; rfl, Option.bind_some]
  have c17 : ∃ so, dM L xs zf w (201 + k) 142 [.ref (cx 7), .ref K] h = b142_51 L xs zf (dM L xs zf w (200 + k)) w (some (cx 7)) (some K) so h1 := by
    rw [show 201 + k = 200 + k + 1 from by omega, e142]
    show ∃ so, b142_0 L xs zf (dM L xs zf w (200 + k)) w (some (cx 7)) (some K) h = _
    unfold b142_0
    rw [c_in p0, Option.bind_some, c_I p0 6 (by omega), Option.bind_some, vS_6]
    by_cases h8 : 8 ≤ mks.length
    · have e8 : mx_f2 .ge (Int32.ofNat mks.length) 8 = true := by
        rw [show mks.length = 8 from by omega]; decide
      rcases htk with e | e
      · refine ⟨1, ?_⟩
        rw [e, if_neg (by decide)]
        unfold b142_17
        rw [szK, Option.bind_some, sz, Option.bind_some, if_pos e8]
        exact c44 1
      · refine ⟨2, ?_⟩
        rw [e, if_pos (by decide)]
        unfold b142_17
        rw [szK, Option.bind_some, sz, Option.bind_some, if_pos e8]
        exact c44 2
    · have ge8 : ¬ mx_f2 .ge (Int32.ofNat mks.length) 8 = true := by
        rw [f2_ge, of_int (by omega), show (8 : Int32).toInt = 8 from by decide]
        simp
        omega
      obtain ⟨e, ea⟩ : ctk cx F (g 0) = 24 ∧ ax = 0 := hno.elim (fun u => absurd u h8) id
      refine ⟨2, ?_⟩
      rw [e, if_pos (by decide)]
      unfold b142_17
      rw [szK, Option.bind_some, sz, Option.bind_some, if_neg ge8, if_neg (by decide), hc_gI hK k2' (by decide), Option.bind_some, ea, if_neg (by decide)]
      exact c44 2
  obtain ⟨so, c17⟩ := c17
  obtain ⟨h', g', ts', am', cm', a10', c10', n1, n2, n3, n4, n5, n6, n7, n8, n9, n10', n11, n12⟩ := res so
  rw [l1] at n6 n7 n8 n9 n10' n11
  exact ⟨h', g', ts', am', cm', a10', c10', c17.trans n1, n2, n3, by omega, n5, n6, n7, n8, n9, n10', n11, fun l2 ar2 cap2 es2 r1 r2 r3 e => n12 _ _ _ _ r1 r2 r3 (lk _ _ _ _ e)⟩
end ML
