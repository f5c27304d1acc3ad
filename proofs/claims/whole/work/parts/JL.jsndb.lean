/-! A MESSAGE IS SENT: the bodies stay. -/
section JSL
variable {sB : rS} {A B : Nat → Int32} {mi : Nat → Nat × Nat × Nat × Nat × Nat} {kc : kCi} {om om' : oMg} {ka ka' : kAp} {la : lAy} {ms : mSg} {N N' cn : Nat} {sg sg' sg2 : cS} {s s' s2 S1 : rS} {a b d e lo q0 J l t r i n p q k k2 f0 w P L sz lv : Nat} {xs : Nat → Int32} {zf : Value} {Z : Nat → Prop} {hB h h' : rm_H} {es : List Nat} {x : Nat → Nat → fDs} {D : Nat → Nat} {S S0 X : List stE} {v : Int64} {y : Int32}
variable {E Pq : Nat → Prop} {om1 : oMg} {m j s0 wt a1 : Nat} {Lb ps : List Nat} {xb : Nat → fDs} {y0 : fDs}
theorem sEe_k1 {t r u : Nat} (gi : GI ka.2.2.1 N om.1 om.2.1 om.2.2.1) (h : sEe om b t r u) (rb : om.2.2.1.2.2.2.2 r = b) (hW : ∀ lx, lOf b lx → om.2.1 lx ≠ 0 → om.2.2.1.1 lx = r → om'.1 lx = om.1 lx ∧ om'.2.1 lx = om.2.1 lx ∧ ¬ Pq lx) (st : rSt a a1 E Pq om.2.2.1 om'.2.2.1) (hE : ∀ x, x < N → x ≠ 0 → om.2.2.1.2.2.2.2 x = b → E x) (r0 : r ≠ 0) (rN : r < N) : sEe om' b t r u := by
  obtain ⟨h1, h2, lx, l1, l2, l3, l4, l5⟩ := h
  obtain ⟨w1, w2, w3⟩ := hW lx l1 (tgF_n l2) l4
  have et : tgF om'.2.1 om'.1 lx = tgF om.2.1 om.1 lx := by
    unfold tgF
    rw [w1, w2]
  have i1 := inR_e gi.1 l2 (by rw [l4]; exact r0) l3
  rw [l4] at i1
  have o1 : om.2.2.1.2.2.2.2 (om.2.2.1.2.1 (tgF om.2.1 om.1 lx)) = b := by rw [inR_ow gi.1 i1.1]; exact rb
  have n1 : om.2.2.1.2.1 (tgF om.2.1 om.1 lx) ≠ 0 := (rg_ent gi.1 lx l2 (by rw [l4]; exact r0) l3).1
  have o2 : om.2.2.1.2.2.2.2 (om.2.2.1.2.1 u) = b := by rw [inR_ow gi.1 l5]; exact o1
  have bd := gi.2.1.2.1
  have E1 := hE _ (bd _) n1 o1
  have E2 := hE _ (bd _) h1 o2
  have e1 := st.2.2.1 _ E1
  have e2 := st.2.2.1 _ E2
  refine ⟨by rw [e2]; exact h1, fun z => ?_, lx, l1, by rw [et]; exact l2, by rw [w2]; exact l3, ?_, ?_⟩
  · obtain ⟨y1, y2⟩ := h2 z
    rw [e2]
    obtain ⟨x1, _, x3, _⟩ := st.1 _ E2
    exact ⟨by rw [x1]; exact y1, by rw [x3 (by rw [y1]; decide)]; exact y2⟩
  · rw [st.2.1 lx w3 (by rw [l4]; exact hE r rN r0 rb), l4]
  · rw [et, e1, e2]
    exact ((st.1 _ E2).2.2.2 _).mpr l5
theorem fVl_k (v0 : fVl sB mi om ka sg s b e y0 S) (nm : fNm sB A B mi y0) (g1 : ∀ j, j ≤ fL y0 → fRe y0 j ≠ 0 ∧ fRe y0 j < N ∧ om.2.2.1.2.2.2.2 (fRe y0 j) = b) (c8 : sg'.2.2.2.1 b 8 e = sg.2.2.2.1 b 8 e) (c9 : sg'.2.2.2.1 b 9 e = sg.2.2.2.1 b 9 e)
    (c12 : ∀ i, i < fBs y0 + (mi (fMe y0)).2.2.2.2 + S.length → sg'.2.2.2.1 b 12 i = sg.2.2.2.1 b 12 i) (r100 : s'.2.2 100 (10 * b + e) = s.2.2 100 (10 * b + e)) (r101 : ∀ sl, sl < 16 → s'.2.2 101 (16 * (10 * b + e) + sl) = s.2.2 101 (16 * (10 * b + e) + sl)) (r97 : ∀ k, k < fQ y0 + S.length → s'.2.2 97 (10100 * b + k) = s.2.2 97 (10100 * b + k))
    (hN : ∀ sl, sl < 16 → om'.1 (pN (10 * b + e) sl) = om.1 (pN (10 * b + e) sl) ∧ om'.2.1 (pN (10 * b + e) sl) = om.2.1 (pN (10 * b + e) sl) ∧ ¬ Pq (pN (10 * b + e) sl)) (hH : om'.1 (pH (10 * b + e)) = om.1 (pH (10 * b + e)) ∧ om'.2.1 (pH (10 * b + e)) = om.2.1 (pH (10 * b + e)) ∧ ¬ Pq (pH (10 * b + e))) (hS : ∀ k, k < fQ y0 + S.length → om'.1 (pS b k) = om.1 (pS b k) ∧ om'.2.1 (pS b k) = om.2.1 (pS b k) ∧ ¬ Pq (pS b k))
    (st : rSt a a1 E Pq om.2.2.1 om'.2.2.1) (hE : ∀ j, j ≤ fL y0 → E (fRe y0 j)) (kn : knK om om' b) (k : kaX ka ka') (rm : om'.2.2.2.2 b = om.2.2.2.2 b) (pf : ∀ y ∈ S, y.2.1 = false ∧ y.2.2 ≤ fL y0) : fVl sB mi om' ka' sg' s' b e y0 S := by
  obtain ⟨v1, v2, v3, v4⟩ := v0
  have own : ∀ j, j ≤ fL y0 → om'.2.2.1.2.2.2.2 (fRe y0 j) = b := fun j hj => by rw [(st.1 _ (hE j hj)).2.1]; exact (g1 j hj).2.2
  refine ⟨by rw [c8]; exact v1, fun y hy gy => ?_, ?_, ?_⟩
  · obtain ⟨w1, w2, w3, w4, w5⟩ := v2 y hy gy
    have s16 := (nm.1.1 y hy).1
    have lv := nm.1.2 y hy
    have sl := (nm.2.2.1 y hy).1
    obtain ⟨n1, n2, n3⟩ := hN _ s16
    have hr : om'.2.2.1.1 (pN (10 * b + e) y.2.1) = fRe y0 y.2.2.2 := by
      rw [st.2.1 _ n3 (by rw [w3]; exact hE _ lv), w3]
    refine ⟨vAl_k w1 k kn w2 (Or.inl (by rw [hr]; exact (g1 _ lv).1)) (Or.inl (by rw [hr]; exact own _ lv)) n1 n2, by rw [n2]; exact w2, hr, ?_, ?_⟩
    · rw [c12 _ (by omega), n1]; exact w4
    · rw [r101 _ s16, n1]; exact w5
  · obtain ⟨tt, t1, t2, t3, t4, t5, t6, t7, t8⟩ := v3
    obtain ⟨n1, n2, n3⟩ := hH
    have hr : om'.2.2.1.1 (pH (10 * b + e)) = fRe y0 0 := by
      rw [st.2.1 _ n3 (by rw [t5]; exact hE _ (Nat.zero_le _)), t5]
    exact ⟨tt, t1, vAl_k t2 k kn t4 (Or.inl (by rw [hr]; exact (g1 0 (Nat.zero_le _)).1)) (Or.inl (by rw [hr]; exact own 0 (Nat.zero_le _))) n1 n2, by rw [n1]; exact t3, by rw [n2]; exact t4, hr, by rw [c9, n1]; exact t6, by rw [r100, n1]; exact t7, fun z => by rw [rm]; exact t8 z⟩
  · refine sVl_m S v4 (fun y j hy hj pe => ?_)
    obtain ⟨w1, w2, w3, w4, w6⟩ := pe
    obtain ⟨n1, n2, n3⟩ := hS (fQ y0 + j) (by omega)
    obtain ⟨pl, lv⟩ := pf y hy
    rcases w4 with ⟨u1, u2⟩ | ⟨u1, _⟩
    · have hr : y.1 ≠ 0 → om'.2.2.1.1 (pS b (fQ y0 + j)) = fRe y0 y.2.2 := fun y0' => by
        rw [st.2.1 _ n3 (by rw [u2 y0']; exact hE _ lv), u2 y0']
      refine ⟨?_, by rw [c12 _ (by omega), n1]; exact w2, by rw [r97 _ (by omega), n1]; exact w3, Or.inl ⟨by rw [n2]; exact u1, hr⟩, w6.1, fun z1 z2 => by rw [rm]; exact w6.2 z1 z2⟩
      by_cases z0 : y.1 = 0
      · exact vAl_k w1 k kn u1 (Or.inr z0) (Or.inr z0) n1 n2
      · exact vAl_k w1 k kn u1 (Or.inl (by rw [hr z0]; exact (g1 _ lv).1)) (Or.inl (by rw [hr z0]; exact own _ lv)) n1 n2
    · exact absurd u1 (by rw [pl]; decide)
/-- a body of another actor c -/
theorem fOk_s {c : Nat} (gi : GI ka.2.2.1 N om.1 om.2.1 om.2.2.1) (h : fOk sB A B mi om ka N sg s c xb e S) (hc : c ≠ a) (c12 : c < 12) (cc : c < ka.2.2.2) (cl : kCs a b sg sg') (rf : kRs a b s0 wt s s') (ch : ∀ l, l % 6 = 2 ∨ l % 6 = 4 ∨ (l % 6 = 3 ∧ l / 60600 ≠ a) ∨ l % 6 = 0 ∨ l % 6 = 1 → om'.1 l = om.1 l ∧ om'.2.1 l = om.2.1 l ∧ ¬ Pq l) (st : rSt a a1 E Pq om.2.2.1 om'.2.2.1) (hE : ∀ y, y = 0 ∨ (y < N ∧ om.2.2.1.2.2.2.2 y ≠ a) → E y) (hN : N ≤ N') (eKc : ∀ o, om.2.2.2.1 c o → om'.2.2.2.1 c o) (eR : om'.2.2.2.2 = om.2.2.2.2) (e10 : e < 10) (hR : ∀ e' j, e' ≤ e → j ≤ fL (xb e') → fRe (xb e') j < N ∧ om.2.2.1.2.2.2.2 (fRe (xb e') j) = c) (hs : ∀ y ∈ S, y ∈ fSt (xb e)) (hl : S.length ≤ (fSt (xb e)).length) : fOk sB A B mi om' ka N' sg' s' c xb e S := by
  have h0 := h
  obtain ⟨⟨p, q, b', j, z1, z2, z3, z4, z5, z6, z7, z8⟩, _, ⟨g1, _⟩, _⟩ := h0
  have lv := LV_PT z2
  have Eb : ∀ y, y < N → om.2.2.1.2.2.2.2 y = c → E y := fun y h1 h2 => hE y (Or.inr ⟨h1, by rw [h2]; exact hc⟩)
  have ra : ∀ j, j ≠ 10 → sg'.2.2.2.1 c j = sg.2.2.2.1 c j := fun j hj => cl.2.2.2.1 c j (fun z => hc z.1) (fun z => hj z.2)
  have rl : ∀ p i, p ≠ 107 → p ≠ 106 → s'.2.2 p i = s.2.2 p i := fun p i h1 h2 => rf.2.2 p i (fun z => h1 z.1) (fun z => h2 z.1)
  have k10 : ∀ k, k < fQ (xb e) + S.length → k < 10100 := by
    intro k hk
    have h1 : fQ (xb e) ≤ 1010 * 9 := Nat.le_trans z6 (Nat.mul_le_mul_left _ (by omega))
    omega
  refine fOk_k (P := Pq) h (by rw [ra 7 (by decide)]) (by rw [ra 8 (by decide)]) (by rw [ra 9 (by decide)]) (fun i _ => by rw [ra 12 (by decide)]) ?_ (rl 100 _ (by decide) (by decide)) (fun sl hsl => rl 101 _ (by decide) (by decide)) (fun k hk => rl 97 _ (by decide) (by decide)) (fun sl hsl => ch _ (Or.inl (by unfold pN; omega))) (ch _ (Or.inr (Or.inl (by unfold pH; omega)))) (fun k hk => ch _ (Or.inr (Or.inr (Or.inl ?_)))) st (fun e' j h1 h2 => Eb _ (hR e' j h1 h2).1 (hR e' j h1 h2).2) (knK_of eKc) kaX_r (by rw [eR]) cc hN (fun y hy => lv.1 y (hs y hy)) (Or.inr ⟨eKc, fun t j u hj se => ?_⟩)
  · exact rf.2.1 99 _ (fun z => absurd z.1 (by decide)) (fun z => by omega) (fun z => absurd z.1 (by decide)) (fun z => absurd z.1 (by decide)) (fun z => absurd z.1 (by decide)) (by decide)
  · have := k10 k hk
    unfold pS
    omega
  · obtain ⟨r0, rN, ro⟩ := g1 j hj
    refine sEe_k1 gi se ro (fun lx l1 l2 l3 => ch lx ?_) st (fun y h1 _ h3 => Eb y h1 h3) r0 rN
    unfold lOf at l1
    omega
theorem aBd_s {c D' : Nat} (gi : GI ka.2.2.1 N om.1 om.2.1 om.2.2.1) (h : aBd sB A B mi om ka N sg s c xb D') (hc : c ≠ a) (c12 : c < 12) (cc : c < ka.2.2.2) (cl : kCs a b sg sg') (rf : kRs a b s0 wt s s') (ch : ∀ l, l % 6 = 2 ∨ l % 6 = 4 ∨ (l % 6 = 3 ∧ l / 60600 ≠ a) ∨ l % 6 = 0 ∨ l % 6 = 1 → om'.1 l = om.1 l ∧ om'.2.1 l = om.2.1 l ∧ ¬ Pq l) (st : rSt a a1 E Pq om.2.2.1 om'.2.2.1) (hE : ∀ y, y = 0 ∨ (y < N ∧ om.2.2.1.2.2.2.2 y ≠ a) → E y) (hN : N ≤ N') (eKc : ∀ o, om.2.2.2.1 c o → om'.2.2.2.1 c o) (eR : om'.2.2.2.2 = om.2.2.2.2) : aBd sB A B mi om' ka N' sg' s' c xb D' := by
  have s13 : sg'.2.2.1 c 13 = sg.2.2.1 c 13 := cl.2.2.1 c 13 (fun z => hc z.1) (fun z => absurd z.2 (by decide))
  have p13 : sg'.2.2.2.2 c 13 = sg.2.2.2.2 c 13 := cl.2.2.2.2 c 13 (fun z => hc z.1)
  have so : ∀ ht, SOK sg c ht → SOK sg' c ht := fun ht h => by unfold SOK at h ⊢; rw [s13, p13]; exact h
  have r93 : s'.2.1 93 c = s.2.1 93 c := rf.2.1 93 c (fun z => hc z.2) (fun z => by omega) (fun z => absurd z.1 (by decide)) (fun z => absurd z.1 (by decide)) (fun z => absurd z.1 (by decide)) (by decide)
  rcases h with ⟨h1, h2, h3⟩ | ⟨d0, h1, h2, h3, h4, h5, h6⟩
  · exact Or.inl ⟨h1, so _ h2, by rw [r93]; exact h3⟩
  · have hR : ∀ e' j, e' ≤ d0 → j ≤ fL (xb e') → fRe (xb e') j < N ∧ om.2.2.1.2.2.2.2 (fRe (xb e') j) = c := by
      intro e' j he hj
      by_cases c' : e' = d0
      · rw [c'] at hj ⊢
        exact (h4.2.2.1.1 j hj).2
      · obtain ⟨S0, t, _, k⟩ := h3 e' (by omega)
        exact (k.2.2.1.1 j hj).2
    refine Or.inr ⟨d0, h1, h2, fun e he => ?_, ?_, so _ h5, by rw [r93]; exact h6⟩
    · obtain ⟨S0, t, hS, k⟩ := h3 e he
      exact ⟨S0, t, hS, fOk_s gi k hc c12 cc cl rf ch st hE hN eKc eR (by omega) (fun e' j h1 h2 => hR e' j (by omega) h2) (fun y hy => by rw [hS]; exact List.mem_cons_of_mem _ hy) (by rw [hS]; exact Nat.le_succ _)⟩
    · exact fOk_s gi h4 hc c12 cc cl rf ch st hE hN eKc eR h2 hR (fun y hy => hy) (Nat.le_refl _)
/-- READY, when a message has gone -/
theorem it_snd {L : List Nat} {ms' : mSg} (it : iTm sB A B mi kc om ka la ms N cn sg s D x a d) (eS : fSt (x a d) = X ++ S0) (pf : eLv (fL (x a d)) S0) (sn : sNt om om1 ka.2.2.1 N a s0 (fQ (x a d) + S0.length) ps (eLr om N a d (fL (x a d)) (x a))) (w' : wAl sB kc (omS om1 a s0 L) ka la ms' (N + 1) cn sg' s' D) (cl : kCs a b sg sg') (c12 : sg'.2.2.2.1 a 12 = sg.2.2.2.1 a 12) (rf : kRs a b s0 wt s s') (so : SOK sg' a (fBs (x a d) + (mi (fMe (x a d))).2.2.2.2 + S0.length)) (r93 : s'.2.1 93 a = Int32.ofNat (fQ (x a d) + S0.length)) (l10 : (fQ (x a d) + S0.length) + ps.length ≤ 10100) : iTm sB A B mi kc (omS om1 a s0 L) ka la ms' (N + 1) cn sg' s' D (xU x a d (fMe (x a d), fL (x a d), fG (x a d), fGn (x a d), S0, fRe (x a d), fBs (x a d), fQ (x a d))) a d := by
  obtain ⟨⟨a12, d10, u1, u2, u3, u4⟩, _, fx, b3, r92, b8, gi, rl0, ob4⟩ := it_f it
  have it0 := it
  obtain ⟨w, bo, su, ⟨hD, ac, _⟩, vl, rg, nm, od, lk, _, _, b1, b2, b3'⟩ := it0
  have ac12 : ka.2.2.2 ≤ 12 := by obtain ⟨_, _, ⟨_, _, _, _, _, ⟨_, _, z⟩, _⟩, _⟩ := w; exact z
  obtain ⟨gi', eK, st, sa, sW, sT, oN⟩ := sn
  have len : S0.length ≤ (fSt (x a d)).length := by rw [eS]; simp
  have El : ∀ j, j ≤ fL (x a d) → eLr om N a d (fL (x a d)) (x a) (fRe (x a d) j) := fun j hj => eL_R hj
  have Es : ∀ e j, e < d → j ≤ fL (x a e) → eLr om N a d (fL (x a d)) (x a) (fRe (x a e) j) := fun e j h1 h2 => Or.inr (Or.inr ⟨e, j, Or.inl ⟨h1, h2⟩, rfl⟩)
  have hE : ∀ y, y = 0 ∨ (y < N ∧ om.2.2.1.2.2.2.2 y ≠ a) → eLr om N a d (fL (x a d)) (x a) y := fun y hy => by
    rcases hy with z | z
    · exact Or.inl z
    · exact Or.inr (Or.inl z)
  have aM : a ≠ 12 + s0 := by omega
  have eKn : om1.2.2.2.1 = om.2.2.2.1 := by rw [eK]
  have eRm : (omS om1 a s0 L).2.2.2.2 = om.2.2.2.2 := by
    show om1.2.2.2.2 = _
    rw [eK]
  -- places
  have chp : ∀ l, l % 6 ≠ 5 → (∀ j, j < ps.length → l ≠ pS a ((fQ (x a d) + S0.length) + j)) → (omS om1 a s0 L).1 l = om.1 l ∧ (omS om1 a s0 L).2.1 l = om.2.1 l ∧ ¬ (∃ j, j < ps.length ∧ l = pM s0 j) := by
    intro l h1 h2
    have h3 : ∀ j, j < ps.length → l ≠ pM s0 j := fun j _ z => by rw [z] at h1; unfold pM at h1; omega
    exact ⟨sW l h3, sT l h3 h2, fun ⟨j, h4, h5⟩ => h3 j h4 h5⟩
  have nS : ∀ l, l % 6 ≠ 3 ∨ l / 60600 ≠ a → ∀ j, j < ps.length → l ≠ pS a ((fQ (x a d) + S0.length) + j) := by
    intro l h j hj z
    rw [z] at h
    unfold pS at h
    omega
  have cho : ∀ l, l % 6 = 2 ∨ l % 6 = 4 ∨ (l % 6 = 3 ∧ l / 60600 ≠ a) ∨ l % 6 = 0 ∨ l % 6 = 1 → (omS om1 a s0 L).1 l = om.1 l ∧ (omS om1 a s0 L).2.1 l = om.2.1 l ∧ ¬ (∃ j, j < ps.length ∧ l = pM s0 j) := fun l h => chp l (by omega) (nS l (by omega))
  have chN : ∀ i sl, (omS om1 a s0 L).1 (pN i sl) = om.1 (pN i sl) ∧ (omS om1 a s0 L).2.1 (pN i sl) = om.2.1 (pN i sl) ∧ ¬ (∃ j, j < ps.length ∧ pN i sl = pM s0 j) := fun i sl => cho _ (Or.inl (by unfold pN; omega))
  have chH : ∀ i, (omS om1 a s0 L).1 (pH i) = om.1 (pH i) ∧ (omS om1 a s0 L).2.1 (pH i) = om.2.1 (pH i) ∧ ¬ (∃ j, j < ps.length ∧ pH i = pM s0 j) := fun i => cho _ (Or.inr (Or.inl (by unfold pH; omega)))
  have chS : ∀ k, k < (fQ (x a d) + S0.length) → (omS om1 a s0 L).1 (pS a k) = om.1 (pS a k) ∧ (omS om1 a s0 L).2.1 (pS a k) = om.2.1 (pS a k) ∧ ¬ (∃ j, j < ps.length ∧ pS a k = pM s0 j) := fun k hk => chp _ (by unfold pS; omega) (fun j _ => sS_ne (by omega))
  -- what a knows
  have kn : knK om (omS om1 a s0 L) a := by
    intro l t0 r0 ow o0 h
    show (if a = 12 + s0 then _ else if a = a then om1.2.2.2.1 a (oV (om1.1 l)) ∧ _ else _)
    rw [if_neg aM, if_pos rfl, eKn]
    exact ⟨h, own_p (om := om1) gi' t0 rfl r0 ow o0⟩
  have kno : ∀ c, c < 12 → c ≠ a → ∀ o, om.2.2.2.1 c o → (omS om1 a s0 L).2.2.2.1 c o := by
    intro c hc hca o h
    show (if c = 12 + s0 then _ else if c = a then _ else om1.2.2.2.1 c o)
    rw [if_neg (by omega), if_neg hca, eKn]
    exact h
  have rl : ∀ p i, p ≠ 107 → p ≠ 106 → s'.2.2 p i = s.2.2 p i := fun p i h1 h2 => rf.2.2 p i (fun z => h1 z.1) (fun z => h2 z.1)
  have ra : ∀ j, j ≠ 10 → sg'.2.2.2.1 a j = sg.2.2.2.1 a j := fun j hj => by
    by_cases z : j = 12
    · rw [z]; exact c12
    · exact cl.2.2.2.1 a j (fun y => z y.2) (fun y => hj y.2)
  have r99 : ∀ i, s'.2.1 99 i = s.2.1 99 i := fun i => rf.2.1 99 _ (fun z => absurd z.1 (by decide)) (fun z => by omega) (fun z => absurd z.1 (by decide)) (fun z => absurd z.1 (by decide)) (fun z => absurd z.1 (by decide)) (by decide)
  have su' : fSu sB A B mi (omS om1 a s0 L) ka (N + 1) sg' s' a (x a) d := by
    intro e he
    obtain ⟨S1, t, hS, k⟩ := su e he
    have ly := fr_lay su e he (by
      rcases lk with z | z
      · omega
      · exact z) S1 t hS
    have k0 := k
    obtain ⟨⟨p, q, b', j, z1, z2, z3, z4, z5, z6, z7, z8⟩, _⟩ := k0
    have lv := LV_PT z2
    rw [hS] at lv
    exact ⟨S1, t, hS, fOk_k (P := fun l => ∃ j, j < ps.length ∧ l = pM s0 j) k (by rw [ra 7 (by decide)]) (by rw [ra 8 (by decide)]) (by rw [ra 9 (by decide)]) (fun i _ => by rw [ra 12 (by decide)]) (r99 _) (rl 100 _ (by decide) (by decide)) (fun sl hsl => rl 101 _ (by decide) (by decide)) (fun k hk => rl 97 _ (by decide) (by decide)) (fun sl hsl => chN _ _) (chH _) (fun k hk => chS k (by omega)) st (fun e' j h1 h2 => Es e' j (by omega) h2) kn kaX_r (by rw [eRm]) ac (Nat.le_succ N) (fun y hy => lv.1 y (List.mem_cons_of_mem _ hy)) (Or.inl (fun y hy => lv.2 y hy))⟩
  have vl0 : fVl sB mi om ka sg s a d (x a d) S0 := by
    obtain ⟨v1, v2, v3, v4⟩ := vl
    rw [eS] at v4
    exact ⟨v1, v2, v3, sVl_app X S0 v4⟩
  have vl' : fVl sB mi (omS om1 a s0 L) ka sg' s' a d (x a d) S0 := fVl_k (A := A) (B := B) (Pq := fun l => ∃ j, j < ps.length ∧ l = pM s0 j) vl0 nm rg.1 (by rw [ra 8 (by decide)]) (by rw [ra 9 (by decide)]) (fun i _ => by rw [ra 12 (by decide)]) (rl 100 _ (by decide) (by decide)) (fun sl hsl => rl 101 _ (by decide) (by decide)) (fun k hk => rl 97 _ (by decide) (by decide)) (fun sl hsl => chN _ _) (chH _) (fun k hk => chS k hk) st El kn kaX_r (by rw [eRm]) pf
  refine ⟨w', ?_⟩
  rw [xU_eq]
  refine ⟨fun c hc hne => ?_, fSu_x su' (fun e he => xU_e (by omega)), ⟨hD, ac, d10⟩, vl', ⟨fun j hj => ?_, fun j h1 hj => ?_⟩, nm, fun d' j1 j hd hj => ?_, ?_, so, r93, b1, b2, Nat.le_trans len b3'⟩
  · rw [xU_b hne]
    exact aBd_s gi (bo c hc hne) hne (by omega) hc cl rf cho st hE (Nat.le_succ N) (kno c (by omega) hne) eRm
  · obtain ⟨r1, r2, r3⟩ := rg.1 j hj
    exact ⟨r1, Nat.lt_succ_of_lt r2, by
      show om1.2.2.1.2.2.2.2 _ = a
      rw [(st.1 _ (El j hj)).2.1]; exact r3⟩
  · show om1.2.2.1.2.2.2.1 _ = 0
    rw [(st.1 _ (El j hj)).1]; exact rg.2 j h1 hj
  · rw [xU_eq] at hj ⊢
    have old : fRe (xU x a d (fMe (x a d), fL (x a d), fG (x a d), fGn (x a d), S0, fRe (x a d), fBs (x a d), fQ (x a d)) a d') j1 = fRe (x a d') j1 ∧ ((d' < d ∧ j1 ≤ fL (x a d')) ∨ (d' = d ∧ j1 < j)) := by
      rcases hd with z | z
      · rw [xU_e (by omega)] at z ⊢
        exact ⟨rfl, Or.inl z⟩
      · rw [z.1, xU_eq]
        exact ⟨rfl, Or.inr ⟨rfl, z.2⟩⟩
    rw [old.1]
    obtain ⟨o1, o2⟩ := od d' j1 j old.2 hj
    refine ⟨fun h1 h2 => o1 h1 ?_, o2⟩
    have Ed : eLr om N a d (fL (x a d)) (x a) (fRe (x a d') j1) := by
      rcases old.2 with z | z
      · exact Es d' j1 z.1 z.2
      · have hj : j ≤ fL (x a d) := hj
        rw [z.1]; exact El j1 (by omega)
    exact ((st.1 _ Ed).2.2.2 _).mp h2
  · rcases lk with ⟨h0, f1, f2, f3, f4⟩ | ⟨d', hd, lk⟩
    · left
      refine ⟨h0, ?_⟩
      unfold fB0
      subst h0
      rw [xU_eq]
      exact ⟨f1, f2, by rw [eRm]; exact f3, f4⟩
    · right
      refine ⟨d', hd, ?_⟩
      subst hd
      unfold fLk
      rw [xU_eq, xU_e (by omega)]
      obtain ⟨t, le, S1, l1, l2, l3, l4, l5⟩ := lk
      refine ⟨t, le, S1, l1, l2, l3, l4, ?_⟩
      rcases l5 with l5 | ⟨m1, m2, k, cp, m3, m4, m5, m6, m7, m8⟩
      · exact Or.inl l5
      · right
        refine ⟨m1, m2, k, cp, m3, m4, m5, m6, m7, ?_⟩
        rcases m8 with m8 | ⟨m8, m9, m10⟩
        · exact Or.inl m8
        · refine Or.inr ⟨?_, m9, fun d'' j h1 h2 => ?_⟩
          · show om1.2.2.1.2.2.2.1 (fRe (x a (d' + 1)) 0) = 0
            rw [(st.1 _ (El 0 (Nat.zero_le _))).1]; exact m8
          · rw [xU_e (by omega)] at h2 ⊢
            exact m10 d'' j h1 h2
end JSL
