/-! A MESSAGE IS TAKEN BY BOTH. -/
section JTQ
variable {sB : rS} {A B : Nat → Int32} {mi : Nat → Nat × Nat × Nat × Nat × Nat} {kc : kCi} {om om' : oMg} {ka ka' : kAp} {la : lAy} {ms : mSg} {N N' cn : Nat} {sg sg' sg2 : cS} {s s' s2 S1 : rS} {a b d e lo q0 J l t r i n p q k k2 f0 w P L sz lv : Nat} {xs : Nat → Int32} {zf : Value} {Z : Nat → Prop} {hB h h' : rm_H} {es : List Nat} {x : Nat → Nat → fDs} {D : Nat → Nat} {S S0 X : List stE} {v : Int64} {y : Int32}
variable {E Pq : Nat → Prop} {om1 : oMg} {wt a0 a1 s0 M : Nat} {xb : Nat → fDs}
theorem lOf_t {c lx : Nat} (h : lOf c lx) (hc : c ≠ a) : (lx % 6 = 2 ∧ lx / 960 ≠ a) ∨ lx % 6 = 3 ∨ lx % 6 = 4 ∨ lx % 6 = 0 ∨ (lx % 6 = 1 ∧ lx / 48 = c) := by
  unfold lOf at h
  omega
/-- the bodies of another actor c -/
theorem fOk_t {c : Nat} (gi : GI ka.2.2.1 N om.1 om.2.1 om.2.2.1) (h : fOk sB A B mi om ka N sg s c xb e S) (hc : c ≠ a) (c12 : c < 12) (cc : c < ka.2.2.2) (e7 : sg'.2.2.2.1 c = sg.2.2.2.1 c) (r99 : s'.2.1 99 = s.2.1 99) (r97 : s'.2.2 97 = s.2.2 97) (r100 : s'.2.2 100 = s.2.2 100) (r101 : s'.2.2 101 = s.2.2 101) (ch : ∀ l, (l % 6 = 2 ∧ l / 960 ≠ a) ∨ l % 6 = 3 ∨ l % 6 = 4 ∨ l % 6 = 0 ∨ (l % 6 = 1 ∧ l / 48 = c) → om'.1 l = om.1 l ∧ om'.2.1 l = om.2.1 l ∧ ¬ Pq l) (st : rSt a0 a1 E Pq om.2.2.1 om'.2.2.1) (hE : ∀ y, y < N → om.2.2.1.2.2.2.2 y = c → E y) (kx : kaX ka ka') (hN : N ≤ N') (eKc : ∀ o, om.2.2.2.1 c o → om'.2.2.2.1 c o) (eR : om'.2.2.2.2 c = om.2.2.2.2 c) (e10 : e < 10) (hR : ∀ e' j, e' ≤ e → j ≤ fL (xb e') → fRe (xb e') j < N ∧ om.2.2.1.2.2.2.2 (fRe (xb e') j) = c) (hs : ∀ y ∈ S, y ∈ fSt (xb e)) (hl : S.length ≤ (fSt (xb e)).length) : fOk sB A B mi om' ka' N' sg' s' c xb e S := by
  have h0 := h
  obtain ⟨⟨p, q, b', j, z1, z2, z3, z4, z5, z6, z7, z8⟩, _, ⟨g1, _⟩, _⟩ := h0
  have lv := LV_PT z2
  refine fOk_k (P := Pq) h (by rw [e7]) (by rw [e7]) (by rw [e7]) (fun i _ => by rw [e7]) (by rw [r99]) (by rw [r100]) (fun sl hsl => by rw [r101]) (fun k hk => by rw [r97]) (fun sl hsl => ch _ (Or.inl (by unfold pN; omega))) (ch _ (Or.inr (Or.inr (Or.inl (by unfold pH; omega))))) (fun k hk => ch _ (Or.inr (Or.inl (by unfold pS; omega)))) st (fun e' j h1 h2 => hE _ (hR e' j h1 h2).1 (hR e' j h1 h2).2) (knK_of eKc) kx eR cc hN (fun y hy => lv.1 y (hs y hy)) (Or.inr ⟨eKc, fun t j u hj se => ?_⟩)
  obtain ⟨r0, rN, ro⟩ := g1 j hj
  exact sEe_k1 gi se ro (fun lx l1 l2 l3 => ch lx (lOf_t l1 hc)) st (fun y h1 _ h3 => hE y h1 h3) r0 rN
theorem aBd_t {c D' : Nat} (gi : GI ka.2.2.1 N om.1 om.2.1 om.2.2.1) (h : aBd sB A B mi om ka N sg s c xb D') (hc : c ≠ a) (c12 : c < 12) (cc : c < ka.2.2.2) (e7 : sg'.2.2.2.1 c = sg.2.2.2.1 c) (s13 : sg'.2.2.1 c 13 = sg.2.2.1 c 13) (p13 : sg'.2.2.2.2 c = sg.2.2.2.2 c) (r93 : s'.2.1 93 c = s.2.1 93 c) (r99 : s'.2.1 99 = s.2.1 99) (r97 : s'.2.2 97 = s.2.2 97) (r100 : s'.2.2 100 = s.2.2 100) (r101 : s'.2.2 101 = s.2.2 101) (ch : ∀ l, (l % 6 = 2 ∧ l / 960 ≠ a) ∨ l % 6 = 3 ∨ l % 6 = 4 ∨ l % 6 = 0 ∨ (l % 6 = 1 ∧ l / 48 = c) → om'.1 l = om.1 l ∧ om'.2.1 l = om.2.1 l ∧ ¬ Pq l) (st : rSt a0 a1 E Pq om.2.2.1 om'.2.2.1) (hE : ∀ y, y < N → om.2.2.1.2.2.2.2 y = c → E y) (kx : kaX ka ka') (hN : N ≤ N') (eKc : ∀ o, om.2.2.2.1 c o → om'.2.2.2.1 c o) (eR : om'.2.2.2.2 c = om.2.2.2.2 c) : aBd sB A B mi om' ka' N' sg' s' c xb D' := by
  have so : ∀ ht, SOK sg c ht → SOK sg' c ht := fun ht h => by unfold SOK at h ⊢; rw [s13, p13]; exact h
  rcases h with ⟨h1, h2, h3⟩ | ⟨d0, h1, h2, h3, h4, h5, h6⟩
  · exact Or.inl ⟨h1, so _ h2, by rw [r93]; exact h3⟩
  · have hR : ∀ e' j, e' ≤ d0 → j ≤ fL (xb e') → fRe (xb e') j < N ∧ om.2.2.1.2.2.2.2 (fRe (xb e') j) = c := by
      intro e' j he hj
      by_cases c' : e' = d0
      · rw [c'] at hj ⊢
        exact (h4.2.2.1.1 j hj).2
      · obtain ⟨S0, t, _, k⟩ := h3 e' (by omega)
        exact (k.2.2.1.1 j hj).2
    refine Or.inr ⟨d0, h1, h2, fun e he => ?_, ?_, so _ h5, by rw [r93]; exact h6⟩
    · obtain ⟨S0, t, hS, k⟩ := h3 e he
      exact ⟨S0, t, hS, fOk_t gi k hc c12 cc e7 r99 r97 r100 r101 ch st hE kx hN eKc eR (by omega) (fun e' j h1 h2 => hR e' j (by omega) h2) (fun y hy => by rw [hS]; exact List.mem_cons_of_mem _ hy) (by rw [hS]; exact Nat.le_succ _)⟩
    · exact fOk_t gi h4 hc c12 cc e7 r99 r97 r100 r101 ch st hE kx hN eKc eR h2 hR (fun y hy => hy) (Nat.le_refl _)
/-- the result of one instruction, from outside -/
def jIn (sB : rS) (A B : Nat → Int32) (mi : Nat → Nat × Nat × Nat × Nat × Nat) (kc : kCi) (L : Nat) (xs : Nat → Int32) (zf : Value) (w P : Nat) (Z : Nat → Prop) (hB : rm_H) (k k2 n cn a : Nat) (sg : cS) (h : rm_H) (s : rS) : Prop := ∃ (h' : rm_H) (n' : Nat) (sg' : cS) (s' : rS) (om' : oMg) (ka' : kAp) (la' : lAy) (ms' : mSg) (N' : Nat) (D' : Nat → Nat) (x' : Nat → Nat → fDs), dM L xs zf w (k + 13) 237 [.ref 24, .ref (sg.2.2.2.2 a 0)] h = some (some (.int 1), h') ∧ rM w (k2 + 13) 383 [.ref 36, .int (Int32.ofNat a)] s = some (none, s') ∧ RH (.ref P) n' sg' Z hB h' ∧ (ka'.2.2.2 ≤ n' ∧ n ≤ n') ∧ rUn sB A B mi kc om' ka' la' ms' N' (cn + 1) sg' s' D' x' ∧ sg'.2.2.2.2 a 0 = sg.2.2.2.2 a 0 ∧ a < ka'.2.2.2 ∧ cNt n sg h n' sg' h'
theorem J_tk {sz : Nat} (cb : CB hB Z P A B sz es) (rh : RH (.ref P) n sg Z hB h) (hn : ka.2.2.2 ≤ n) (ru : rUn sB A B mi kc om ka la ms N cn sg s D x) (ac : a < ka.2.2.2) (hD : D a = 0) (ewt : ms.1 a = wt + 1) (hw : 10000 ≤ w) (kfr : kFr sB kc) (mnu : mNu hB Z es) (ce : ∀ m, mRl sB m → cEe sB A B mi hB Z es m) : jIn sB A B mi kc L xs zf w P Z hB k k2 n cn a sg h s := by
  obtain ⟨wl0, bod⟩ := ru
  have wl := wAl_c wl0 ac
  have wl1 := wl
  obtain ⟨fx, gi, wn, wo, wd, wa⟩ := wl1
  have ac12 : ka.2.2.2 ≤ 12 := by obtain ⟨_, _, _, _, _, ⟨_, _, z⟩, _⟩ := wn; exact z
  have a12 : a < 12 := by omega
  have rq : rqs sB (sDn s a) := fun p h1 h2 => fx.1 p (by omega)
  have ob4 : ka.2.2.1 ≤ 400 := by
    obtain ⟨clm, mb, tn, ⟨_, _, n1⟩, _, _, _, ⟨_, _, n2⟩, ⟨_, n3⟩, _⟩ := wn
    omega
  obtain ⟨_, wacA, hmsA⟩ := wa a ac
  obtain ⟨⟨y1, y2, y3, y4, y5⟩, _, ⟨y7, y8⟩, _, _, Rm, _⟩ := wacA
  have hms0 := hmsA
  obtain ⟨⟨m1, m2, m3⟩, ⟨m4, m5⟩, m6, m7, m8⟩ := hms0
  obtain ⟨q1, q2, q3, ⟨q4, q5, q6, q7, q8, q9⟩, qM, ⟨ps, t1, t2, t3, t4⟩, qK, qB⟩ := m6 0 (by omega)
  generalize hm : (ms.2.2.2.1 (6 * a + ms.2.2.1 a 0)) = m at *
  obtain ⟨mo, Gc, ps', pe, qe, lve, Mc, num, c1, c2, c3, c4, c5, c6, c7, c8, c9, c10⟩ := ce m q9
  have eps := pm_u t1 c1
  subst eps
  have enum : num = Int32.ofNat m := mnu m Mc _ _ num _ c9 c10
  have loc16 := mo.2.2.2.1.1
  have rm92 : s.2.1 92 a = 0 := by
    obtain ⟨_, ⟨_, _, ⟨_, z⟩, _⟩, _⟩ := wl0.2.2.2.2.2 a ac
    rw [hD] at z
    exact z
  obtain ⟨h13, z13, z93⟩ : SOK sg a 0 ∧ s.2.1 93 a = 0 ∧ True := by
    rcases bod a ac with ⟨_, z1, z2⟩ | ⟨d0, z1, _⟩
    · exact ⟨z1, z2, trivial⟩
    · omega
  -- both do it
  have obs : ∀ o, 1 ≤ o → o ≤ ka.2.2.1 → OBJ (sDn s a) o (ka.1 o) (la.2.2.1 o) (kc (ka.1 o)).1 := by
    intro o o1 o2
    obtain ⟨⟨k1, k2', k3⟩, _, _, p3, p4, p5, p6, p7⟩ := wo o o1 o2
    obtain ⟨em, v1, f0, v2, v3, v4, v5, v6⟩ := kfr (ka.1 o) k1 k3 k2'
    have l4 : la.2.2.1 o + (kc (ka.1 o)).1 ≤ 400 := by
      obtain ⟨clm, mb, tn, ⟨_, _, n1⟩, _, _, _, ⟨_, _, n2⟩, ⟨_, n3⟩, _⟩ := wn
      omega
    refine ⟨p3, p4, l4, em, v1, f0, by rw [fx.1 64 (by decide)]; exact v2, by rw [fx.1 64 (by decide)]; exact v3, v4, v5, fun f hf => ?_⟩
    obtain ⟨w, w1, w2, w3⟩ := v6 f hf
    exact ⟨w, w1, by rw [fx.1 69 (by decide)]; exact w2, by rw [fx.1 60 (by decide)]; exact w3⟩
  obtain ⟨m72, bb, cc, p0, e76, hb4, hc4, e45, eq, e77, e77', p5', n6⟩ := rmb_k c8 (fx.1 76 (by decide)) (fx.1 77 (by decide))
  obtain ⟨h', z, c, f, e1, e2, e3, e4, e5, e6, e7, e8⟩ := k_ins0 (L := L) (xs := xs) (zf := zf) (w := w) (k := k + 7) (m := m) (fr0 := ms.2.1 a) (wt := wt) cb c10 rh (by omega) c9 (by omega) (by
    have := q6
    rw [Nat.add_zero, Nat.mod_eq_of_lt m4] at this
    exact this) (by omega) c3 c2 m4 (by omega) (by omega) h13.1 h13.2.2.1 h13.2.2.2 (by
    obtain ⟨_, ⟨_, _, ⟨z, _⟩, _⟩, _⟩ := wl0.2.2.2.2.2 a ac
    rw [hD] at z
    exact z) (by
    obtain ⟨_, _, ⟨_, ⟨_, z⟩, _⟩⟩ := wl0.2.2.2.2.2 a ac
    exact z) (by
    obtain ⟨_, _, ⟨⟨_, z, _⟩, _⟩⟩ := wl0.2.2.2.2.2 a ac
    rw [ewt] at z
    exact z)
  obtain ⟨od, g, g1, r1, r2, r3, r4, r5, r6, r7, r8, r9⟩ := r_takeM (w := w) (k := k2 + 8) (s := (sDn s a)) (a := a) (s0 := (6 * a + ms.2.2.1 a 0)) (wt := wt) (ob := ka.2.2.1) (m := m) (q := qe) rq a12 (by omega) (by omega) (by
    have := q2
    rw [Nat.add_zero] at this
    exact this) (by rw [m3, ewt]) (by obtain ⟨_, _, _, _, _, _, ⟨_, z⟩, _⟩ := wn; exact z) ob4 q5 (fun o o1 o2 _ => ⟨_, _, _, obs o o1 o2⟩) (by rw [y8, hD]) q4 e76 hb4 hc4 e45 eq (by omega) n6 e77 e77' p5'
  have hr := r_ins0 a12 rm92 r1
  -- the store
  obtain ⟨om1, i1, i2, i3, i4, i5, i6⟩ := tak_st (ts := ps) (s0 := (6 * a + ms.2.2.1 a 0)) (M := ms.2.2.2.2 (6 * a + ms.2.2.1 a 0)) gi Rm qM a12 (fun i t ht => by
    obtain ⟨u1, u2, u3, _⟩ := t4 i t ht
    have sd := t3 t (List.mem_iff_getElem?.mpr ⟨i, ht⟩)
    have dt := dTy_c (pm_d c1 t (List.mem_iff_getElem?.mpr ⟨i, ht⟩))
    refine ⟨by omega, u1, u2, ?_⟩
    by_cases o0 : oV (om.1 (pM (6 * a + ms.2.2.1 a 0) i)) = 0
    · exact Or.inl o0
    · right
      have := isO_c (vTy_o u3.1 o0).1
      unfold sdT at sd
      simp at sd
      omega)
  have hE : ∀ y, y = 0 ∨ (y < N ∧ om.2.2.1.2.2.2.2 y ≠ a ∧ om.2.2.1.2.2.2.2 y ≠ 12 + (6 * a + ms.2.2.1 a 0)) ∨ y = om.2.2.2.2 a → eTk om N a (6 * a + ms.2.2.1 a 0) (ms.2.2.2.2 (6 * a + ms.2.2.1 a 0)) y := fun y hy => by
    rcases hy with z | z | z
    · exact Or.inl z
    · exact Or.inr (Or.inl z)
    · exact Or.inr (Or.inr (Or.inl z))
  have ch0 : ∀ l, l % 6 ≠ 2 ∨ l / 960 ≠ a → om1.1 l = om.1 l := fun l hl => i5 l (fun j hj z => by
    rw [z] at hl
    unfold pN at hl
    omega)
  have ch1 : ∀ l, l % 6 ≠ 2 ∨ l / 960 ≠ a → l % 6 ≠ 5 ∨ l / 36 ≠ (6 * a + ms.2.2.1 a 0) → om1.2.1 l = om.2.1 l := fun l hl hl2 => i6 l (fun j hj z => by
    rw [z] at hl
    unfold pN at hl
    omega) (fun j hj z => by
    rw [z] at hl2
    unfold pM at hl2
    omega)
  have wT : wAl sB kc (omT om1 a (6 * a + ms.2.2.1 a 0)) ka la (msT ms a wt) N cn (sA' (sA' (sCn sg a) a 11 (Int32.ofNat ((ms.2.1 a + 1) % 6))) a 4 (Int32.ofNat wt)) (sT1 (sDn s a) a wt (6 * a + ms.2.2.1 a 0) od g) D := wAl_tk (E := eTk om N a (6 * a + ms.2.2.1 a 0) (ms.2.2.2.2 (6 * a + ms.2.2.1 a 0))) (Pq := (fun l => ∃ j, j < ps.length ∧ l = pN (10 * a) j)) wl ac ewt obs i1 i2 i3 hE (fun l ⟨j, hj, hl⟩ => by rw [hl]; unfold pN; omega) (fun l hl => ⟨ch0 l (by omega), ch1 l (by omega) (by omega)⟩) r2 r3 r4 r6 r9
  have aM : a ≠ 12 + (6 * a + ms.2.2.1 a 0) := by omega
  have eRm : (omT om1 a (6 * a + ms.2.2.1 a 0)).2.2.2.2 = om.2.2.2.2 := by
    show om1.2.2.2.2 = _
    rw [i2]
  have eKn : om1.2.2.2.1 = om.2.2.2.1 := by rw [i2]
  have EM : eTk om N a (6 * a + ms.2.2.1 a 0) (ms.2.2.2.2 (6 * a + ms.2.2.1 a 0)) (om.2.2.2.2 a) := Or.inr (Or.inr (Or.inl rfl))
  have owm : om1.2.2.1.2.2.2.2 (om.2.2.2.2 a) = a := by
    have : om1.2.2.1.2.2.2.2 (om.2.2.2.2 a) = (if om.2.2.1.2.2.2.2 (om.2.2.2.2 a) = 12 + (6 * a + ms.2.2.1 a 0) then a else om.2.2.1.2.2.2.2 (om.2.2.2.2 a)) := (i3.1 _ EM).2.1
    rw [this, Rm.2.2]
    split <;> rfl
  -- the others
  have st2 : rSt (12 + (6 * a + ms.2.2.1 a 0)) a (fun y => y < N ∧ om.2.2.1.2.2.2.2 y ≠ a ∧ om.2.2.1.2.2.2.2 y ≠ 12 + (6 * a + ms.2.2.1 a 0)) (fun l => ∃ j, j < ps.length ∧ l = pN (10 * a) j) om.2.2.1 om1.2.2.1 := by
    refine ⟨fun y hy => ?_, fun l h1 h2 => i3.2.1 l h1 (Or.inr (Or.inl h2)), fun o ho => i3.2.2.1 o (Or.inr (Or.inl ho)), fun o ho => ?_⟩
    · obtain ⟨v1, v2, v3, v4⟩ := i3.1 y (Or.inr (Or.inl hy))
      refine ⟨v1, ?_, v3, v4⟩
      rw [v2]
      exact if_neg hy.2.2
    · have h1 : (rlb om.2.2.1 (12 + (6 * a + ms.2.2.1 a 0)) a).2.2.2.2 ((rlb om.2.2.1 (12 + (6 * a + ms.2.2.1 a 0)) a).2.1 o) = a := if_pos ho
      rcases i3.2.2.2 o h1 with v | v | v
      · exact Or.inl v
      · exact Or.inr (Or.inr v)
      · exact Or.inr (Or.inr v)
  have s99 : (sT1 (sDn s a) a wt (6 * a + ms.2.2.1 a 0) od g).2.1 99 = s.2.1 99 := by
    funext i
    show (rs_wA (rsI (rs_wA (sDn s a) 94 a (Int32.ofNat wt)) 102 od) 104 (6 * a + ms.2.2.1 a 0) 0).2.1 99 i = _
    rw [wA_get, if_neg (by omega)]
    show (rs_wA (sDn s a) 94 a (Int32.ofNat wt)).2.1 99 i = _
    rw [wA_get, if_neg (by omega)]
    show (rs_wA (rs_w s 80 (s.1 80 + 1)) 90 a (s.2.1 90 a + 1)).2.1 99 i = _
    rw [wA_get, if_neg (by omega)]
    rfl
  have s93 : ∀ i, (sT1 (sDn s a) a wt (6 * a + ms.2.2.1 a 0) od g).2.1 93 i = s.2.1 93 i := by
    intro i
    show (rs_wA (rsI (rs_wA (sDn s a) 94 a (Int32.ofNat wt)) 102 od) 104 (6 * a + ms.2.2.1 a 0) 0).2.1 93 i = _
    rw [wA_get, if_neg (by omega)]
    show (rs_wA (sDn s a) 94 a (Int32.ofNat wt)).2.1 93 i = _
    rw [wA_get, if_neg (by omega)]
    show (rs_wA (rs_w s 80 (s.1 80 + 1)) 90 a (s.2.1 90 a + 1)).2.1 93 i = _
    rw [wA_get, if_neg (by omega)]
    rfl
  have bo : ∀ b, b < ka.2.2.2 → b ≠ a → aBd sB A B mi (omT om1 a (6 * a + ms.2.2.1 a 0)) ka N (sA' (sA' (sCn sg a) a 11 (Int32.ofNat ((ms.2.1 a + 1) % 6))) a 4 (Int32.ofNat wt)) (sT1 (sDn s a) a wt (6 * a + ms.2.2.1 a 0) od g) b (x b) (D b) := by
    intro b hb hne
    refine aBd_t (om' := (omT om1 a (6 * a + ms.2.2.1 a 0))) (sg := sg) (s := s) (a := a) gi (bod b hb) hne (by omega) hb rfl ?_ rfl (s93 b) s99 rfl rfl rfl (fun l hl => ⟨ch0 l (by omega), ch1 l (by omega) (by omega), fun ⟨j, hj, hz⟩ => by
      have hj6 : j < 6 := by omega
      rw [hz] at hl
      unfold pN at hl
      omega⟩) st2 (fun y h1 h2 => ⟨h1, by rw [h2]; exact hne, by rw [h2]; omega⟩) kaX_r (Nat.le_refl _) (fun o ho => ?_) (by rw [eRm])
    · show (sA' (sA' (sCn sg a) a 11 _) a 4 _).2.2.1 b 13 = _
      rw [sA_ne (Or.inr hne), sA_ne (Or.inr hne)]
      exact sA_ne (sg := sXc sg 11 (sg.1 11 + 1)) (Or.inr hne)
    · show (if b = a then _ else if b = 12 + (6 * a + ms.2.2.1 a 0) then False else om1.2.2.2.1 b o)
      rw [if_neg hne, if_neg (by omega), eKn]
      exact ho
  -- the body is entered
  have g2i := GI_put i1 (pH (10 * a)) (8 * (ka.2.1 a + 1) + 6) (om.2.2.2.2 a) (mdV 3 (Int32.ofNat a)) ob_H Rm.2.1 (Or.inr (by rw [oV_3]; exact Nat.zero_le _)) (Or.inr (Or.inl (oV_3 _)))
  have nH : ∀ j, pN (10 * a) j ≠ pH (10 * a) := fun j => nH_ne
  have fG : (sTk (sCn sg a) a z c f (mi m).2.2.2.2 (Int32.ofNat pe) (ms.2.1 a) wt).2.2.2.1 a 12 = f := by
    show (sE (sQ (sCn sg a) a z c f (mi m).2.2.2.2) a 0 (Int32.ofNat pe) 0 ((sCn sg a).2.2.1 a 0 + 1)).2.2.2.1 a 12 = f
    rw [sE_o (Or.inr (by decide)), sQ_f]
  have res := eNt (sB := sB) (A := A) (B := B) (mi := mi) (x := x) (nn := 0) (m := m) (lvc := lve) (qc := qe) (pc := pe) (R0 := om.2.2.2.2 a) (bs := 0) (qs := 0) (Gc := Gc) (om := (omT om1 a (6 * a + ms.2.2.1 a 0))) (om' := (wU om1.1 (pH (10 * a)) (mdV 3 (Int32.ofNat a)), rg_up om1.2.1 (pH (10 * a)) (8 * (ka.2.1 a + 1) + 6), rRo om1.2.2.1 (pH (10 * a)) (om.2.2.2.2 a), (omT om1 a (6 * a + ms.2.2.1 a 0)).2.2.2)) (sg' := (sTk (sCn sg a) a z c f (mi m).2.2.2.2 (Int32.ofNat pe) (ms.2.1 a) wt)) (s' := (rsL (sBg (sT1 (sDn s a) a wt (6 * a + ms.2.2.1 a 0) od g) a 0 m qe (mdV 3 (Int32.ofNat a))) 101 g1)) (E := fun y => y = 0 ∨ (y < N ∧ om1.2.2.1.2.2.2.2 y ≠ a) ∨ y = om.2.2.2.2 a) (Pl := fun l => l = pH (10 * a)) wT bo (fun e he => absurd he (Nat.not_lt_zero _)) ac (by decide) (fun y hy => by
    rcases hy with z | z | ⟨e, _, z, _⟩
    · exact Or.inl z
    · exact Or.inr (Or.inl z)
    · omega) (Or.inr (Or.inr rfl)) (by rw [eRm]; exact Or.inr (Or.inr rfl)) (fun y hy => by
    have := gi.2.2.2.2
    rcases hy with z | z | z
    · omega
    · exact z.1
    · rw [z]; exact Rm.2.1) Rm.1 owm (fun e _ he => absurd he (Nat.not_lt_zero _)) (fun e he => absurd he (Nat.not_lt_zero _)) ?kcm ?krm (fun e he => absurd he (Nat.not_lt_zero _)) (fun i hi => absurd hi (Nat.not_lt_zero _)) (fun e he => absurd he (Nat.not_lt_zero _)) (fun i hi => absurd hi (Nat.not_lt_zero _)) (fun l hl => by
    rw [hl]
    unfold aPl pH
    omega) (fun e he => absurd he (Nat.not_lt_zero _)) (fun i hi => absurd hi (Nat.not_lt_zero _)) (fun l hl => ⟨wU_ne hl, rg_up_ne _ hl⟩) rRo_st g2i rfl c6 c5 ?gds ?gss mo ?n7 ?r99 c7 ?n8 ?nms ?ths (Or.inl ⟨rfl, rfl, rfl, by rw [eRm], q7⟩) (Nat.zero_le _) (Nat.zero_le _) ?so ?r93 ?g3 ?r92
  case kcm =>
    refine ⟨rfl, rfl, fun b j hbj => ?_, fun b j hbj => ?_, fun b j hbj => ?_⟩
    · show (sA' (sA' (sE (sQ (sCn sg a) a z c f (mi m).2.2.2.2) a 0 (Int32.ofNat pe) 0 ((sCn sg a).2.2.1 a 0 + 1)) a 11 (Int32.ofNat ((ms.2.1 a + 1) % 6))) a 4 (Int32.ofNat wt)).2.2.1 b j = (sA' (sA' (sCn sg a) a 11 (Int32.ofNat ((ms.2.1 a + 1) % 6))) a 4 (Int32.ofNat wt)).2.2.1 b j
      by_cases h4 : b = a ∧ j = 4
      · obtain ⟨h4a, h4b⟩ := h4
        subst h4a h4b
        rw [sA_at, sA_at]
      · have n4 : j ≠ 4 ∨ b ≠ a := by omega
        rw [sA_ne n4, sA_ne n4]
        by_cases h11 : b = a ∧ j = 11
        · obtain ⟨ha', hb'⟩ := h11
          subst ha' hb'
          rw [sA_at, sA_at]
        · have n11 : j ≠ 11 ∨ b ≠ a := by omega
          rw [sA_ne n11, sA_ne n11, sE_3 (by omega), sQ_A (by omega)]
    · show (sE (sQ (sCn sg a) a z c f (mi m).2.2.2.2) a 0 (Int32.ofNat pe) 0 ((sCn sg a).2.2.1 a 0 + 1)).2.2.2.1 b j = sg.2.2.2.1 b j
      rw [sE_o (by omega), sQ_R (by omega)]
      rfl
    · show (sQ (sCn sg a) a z c f (mi m).2.2.2.2).2.2.2.2 b j = sg.2.2.2.2 b j
      rw [sQ_P (by omega)]
      rfl
  case krm =>
    refine ⟨rfl, fun p i h1 h2 => ?_, fun p i h1 h2 h3 => ?_⟩
    · show (sBg (sT1 (sDn s a) a wt (6 * a + ms.2.2.1 a 0) od g) a 0 m qe (mdV 3 (Int32.ofNat a))).2.1 p i = _
      rw [bg_I, if_neg (by omega), if_neg (by omega), if_neg (by omega)]
    · show (if p = 101 then g1 else (sBg (sT1 (sDn s a) a wt (6 * a + ms.2.2.1 a 0) od g) a 0 m qe (mdV 3 (Int32.ofNat a))).2.2 p) i = _
      by_cases c5' : p = 101
      · rw [if_pos c5', c5']
        show g1 i = s.2.2 101 i
        refine r8 i ?_
        have : i / 160 ≠ a := fun z => h2 ⟨c5', z⟩
        omega
      · rw [if_neg c5', bg_L, if_neg (by omega)]
  case gds =>
    intro i j X Y h1 h2 h3
    have := (c4 i X h1).1
    have := (c4 j Y h2).1
    omega
  case gss =>
    intro y hy
    obtain ⟨i, hi⟩ := List.mem_iff_getElem?.mp hy
    obtain ⟨v1, v2⟩ := c4 i y hi
    have hl : i < ps.length := by
      obtain ⟨v, _⟩ := List.getElem?_eq_some_iff.mp v2
      exact v
    exact ⟨by omega, pm_d c1 _ (List.mem_iff_getElem?.mpr ⟨i, v2⟩)⟩
  case n7 =>
    show (sE (sQ (sCn sg a) a z c f (mi m).2.2.2.2) a 0 (Int32.ofNat pe) 0 ((sCn sg a).2.2.1 a 0 + 1)).2.2.2.1 a 7 0 = _
    rw [sE_7, upd_eq']
  case r99 =>
    show (sBg (sT1 (sDn s a) a wt (6 * a + ms.2.2.1 a 0) od g) a 0 m qe (mdV 3 (Int32.ofNat a))).2.1 99 (10 * a + 0) = _
    rw [bg_I, if_pos ⟨rfl, rfl⟩]
  case n8 =>
    show (sE (sQ (sCn sg a) a z c f (mi m).2.2.2.2) a 0 (Int32.ofNat pe) 0 ((sCn sg a).2.2.1 a 0 + 1)).2.2.2.1 a 8 0 = _
    rw [sE_8, upd_eq']
    rfl
  case nms =>
    intro y hy
    obtain ⟨i, hi⟩ := List.mem_iff_getElem?.mp hy
    obtain ⟨v1, v2⟩ := c4 i y hi
    have hl : i < ps.length := by
      obtain ⟨v, _⟩ := List.getElem?_eq_some_iff.mp v2
      exact v
    obtain ⟨u1, u2, u3, u4, u5⟩ := t4 i _ v2
    obtain ⟨w1, w2, w3⟩ := i4 i _ v2
    have ne : pN (10 * a + 0) y.2.1 ≠ pH (10 * a) := nH_ne
    have e10 : pN (10 * a + 0) y.2.1 = pN (10 * a) i := by rw [v1, Nat.add_zero]
    have eW : wU om1.1 (pH (10 * a)) (mdV 3 (Int32.ofNat a)) (pN (10 * a + 0) y.2.1) = om.1 (pM (6 * a + ms.2.2.1 a 0) i) := by rw [wU_ne ne, e10, w1]
    refine ⟨?_, ?_, ?_, ?_, ?_⟩
    · show vAl (wU om1.1 (pH (10 * a)) (mdV 3 (Int32.ofNat a)), rg_up om1.2.1 (pH (10 * a)) (8 * (ka.2.1 a + 1) + 6), rRo om1.2.2.1 (pH (10 * a)) (om.2.2.2.2 a), (omT om1 a (6 * a + ms.2.2.1 a 0)).2.2.2) ka a y.2.2.1 (wU om1.1 (pH (10 * a)) (mdV 3 (Int32.ofNat a)) (pN (10 * a + 0) y.2.1))
      rw [eW]
      refine ⟨vTy_d (pm_d c1 _ (List.mem_iff_getElem?.mpr ⟨i, v2⟩)) u3.1, fun o0 => ?_⟩
      show (if a = a then om1.2.2.2.1 a _ ∨ om1.2.2.2.1 (12 + (6 * a + ms.2.2.1 a 0)) _ else _)
      rw [if_pos rfl, eKn]
      exact Or.inr (u3.2 o0)
    · show rg_up om1.2.1 (pH (10 * a)) (8 * (ka.2.1 a + 1) + 6) (pN (10 * a + 0) y.2.1) = y.2.2.1
      rw [rg_up_ne _ ne, e10, w2]
    · show rg_up om1.2.2.1.1 (pH (10 * a)) (om.2.2.2.2 a) (pN (10 * a + 0) y.2.1) = om.2.2.2.2 a
      rw [rg_up_ne _ ne, e10, w3]
    · show _ = cvl (wU om1.1 (pH (10 * a)) (mdV 3 (Int32.ofNat a)) (pN (10 * a + 0) y.2.1))
      rw [eW, fG, v1, Nat.zero_add, e3 i hl]
      have := u4
      have e0 : (ms.2.1 a + 0) % 6 = ms.2.1 a := Nat.mod_eq_of_lt m4
      rw [e0] at this
      exact this
    · show g1 (16 * (10 * a + 0) + y.2.1) = wU om1.1 (pH (10 * a)) (mdV 3 (Int32.ofNat a)) (pN (10 * a + 0) y.2.1)
      rw [eW, v1, show 16 * (10 * a + 0) + i = 160 * a + i from by omega, r7 i hl]
      exact u5
  case ths =>
    have eW : wU om1.1 (pH (10 * a)) (mdV 3 (Int32.ofNat a)) (pH (10 * a + 0)) = mdV 3 (Int32.ofNat a) := wU_eq
    refine ⟨(8 * (ka.2.1 a + 1) + 6), ⟨ka.2.1 a, y3, q7, Or.inl ⟨y4, by rw [if_pos rfl]⟩⟩, ?_, ?_, rg_up_eq _ _ _, rg_up_eq _ _ _, ?_, ?_, fun _ => ?_⟩
    · show vAl (wU om1.1 (pH (10 * a)) (mdV 3 (Int32.ofNat a)), rg_up om1.2.1 (pH (10 * a)) (8 * (ka.2.1 a + 1) + 6), rRo om1.2.2.1 (pH (10 * a)) (om.2.2.2.2 a), (omT om1 a (6 * a + ms.2.2.1 a 0)).2.2.2) ka a (8 * (ka.2.1 a + 1) + 6) (wU om1.1 (pH (10 * a)) (mdV 3 (Int32.ofNat a)) (pH (10 * a + 0)))
      rw [eW]
      exact ⟨Or.inr (Or.inr (Or.inr (Or.inr ⟨by omega, by omega, rfl, ac, by omega⟩))), fun o0 => absurd (oV_3 _) o0⟩
    · show wU om1.1 (pH (10 * a)) (mdV 3 (Int32.ofNat a)) (pH (10 * a + 0)) ≠ 0
      rw [eW]
      exact md_n0 3 _ (by decide) (by decide)
    · show (sE (sQ (sCn sg a) a z c f (mi m).2.2.2.2) a 0 (Int32.ofNat pe) 0 ((sCn sg a).2.2.1 a 0 + 1)).2.2.2.1 a 9 0 = cvl (wU om1.1 (pH (10 * a)) (mdV 3 (Int32.ofNat a)) (pH (10 * a + 0)))
      rw [eW, sE_9, upd_eq', cv_3, y1]
    · show (sBg (sT1 (sDn s a) a wt (6 * a + ms.2.2.1 a 0) od g) a 0 m qe (mdV 3 (Int32.ofNat a))).2.2 100 (10 * a + 0) = wU om1.1 (pH (10 * a)) (mdV 3 (Int32.ofNat a)) (pH (10 * a + 0))
      rw [eW, bg_L, if_pos ⟨rfl, rfl⟩]
    · show om.2.2.2.2 a = (omT om1 a (6 * a + ms.2.2.1 a 0)).2.2.2.2 a
      rw [eRm]
  case so =>
    have c40 : c ≤ 40000 := by
      have := h13.2.2.2
      omega
    refine ⟨?_, ?_, ?_, ?_⟩
    · show (sA' (sA' (sE (sQ (sCn sg a) a z c f (mi m).2.2.2.2) a 0 (Int32.ofNat pe) 0 ((sCn sg a).2.2.1 a 0 + 1)) a 11 (Int32.ofNat ((ms.2.1 a + 1) % 6))) a 4 (Int32.ofNat wt)).2.2.1 a 13 = _
      rw [sA_ne (Or.inl (by decide)), sA_ne (Or.inl (by decide)), sE_3 (Or.inr (by decide)), sQ_h, Nat.zero_add]
    · show 0 + (mi m).2.2.2.2 ≤ (sQ (sCn sg a) a z c f (mi m).2.2.2.2).2.2.2.2 a 13
      rw [sQ_c, Nat.zero_add]; exact e5
    · show 64 ≤ (sQ (sCn sg a) a z c f (mi m).2.2.2.2).2.2.2.2 a 13
      rw [sQ_c]; exact e6
    · show (sQ (sCn sg a) a z c f (mi m).2.2.2.2).2.2.2.2 a 13 ≤ 40000
      rw [sQ_c]; exact c40
  case r93 =>
    show (sBg (sT1 (sDn s a) a wt (6 * a + ms.2.2.1 a 0) od g) a 0 m qe (mdV 3 (Int32.ofNat a))).2.1 93 a = _
    rw [bg_I, if_neg (by omega), if_neg (by omega), if_neg (by omega), s93]
    exact z13
  case g3 =>
    show (sA' (sA' (sE (sQ (sCn sg a) a z c f (mi m).2.2.2.2) a 0 (Int32.ofNat pe) 0 ((sCn sg a).2.2.1 a 0 + 1)) a 11 (Int32.ofNat ((ms.2.1 a + 1) % 6))) a 4 (Int32.ofNat wt)).2.2.1 a 3 = _
    rw [sA_ne (Or.inl (by decide)), sA_ne (Or.inl (by decide)), sE_3a]
  case r92 =>
    show (sBg (sT1 (sDn s a) a wt (6 * a + ms.2.2.1 a 0) od g) a 0 m qe (mdV 3 (Int32.ofNat a))).2.1 92 a = _
    rw [bg_I, if_neg (by omega), if_neg (by omega), if_pos ⟨rfl, rfl⟩]
  exact ⟨h', n, (sTk (sCn sg a) a z c f (mi m).2.2.2.2 (Int32.ofNat pe) (ms.2.1 a) wt), (rsL (sBg (sT1 (sDn s a) a wt (6 * a + ms.2.2.1 a 0) od g) a 0 m qe (mdV 3 (Int32.ofNat a))) 101 g1), _, ka, la, (msT ms a wt), _, _, _, e1, hr, e2, ⟨hn, Nat.le_refl _⟩, rUn_cn res, by
    show (sQ (sCn sg a) a z c f (mi m).2.2.2.2).2.2.2.2 a 0 = _
    rw [sQ_P (Or.inl (by decide))]
    rfl, ac, cNt_of e8⟩
end JTQ
