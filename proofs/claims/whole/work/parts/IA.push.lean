/-! A VALUE IS PUSHED. -/
section PSV
variable {sB : rS} {A B : Nat → Int32} {mi : Nat → Nat × Nat × Nat × Nat × Nat} {kc : kCi} {om om' : oMg} {ka ka' : kAp} {la : lAy} {ms : mSg} {N N' cn : Nat} {sg sg' sg2 : cS} {s s' s2 : rS} {a b d e lo q0 J : Nat} {E P Qs : Nat → Prop} {x : Nat → Nat → fDs} {D : Nat → Nat} {S S0 X : List stE} {v : Int64}
theorem sVl_app {P : stE → Nat → Prop} : ∀ (X S : List stE), sVl P (X ++ S) → sVl P S
  | [], _, h => h
  | _ :: X, S, h => sVl_app X S h.2
theorem vlF_c {pl : Bool} {t t' : Nat} (h : vlF pl t = (0, t')) : (t' = t ∧ t ≠ 0 ∧ ¬ (8 ≤ t ∧ t % 8 = 6) ∧ ¬ (isO t = true ∧ pl = true ∧ t % 8 ≤ 1)) ∨ (8 ≤ t ∧ t % 8 = 6 ∧ t' = t - 1) ∨ (isO t = true ∧ pl = true ∧ t % 8 = 1 ∧ t' = t + 3) := by
  unfold vlF at h
  by_cases c0 : t = 0
  · rw [if_pos c0] at h
    have := congrArg Prod.fst h
    exact absurd this (show (8 : Int32) ≠ 0 by decide)
  rw [if_neg c0] at h
  by_cases c6 : 8 ≤ t ∧ t % 8 = 6
  · rw [if_pos c6] at h
    have := congrArg Prod.snd h
    exact Or.inr (Or.inl ⟨c6.1, c6.2, this.symm⟩)
  rw [if_neg c6] at h
  by_cases c : (isO t && pl) = true
  · rw [if_pos c] at h
    have c' : isO t = true ∧ pl = true := by
      cases h1 : isO t <;> cases h2 : pl <;> rw [h1, h2] at c <;> first | exact ⟨rfl, rfl⟩ | exact absurd c (by decide)
    by_cases c2 : t % 8 = 0
    · rw [if_pos c2] at h
      have := congrArg Prod.fst h
      exact absurd this (show (6 : Int32) ≠ 0 by decide)
    rw [if_neg c2] at h
    by_cases c3 : t % 8 = 1
    · rw [if_pos c3] at h
      have := congrArg Prod.snd h
      exact Or.inr (Or.inr ⟨c'.1, c'.2, c3, this.symm⟩)
    · rw [if_neg c3] at h
      have := congrArg Prod.snd h
      exact Or.inl ⟨this.symm, c0, c6, fun z => by omega⟩
  · rw [if_neg c] at h
    have := congrArg Prod.snd h
    exact Or.inl ⟨this.symm, c0, c6, fun z => c (by rw [z.1, z.2.1]; rfl)⟩
theorem isO_c {t : Nat} (h : isO t = true) : 8 ≤ t ∧ t % 8 < 5 := by
  unfold isO at h
  simp at h
  exact h
theorem isO_n {t : Nat} (h : 8 ≤ t ∧ t % 8 < 5) : isO t = true := by
  unfold isO
  rw [decide_eq_true h.1, decide_eq_true h.2]
  rfl
theorem gTy_c {t : Nat} : gTy t = true ↔ (t ≤ 2 ∨ (8 ≤ t ∧ t < 72 ∧ t % 8 ≤ 6)) := by
  unfold gTy
  simp
  omega
theorem vlF_g {pl pl' : Bool} {t t' : Nat} (h : gTy t = true) (hv : (t' = t ∧ pl' = pl) ∨ (vlF pl t = (0, t') ∧ pl' = false)) : gTy t' = true := by
  rw [gTy_c] at h ⊢
  rcases hv with z | z
  · rw [z.1]; exact h
  · rcases vlF_c z.1 with y | y | y
    · rw [y.1]; exact h
    · omega
    · have := isO_c y.1
      omega
/-- the values of the body that are left alone -/
theorem fV0 (it : iTm sB A B mi kc om ka la ms N cn sg s D x a d) (hJ : J ≤ fL (x a d)) (st : rSt a a (eLr om N a d J (x a)) P om.2.2.1 om'.2.2.1) (eK : om'.2.2.2 = om.2.2.2) (eS : fSt (x a d) = X ++ S0) (pf : ∀ y ∈ S0, y.2.1 = false ∧ y.2.2 ≤ J)
    (hN : ∀ sl, sl < 16 → ¬ Qs sl → om'.1 (pN (10 * a + d) sl) = om.1 (pN (10 * a + d) sl) ∧ om'.2.1 (pN (10 * a + d) sl) = om.2.1 (pN (10 * a + d) sl) ∧ ¬ P (pN (10 * a + d) sl)) (hH : om'.1 (pH (10 * a + d)) = om.1 (pH (10 * a + d)) ∧ om'.2.1 (pH (10 * a + d)) = om.2.1 (pH (10 * a + d)) ∧ ¬ P (pH (10 * a + d))) (hS : ∀ k, k < fQ (x a d) + S0.length → om'.1 (pS a k) = om.1 (pS a k) ∧ om'.2.1 (pS a k) = om.2.1 (pS a k) ∧ ¬ P (pS a k))
    (c9 : sg'.2.2.2.1 a 9 d = sg.2.2.2.1 a 9 d) (hQ : ∀ sl, Qs sl → sl < (mi (fMe (x a d))).2.2.2.2) (c12 : ∀ i, i < fBs (x a d) + (mi (fMe (x a d))).2.2.2.2 + S0.length → (∀ sl, Qs sl → i ≠ fBs (x a d) + sl) → sg'.2.2.2.1 a 12 i = sg.2.2.2.1 a 12 i) (r100 : s'.2.2 100 (10 * a + d) = s.2.2 100 (10 * a + d)) (r101 : ∀ sl, sl < 16 → ¬ Qs sl → s'.2.2 101 (16 * (10 * a + d) + sl) = s.2.2 101 (16 * (10 * a + d) + sl)) (r97 : ∀ k, k < fQ (x a d) + S0.length → s'.2.2 97 (10100 * a + k) = s.2.2 97 (10100 * a + k)) :
    (∀ y ∈ fG (x a d), fGn (x a d) &&& bt y.2.1 = 0 → ¬ Qs y.2.1 → y.2.2.2 ≤ J → nAm om' ka sg' s' a (10 * a + d) (fBs (x a d)) (fRe (x a d)) y) ∧ tHs sB om' ka sg' s' a d (fMe (x a d)) (fRe (x a d)) ∧ sVl (pEn om' ka sg' s' a (fBs (x a d) + (mi (fMe (x a d))).2.2.2.2) (fQ (x a d)) (fRe (x a d))) S0 := by
  obtain ⟨w, _, _, ⟨_, ac, _⟩, ⟨v1, v2, v3, v4⟩, ⟨g1, g2⟩, nm, _⟩ := it
  have kn : knK om om' a := knK_of (fun o ho => by rw [eK]; exact ho)
  have El : ∀ j, j ≤ J → eLr om N a d J (x a) (fRe (x a d) j) := fun j hj => Or.inr (Or.inr ⟨d, j, Or.inr ⟨rfl, hj⟩, rfl⟩)
  have own : ∀ j, j ≤ J → om'.2.2.1.2.2.2.2 (fRe (x a d) j) = a := fun j hj => by rw [(st.1 _ (El j hj)).2.1]; exact (g1 j (by omega)).2.2
  refine ⟨fun y hy gy qy ly => ?_, ?_, ?_⟩
  · obtain ⟨w1, w2, w3, w4, w5⟩ := v2 y hy gy
    have s16 := (nm.1.1 y hy).1
    have sl := (nm.2.2.1 y hy).1
    obtain ⟨n1, n2, n3⟩ := hN _ s16 qy
    have hr : om'.2.2.1.1 (pN (10 * a + d) y.2.1) = fRe (x a d) y.2.2.2 := by
      rw [st.2.1 _ n3 (by rw [w3]; exact El _ ly), w3]
    refine ⟨vAl_k w1 kaX_r kn w2 (Or.inl (by rw [hr]; exact (g1 _ (by omega)).1)) (Or.inl (by rw [hr]; exact own _ ly)) n1 n2, by rw [n2]; exact w2, hr, ?_, ?_⟩
    · rw [c12 _ (by omega) (fun sl hq z => qy (by
        have : y.2.1 = sl := by omega
        rw [this]; exact hq)), n1]
      exact w4
    · rw [r101 _ s16 qy, n1]; exact w5
  · obtain ⟨tt, t1, t2, t3, t4, t5, t6, t7, t8⟩ := v3
    obtain ⟨n1, n2, n3⟩ := hH
    have hr : om'.2.2.1.1 (pH (10 * a + d)) = fRe (x a d) 0 := by
      rw [st.2.1 _ n3 (by rw [t5]; exact El _ (Nat.zero_le _)), t5]
    exact ⟨tt, t1, vAl_k t2 kaX_r kn t4 (Or.inl (by rw [hr]; exact (g1 0 (Nat.zero_le _)).1)) (Or.inl (by rw [hr]; exact own 0 (Nat.zero_le _))) n1 n2, by rw [n1]; exact t3, by rw [n2]; exact t4, hr, by rw [c9, n1]; exact t6, by rw [r100, n1]; exact t7, fun z => by rw [eK]; exact t8 z⟩
  · rw [eS] at v4
    refine sVl_m S0 (sVl_app X S0 v4) (fun y j hy hj pe => ?_)
    obtain ⟨w1, w2, w3, w4, w6⟩ := pe
    obtain ⟨n1, n2, n3⟩ := hS (fQ (x a d) + j) (by omega)
    obtain ⟨pl, lv⟩ := pf y hy
    have c12' : sg'.2.2.2.1 a 12 (fBs (x a d) + (mi (fMe (x a d))).2.2.2.2 + j) = sg.2.2.2.1 a 12 (fBs (x a d) + (mi (fMe (x a d))).2.2.2.2 + j) := c12 _ (by omega) (fun sl hq => by have := hQ sl hq; omega)
    rcases w4 with ⟨u1, u2⟩ | ⟨u1, _⟩
    · have hr : y.1 ≠ 0 → om'.2.2.1.1 (pS a (fQ (x a d) + j)) = fRe (x a d) y.2.2 := fun y0 => by
        rw [st.2.1 _ n3 (by rw [u2 y0]; exact El _ lv), u2 y0]
      refine ⟨?_, by rw [c12', n1]; exact w2, by rw [r97 _ (by omega), n1]; exact w3, Or.inl ⟨by rw [n2]; exact u1, hr⟩, w6.1, fun z1 z2 => by rw [eK]; exact w6.2 z1 z2⟩
      by_cases y0 : y.1 = 0
      · exact vAl_k w1 kaX_r kn u1 (Or.inr y0) (Or.inr y0) n1 n2
      · exact vAl_k w1 kaX_r kn u1 (Or.inl (by rw [hr y0]; exact (g1 _ (by omega)).1)) (Or.inl (by rw [hr y0]; exact own _ lv)) n1 n2
    · exact absurd u1 (by rw [pl]; decide)
/-- how a value may stand on the stack -/
theorem pT_ent {t t' : Nat} {pl pl' : Bool} {r l1 : Nat} (gi : GI ka.2.2.1 N om.1 om.2.1 om.2.2.1) (val : vAl om ka a t v) (ob4 : ka.2.2.1 ≤ 400) (r0 : r ≠ 0) (rN : r < N) (l6 : l1 % 6 = 3) (rgt : oV v ≠ 0 → (2 ≤ t % 8 → rg_ok om.2.2.1.2.1 om.2.2.1.2.2.1 om.2.2.1.2.2.2.1 r (t % 8) (oV v)) ∧ (t % 8 ≤ 1 → pl = true ∧ sEe om a t r (oV v))) (hv : (t' = t ∧ pl' = pl) ∨ (vlF pl t = (0, t') ∧ pl' = false)) :
    ∃ tt : Nat, GI ka.2.2.1 N (wU om.1 l1 v) (rg_up om.2.1 l1 tt) (rRo om.2.2.1 l1 r) ∧ vAl om ka a t' v ∧ (tt = t' ∨ (pl' = true ∧ isO t' = true ∧ t' % 8 ≤ 1 ∧ tt = 0 ∧ (oV v ≠ 0 → sEe om a t' r (oV v)))) := by
  have ho : obP l1 = 0 := ob_n (by omega)
  have hob : oV v ≤ ka.2.2.1 := by
    rcases val.1 with ⟨_, y, h⟩ | ⟨_, h⟩ | ⟨_, _, h | ⟨o, _, o2, h, _⟩⟩ | ⟨_, _, h | ⟨b, _, h, _⟩⟩ | ⟨_, _, h, _⟩
    · rw [h, oV_1]; exact Nat.zero_le _
    · rw [h, oV_0]; exact Nat.zero_le _
    · rw [h, oV_0]; exact Nat.zero_le _
    · rw [h, oV_2 (by omega)]; exact o2
    · rw [h, oV_0]; exact Nat.zero_le _
    · rw [h, oV_3]; exact Nat.zero_le _
    · rw [h, oV_3]; exact Nat.zero_le _
  by_cases o0 : oV v = 0
  · -- no object
    refine ⟨t', GI_put gi l1 t' r v ho rN (Or.inr hob) (Or.inr (Or.inl o0)), ⟨?_, fun z => absurd o0 z⟩, Or.inl rfl⟩
    rcases hv with z | z
    · rw [z.1]; exact val.1
    · rcases vlF_c z.1 with ⟨y, _⟩ | ⟨y1, y2, y3⟩ | ⟨y1, y2, y3, y4⟩
      · rw [y]; exact val.1
      · rcases val.1 with h | h | h | h | h
        · omega
        · omega
        · omega
        · omega
        · refine Or.inr (Or.inr (Or.inr (Or.inl ⟨by omega, by omega, Or.inr ⟨a, h.2.2.2.1, h.2.2.1, ?_⟩⟩)))
          have := h.2.2.2.2
          omega
      · have := isO_c y1
        rcases val.1 with h | h | h | h | h
        · omega
        · omega
        · refine Or.inr (Or.inr (Or.inl ⟨by omega, by omega, ?_⟩))
          rcases h.2.2 with z | ⟨o, o1, o2, o3, o4⟩
          · exact Or.inl z
          · exact Or.inr ⟨o, o1, o2, o3, by omega⟩
        · omega
        · omega
  · obtain ⟨ot, t0⟩ := vTy_o val.1 o0
    have tc := isO_c ot
    obtain ⟨g2, g1⟩ := rgt o0
    by_cases c : t % 8 ≤ 1
    · obtain ⟨p1, se⟩ := g1 c
      rcases hv with z | z
      · -- seen in its place
        refine ⟨0, GI_put gi l1 0 r v ho rN (Or.inl rfl) (Or.inl rfl), by rw [z.1]; exact val, Or.inr ⟨by rw [z.2]; exact p1, by rw [z.1]; exact ot, by rw [z.1]; exact c, rfl, fun _ => by rw [z.1]; exact se⟩⟩
      · rcases vlF_c z.1 with ⟨_, _, _, y⟩ | ⟨_, y, _⟩ | ⟨y1, y2, y3, y4⟩
        · exact absurd ⟨ot, p1, c⟩ y
        · omega
        · -- a trn is seen as box
          obtain ⟨k1, k2⟩ := se.2.1 y3
          have ok : rg_ok om.2.2.1.2.1 om.2.2.1.2.2.1 om.2.2.1.2.2.2.1 r (t' % 8) (oV v) := Or.inr (Or.inr ⟨r0, Or.inr (Or.inr (Or.inl ⟨by omega, Or.inr ⟨1, k1, k2⟩⟩))⟩)
          refine ⟨t', GI_put gi l1 t' r v ho rN (Or.inr hob) (Or.inr (Or.inr ⟨by omega, ok⟩)), ⟨?_, val.2⟩, Or.inl rfl⟩
          rcases val.1 with h | h | h | h | h
          · omega
          · omega
          · refine Or.inr (Or.inr (Or.inl ⟨by omega, by omega, ?_⟩))
            rcases h.2.2 with z | ⟨o, o1, o2, o3, o4⟩
            · exact Or.inl z
            · exact Or.inr ⟨o, o1, o2, o3, by omega⟩
          · omega
          · omega
    · have tt : t' = t := by
        rcases hv with z | z
        · exact z.1
        · rcases vlF_c z.1 with y | y | y
          · exact y.1
          · omega
          · omega
      subst tt
      exact ⟨t', GI_put gi l1 t' r v ho rN (Or.inr hob) (Or.inr (Or.inr ⟨by omega, g2 (by omega)⟩)), val, Or.inl rfl⟩
/-- A VALUE IS PUSHED (what is below it: S0), the body goes on -/
theorem PSH {t p' q' b' j' lv' : Nat} {pl : Bool} {gn' : Int32} {S' : List stE} (it : iTm sB A B mi kc om ka la ms N cn sg s D x a d) (eS : fSt (x a d) = X ++ S0) (pf : ∀ y ∈ S0, y.2.1 = false ∧ y.2.2 ≤ fL (x a d)) (gn : gl (fG (x a d)) (fGn (x a d)) gn') (pj : PJ A B j' b' p') (pt : PT sB A B (fMe (x a d)) (mi (fMe (x a d))).1 (mi (fMe (x a d))).2.1 (mi (fMe (x a d))).2.2.1 p' q' lv' (fG (x a d)) gn' S') (hS' : S' = (t, pl, fL (x a d)) :: S0 ∨ ∃ t', vlF pl t = (0, t') ∧ S' = (t', false, fL (x a d)) :: S0) (hl : fL (x a d) ≤ lv') (len : S'.length ≤ 1010) (q4 : q' < 4400)
    (gt : gTy t = true) (own : 8 ≤ t → t % 8 = 6 → pl = true ∧ fRe (x a d) (fL (x a d)) = om.2.2.2.2 a) (val : vAl om ka a t v) (rgt : oV v ≠ 0 → (2 ≤ t % 8 → rg_ok om.2.2.1.2.1 om.2.2.1.2.2.1 om.2.2.1.2.2.2.1 (fRe (x a d) (fL (x a d))) (t % 8) (oV v)) ∧ (t % 8 ≤ 1 → pl = true ∧ sEe om a t (fRe (x a d) (fL (x a d))) (oV v)))
    (cl : kCl a d (fBs (x a d)) sg sg') (c12 : ∀ i, i < fBs (x a d) + (mi (fMe (x a d))).2.2.2.2 + S0.length → sg'.2.2.2.1 a 12 i = sg.2.2.2.1 a 12 i) (cT : sg'.2.2.2.1 a 12 (fBs (x a d) + (mi (fMe (x a d))).2.2.2.2 + S0.length) = cvl v) (so : SOK sg' a (fBs (x a d) + (mi (fMe (x a d))).2.2.2.2 + S0.length + 1)) (n7 : sg'.2.2.2.1 a 7 d = Int32.ofNat b')
    (rf : kRf a d (fQ (x a d)) s s') (r101 : ∀ i, s'.2.2 101 i = s.2.2 101 i) (r97 : ∀ k, k < fQ (x a d) + S0.length → s'.2.2 97 (10100 * a + k) = s.2.2 97 (10100 * a + k)) (rT : s'.2.2 97 (10100 * a + (fQ (x a d) + S0.length)) = v) (r93 : s'.2.1 93 a = Int32.ofNat (fQ (x a d) + S0.length + 1)) (r99 : s'.2.1 99 (10 * a + d) = Int32.ofNat q') :
    ∃ om' N' x', rUn sB A B mi kc om' ka la ms N' cn sg' s' D x' := by
  have it0 := it
  obtain ⟨w, _, _, ⟨_, ac, d10⟩, vl, rg, nm, _, _, _, _, b1, b2, b3⟩ := it0
  have gi := w.2.1
  obtain ⟨r0, rN, ro⟩ := rg.1 (fL (x a d)) (Nat.le_refl _)
  have ob4 : ka.2.2.1 ≤ 400 := by
    obtain ⟨_, _, ⟨clm, mb, tn, ⟨_, _, n1⟩, _, _, _, ⟨_, _, n2⟩, ⟨_, n3⟩, _⟩, _⟩ := w
    omega
  have e1 : ∃ t' pl', S' = (t', pl', fL (x a d)) :: S0 ∧ ((t' = t ∧ pl' = pl) ∨ (vlF pl t = (0, t') ∧ pl' = false)) := by
    rcases hS' with z | ⟨t', z1, z2⟩
    · exact ⟨t, pl, z, Or.inl ⟨rfl, rfl⟩⟩
    · exact ⟨t', false, z2, Or.inr ⟨z1, rfl⟩⟩
  obtain ⟨t', pl', eS', hv⟩ := e1
  have l6 : pS a (fQ (x a d) + S0.length) % 6 = 3 := by unfold pS; omega
  obtain ⟨tt, gi1, val', alt⟩ := pT_ent (l1 := pS a (fQ (x a d) + S0.length)) gi val ob4 r0 rN l6 rgt hv
  have len' : S0.length < 1010 := by rw [eS'] at len; exact len
  have q1 : fQ (x a d) ≤ 1010 * 9 := Nat.le_trans b1 (Nat.mul_le_mul_left _ (by omega))
  have lch : cHg a d (fQ (x a d)) (pS a (fQ (x a d) + S0.length)) := Or.inr (Or.inl ⟨_, by omega, by omega, rfl⟩)
  have sne : ∀ k, k < fQ (x a d) + S0.length → pS a k ≠ pS a (fQ (x a d) + S0.length) := fun k hk => by unfold pS; omega
  have nne : ∀ i sl, pN i sl ≠ pS a (fQ (x a d) + S0.length) := fun i sl => by unfold pS pN; omega
  have hne : ∀ i, pH i ≠ pS a (fQ (x a d) + S0.length) := fun i => by unfold pS pH; omega
  have st1 : rSt a a (eLr om N a d (fL (x a d)) (x a)) (fun l => l = pS a (fQ (x a d) + S0.length)) om.2.2.1 (rRo om.2.2.1 (pS a (fQ (x a d) + S0.length)) (fRe (x a d) (fL (x a d)))) := rRo_st
  have kp : ∀ l, l ≠ pS a (fQ (x a d) + S0.length) → wU om.1 (pS a (fQ (x a d) + S0.length)) v l = om.1 l ∧ rg_up om.2.1 (pS a (fQ (x a d) + S0.length)) tt l = om.2.1 l ∧ ¬ (fun l => l = pS a (fQ (x a d) + S0.length)) l := fun l hl => ⟨wU_ne hl, rg_up_ne _ hl, hl⟩
  obtain ⟨nms, ths, svl⟩ := fV0 (om' := (wU om.1 (pS a (fQ (x a d) + S0.length)) v, rg_up om.2.1 (pS a (fQ (x a d) + S0.length)) tt, rRo om.2.2.1 (pS a (fQ (x a d) + S0.length)) (fRe (x a d) (fL (x a d))), om.2.2.2)) (sg' := sg') (s' := s') (Qs := fun _ => False) it (Nat.le_refl _) st1 rfl eS pf (fun sl _ _ => kp _ (nne _ _)) (kp _ (hne _)) (fun k hk => kp _ (sne k hk)) (by rw [cl.2.2.2.1 a 9 (Or.inr (by decide))]) (fun _ h => h.elim) (fun i hi _ => c12 i hi) (rf.2.2 100 _ (by omega) (by omega)) (fun sl _ _ => r101 _) r97
  refine ⟨_, _, _, eNd2 (om' := (wU om.1 (pS a (fQ (x a d) + S0.length)) v, rg_up om.2.1 (pS a (fQ (x a d) + S0.length)) tt, rRo om.2.2.1 (pS a (fQ (x a d) + S0.length)) (fRe (x a d) (fL (x a d))), om.2.2.2)) it (Nat.le_refl _) cl rf (fun l hl => ⟨(kp l (fun z => hl (z ▸ lch))).1, (kp l (fun z => hl (z ▸ lch))).2.1⟩) (rSt_P st1 (fun l z => by rw [z]; exact lch)) gi1 rfl pj pt n7 r99 q4 len hl nm.1 nm.2.1 nm.2.2.1 (fun y hy gy => nms y hy (gn y hy gy) id (nm.1.2 y hy)) ths ?_ (fun y hy => ?_) (by rw [eS']; exact so) (by rw [eS']; exact r93)⟩
  · rw [eS']
    refine ⟨⟨?_, ?_, ?_, ?_, vlF_g gt hv, fun z1 z2 => ?_⟩, svl⟩
    · show vAl _ ka a t' (wU om.1 (pS a (fQ (x a d) + S0.length)) v (pS a (fQ (x a d) + S0.length)))
      rw [wU_eq]
      exact ⟨val'.1, val'.2⟩
    · show _ = cvl (wU om.1 (pS a (fQ (x a d) + S0.length)) v (pS a (fQ (x a d) + S0.length)))
      rw [wU_eq]
      exact cT
    · show _ = wU om.1 (pS a (fQ (x a d) + S0.length)) v (pS a (fQ (x a d) + S0.length))
      rw [wU_eq]
      exact rT
    · show (rg_up om.2.1 (pS a (fQ (x a d) + S0.length)) tt (pS a (fQ (x a d) + S0.length)) = t' ∧ (t' ≠ 0 → rg_up om.2.2.1.1 (pS a (fQ (x a d) + S0.length)) (fRe (x a d) (fL (x a d))) (pS a (fQ (x a d) + S0.length)) = fRe (x a d) (fL (x a d)))) ∨ (pl' = true ∧ isO t' = true ∧ t' % 8 ≤ 1 ∧ rg_up om.2.1 (pS a (fQ (x a d) + S0.length)) tt (pS a (fQ (x a d) + S0.length)) = 0 ∧ (oV (wU om.1 (pS a (fQ (x a d) + S0.length)) v (pS a (fQ (x a d) + S0.length))) ≠ 0 → sEe _ a t' (fRe (x a d) (fL (x a d))) (oV (wU om.1 (pS a (fQ (x a d) + S0.length)) v (pS a (fQ (x a d) + S0.length))))))
      rw [rg_up_eq, rg_up_eq, wU_eq]
      rcases alt with z | ⟨z1, z2, z3, z4, z5⟩
      · exact Or.inl ⟨z, fun _ => rfl⟩
      · refine Or.inr ⟨z1, z2, z3, z4, fun o0 => ?_⟩
        obtain ⟨y1, y2, lx, y3, y4, y5, y6, y7⟩ := z5 o0
        have lne : lx ≠ pS a (fQ (x a d) + S0.length) := by
          intro z
          unfold lOf pH at y3
          rw [z] at y3
          omega
        have et : tgF (rg_up om.2.1 (pS a (fQ (x a d) + S0.length)) tt) (wU om.1 (pS a (fQ (x a d) + S0.length)) v) lx = tgF om.2.1 om.1 lx := by
          unfold tgF
          rw [(kp lx lne).1, (kp lx lne).2.1]
        refine ⟨y1, y2, lx, y3, ?_, ?_, ?_, ?_⟩
        · rw [et]; exact y4
        · show rg_up om.2.1 _ tt lx % 8 ≤ 1
          rw [(kp lx lne).2.1]; exact y5
        · show rg_up om.2.2.1.1 _ _ lx = _
          rw [rg_up_ne _ lne]; exact y6
        · rw [et]; exact y7
    · show pl' = true ∧ fRe (x a d) (fL (x a d)) = om.2.2.2.2 a
      rcases hv with ⟨z, z'⟩ | ⟨z, _⟩
      · rw [z] at z1 z2; rw [z']; exact own z1 z2
      · rcases vlF_c z with ⟨y, _, y2, _⟩ | ⟨y1, y2, y3⟩ | ⟨y1, y2, y3, y4⟩
        · rw [y] at z1 z2; exact absurd ⟨z1, z2⟩ y2
        · omega
        · omega
  · rw [eS'] at hy
    rcases List.mem_cons.mp hy with z | z
    · rw [z]; exact Nat.le_refl _
    · exact (pf y z).2
end PSV
