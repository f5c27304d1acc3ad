/-! A BODY IS ENTERED OR LEFT: all the rest stays. -/
/-- the places of actor a's bodies -/
def aPl (a l : Nat) : Prop := (l % 6 = 2 ∧ l / 960 = a) ∨ (l % 6 = 3 ∧ l / 60600 = a) ∨ (l % 6 = 4 ∧ (l / 60 = a ∨ l = pH (120 + a) ∨ l = pH (132 + a)))
/-- what the class may change: bodies and stack of a -/
def kCm (a : Nat) (sg sg' : cS) : Prop := sg'.1 = sg.1 ∧ sg'.2.1 = sg.2.1 ∧ (∀ b j, ¬ (b = a ∧ (j = 13 ∨ j = 3)) → sg'.2.2.1 b j = sg.2.2.1 b j) ∧ (∀ b j, b ≠ a ∨ j = 10 → sg'.2.2.2.1 b j = sg.2.2.2.1 b j) ∧ ∀ b j, b ≠ a ∨ (j ≠ 12 ∧ j ≠ 13) → sg'.2.2.2.2 b j = sg.2.2.2.2 b j
/-- what the reference may change -/
def kRm (a : Nat) (s s' : rS) : Prop := s'.1 = s.1 ∧ (∀ p i, ¬ ((p = 99 ∨ p = 98) ∧ i / 10 = a) → ¬ ((p = 93 ∨ p = 92) ∧ i = a) → s'.2.1 p i = s.2.1 p i) ∧ ∀ p i, ¬ (p = 97 ∧ i / 10100 = a) → ¬ (p = 101 ∧ i / 160 = a) → ¬ (p = 100 ∧ i / 10 = a) → s'.2.2 p i = s.2.2 p i
section ENK
variable {sB : rS} {A B : Nat → Int32} {mi : Nat → Nat × Nat × Nat × Nat × Nat} {kc : kCi} {om om' : oMg} {ka ka' : kAp} {la : lAy} {ms : mSg} {N N' cn : Nat} {sg sg' sg2 : cS} {s s' s2 S1 : rS} {a b d e lo q0 J l t r i n p q k k2 f0 w P L sz lv : Nat} {xs : Nat → Int32} {zf : Value} {Z : Nat → Prop} {hB h h' : rm_H} {es : List Nat} {x : Nat → Nat → fDs} {D : Nat → Nat} {S S0 X : List stE} {v : Int64} {y : Int32}
variable {E Pl : Nat → Prop} {xb : Nat → fDs}
theorem aP_O {o f : Nat} : ¬ aPl a (pO o f) := by unfold aPl pO; omega
theorem aP_F {o f : Nat} : ¬ aPl a (pF o f) := by unfold aPl pF; omega
theorem aP_M {o f : Nat} : ¬ aPl a (pM o f) := by unfold aPl pM; omega
theorem aP_N {f : Nat} (hb : b ≠ a) (he : e < 10) (hf : f < 16) : ¬ aPl a (pN (10 * b + e) f) := by unfold aPl pN; omega
theorem aP_H (hb : b ≠ a) (he : e < 10) (b12 : b < 12) : ¬ aPl a (pH (10 * b + e)) := by unfold aPl pH; omega
theorem aP_S {k : Nat} (hb : b ≠ a) (hk : k < 10100) : ¬ aPl a (pS b k) := by unfold aPl pS; omega
theorem aP_l {lx : Nat} (hb : b ≠ a) (b12 : b < 12) (a12 : a < 12) (h : lOf b lx) : ¬ aPl a lx := by
  intro z
  unfold lOf pH at h
  unfold aPl pH at z
  omega
theorem wAl_g {D' : Nat → Nat} (w : wAl sB kc om ka la ms N cn sg s D) (cl : kCm a sg sg') (rf : kRm a s s') (hP : ∀ l, Pl l → aPl a l) (ch : ∀ l, ¬ Pl l → om'.1 l = om.1 l ∧ om'.2.1 l = om.2.1 l) (st : rSt a a E Pl om.2.2.1 om'.2.2.1) (hE : ∀ y, y = 0 ∨ (y < N ∧ om.2.2.1.2.2.2.2 y ≠ a) → E y) (hEm : E (om.2.2.2.2 a)) (ha : a < 12 ∧ a < ka.2.2.2) (gi' : GI ka.2.2.1 N' om'.1 om'.2.1 om'.2.2.1) (hN : N ≤ N') (eK : om'.2.2.2 = om.2.2.2) (hD : ∀ b, b ≠ a → D' b = D b) (g3 : sg'.2.2.1 a 3 = Int32.ofNat (D' a)) (r92 : s'.2.1 92 a = Int32.ofNat (D' a)) : wAl sB kc om' ka la ms N' cn sg' s' D' := by
  have bd := w_bd w
  obtain ⟨⟨x1, x2⟩, gi, wn, wo, wd, wa⟩ := w
  have ow := fun (d' o : Nat) h => own_k (o := o) (d := d') gi st hE h
  have ac12 : ka.2.2.2 ≤ 12 := by obtain ⟨_, _, _, _, _, ⟨_, _, z⟩, _⟩ := wn; exact z
  have c1 := cl.1
  have c2 := cl.2.1
  have r1 := rf.1
  have rr : ∀ p i, p ≠ 99 → p ≠ 98 → p ≠ 93 → p ≠ 92 → s'.2.1 p i = s.2.1 p i := fun p i h1 h2 h3 h4 => rf.2.1 p i (by omega) (by omega)
  have rl : ∀ p i, p ≠ 97 → p ≠ 101 → p ≠ 100 → s'.2.2 p i = s.2.2 p i := fun p i h1 h2 h3 => rf.2.2 p i (by omega) (by omega) (by omega)
  have cp : ∀ d' y, cPy s' d' y = cPy s d' y := by
    intro d' y
    unfold cPy
    rw [rl 96 _ (by decide) (by decide) (by decide), rl 107 _ (by decide) (by decide) (by decide)]
  have Es : ∀ y, y < N → om.2.2.1.2.2.2.2 y ≠ a → E y := fun y h1 h2 => hE y (Or.inr ⟨h1, h2⟩)
  have nO : ∀ o f, ¬ Pl (pO o f) := fun o f z => aP_O (hP _ z)
  have nF : ∀ o f, ¬ Pl (pF o f) := fun o f z => aP_F (hP _ z)
  have nM : ∀ o f, ¬ Pl (pM o f) := fun o f z => aP_M (hP _ z)
  refine ⟨⟨fun p hp => ?_, fun p hp => ?_⟩, gi', ?_, fun o h1 h2 => ?_, wd, fun b hb => ?_⟩
  · funext i; rw [rr p i (by omega) (by omega) (by omega) (by omega), x1 p hp]
  · funext i; rw [rl p i (by omega) (by omega) (by omega), x2 p hp]
  · obtain ⟨clm, mb, tn, n1, n2, n3, n4, n5, n6, n7, ⟨n8, n8b, n8c, n8d⟩, n9, n10⟩ := wn
    unfold wNm
    rw [c1, c2, r1]
    exact ⟨clm, mb, tn, n1, n2, n3, n4, n5, n6, n7, ⟨n8, n8b, n8c, fun i h1 h2 => by rw [rr 108 i (by decide) (by decide) (by decide) (by decide), rr 109 i (by decide) (by decide) (by decide) (by decide)]; exact n8d i h1 h2⟩, n9, n10.1, n10.2.1, fun b h1 h2 => by rw [cl.2.2.1 b 0 (by omega), cl.2.2.2.2 b 13 (Or.inl (by omega))]; exact n10.2.2 b h1 h2⟩
  · obtain ⟨o1, o2, o3, o4, o5, o6, o7, o8⟩ := wo o h1 h2
    unfold wO1
    rw [c2, rr 87 o (by decide) (by decide) (by decide) (by decide), rr 88 o (by decide) (by decide) (by decide) (by decide)]
    refine ⟨o1, o2, o3, o4, o5, o6, o7, fun f hf => ?_⟩
    rw [(ch (pO o f) (nO _ _)).1, (ch (pO o f) (nO _ _)).2]
    exact o8 f hf
  · obtain ⟨k1, k2, k3⟩ := wa b hb
    refine ⟨wKn_k k1 (fun y _ => cp b y) (fun o f _ _ _ => (ch _ (nO _ _)).1) (ow b) eK bd, ?_, ?_⟩
    · obtain ⟨⟨a1, a2, a3⟩, ⟨a4, a5⟩, ⟨a6, a7⟩, ⟨a8, a9⟩, a10, ⟨a11, a12, a13⟩, a14⟩ := k2
      have eb : E (om.2.2.2.2 b) := by
        by_cases c : b = a
        · rw [c]; exact hEm
        · exact Es _ a12 (by rw [a13]; exact c)
      have rm : om'.2.2.2.2 = om.2.2.2.2 := by rw [eK]
      refine ⟨⟨?_, ?_, a3⟩, ⟨?_, ?_⟩, ⟨?_, ?_⟩, ⟨?_, ?_⟩, a10, ⟨by rw [rm]; exact a11, by rw [rm]; exact Nat.lt_of_lt_of_le a12 hN, by rw [rm, (st.1 _ eb).2.1]; exact a13⟩, fun f hf => ?_⟩
      · rw [cl.2.2.1 b 0 (by omega)]; exact a1
      · rw [cl.2.2.2.2 b 1 (Or.inr (by decide))]; exact a2
      · rw [cl.2.2.1 b 2 (by omega)]; exact a4
      · rw [rr 89 b (by decide) (by decide) (by decide) (by decide)]; exact a5
      · by_cases c : b = a
        · rw [c]; exact g3
        · rw [cl.2.2.1 b 3 (by omega), hD b c]; exact a6
      · by_cases c : b = a
        · rw [c]; exact r92
        · rw [rf.2.1 92 b (by omega) (by omega), hD b c]; exact a7
      · rw [cl.2.2.1 b 5 (by omega), rr 90 b (by decide) (by decide) (by decide) (by decide)]; exact a8
      · rw [cl.2.2.1 b 6 (by omega), rr 91 b (by decide) (by decide) (by decide) (by decide)]; exact a9
      · obtain ⟨f1, f2, f3, f4, f5⟩ := a14 f hf
        rw [(ch (pF b f) (nF _ _)).1, (ch (pF b f) (nF _ _)).2, c2, rl 95 _ (by decide) (by decide) (by decide), rm]
        exact ⟨f1, by rw [st.2.1 _ (nF _ _) (by rw [f2]; exact eb)]; exact f2, vAl_e f3 eK, f4, f5⟩
    · obtain ⟨⟨m1, m2, m3⟩, ⟨m4, m5⟩, m6, m7, m8⟩ := k3
      refine ⟨⟨m1, ?_, ?_⟩, ⟨m4, ?_⟩, fun k hk => ?_, m7, fun j hj hz => ?_⟩
      · rw [cl.2.2.1 b 4 (by omega)]; exact m2
      · rw [rr 94 b (by decide) (by decide) (by decide) (by decide)]; exact m3
      · rw [cl.2.2.1 b 11 (by omega)]; exact m5
      · obtain ⟨p1, p2, p3, ⟨p4, p5, p6, p7, p8⟩, ⟨p9, p10, p11⟩, ⟨ts, t1, t2, t3, t4⟩, p12, p13⟩ := m6 k hk
        have c10 : sg'.2.2.2.1 b 10 = sg.2.2.2.1 b 10 := cl.2.2.2.1 b 10 (Or.inr rfl)
        have em : E (ms.2.2.2.2 (6 * b + ms.2.2.1 b k)) := Es _ p10 (by rw [p11]; omega)
        refine ⟨p1, by rw [rr 102 _ (by decide) (by decide) (by decide) (by decide)]; exact p2, by rw [rr 104 _ (by decide) (by decide) (by decide) (by decide)]; exact p3, ⟨p4, by rw [rr 103 _ (by decide) (by decide) (by decide) (by decide)]; exact p5, by rw [c10]; exact p6, p7, p8⟩, ⟨p9, Nat.lt_of_lt_of_le p10 hN, by rw [(st.1 _ em).2.1]; exact p11⟩, ⟨ts, t1, t2, t3, fun i t ht => ?_⟩, wKn_k p12 (fun y _ => cp _ y) (fun o f _ _ _ => (ch _ (nO _ _)).1) (ow _) eK bd, fun o h1 h2 => ?_⟩
        · obtain ⟨u1, u2, u3, u4, u5⟩ := t4 i t ht
          rw [(ch (pM (6 * b + ms.2.2.1 b k) i) (nM _ _)).1, (ch (pM (6 * b + ms.2.2.1 b k) i) (nM _ _)).2, c10, rl 106 _ (by decide) (by decide) (by decide)]
          exact ⟨u1, by rw [st.2.1 _ (nM _ _) (by rw [u2]; exact em)]; exact u2, vAl_e u3 eK, u4, u5⟩
        · rw [rr 105 _ (by decide) (by decide) (by decide) (by decide), eK]; exact p13 o h1 h2
      · rw [rr 104 _ (by decide) (by decide) (by decide) (by decide)]; exact m8 j hj hz
/-- a body of another actor -/
theorem fOk_g (gi : GI ka.2.2.1 N om.1 om.2.1 om.2.2.1) (h : fOk sB A B mi om ka N sg s b xb e S) (hb : b ≠ a) (b12 : b < 12) (a12 : a < 12) (bc : b < ka.2.2.2) (cl : kCm a sg sg') (rf : kRm a s s') (hP : ∀ l, Pl l → aPl a l) (ch : ∀ l, ¬ Pl l → om'.1 l = om.1 l ∧ om'.2.1 l = om.2.1 l) (st : rSt a a E Pl om.2.2.1 om'.2.2.1) (hE : ∀ y, y = 0 ∨ (y < N ∧ om.2.2.1.2.2.2.2 y ≠ a) → E y) (hN : N ≤ N') (eK : om'.2.2.2 = om.2.2.2) (e10 : e < 10) (hR : ∀ e' j, e' ≤ e → j ≤ fL (xb e') → fRe (xb e') j < N ∧ om.2.2.1.2.2.2.2 (fRe (xb e') j) = b) (hs : ∀ y ∈ S, y ∈ fSt (xb e)) (hl : S.length ≤ (fSt (xb e)).length) : fOk sB A B mi om' ka N' sg' s' b xb e S := by
  have h0 := h
  obtain ⟨⟨p, q, b', j, z1, z2, z3, z4, z5, z6, z7, z8⟩, _, ⟨g1, _⟩, _⟩ := h0
  have lv := LV_PT z2
  have Eb : ∀ y, y < N → om.2.2.1.2.2.2.2 y = b → E y := fun y h1 h2 => hE y (Or.inr ⟨h1, by rw [h2]; exact hb⟩)
  have ra : ∀ j, sg'.2.2.2.1 b j = sg.2.2.2.1 b j := fun j => cl.2.2.2.1 b j (Or.inl hb)
  have k10 : ∀ k, k < fQ (xb e) + S.length → k < 10100 := by
    intro k hk
    have h1 : fQ (xb e) ≤ 1010 * 9 := Nat.le_trans z6 (Nat.mul_le_mul_left _ (by omega))
    omega
  refine fOk_k (P := Pl) h (by rw [ra]) (by rw [ra]) (by rw [ra]) (fun i _ => by rw [ra]) ?_ ?_ (fun sl hsl => ?_) (fun k hk => ?_) (fun sl hsl => ?_) ?_ (fun k hk => ?_) st (fun e' j h1 h2 => ?_) (knK_of (fun o ho => by rw [eK]; exact ho)) kaX_r (by rw [eK]) bc hN (fun y hy => lv.1 y (hs y hy)) (Or.inr ⟨fun o ho => by rw [eK]; exact ho, fun t j u hj se => ?_⟩)
  · exact rf.2.1 99 _ (by omega) (by omega)
  · exact rf.2.2 100 _ (by omega) (by omega) (by omega)
  · exact rf.2.2 101 _ (by omega) (by omega) (by omega)
  · have := k10 k hk
    exact rf.2.2 97 _ (by omega) (by omega) (by omega)
  · have : ¬ Pl (pN (10 * b + e) sl) := fun z => aP_N hb e10 hsl (hP _ z)
    exact ⟨(ch _ this).1, (ch _ this).2, this⟩
  · have : ¬ Pl (pH (10 * b + e)) := fun z => aP_H hb e10 b12 (hP _ z)
    exact ⟨(ch _ this).1, (ch _ this).2, this⟩
  · have : ¬ Pl (pS b k) := fun z => aP_S hb (k10 k hk) (hP _ z)
    exact ⟨(ch _ this).1, (ch _ this).2, this⟩
  · exact Eb _ (hR e' j h1 h2).1 (hR e' j h1 h2).2
  · obtain ⟨r0, rN, ro⟩ := g1 j hj
    refine sEe_k gi se ro (fun lx l1 l2 l3 => ?_) st (fun y h1 _ h3 => Eb y h1 h3) r0 rN
    have : ¬ Pl lx := fun z => aP_l hb b12 a12 l1 (hP _ z)
    exact ⟨(ch _ this).1, (ch _ this).2, this⟩
/-- the bodies of another actor -/
theorem aBd_g {D' : Nat} (gi : GI ka.2.2.1 N om.1 om.2.1 om.2.2.1) (h : aBd sB A B mi om ka N sg s b xb D') (hb : b ≠ a) (b12 : b < 12) (a12 : a < 12) (bc : b < ka.2.2.2) (cl : kCm a sg sg') (rf : kRm a s s') (hP : ∀ l, Pl l → aPl a l) (ch : ∀ l, ¬ Pl l → om'.1 l = om.1 l ∧ om'.2.1 l = om.2.1 l) (st : rSt a a E Pl om.2.2.1 om'.2.2.1) (hE : ∀ y, y = 0 ∨ (y < N ∧ om.2.2.1.2.2.2.2 y ≠ a) → E y) (hN : N ≤ N') (eK : om'.2.2.2 = om.2.2.2) : aBd sB A B mi om' ka N' sg' s' b xb D' := by
  have s13 : sg'.2.2.1 b 13 = sg.2.2.1 b 13 := cl.2.2.1 b 13 (by omega)
  have p13 : sg'.2.2.2.2 b 13 = sg.2.2.2.2 b 13 := cl.2.2.2.2 b 13 (Or.inl hb)
  have so : ∀ ht, SOK sg b ht → SOK sg' b ht := fun ht h => by unfold SOK at h ⊢; rw [s13, p13]; exact h
  have r93 : s'.2.1 93 b = s.2.1 93 b := rf.2.1 93 b (by omega) (by omega)
  rcases h with ⟨h1, h2, h3⟩ | ⟨d0, h1, h2, h3, h4, h5, h6⟩
  · exact Or.inl ⟨h1, so _ h2, by rw [r93]; exact h3⟩
  · have hR : ∀ e' j, e' ≤ d0 → j ≤ fL (xb e') → fRe (xb e') j < N ∧ om.2.2.1.2.2.2.2 (fRe (xb e') j) = b := by
      intro e' j he hj
      by_cases c : e' = d0
      · rw [c] at hj ⊢
        exact (h4.2.2.1.1 j hj).2
      · obtain ⟨S0, t, _, k⟩ := h3 e' (by omega)
        exact (k.2.2.1.1 j hj).2
    refine Or.inr ⟨d0, h1, h2, fun e he => ?_, ?_, so _ h5, by rw [r93]; exact h6⟩
    · obtain ⟨S0, t, hS, k⟩ := h3 e he
      exact ⟨S0, t, hS, fOk_g gi k hb b12 a12 bc cl rf hP ch st hE hN eK (by omega) (fun e' j h1 h2 => hR e' j (by omega) h2) (fun y hy => by rw [hS]; exact List.mem_cons_of_mem _ hy) (by rw [hS]; exact Nat.le_succ _)⟩
    · exact fOk_g gi h4 hb b12 a12 bc cl rf hP ch st hE hN eK h2 hR (fun y hy => hy) (Nat.le_refl _)
/-- the bodies that wait, n of them; what lies from bs, qs on may change -/
theorem fSu_g {nn bs qs : Nat} (su : fSu sB A B mi om ka N sg s a xb nn) (a12 : a < 12) (ac : a < ka.2.2.2) (n10 : nn ≤ 10) (lay : ∀ e, e < nn → ∀ S0 t, fSt (xb e) = t :: S0 → fBs (xb e) + (mi (fMe (xb e))).2.2.2.2 + S0.length ≤ bs ∧ fQ (xb e) + S0.length ≤ qs) (c7 : ∀ e, e < nn → sg'.2.2.2.1 a 7 e = sg.2.2.2.1 a 7 e ∧ sg'.2.2.2.1 a 8 e = sg.2.2.2.1 a 8 e ∧ sg'.2.2.2.1 a 9 e = sg.2.2.2.1 a 9 e) (c12 : ∀ i, i < bs → sg'.2.2.2.1 a 12 i = sg.2.2.2.1 a 12 i) (r99 : ∀ e, e < nn → s'.2.1 99 (10 * a + e) = s.2.1 99 (10 * a + e) ∧ s'.2.2 100 (10 * a + e) = s.2.2 100 (10 * a + e) ∧ ∀ sl, sl < 16 → s'.2.2 101 (16 * (10 * a + e) + sl) = s.2.2 101 (16 * (10 * a + e) + sl)) (r97 : ∀ k, k < qs → s'.2.2 97 (10100 * a + k) = s.2.2 97 (10100 * a + k)) (hP : ∀ e, e < nn → ¬ Pl (pH (10 * a + e)) ∧ ∀ sl, sl < 16 → ¬ Pl (pN (10 * a + e) sl)) (hS : ∀ k, k < qs → k < 10100 → ¬ Pl (pS a k)) (ch : ∀ l, ¬ Pl l → om'.1 l = om.1 l ∧ om'.2.1 l = om.2.1 l) (st : rSt a a E Pl om.2.2.1 om'.2.2.1) (hEl : ∀ e j, e < nn → j ≤ fL (xb e) → E (fRe (xb e) j)) (hN : N ≤ N') (kn : knK om om' a) (rm : om'.2.2.2.2 a = om.2.2.2.2 a) : fSu sB A B mi om' ka N' sg' s' a xb nn := by
  intro e he
  obtain ⟨S0, t, hS', k⟩ := su e he
  obtain ⟨l1, l2⟩ := lay e he S0 t hS'
  have k0 := k
  obtain ⟨⟨p, q, b', j, z1, z2, z3, z4, z5, z6, z7, z8⟩, _⟩ := k0
  have lv := LV_PT z2
  rw [hS'] at lv
  obtain ⟨h7, h8, h9⟩ := c7 e he
  obtain ⟨h99, h100, h101⟩ := r99 e he
  refine ⟨S0, t, hS', fOk_k (P := Pl) k h7 h8 h9 (fun i hi => c12 i (by omega)) h99 h100 h101 (fun k hk => r97 k (by omega)) (fun sl hsl => ?_) ?_ (fun k hk => ?_) st (fun e' j h1 h2 => hEl e' j (by omega) h2) kn kaX_r rm ac hN (fun y hy => lv.1 y (List.mem_cons_of_mem _ hy)) (Or.inl (fun y hy => lv.2 y hy))⟩
  · have := (hP e he).2 sl hsl
    exact ⟨(ch _ this).1, (ch _ this).2, this⟩
  · have := (hP e he).1
    exact ⟨(ch _ this).1, (ch _ this).2, this⟩
  · have h1 : fQ (xb e) ≤ 1010 * 9 := Nat.le_trans z6 (Nat.mul_le_mul_left _ (by omega))
    have h2 : S0.length ≤ 1010 := by rw [hS'] at z8; exact Nat.le_trans (Nat.le_succ _) z8
    have := hS k (by omega) (by omega)
    exact ⟨(ch _ this).1, (ch _ this).2, this⟩
end ENK
