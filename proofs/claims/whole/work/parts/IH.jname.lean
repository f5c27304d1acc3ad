/-! BOTH GIVE A NAME A VALUE. -/
def gdB (c d : Nat) : Bool := decide (c = 0) || (decide (c = 1) && decide (d ≠ 0)) || (decide (c = 2) && (decide (d = 2) || decide (d = 4))) || (decide (c = 3) && (decide (d = 3) || decide (d = 4))) || (decide (c = 4) && decide (d = 4))
def fitB (t q : Nat) : Bool := (decide (t = 2) && decide (8 ≤ q)) || (decide (t = 1) && decide (q = 1)) || (decide (8 ≤ t) && decide (t % 8 = 5) && decide (t = q)) || (decide (8 ≤ t) && decide (t % 8 < 5) && decide (8 ≤ q) && decide (q % 8 < 5) && decide (t / 8 = q / 8) && gdB (t % 8) (q % 8))
theorem fit_b : ∀ t, t < 72 → gTy t = true → ∀ q, q < 72 → dTy q = true → fitC (cT t) (cT q) = 0 → fitB t q = true := by decide +kernel
section JNM
variable {sB : rS} {A B : Nat → Int32} {mi : Nat → Nat × Nat × Nat × Nat × Nat} {kc : kCi} {om om' : oMg} {ka ka' : kAp} {la : lAy} {ms : mSg} {N N' cn : Nat} {sg sg' sg2 : cS} {s s' s2 S1 : rS} {a b d e lo q0 J l t r i n p q k k2 f0 w P L sz lv : Nat} {xs : Nat → Int32} {zf : Value} {Z : Nat → Prop} {hB h h' : rm_H} {es : List Nat} {x : Nat → Nat → fDs} {D : Nat → Nat} {S S0 X : List stE} {v : Int64} {y : Int32}
theorem fit_c {t q : Nat} (g : gTy t = true) (dq : dTy q = true) (h : fitC (cT t) (cT q) = 0) : (t = 2 ∧ 8 ≤ q) ∨ (t = 1 ∧ q = 1) ∨ (8 ≤ t ∧ t % 8 = 5 ∧ t = q) ∨ (8 ≤ t ∧ t % 8 < 5 ∧ 8 ≤ q ∧ q % 8 < 5 ∧ t / 8 = q / 8 ∧ rg_good (t % 8) (q % 8)) := by
  have h1 := fit_b t (gTy_lt g) g q (gTy_lt (dTy_g dq)) dq h
  unfold fitB gdB at h1
  simp at h1
  unfold rg_good
  omega
theorem fit_v {t q : Nat} (g : gTy t = true) (dq : dTy q = true) (h : fitC (cT t) (cT q) = 0) (hv : vTy ka a t v) : vTy ka a q v := by
  have dc := dTy_c dq
  have gc := gTy_c.mp g
  rcases fit_c g dq h with z | z | z | z
  · have v0 : v = 0 := by
      rcases hv with h | h | h | h | h
      · omega
      · exact h.2
      · omega
      · omega
      · omega
    by_cases c : q % 8 < 5
    · exact Or.inr (Or.inr (Or.inl ⟨z.2, c, Or.inl v0⟩))
    · exact Or.inr (Or.inr (Or.inr (Or.inl ⟨z.2, by omega, Or.inl v0⟩)))
  · rw [z.2, ← z.1]; exact hv
  · rw [← z.2.2]; exact hv
  · rcases hv with h | h | h | h | h
    · omega
    · omega
    · refine Or.inr (Or.inr (Or.inl ⟨z.2.2.1, z.2.2.2.1, ?_⟩))
      rcases h.2.2 with y | ⟨o, o1, o2, o3, o4⟩
      · exact Or.inl y
      · exact Or.inr ⟨o, o1, o2, o3, by rw [o4]; exact z.2.2.2.2.1⟩
    · omega
    · omega
theorem fit_r {t q : Nat} (g : gTy t = true) (dq : dTy q = true) (h : fitC (cT t) (cT q) = 0) (hv : vTy ka a t v) : oV v = 0 ∨ (rg_good (t % 8) (q % 8) ∧ q % 8 ≤ 4 ∧ t % 8 ≤ 4) := by
  by_cases o0 : oV v = 0
  · exact Or.inl o0
  · have ot := vTy_o hv o0
    have tc := isO_c ot.1
    rcases fit_c g dq h with z | z | z | z
    · omega
    · omega
    · omega
    · exact Or.inr ⟨z.2.2.2.2.2, by omega, by omega⟩
/-- a value goes from l0 to a root l1 of the same region, that of level j0 -/
theorem lay_s {l0 l1 t1 j0 : Nat} (it : iTm sB A B mi kc om ka la ms N cn sg s D x a d) (hj : j0 ≤ fL (x a d)) (hl : l1 ≠ l0) (ho : obP l1 = 0) (t0 : om.2.1 l0 ≠ 0) (t1n : t1 ≠ 0) (hr : om.2.2.1.1 l0 = fRe (x a d) j0) (fit : oV (om.1 l0) = 0 ∨ (rg_good (om.2.1 l0 % 8) (t1 % 8) ∧ t1 % 8 ≤ 4 ∧ om.2.1 l0 % 8 ≤ 4)) :
    ∃ g' : rGt, GI ka.2.2.1 N (wU om.1 l1 (om.1 l0)) (rg_up (rg_up om.2.1 l0 0) l1 t1) g' ∧ g'.1 l1 = fRe (x a d) j0 ∧ rSt a a (eLr om N a d (fL (x a d)) (x a)) (fun y => y = l1) om.2.2.1 g' := by
  have it0 := it
  obtain ⟨w, _, _, _, _, rg, _⟩ := it0
  obtain ⟨r0, rN, ro⟩ := rg.1 j0 hj
  have gi := w.2.1
  have cd : oV (om.1 l0) ≠ 0 → (om.2.1 l0 % 8 ≤ 1 → ¬ inR om.2.2.1 (om.2.2.1.2.1 (oV (om.1 l0))) (fRe (x a d) j0) ∧ (om.2.1 l0 % 8 = 1 → t1 % 8 = 3 ∨ rg_Tr om.2.2.1.2.2.1 om.2.2.1.2.2.2.1 (fRe (x a d) j0) (om.2.2.1.1 l0)) ∧ ∀ y, eLr om N a d (fL (x a d)) (x a) y → ¬ inR om.2.2.1 (om.2.2.1.2.1 (oV (om.1 l0))) y) ∧ ((om.2.1 l0 % 8 = 2 ∨ om.2.1 l0 % 8 = 4) → fRe (x a d) j0 = om.2.2.1.1 l0) := by
    intro o0
    refine ⟨fun c1 => ?_, fun _ => hr.symm⟩
    have et : tgF om.2.1 om.1 l0 = oV (om.1 l0) := tgF_eq t0
    have hh : om.2.2.1.1 l0 ≠ 0 := by rw [hr]; exact r0
    obtain ⟨e1, e2, e3⟩ := rg_ent gi.1 l0 (by rw [et]; exact o0) hh c1
    have ie := inR_e gi.1 (l := l0) (by rw [et]; exact o0) hh c1
    rw [et] at e1 e2 e3 ie
    rw [hr] at e3 ie
    exact ⟨ie.2, fun _ => Or.inr (by rw [hr]; exact rg_Tr_refl), fun y hy => eL_no it hj (by rw [e2]; exact Nat.succ_ne_zero _) e3 hy⟩
  obtain ⟨g', i1, i2, i3⟩ := GI_lay (a := a) (E := eLr om N a d (fL (x a d)) (x a)) (r1 := fRe (x a d) j0) gi hl ho t0 t1n (by rw [hr]; exact r0) r0 rN fit cd
  rw [ro] at i3
  exact ⟨g', i1, i2, i3⟩
theorem bt_ne {g : Int32} {i j : Nat} (hi : i < 16) (hj : j < 16) (hne : i ≠ j) : (g &&& (bt i ^^^ (-1))) &&& bt j = 0 → g &&& bt j = 0 := by
  intro h
  rw [bi_z] at h ⊢
  intro k hk
  have h := h k hk
  rw [bi_and, bi_and, bi_xor, bi_m k hk] at h
  rw [bi_and]
  have dj : ∀ i, i < 16 → ∀ j, j < 16 → i ≠ j → ∀ k, k < 32 → (bi (bt i) k && bi (bt j) k) = false := by decide +kernel
  have := dj i hi j hj hne k hk
  cases h1 : bi g k <;> cases h2 : bi (bt i) k <;> cases h3 : bi (bt j) k <;> rw [h1, h2, h3] at h <;> rw [h2, h3] at this <;> first | rfl | exact h | exact this
theorem gDs_a {G : List scN} {y : scN} (h : gDs G) (hn : ∀ z ∈ G, z.2.1 ≠ y.2.1) : gDs (G ++ [y]) := by
  intro i j u v h1 h2 h3
  have key : ∀ i u, (G ++ [y])[i]? = some u → (i < G.length ∧ G[i]? = some u) ∨ (i = G.length ∧ u = y) := by
    intro i u hu
    by_cases c : i < G.length
    · rw [List.getElem?_append_left c] at hu; exact Or.inl ⟨c, hu⟩
    · rw [List.getElem?_append_right (by omega)] at hu
      have : i - G.length = 0 := by
        have := (List.getElem?_eq_some_iff.mp hu).1
        simp at this
        omega
      rw [this] at hu
      simp at hu
      exact Or.inr ⟨by omega, hu.symm⟩
  rcases key i u h1 with ⟨c1, g1⟩ | ⟨c1, g1⟩ <;> rcases key j v h2 with ⟨c2, g2⟩ | ⟨c2, g2⟩
  · exact h i j u v g1 g2 h3
  · rw [g2] at h3; exact absurd h3 (hn u (List.mem_of_getElem? g1))
  · rw [g1] at h3; exact absurd h3.symm (hn v (List.mem_of_getElem? g2))
  · omega
/-- THE VALUE ON TOP BECOMES THE NAME'S: slot sl, type td -/
theorem J_nam {q' sl td tv b' : Nat} {gn0 : Int32} {G0 : List scN} (it : iTm sB A B mi kc om ka la ms N cn sg s D x a d) (eS : fSt (x a d) = (tv, false, fL (x a d)) :: S0) (pf : eLv (fL (x a d)) S0) (fit : fitC (cT tv) (cT td) = 0) (dt : dTy td = true) (s16 : sl < 16) (sloc : sl < (mi (fMe (x a d))).2.2.2.2) (n7 : sg.2.2.2.1 a 7 d = Int32.ofNat b')
    (nx : NXT sB A B (fMe (x a d)) (mi (fMe (x a d))).1 (mi (fMe (x a d))).2.1 (mi (fMe (x a d))).2.2.1 b' (fL (x a d)) G0 gn0 S0 q') (go : GO sB (mi (fMe (x a d))).2.1 (mi (fMe (x a d))).2.2.1 (mi (fMe (x a d))).2.2.2.1 (fL (x a d)) G0) (gd : gDs G0) (gs : ∀ y ∈ G0, y.2.1 < (mi (fMe (x a d))).2.2.2.2 ∧ dTy y.2.2.1 = true) (hG : ∀ y ∈ G0, gn0 &&& bt y.2.1 = 0 → (y.2.1 = sl ∧ y.2.2.1 = td ∧ y.2.2.2 = fL (x a d)) ∨ (y.2.1 ≠ sl ∧ y ∈ fG (x a d) ∧ fGn (x a d) &&& bt y.2.1 = 0)) :
    ∃ om2 N2 x2, rUn sB A B mi kc om2 ka la ms N2 cn (sQ sg a (sg.2.2.2.2 a 12) (sg.2.2.2.2 a 13) (upd (sg.2.2.2.1 a 12) (fBs (x a d) + sl) (sg.2.2.2.1 a 12 (fBs (x a d) + (mi (fMe (x a d))).2.2.2.2 + S0.length))) (fBs (x a d) + (mi (fMe (x a d))).2.2.2.2 + S0.length)) (rs_wA (rs_wB (rs_wA s 93 a (Int32.ofNat (fQ (x a d) + S0.length))) 101 (16 * (10 * a + d) + sl) (s.2.2 97 (10100 * a + (fQ (x a d) + S0.length)))) 99 (10 * a + d) (Int32.ofNat q')) D x2 := by
  obtain ⟨⟨a12, d10, u1, u2, u3, u4⟩, rq, fx, b3, r92, b8, gi, rl, ob4⟩ := it_f it
  have it0 := it
  obtain ⟨wl, _, _, ⟨_, ac, _⟩, vl, rg, nm, _, _, so, r93, _⟩ := it0
  have top := vl.2.2.2
  rw [eS] at so r93 top u3
  have u3' : S0.length < 1010 := u3
  obtain ⟨⟨p1, p2, p3, p4, p5, _⟩, _⟩ := top
  have q0 : (om.2.1 (pS a (fQ (x a d) + S0.length)) = tv ∧ (tv ≠ 0 → om.2.2.1.1 (pS a (fQ (x a d) + S0.length)) = fRe (x a d) (fL (x a d)))) := by
    rcases p4 with z | z
    · exact z
    · exact absurd z.1 Bool.false_ne_true
  have tv0 : tv ≠ 0 := by
    have := fit_c p5 dt fit
    omega
  have td0 : td ≠ 0 := by have := dTy_c dt; omega
  obtain ⟨h1, h2⟩ := q0
  have h2 := h2 tv0
  have lne : pN (10 * a + d) sl ≠ pS a (fQ (x a d) + S0.length) := by unfold pN pS; omega
  obtain ⟨g', i1, i2, i3⟩ := lay_s (l0 := pS a (fQ (x a d) + S0.length)) (l1 := pN (10 * a + d) sl) (t1 := td) (j0 := fL (x a d)) it (Nat.le_refl _) lne (ob_n (by unfold pN; omega)) (by rw [h1]; exact tv0) td0 h2 (by rw [h1]; exact fit_r p5 dt fit p1.1)
  have nch : cHg a d (fQ (x a d)) (pN (10 * a + d) sl) := Or.inl ⟨sl, s16, rfl⟩
  have sch : cHg a d (fQ (x a d)) (pS a (fQ (x a d) + S0.length)) := Or.inr (Or.inl ⟨_, by omega, by omega, rfl⟩)
  have kp : ∀ l, l ≠ pN (10 * a + d) sl → l ≠ pS a (fQ (x a d) + S0.length) → wU om.1 (pN (10 * a + d) sl) (om.1 (pS a (fQ (x a d) + S0.length))) l = om.1 l ∧ rg_up (rg_up om.2.1 (pS a (fQ (x a d) + S0.length)) 0) (pN (10 * a + d) sl) td l = om.2.1 l ∧ ¬ (fun y => y = pN (10 * a + d) sl) l := fun l h1 h2 => ⟨wU_ne h1, by rw [rg_up_ne _ h1, rg_up_ne _ h2], h1⟩
  have cl : kCl a d (fBs (x a d)) sg (sQ sg a (sg.2.2.2.2 a 12) (sg.2.2.2.2 a 13) (upd (sg.2.2.2.1 a 12) (fBs (x a d) + sl) (sg.2.2.2.1 a 12 (fBs (x a d) + (mi (fMe (x a d))).2.2.2.2 + S0.length))) (fBs (x a d) + (mi (fMe (x a d))).2.2.2.2 + S0.length)) := kCl_q (fun i hi => upd_ne' (by omega))
  have rf : kRf a d (fQ (x a d)) s (rs_wA (rs_wB (rs_wA s 93 a (Int32.ofNat (fQ (x a d) + S0.length))) 101 (16 * (10 * a + d) + sl) (s.2.2 97 (10100 * a + (fQ (x a d) + S0.length)))) 99 (10 * a + d) (Int32.ofNat q')) := kRf_t (kRf_A (Or.inr ⟨rfl, rfl⟩)) (kRf_t (kRf_B (Or.inr ⟨rfl, by omega, by omega⟩)) (kRf_A (Or.inl ⟨rfl, rfl⟩)))
  have g101 : ∀ z, z < 16 → ¬ (fun z => z = sl) z → (rs_wA (rs_wB (rs_wA s 93 a (Int32.ofNat (fQ (x a d) + S0.length))) 101 (16 * (10 * a + d) + sl) (s.2.2 97 (10100 * a + (fQ (x a d) + S0.length)))) 99 (10 * a + d) (Int32.ofNat q')).2.2 101 (16 * (10 * a + d) + z) = s.2.2 101 (16 * (10 * a + d) + z) := by
    intro z hz hne
    have hne : z ≠ sl := hne
    show (rs_wB _ 101 _ _).2.2 101 _ = _
    rw [wB_get, if_neg (by omega)]
    rfl
  have g97 : ∀ k, k < fQ (x a d) + S0.length → (rs_wA (rs_wB (rs_wA s 93 a (Int32.ofNat (fQ (x a d) + S0.length))) 101 (16 * (10 * a + d) + sl) (s.2.2 97 (10100 * a + (fQ (x a d) + S0.length)))) 99 (10 * a + d) (Int32.ofNat q')).2.2 97 (10100 * a + k) = s.2.2 97 (10100 * a + k) := by
    intro k hk
    rfl
  obtain ⟨nms, ths, svl⟩ := fV0 (om' := (wU om.1 (pN (10 * a + d) sl) (om.1 (pS a (fQ (x a d) + S0.length))), rg_up (rg_up om.2.1 (pS a (fQ (x a d) + S0.length)) 0) (pN (10 * a + d) sl) td, g', om.2.2.2)) (sg' := sQ sg a (sg.2.2.2.2 a 12) (sg.2.2.2.2 a 13) (upd (sg.2.2.2.1 a 12) (fBs (x a d) + sl) (sg.2.2.2.1 a 12 (fBs (x a d) + (mi (fMe (x a d))).2.2.2.2 + S0.length))) (fBs (x a d) + (mi (fMe (x a d))).2.2.2.2 + S0.length)) (s' := rs_wA (rs_wB (rs_wA s 93 a (Int32.ofNat (fQ (x a d) + S0.length))) 101 (16 * (10 * a + d) + sl) (s.2.2 97 (10100 * a + (fQ (x a d) + S0.length)))) 99 (10 * a + d) (Int32.ofNat q')) (X := [(tv, false, fL (x a d))]) (Qs := fun z => z = sl) it (Nat.le_refl _) i3 rfl eS pf (fun z hz hne => kp _ (by unfold pN; omega) (by unfold pN pS; omega)) (kp _ (by unfold pH pN; omega) (by unfold pH pS; omega)) (fun k hk => kp _ (by unfold pN pS; omega) (by unfold pS; omega)) (by rw [sQ_R (Or.inl (by decide))]) (fun z hz => by rw [hz]; exact sloc) (fun i hi hz => by rw [sQ_f]; exact upd_ne' (hz sl rfl)) (rf.2.2 100 _ (by omega) (by omega)) g101 g97
  refine eNd3 (om' := (wU om.1 (pN (10 * a + d) sl) (om.1 (pS a (fQ (x a d) + S0.length))), rg_up (rg_up om.2.1 (pS a (fQ (x a d) + S0.length)) 0) (pN (10 * a + d) sl) td, g', om.2.2.2)) it cl rf (fun l hl => ⟨(kp l (fun z => hl (z ▸ nch)) (fun z => hl (z ▸ sch))).1, (kp l (fun z => hl (z ▸ nch)) (fun z => hl (z ▸ sch))).2.1⟩) (rSt_P i3 (fun l z => by rw [z]; exact nch)) i1 rfl nx (by rw [sQ_R (Or.inl (by decide))]; exact n7) (by rw [wA_get, if_pos ⟨rfl, rfl⟩]) go gd gs (fun y hy gy => ?_) ths svl (fun y hy => (pf y hy).2) (SOK_q (Nat.le_trans (Nat.le_succ _) so.2.1) so.2.2.1 so.2.2.2) (by
    rw [wA_get, if_neg (by omega)]
    show (rs_wA s 93 a _).2.1 93 a = _
    rw [wA_get, if_pos ⟨rfl, rfl⟩])
  rcases hG y hy gy with ⟨z1, z2, z3⟩ | ⟨z1, z2, z3⟩
  · unfold nAm
    rw [z1, z2, z3]
    refine ⟨?_, ?_, i2, ?_, ?_⟩
    · show vAl _ ka a td (wU om.1 (pN (10 * a + d) sl) (om.1 (pS a (fQ (x a d) + S0.length))) (pN (10 * a + d) sl))
      rw [wU_eq]
      exact ⟨fit_v p5 dt fit p1.1, p1.2⟩
    · exact rg_up_eq _ _ _
    · show _ = cvl (wU om.1 (pN (10 * a + d) sl) (om.1 (pS a (fQ (x a d) + S0.length))) (pN (10 * a + d) sl))
      rw [wU_eq, sQ_f, upd_eq']
      exact p2
    · show (rs_wB _ 101 _ _).2.2 101 _ = wU om.1 (pN (10 * a + d) sl) (om.1 (pS a (fQ (x a d) + S0.length))) (pN (10 * a + d) sl)
      rw [wU_eq, wB_get, if_pos ⟨rfl, rfl⟩]
      exact p3
  · exact nms y z2 z3 z1 (nm.1.2 y z2)
/-- var -/
theorem J_20 (cb : CB hB Z P A B sz es) (rh : RH (.ref P) n sg Z hB h) (hn : ka.2.2.2 ≤ n) (it : iTm sB A B mi kc om ka la ms N cn sg s D x a d) (n7 : sg.2.2.2.1 a 7 d = Int32.ofNat (p + 1)) (q4 : q < 4400) (hw : 10000 ≤ w) {u tv td sl : Nat} (eK : sB.2.1 44 q = Int32.ofNat 20) (eS : fSt (x a d) = (tv, false, fL (x a d)) :: S0) (ty : tyc sB (sB.2.1 54 q) td) (fit : fitC (cT tv) (cT td) = 0) (h53 : sB.2.1 53 q = Int32.ofNat sl) (s16 : sl < 16) (ng : (∀ y ∈ fG (x a d), y.2.1 ≠ sl) ∧ (mi (fMe (x a d))).2.1 ≤ q ∧ q < (mi (fMe (x a d))).2.2.1) (hA : A p = 11) (hB' : B p = Int32.ofNat sl) (sc : SC sB A B (fMe (x a d)) (mi (fMe (x a d))).1 (mi (fMe (x a d))).2.1 (mi (fMe (x a d))).2.2.1 u q (p + 1) (fL (x a d)) (fG (x a d) ++ [(sB.2.2 56 q, sl, td, fL (x a d))]) (fGn (x a d) &&& (bt sl ^^^ (-1))) S0) : jEx sB A B mi kc L xs zf w P Z hB k k2 n cn a d p q sg h s := by
  obtain ⟨⟨a12, d10, u1, u2, u3, u4⟩, rq, fx, b3, r92, b8, gi, rl, ob4⟩ := it_f it
  have it0 := it
  obtain ⟨wl, _, _, ⟨_, ac, _⟩, vl, rg, nm, _, _, so, r93, _⟩ := it0
  have dt : dTy td = true := by obtain ⟨_, _, _, _, z⟩ := ty; exact z
  have sloc : sl < (mi (fMe (x a d))).2.2.2.2 := nm.2.2.2.2.2.2.1.2 q sl ng.2.1 ng.2.2 eK s16 h53
  have go : GO sB (mi (fMe (x a d))).2.1 (mi (fMe (x a d))).2.2.1 (mi (fMe (x a d))).2.2.2.1 (fL (x a d)) (fG (x a d) ++ [(sB.2.2 56 q, sl, td, fL (x a d))]) := by
    refine ⟨fun y hy => ?_, fun y hy => ?_⟩
    · rcases List.mem_append.mp hy with z | z
      · exact nm.1.1 y z
      · have z := List.mem_singleton.mp z
        rw [z]
        exact ⟨s16, Or.inr ⟨q, ng.2.1, ng.2.2, eK, rfl, h53⟩⟩
    · rcases List.mem_append.mp hy with z | z
      · exact nm.1.2 y z
      · have z := List.mem_singleton.mp z
        rw [z]
        exact Nat.le_refl _
  obtain ⟨q', bh, nx⟩ := AD_S nm.2.2.2.2.2.1 nm.2.2.2.2.1 sc go q4
  have gs : ∀ y ∈ fG (x a d) ++ [(sB.2.2 56 q, sl, td, fL (x a d))], y.2.1 < (mi (fMe (x a d))).2.2.2.2 ∧ dTy y.2.2.1 = true := by
    intro y hy
    rcases List.mem_append.mp hy with z | z
    · exact nm.2.2.1 y z
    · have z := List.mem_singleton.mp z
      rw [z]
      exact ⟨sloc, dt⟩
  have gd : gDs (fG (x a d) ++ [(sB.2.2 56 q, sl, td, fL (x a d))]) := gDs_a nm.2.1 ng.1
  obtain ⟨om2, N2, x2, ru⟩ := J_nam it eS (LV_SC sc) fit dt s16 sloc n7 nx go gd gs (fun y hy gy => by
    rcases List.mem_append.mp hy with z | z
    · have := ng.1 y z
      exact Or.inr ⟨this, z, bt_ne s16 (nm.1.1 y z).1 (fun w => this w.symm) gy⟩
    · have z := List.mem_singleton.mp z
      rw [z]
      exact Or.inl ⟨rfl, rfl, rfl⟩)
  rw [eS] at so r93 u3
  have u3' : S0.length < 1010 := u3
  obtain ⟨h', e1, e2, e3, e4⟩ := x_11 (L := L) (xs := xs) (zf := zf) (w := w) (k := k + 7) (ht := fBs (x a d) + (mi (fMe (x a d))).2.2.2.2 + S0.length) cb rh (by omega) hA so b3 (by omega) b8 hB' (by have := so.2.1; omega)
  exact jEx_p e1 (act_20 (k := k2 + 8) (t := fQ (x a d) + S0.length) rq a12 d10 q4 eK bh (by decide) (by omega) r93 (by omega) (by rw [fx.1 53 (by decide)]; exact h53) s16) e2 hn ac ru (CST_q e3 e4)
end JNM
