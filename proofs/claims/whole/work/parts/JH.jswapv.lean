/-! A FIELD IS SWAPPED: what was there is kept aside. -/
section JSX
variable {sB : rS} {A B : Nat → Int32} {mi : Nat → Nat × Nat × Nat × Nat × Nat} {kc : kCi} {om om' : oMg} {ka ka' : kAp} {la : lAy} {ms : mSg} {N N' cn : Nat} {sg sg' sg2 : cS} {s s' s2 S1 : rS} {a b d e lo q0 J l t r i n p q k k2 f0 w P L sz lv : Nat} {xs : Nat → Int32} {zf : Value} {Z : Nat → Prop} {hB h h' : rm_H} {es : List Nat} {x : Nat → Nat → fDs} {D : Nat → Nat} {S S0 X : List stE} {v : Int64} {y : Int32}
variable {o f tf tv c : Nat}
theorem it_so7 (it : iTm sB A B mi kc om ka la ms N cn sg s D x a d) (eS : fSt (x a d) = (tv, false, fL (x a d)) :: S0) (pf : eLv (fL (x a d)) S0) (hld : hLd om a c o (fRe (x a d) (fL (x a d)))) (o1 : 1 ≤ o) (o2 : o ≤ ka.2.2.1) (kn : om.2.2.2.1 a o) (c2 : c ≤ 2) (hf : f < (kc (ka.1 o)).1) (htf : (kc (ka.1 o)).2.1 f = tf) (safe : isO tv = true → lkV 2 (Int32.ofNat c) (Int32.ofNat (tv % 8)) = 1) (dt : dTy tf = true) (fit : fitC (cT tv) (cT tf) = 0) (hb3 : bhT 3 c tf t) : ∃ g' : rGt, iTm sB A B mi kc ((wU (wU om.1 (pH (132 + a)) (om.1 (pO o f))) (pO o f) (om.1 (pS a (fQ (x a d) + S0.length)))), (rg_up (rg_up (rg_up om.2.1 (pH (132 + a)) t) (pS a (fQ (x a d) + S0.length)) 0) (pO o f) tf), g', om.2.2.2) ka la ms N cn (sW (sPo sg a (fBs (x a d) + (mi (fMe (x a d))).2.2.2.2 + S0.length)) 0 (la.1 o + 1 + f) (sg.2.2.2.1 a 12 (fBs (x a d) + (mi (fMe (x a d))).2.2.2.2 + S0.length))) (rs_wB (rs_wA s 93 a (Int32.ofNat (fQ (x a d) + S0.length))) 96 (400 * a + la.2.2.1 o + f) (s.2.2 97 (10100 * a + (fQ (x a d) + S0.length)))) D (xU x a d (fMe (x a d), fL (x a d), fG (x a d), fGn (x a d), S0, fRe (x a d), fBs (x a d), fQ (x a d))) a d ∧ g'.1 (pH (132 + a)) = fRe (x a d) (fL (x a d)) := by
  obtain ⟨⟨a12, d10, u1, u2, u3, u4⟩, rq, fx, b3, r92, b8, gi, rl, ob4⟩ := it_f it
  have it0 := it
  obtain ⟨wl, _, _, ⟨_, ac, _⟩, vl, rg, nm, _, _, so, r93, _⟩ := it0
  have u3' : S0.length < 1010 := by rw [eS] at u3; exact u3
  have so' : SOK sg a ((fBs (x a d) + (mi (fMe (x a d))).2.2.2.2 + S0.length) + 1) := by rw [eS] at so; exact so
  obtain ⟨o1', o2', o3', o4'⟩ := so'
  have top := vl.2.2.2
  rw [eS] at top
  obtain ⟨⟨p1, p2, p3, p4, p5, p6⟩, _⟩ := top
  have q0 : (om.2.1 (pS a (fQ (x a d) + S0.length)) = tv ∧ (tv ≠ 0 → om.2.2.1.1 (pS a (fQ (x a d) + S0.length)) = fRe (x a d) (fL (x a d)))) := by
    rcases p4 with z | z
    · exact z
    · exact absurd z.1 Bool.false_ne_true
  have tv0 : tv ≠ 0 := by
    have := fit_c p5 dt fit
    omega
  have tf0 : tf ≠ 0 := by have := dTy_c dt; omega
  obtain ⟨hT, hr⟩ := q0
  have hr := hr tv0
  obtain ⟨r0, rN, ro⟩ := rg.1 (fL (x a d)) (Nat.le_refl _)
  have hE : ∀ y, y = 0 ∨ (y < N ∧ om.2.2.1.2.2.2.2 y ≠ a) → eLr om N a d (fL (x a d)) (x a) y := fun y hy => by
    rcases hy with z | z
    · exact Or.inl z
    · exact Or.inr (Or.inl z)
  have fr := fit_r p5 dt fit p1.1
  have fv := fit_v p5 dt fit p1.1
  have ecv : cvl (om.1 (pS a (fQ (x a d) + S0.length))) = (sg.2.2.2.1 a 12 (fBs (x a d) + (mi (fMe (x a d))).2.2.2.2 + S0.length)) := p2.symm
  have evv : om.1 (pS a (fQ (x a d) + S0.length)) = (s.2.2 97 (10100 * a + (fQ (x a d) + S0.length))) := p3.symm
  have f8 : f < 8 := by
    obtain ⟨⟨_, _, z⟩, _⟩ := wl.2.2.2.1 o o1 o2
    omega
  have hTF : om.2.1 (pO o f) = tf := by
    obtain ⟨_, _, _, _, _, _, _, z⟩ := wl.2.2.2.1 o o1 o2
    exact (z f hf).1.trans htf
  have hb := bh_34 c2 hb3
  have f2 : vTy ka 0 tf (om.1 (pO o f)) := by
    obtain ⟨_, _, _, _, _, _, _, z⟩ := wl.2.2.2.1 o o1 o2
    rw [← htf]
    exact (z f hf).2.1
  have t10 : t ≠ 0 := by
    by_cases ot : isO tf = true
    · obtain ⟨c', c5, tab, et⟩ := bhT_c hb ot
      have tc := isO_c ot
      omega
    · unfold bhT at hb
      rw [if_neg ot] at hb
      rw [hb]
      exact tf0
  have ER := eL_R (om := om) (N := N) (x := x) (a := a) (d := d) (Nat.le_refl (fL (x a d)))
  obtain ⟨⟨ru1, ru2⟩, g', i1, i2, i3⟩ := GI_swp (l0 := pS a (fQ (x a d) + S0.length)) (l1 := pH (132 + a)) (t1 := t) (tf := tf) (f := f) gi (tOp_of it (Nat.le_refl _)) (Or.inl rfl) ER hld (by omega) o2 c2 f8 r0 rN ro (by rw [hT]; exact tv0) tf0 hr (by unfold lOf pS; unfold pH; omega) (by unfold pS; omega) (by rw [hT]; exact fr) (fun o0 => by
    rw [hT]
    have ot := (vTy_o p1.1 o0).1
    have tc := isO_c ot
    exact sf_c (by omega) (by omega) (safe ot)) (by unfold pH; omega) (by unfold lOf pH; omega) hTF t10 (fun o0 => by
    have ot := (vTy_o f2 o0).1
    obtain ⟨c', c5, tab, et⟩ := bhT_c hb ot
    have tc := isO_c ot
    have th := th_c (by omega) (by omega) c5 tab
    have := f_rd (om := om) (f := f) (tf := tf) (t := t) gi hld (by omega) f8 hTF ot o0 (by omega) tab c5 (by omega) r0
    exact ⟨this.1, fun z => by omega⟩)
  have i3' : rSt a a (eLr om N a d (fL (x a d)) (x a)) (cHg a d (fQ (x a d))) om.2.2.1 g' := rSt_P i3 (fun l h => by rw [h]; exact Or.inr (Or.inr (Or.inr rfl)))
  have xlf : xCh om a (pO o f) := by
    left
    refine ⟨by unfold pO; omega, ?_⟩
    have := gi.1.2.2.2 (pO o f) (by rw [ob_O f8]; omega)
    rw [ob_O f8] at this
    rw [this]
    exact ru2
  have w1 := wAl_fg (v := om.1 (pS a (fQ (x a d) + S0.length))) (W' := (wU (wU om.1 (pH (132 + a)) (om.1 (pO o f))) (pO o f) (om.1 (pS a (fQ (x a d) + S0.length))))) (T' := (rg_up (rg_up (rg_up om.2.1 (pH (132 + a)) t) (pS a (fQ (x a d) + S0.length)) 0) (pO o f) tf)) (Pq := fun l => l = pH (132 + a)) (E := eLr om N a d (fL (x a d)) (x a)) wU_eq (rg_up_eq _ _ _) (fun l h1 h2 => by
    have h3 : l ≠ pH (132 + a) := fun z => by rw [z] at h2; unfold pH at h2; omega
    have h4 : l ≠ pS a (fQ (x a d) + S0.length) := fun z => by rw [z] at h2; unfold pS at h2; omega
    exact ⟨by rw [wU_ne h1, wU_ne h3], by rw [rg_up_ne _ h1, rg_up_ne _ h4, rg_up_ne _ h3]⟩) (fun l h => by rw [h]; unfold pH; omega) wl ac o1 o2 hf htf hTF kn ru1 ru2 (vTy_0 dt fv) p1.2 i1 i3 hE (eL_m it)
  have sch : cHg a d (fQ (x a d)) (pS a (fQ (x a d) + S0.length)) := Or.inr (Or.inl ⟨_, by omega, by omega, rfl⟩)
  have zch : cHg a d (fQ (x a d)) (pH (132 + a)) := Or.inr (Or.inr (Or.inr rfl))
  have kp : ∀ l, l ≠ pO o f → l ≠ pS a (fQ (x a d) + S0.length) → l ≠ pH (132 + a) → (wU (wU om.1 (pH (132 + a)) (om.1 (pO o f))) (pO o f) (om.1 (pS a (fQ (x a d) + S0.length)))) l = om.1 l ∧ (rg_up (rg_up (rg_up om.2.1 (pH (132 + a)) t) (pS a (fQ (x a d) + S0.length)) 0) (pO o f) tf) l = om.2.1 l := fun l h1 h2 h3 => ⟨by rw [wU_ne h1, wU_ne h3], by rw [rg_up_ne _ h1, rg_up_ne _ h2, rg_up_ne _ h3]⟩
  have cl : kCl a d (fBs (x a d)) sg (sPo sg a (fBs (x a d) + (mi (fMe (x a d))).2.2.2.2 + S0.length)) := kCl_q (fun _ _ => rfl)
  have rf : kRf a d (fQ (x a d)) s (rs_wA s 93 a (Int32.ofNat (fQ (x a d) + S0.length))) := kRf_A (Or.inr ⟨rfl, rfl⟩)
  obtain ⟨nms, ths, svl⟩ := fV0 (om' := ((wU (wU om.1 (pH (132 + a)) (om.1 (pO o f))) (pO o f) (om.1 (pS a (fQ (x a d) + S0.length)))), (rg_up (rg_up (rg_up om.2.1 (pH (132 + a)) t) (pS a (fQ (x a d) + S0.length)) 0) (pO o f) tf), g', om.2.2.2)) (sg' := sPo sg a (fBs (x a d) + (mi (fMe (x a d))).2.2.2.2 + S0.length)) (s' := rs_wA s 93 a (Int32.ofNat (fQ (x a d) + S0.length))) (X := [(tv, false, fL (x a d))]) (S0 := S0) (Qs := fun _ => False) it (Nat.le_refl _) i3 rfl eS pf (fun z hz _ => ⟨(kp _ oN_ne.symm nS_ne nH_ne).1, (kp _ oN_ne.symm nS_ne nH_ne).2, nH_ne⟩) ⟨(kp _ oH_ne.symm hS_ne (hH_ne (by omega))).1, (kp _ oH_ne.symm hS_ne (hH_ne (by omega))).2, hH_ne (by omega)⟩ (fun k hk => ⟨(kp _ oS_ne.symm (sS_ne (by omega)) hS_ne.symm).1, (kp _ oS_ne.symm (sS_ne (by omega)) hS_ne.symm).2, hS_ne.symm⟩) (by rw [cl.2.2.2.1 a 9 (Or.inr (by decide))]) (fun _ h => h.elim) (fun i _ _ => by rw [sQ_f]) rfl (fun _ _ _ => rfl) (fun _ _ => rfl)
  have itf := it_mf (om' := ((wU (wU om.1 (pH (132 + a)) (om.1 (pO o f))) (pO o f) (om.1 (pS a (fQ (x a d) + S0.length)))), (rg_up (rg_up (rg_up om.2.1 (pH (132 + a)) t) (pS a (fQ (x a d) + S0.length)) 0) (pO o f) tf), g', om.2.2.2)) (gn' := fGn (x a d)) it cl rf (fun l h1 h2 => kp l (fun z => h2 (z ▸ xlf)) (fun z => h1 (z ▸ sch)) (fun z => h1 (z ▸ zch))) i3' i1 rfl (fun y hy gy => nms y hy gy id (nm.1.2 y hy)) ths svl (SOK_q (by omega) o3' o4') (by rw [wA_get, if_pos ⟨rfl, rfl⟩]) (by omega)
  have itf2 := iTf_e (sg' := sW (sPo sg a (fBs (x a d) + (mi (fMe (x a d))).2.2.2.2 + S0.length)) 0 (la.1 o + 1 + f) (sg.2.2.2.1 a 12 (fBs (x a d) + (mi (fMe (x a d))).2.2.2.2 + S0.length))) (s' := rs_wB (rs_wA s 93 a (Int32.ofNat (fQ (x a d) + S0.length))) 96 (400 * a + la.2.2.1 o + f) (s.2.2 97 (10100 * a + (fQ (x a d) + S0.length)))) itf rfl rfl rfl rfl rfl
  rw [ecv] at w1
  rw [show rs_wB s 96 (400 * a + la.2.2.1 o + f) (om.1 (pS a (fQ (x a d) + S0.length))) = rs_wB s 96 (400 * a + la.2.2.1 o + f) (s.2.2 97 (10100 * a + (fQ (x a d) + S0.length))) from by rw [← evv]] at w1
  have w2 := wAl_k (E := fun _ => True) (lo := fBs (x a d)) (q0 := fQ (x a d)) (d := d) (a := a) (om' := ((wU (wU om.1 (pH (132 + a)) (om.1 (pO o f))) (pO o f) (om.1 (pS a (fQ (x a d) + S0.length)))), (rg_up (rg_up (rg_up om.2.1 (pH (132 + a)) t) (pS a (fQ (x a d) + S0.length)) 0) (pO o f) tf), g', om.2.2.2)) (sg' := sQ (sW sg 0 (la.1 o + 1 + f) (sg.2.2.2.1 a 12 (fBs (x a d) + (mi (fMe (x a d))).2.2.2.2 + S0.length))) a (sg.2.2.2.2 a 12) (sg.2.2.2.2 a 13) (sg.2.2.2.1 a 12) (fBs (x a d) + (mi (fMe (x a d))).2.2.2.2 + S0.length)) (s' := rs_wA (rs_wB s 96 (400 * a + la.2.2.1 o + f) (s.2.2 97 (10100 * a + (fQ (x a d) + S0.length)))) 93 a (Int32.ofNat (fQ (x a d) + S0.length))) w1 (kCl_q (fun _ _ => rfl)) (kRf_A (Or.inr ⟨rfl, rfl⟩)) (fun _ _ => ⟨rfl, rfl⟩) rSt_r (fun _ _ => trivial) trivial ⟨a12, ac⟩ i1 (Nat.le_refl N) rfl
  exact ⟨g', ⟨w2, itf2⟩, i2⟩
theorem it_sa7 (it : iTm sB A B mi kc om ka la ms N cn sg s D x a d) (eS : fSt (x a d) = (tv, false, fL (x a d)) :: S0) (pf : eLv (fL (x a d)) S0) (own : fRe (x a d) (fL (x a d)) = om.2.2.2.2 a) (hf : f < (kc (ka.2.1 a)).1) (htf : (kc (ka.2.1 a)).2.1 f = tf) (dt : dTy tf = true) (fit : fitC (cT tv) (cT tf) = 0) : ∃ g' : rGt, iTm sB A B mi kc ((wU (wU om.1 (pH (132 + a)) (om.1 (pF a f))) (pF a f) (om.1 (pS a (fQ (x a d) + S0.length)))), (rg_up (rg_up (rg_up (rg_up om.2.1 (pF a f) 0) (pH (132 + a)) tf) (pS a (fQ (x a d) + S0.length)) 0) (pF a f) tf), g', om.2.2.2) ka la ms N cn (sW (sPo sg a (fBs (x a d) + (mi (fMe (x a d))).2.2.2.2 + S0.length)) 0 (la.2.1 a + 1 + f) (sg.2.2.2.1 a 12 (fBs (x a d) + (mi (fMe (x a d))).2.2.2.2 + S0.length))) (rs_wB (rs_wA s 93 a (Int32.ofNat (fQ (x a d) + S0.length))) 95 (8 * a + f) (s.2.2 97 (10100 * a + (fQ (x a d) + S0.length)))) D (xU x a d (fMe (x a d), fL (x a d), fG (x a d), fGn (x a d), S0, fRe (x a d), fBs (x a d), fQ (x a d))) a d ∧ g'.1 (pH (132 + a)) = fRe (x a d) (fL (x a d)) := by
  obtain ⟨⟨a12, d10, u1, u2, u3, u4⟩, rq, fx, b3, r92, b8, gi, rl, ob4⟩ := it_f it
  have it0 := it
  obtain ⟨wl, _, _, ⟨_, ac, _⟩, vl, rg, nm, _, _, so, r93, _⟩ := it0
  have u3' : S0.length < 1010 := by rw [eS] at u3; exact u3
  have so' : SOK sg a ((fBs (x a d) + (mi (fMe (x a d))).2.2.2.2 + S0.length) + 1) := by rw [eS] at so; exact so
  obtain ⟨o1', o2', o3', o4'⟩ := so'
  have top := vl.2.2.2
  rw [eS] at top
  obtain ⟨⟨p1, p2, p3, p4, p5, p6⟩, _⟩ := top
  have q0 : (om.2.1 (pS a (fQ (x a d) + S0.length)) = tv ∧ (tv ≠ 0 → om.2.2.1.1 (pS a (fQ (x a d) + S0.length)) = fRe (x a d) (fL (x a d)))) := by
    rcases p4 with z | z
    · exact z
    · exact absurd z.1 Bool.false_ne_true
  have tv0 : tv ≠ 0 := by
    have := fit_c p5 dt fit
    omega
  have tf0 : tf ≠ 0 := by have := dTy_c dt; omega
  obtain ⟨hT, hr⟩ := q0
  have hr := hr tv0
  obtain ⟨r0, rN, ro⟩ := rg.1 (fL (x a d)) (Nat.le_refl _)
  have hE : ∀ y, y = 0 ∨ (y < N ∧ om.2.2.1.2.2.2.2 y ≠ a) → eLr om N a d (fL (x a d)) (x a) y := fun y hy => by
    rcases hy with z | z
    · exact Or.inl z
    · exact Or.inr (Or.inl z)
  have fr := fit_r p5 dt fit p1.1
  have fv := fit_v p5 dt fit p1.1
  have ecv : cvl (om.1 (pS a (fQ (x a d) + S0.length))) = (sg.2.2.2.1 a 12 (fBs (x a d) + (mi (fMe (x a d))).2.2.2.2 + S0.length)) := p2.symm
  have evv : om.1 (pS a (fQ (x a d) + S0.length)) = (s.2.2 97 (10100 * a + (fQ (x a d) + S0.length))) := p3.symm
  have ohr : om.2.2.1.1 (pF a f) = om.2.2.2.2 a := by
    obtain ⟨_, ⟨_, _, _, _, _, _, z⟩, _⟩ := wl.2.2.2.2.2 a ac
    exact (z f hf).2.1
  have wF : om.2.1 (pF a f) = tf ∧ vAl om ka a tf (om.1 (pF a f)) := by
    obtain ⟨_, ⟨_, _, _, _, _, _, z⟩, _⟩ := wl.2.2.2.2.2 a ac
    obtain ⟨z1, _, z3, _⟩ := z f hf
    rw [htf] at z1 z3
    exact ⟨z1, z3⟩
  have self : ∀ {t : Nat} {v : Int64}, vTy ka a t v → oV v = 0 ∨ (rg_good (t % 8) (t % 8) ∧ t % 8 ≤ 4 ∧ t % 8 ≤ 4) := by
    intro t v h
    by_cases o0 : oV v = 0
    · exact Or.inl o0
    · have := isO_c (vTy_o h o0).1
      right
      unfold rg_good
      omega
  have ER := eL_R (om := om) (N := N) (x := x) (a := a) (d := d) (Nat.le_refl (fL (x a d)))
  have fh : pF a f ≠ pH (132 + a) := by unfold pF pH; omega
  obtain ⟨g1, h1, h2, h3⟩ := lay_x (a := a) (b := a) (l0 := pF a f) (l1 := pH (132 + a)) (t1 := tf) (r := fRe (x a d) (fL (x a d))) (r1 := fRe (x a d) (fL (x a d))) gi (tOp_of it (Nat.le_refl _)) ER r0 r0 rN ro fh.symm ob_H (by rw [wF.1]; exact tf0) tf0 (by rw [ohr]; exact own.symm) (by rw [wF.1]; exact self wF.2.1) (Or.inl rfl)
  have a1 : (rg_up (rg_up om.2.1 (pF a f) 0) (pH (132 + a)) tf) (pS a (fQ (x a d) + S0.length)) = tv := by rw [rg_up_ne _ hS_ne.symm, rg_up_ne _ fS_ne.symm]; exact hT
  have b1 : (wU om.1 (pH (132 + a)) (om.1 (pF a f))) (pS a (fQ (x a d) + S0.length)) = om.1 (pS a (fQ (x a d) + S0.length)) := wU_ne hS_ne.symm
  have c1 : g1.1 (pS a (fQ (x a d) + S0.length)) = fRe (x a d) (fL (x a d)) := by rw [h3.2.1 _ hS_ne.symm (by rw [hr]; exact ER)]; exact hr
  obtain ⟨g', i1, i2, i3⟩ := lay_x (a := a) (b := a) (l0 := pS a (fQ (x a d) + S0.length)) (l1 := pF a f) (t1 := tf) (r := fRe (x a d) (fL (x a d))) (r1 := fRe (x a d) (fL (x a d))) h1 (tOp_k (tOp_of it (Nat.le_refl _)) h3) ER r0 r0 rN (by rw [(h3.1 _ ER).2.1]; exact ro) fS_ne ob_F (by rw [a1]; exact tv0) tf0 c1 (by rw [a1, b1]; exact fr) (Or.inl rfl)
  rw [b1] at i1
  have st : rSt a a (eLr om N a d (fL (x a d)) (x a)) (fun l => l = pF a f ∨ l = pH (132 + a)) om.2.2.1 g' := rSt_u (Or.inl rfl) (rSt_P h3 (fun _ h => Or.inr h)) (rSt_P i3 (fun _ h => Or.inl h))
  have sH : g'.1 (pH (132 + a)) = fRe (x a d) (fL (x a d)) := by rw [i3.2.1 _ fh.symm (by rw [h2]; exact ER)]; exact h2
  have i3' : rSt a a (eLr om N a d (fL (x a d)) (x a)) (cHg a d (fQ (x a d))) om.2.2.1 g' := ⟨st.1, fun l hc hx => by
    by_cases c : l = pF a f
    · rw [c, i2, own, ohr]
    · exact st.2.1 l (fun z => by
        rcases z with z | z
        · exact c z
        · exact hc (by rw [z]; exact Or.inr (Or.inr (Or.inr rfl)))) hx, st.2.2⟩
  have xlf : xCh om a (pF a f) := by
    have f8 := w_8 wl ac
    right
    unfold pF
    omega
  have w1 := wAl_fag (v := om.1 (pS a (fQ (x a d) + S0.length))) (W' := (wU (wU om.1 (pH (132 + a)) (om.1 (pF a f))) (pF a f) (om.1 (pS a (fQ (x a d) + S0.length))))) (T' := (rg_up (rg_up (rg_up (rg_up om.2.1 (pF a f) 0) (pH (132 + a)) tf) (pS a (fQ (x a d) + S0.length)) 0) (pF a f) tf)) (Pq := fun l => l = pF a f ∨ l = pH (132 + a)) (E := eLr om N a d (fL (x a d)) (x a)) wU_eq (rg_up_eq _ _ _) (fun l h1 h2 => by
    have h3 : l ≠ pH (132 + a) := fun z => by rw [z] at h2; unfold pH at h2; omega
    have h4 : l ≠ pS a (fQ (x a d) + S0.length) := fun z => by rw [z] at h2; unfold pS at h2; omega
    exact ⟨by rw [wU_ne h1, wU_ne h3], by rw [rg_up_ne _ h1, rg_up_ne _ h4, rg_up_ne _ h3, rg_up_ne _ h1]⟩) (fun l h => by
    rcases h with h | h
    · exact Or.inl h
    · right; rw [h]; unfold pH; omega) wl ac hf htf ⟨fv, p1.2⟩ i1 (i2.trans own) st hE (eL_m it)
  have sch : cHg a d (fQ (x a d)) (pS a (fQ (x a d) + S0.length)) := Or.inr (Or.inl ⟨_, by omega, by omega, rfl⟩)
  have zch : cHg a d (fQ (x a d)) (pH (132 + a)) := Or.inr (Or.inr (Or.inr rfl))
  have kp : ∀ l, l ≠ pF a f → l ≠ pS a (fQ (x a d) + S0.length) → l ≠ pH (132 + a) → (wU (wU om.1 (pH (132 + a)) (om.1 (pF a f))) (pF a f) (om.1 (pS a (fQ (x a d) + S0.length)))) l = om.1 l ∧ (rg_up (rg_up (rg_up (rg_up om.2.1 (pF a f) 0) (pH (132 + a)) tf) (pS a (fQ (x a d) + S0.length)) 0) (pF a f) tf) l = om.2.1 l := fun l h1 h2 h3 => ⟨by rw [wU_ne h1, wU_ne h3], by rw [rg_up_ne _ h1, rg_up_ne _ h2, rg_up_ne _ h3, rg_up_ne _ h1]⟩
  have cl : kCl a d (fBs (x a d)) sg (sPo sg a (fBs (x a d) + (mi (fMe (x a d))).2.2.2.2 + S0.length)) := kCl_q (fun _ _ => rfl)
  have rf : kRf a d (fQ (x a d)) s (rs_wA s 93 a (Int32.ofNat (fQ (x a d) + S0.length))) := kRf_A (Or.inr ⟨rfl, rfl⟩)
  obtain ⟨nms, ths, svl⟩ := fV0 (om' := ((wU (wU om.1 (pH (132 + a)) (om.1 (pF a f))) (pF a f) (om.1 (pS a (fQ (x a d) + S0.length)))), (rg_up (rg_up (rg_up (rg_up om.2.1 (pF a f) 0) (pH (132 + a)) tf) (pS a (fQ (x a d) + S0.length)) 0) (pF a f) tf), g', om.2.2.2)) (sg' := sPo sg a (fBs (x a d) + (mi (fMe (x a d))).2.2.2.2 + S0.length)) (s' := rs_wA s 93 a (Int32.ofNat (fQ (x a d) + S0.length))) (X := [(tv, false, fL (x a d))]) (S0 := S0) (Qs := fun _ => False) it (Nat.le_refl _) st rfl eS pf (fun z hz _ => ⟨(kp _ fN_ne.symm nS_ne nH_ne).1, (kp _ fN_ne.symm nS_ne nH_ne).2, fun y => y.elim (fun y => fN_ne.symm y) (fun y => nH_ne y)⟩) ⟨(kp _ fH_ne.symm hS_ne (hH_ne (by omega))).1, (kp _ fH_ne.symm hS_ne (hH_ne (by omega))).2, fun y => y.elim (fun y => fH_ne.symm y) (fun y => hH_ne (by omega) y)⟩ (fun k hk => ⟨(kp _ fS_ne.symm (sS_ne (by omega)) hS_ne.symm).1, (kp _ fS_ne.symm (sS_ne (by omega)) hS_ne.symm).2, fun y => y.elim (fun y => fS_ne.symm y) (fun y => hS_ne.symm y)⟩) (by rw [cl.2.2.2.1 a 9 (Or.inr (by decide))]) (fun _ h => h.elim) (fun i _ _ => by rw [sQ_f]) rfl (fun _ _ _ => rfl) (fun _ _ => rfl)
  have itf := it_mf (om' := ((wU (wU om.1 (pH (132 + a)) (om.1 (pF a f))) (pF a f) (om.1 (pS a (fQ (x a d) + S0.length)))), (rg_up (rg_up (rg_up (rg_up om.2.1 (pF a f) 0) (pH (132 + a)) tf) (pS a (fQ (x a d) + S0.length)) 0) (pF a f) tf), g', om.2.2.2)) (gn' := fGn (x a d)) it cl rf (fun l h1 h2 => kp l (fun z => h2 (z ▸ xlf)) (fun z => h1 (z ▸ sch)) (fun z => h1 (z ▸ zch))) i3' i1 rfl (fun y hy gy => nms y hy gy id (nm.1.2 y hy)) ths svl (SOK_q (by omega) o3' o4') (by rw [wA_get, if_pos ⟨rfl, rfl⟩]) (by omega)
  have itf2 := iTf_e (sg' := sW (sPo sg a (fBs (x a d) + (mi (fMe (x a d))).2.2.2.2 + S0.length)) 0 (la.2.1 a + 1 + f) (sg.2.2.2.1 a 12 (fBs (x a d) + (mi (fMe (x a d))).2.2.2.2 + S0.length))) (s' := rs_wB (rs_wA s 93 a (Int32.ofNat (fQ (x a d) + S0.length))) 95 (8 * a + f) (s.2.2 97 (10100 * a + (fQ (x a d) + S0.length)))) itf rfl rfl rfl rfl rfl
  rw [ecv] at w1
  rw [show rs_wB s 95 (8 * a + f) (om.1 (pS a (fQ (x a d) + S0.length))) = rs_wB s 95 (8 * a + f) (s.2.2 97 (10100 * a + (fQ (x a d) + S0.length))) from by rw [← evv]] at w1
  have w2 := wAl_k (E := fun _ => True) (lo := fBs (x a d)) (q0 := fQ (x a d)) (d := d) (a := a) (om' := ((wU (wU om.1 (pH (132 + a)) (om.1 (pF a f))) (pF a f) (om.1 (pS a (fQ (x a d) + S0.length)))), (rg_up (rg_up (rg_up (rg_up om.2.1 (pF a f) 0) (pH (132 + a)) tf) (pS a (fQ (x a d) + S0.length)) 0) (pF a f) tf), g', om.2.2.2)) (sg' := sQ (sW sg 0 (la.2.1 a + 1 + f) (sg.2.2.2.1 a 12 (fBs (x a d) + (mi (fMe (x a d))).2.2.2.2 + S0.length))) a (sg.2.2.2.2 a 12) (sg.2.2.2.2 a 13) (sg.2.2.2.1 a 12) (fBs (x a d) + (mi (fMe (x a d))).2.2.2.2 + S0.length)) (s' := rs_wA (rs_wB s 95 (8 * a + f) (s.2.2 97 (10100 * a + (fQ (x a d) + S0.length)))) 93 a (Int32.ofNat (fQ (x a d) + S0.length))) w1 (kCl_q (fun _ _ => rfl)) (kRf_A (Or.inr ⟨rfl, rfl⟩)) (fun _ _ => ⟨rfl, rfl⟩) rSt_r (fun _ _ => trivial) trivial ⟨a12, ac⟩ i1 (Nat.le_refl N) rfl
  exact ⟨g', ⟨w2, itf2⟩, sH⟩
end JSX
