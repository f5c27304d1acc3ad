/-! A VALUE FROM THE STACK IS LAID INTO A FIELD. -/
section JSO
variable {sB : rS} {A B : Nat → Int32} {mi : Nat → Nat × Nat × Nat × Nat × Nat} {kc : kCi} {om om' : oMg} {ka ka' : kAp} {la : lAy} {ms : mSg} {N N' cn : Nat} {sg sg' sg2 : cS} {s s' s2 S1 : rS} {a b d e lo q0 J l t r i n p q k k2 f0 w P L sz lv : Nat} {xs : Nat → Int32} {zf : Value} {Z : Nat → Prop} {hB h h' : rm_H} {es : List Nat} {x : Nat → Nat → fDs} {D : Nat → Nat} {S S0 X : List stE} {v : Int64} {y : Int32}
variable {o f tf tv c : Nat}
theorem vTy_0 {t : Nat} (dt : dTy t = true) (h : vTy ka a t v) : vTy ka 0 t v := by
  have dc := dTy_c dt
  rcases h with h | h | h | h | h
  · exact Or.inl h
  · exact Or.inr (Or.inl h)
  · exact Or.inr (Or.inr (Or.inl h))
  · exact Or.inr (Or.inr (Or.inr (Or.inl h)))
  · omega
theorem it_so (it : iTm sB A B mi kc om ka la ms N cn sg s D x a d) (eS : fSt (x a d) = (tv, false, fL (x a d)) :: S0) (pf : eLv (fL (x a d)) S0) (hld : hLd om a c o (fRe (x a d) (fL (x a d)))) (o1 : 1 ≤ o) (o2 : o ≤ ka.2.2.1) (kn : om.2.2.2.1 a o) (c2 : c ≤ 2) (hf : f < (kc (ka.1 o)).1) (htf : (kc (ka.1 o)).2.1 f = tf) (safe : isO tv = true → lkV 2 (Int32.ofNat c) (Int32.ofNat (tv % 8)) = 1) (dt : dTy tf = true) (fit : fitC (cT tv) (cT tf) = 0) : ∃ g' : rGt, iTm sB A B mi kc (wU om.1 (pO o f) (om.1 (pS a (fQ (x a d) + S0.length))), rg_up (rg_up om.2.1 (pS a (fQ (x a d) + S0.length)) 0) (pO o f) tf, g', om.2.2.2) ka la ms N cn (sW (sPo sg a (fBs (x a d) + (mi (fMe (x a d))).2.2.2.2 + S0.length)) 0 (la.1 o + 1 + f) (sg.2.2.2.1 a 12 (fBs (x a d) + (mi (fMe (x a d))).2.2.2.2 + S0.length))) (rs_wB (rs_wA s 93 a (Int32.ofNat (fQ (x a d) + S0.length))) 96 (400 * a + la.2.2.1 o + f) (s.2.2 97 (10100 * a + (fQ (x a d) + S0.length)))) D (xU x a d (fMe (x a d), fL (x a d), fG (x a d), fGn (x a d), S0, fRe (x a d), fBs (x a d), fQ (x a d))) a d ∧ rSt a a (eLr om N a d (fL (x a d)) (x a)) (fun l => l = pF a f) om.2.2.1 g' := by
  obtain ⟨⟨a12, d10, u1, u2, u3, u4⟩, rq, fx, b3, r92, b8, gi, rl, ob4⟩ := it_f it
  have it0 := it
  obtain ⟨wl, _, _, ⟨_, ac, _⟩, vl, rg, nm, _, _, so, r93, _⟩ := it0
  have u3' : S0.length < 1010 := by rw [eS] at u3; exact u3
  have so' : SOK sg a ((fBs (x a d) + (mi (fMe (x a d))).2.2.2.2 + S0.length) + 1) := by rw [eS] at so; exact so
  obtain ⟨o1', o2', o3', o4'⟩ := so'
  have top := vl.2.2.2
  rw [eS] at top
  obtain ⟨⟨p1, p2, p3, p4, p5, p6⟩, _⟩ := top
  have q0 : (om.2.1 (pS a (fQ (x a d) + S0.length)) = tv ∧ (tv ≠ 0 → om.2.2.1.1 (pS a (fQ (x a d) + S0.length)) = fRe (x a d) (fL (x a d)))) := by
    rcases p4 with z | z
    · exact z
    · exact absurd z.1 Bool.false_ne_true
  have tv0 : tv ≠ 0 := by
    have := fit_c p5 dt fit
    omega
  have tf0 : tf ≠ 0 := by have := dTy_c dt; omega
  obtain ⟨hT, hr⟩ := q0
  have hr := hr tv0
  obtain ⟨r0, rN, ro⟩ := rg.1 (fL (x a d)) (Nat.le_refl _)
  have hE : ∀ y, y = 0 ∨ (y < N ∧ om.2.2.1.2.2.2.2 y ≠ a) → eLr om N a d (fL (x a d)) (x a) y := fun y hy => by
    rcases hy with z | z
    · exact Or.inl z
    · exact Or.inr (Or.inl z)
  have fr := fit_r p5 dt fit p1.1
  have fv := fit_v p5 dt fit p1.1
  have ecv : cvl (om.1 (pS a (fQ (x a d) + S0.length))) = (sg.2.2.2.1 a 12 (fBs (x a d) + (mi (fMe (x a d))).2.2.2.2 + S0.length)) := p2.symm
  have evv : om.1 (pS a (fQ (x a d) + S0.length)) = (s.2.2 97 (10100 * a + (fQ (x a d) + S0.length))) := p3.symm
  have f8 : f < 8 := by
    obtain ⟨⟨_, _, z⟩, _⟩ := wl.2.2.2.1 o o1 o2
    omega
  have hTF : om.2.1 (pO o f) = tf := by
    obtain ⟨_, _, _, _, _, _, _, z⟩ := wl.2.2.2.1 o o1 o2
    exact (z f hf).1.trans htf
  obtain ⟨⟨ru1, ru2⟩, g', i1, i3⟩ := GI_fld (l0 := pS a (fQ (x a d) + S0.length)) (tf := tf) (f := f) gi (tOp_of it (Nat.le_refl _)) hld (by omega) o2 c2 f8 r0 rN ro (by rw [hT]; exact tv0) tf0 hr (by unfold lOf pS; unfold pH; omega) (by unfold pS; omega) (by rw [hT]; exact fr) (fun o0 => by
    rw [hT]
    have ot := (vTy_o p1.1 o0).1
    have tc := isO_c ot
    exact sf_c (by omega) (by omega) (safe ot))
  have i3' : rSt a a (eLr om N a d (fL (x a d)) (x a)) (cHg a d (fQ (x a d))) om.2.2.1 g' := rSt_P i3 (fun _ h => h.elim)
  have I3F : rSt a a (eLr om N a d (fL (x a d)) (x a)) (fun l => l = pF a f) om.2.2.1 g' := rSt_P i3 (fun _ h => h.elim)
  have xlf : xCh om a (pO o f) := by
    left
    refine ⟨by unfold pO; omega, ?_⟩
    have := gi.1.2.2.2 (pO o f) (by rw [ob_O f8]; omega)
    rw [ob_O f8] at this
    rw [this]
    exact ru2
  have w1 := wAl_f (l0 := pS a (fQ (x a d) + S0.length)) (E := eLr om N a d (fL (x a d)) (x a)) (by unfold pS; omega) wl ac o1 o2 hf htf hTF kn ru1 ru2 (vTy_0 dt fv) p1.2 i1 i3 hE (eL_m it)
  have sch : cHg a d (fQ (x a d)) (pS a (fQ (x a d) + S0.length)) := Or.inr (Or.inl ⟨_, by omega, by omega, rfl⟩)
  have kp : ∀ l, l ≠ pO o f → l ≠ pS a (fQ (x a d) + S0.length) → wU om.1 (pO o f) (om.1 (pS a (fQ (x a d) + S0.length))) l = om.1 l ∧ rg_up (rg_up om.2.1 (pS a (fQ (x a d) + S0.length)) 0) (pO o f) tf l = om.2.1 l := fun l h1 h2 => ⟨wU_ne h1, by rw [rg_up_ne _ h1, rg_up_ne _ h2]⟩
  have cl : kCl a d (fBs (x a d)) sg (sPo sg a (fBs (x a d) + (mi (fMe (x a d))).2.2.2.2 + S0.length)) := kCl_q (fun _ _ => rfl)
  have rf : kRf a d (fQ (x a d)) s (rs_wA s 93 a (Int32.ofNat (fQ (x a d) + S0.length))) := kRf_A (Or.inr ⟨rfl, rfl⟩)
  obtain ⟨nms, ths, svl⟩ := fV0 (om' := (wU om.1 (pO o f) (om.1 (pS a (fQ (x a d) + S0.length))), rg_up (rg_up om.2.1 (pS a (fQ (x a d) + S0.length)) 0) (pO o f) tf, g', om.2.2.2)) (sg' := sPo sg a (fBs (x a d) + (mi (fMe (x a d))).2.2.2.2 + S0.length)) (s' := rs_wA s 93 a (Int32.ofNat (fQ (x a d) + S0.length))) (X := [(tv, false, fL (x a d))]) (S0 := S0) (Qs := fun _ => False) it (Nat.le_refl _) i3 rfl eS pf (fun z hz _ => ⟨(kp _ oN_ne.symm nS_ne).1, (kp _ oN_ne.symm nS_ne).2, id⟩) ⟨(kp _ oH_ne.symm hS_ne).1, (kp _ oH_ne.symm hS_ne).2, id⟩ (fun k hk => ⟨(kp _ oS_ne.symm (sS_ne (by omega))).1, (kp _ oS_ne.symm (sS_ne (by omega))).2, id⟩) (by rw [cl.2.2.2.1 a 9 (Or.inr (by decide))]) (fun _ h => h.elim) (fun i _ _ => by rw [sQ_f]) rfl (fun _ _ _ => rfl) (fun _ _ => rfl)
  have itf := it_mf (om' := (wU om.1 (pO o f) (om.1 (pS a (fQ (x a d) + S0.length))), rg_up (rg_up om.2.1 (pS a (fQ (x a d) + S0.length)) 0) (pO o f) tf, g', om.2.2.2)) (gn' := fGn (x a d)) it cl rf (fun l h1 h2 => kp l (fun z => h2 (z ▸ xlf)) (fun z => h1 (z ▸ sch))) i3' i1 rfl (fun y hy gy => nms y hy gy id (nm.1.2 y hy)) ths svl (SOK_q (by omega) o3' o4') (by rw [wA_get, if_pos ⟨rfl, rfl⟩]) (by omega)
  have itf2 := iTf_e (sg' := sW (sPo sg a (fBs (x a d) + (mi (fMe (x a d))).2.2.2.2 + S0.length)) 0 (la.1 o + 1 + f) (sg.2.2.2.1 a 12 (fBs (x a d) + (mi (fMe (x a d))).2.2.2.2 + S0.length))) (s' := rs_wB (rs_wA s 93 a (Int32.ofNat (fQ (x a d) + S0.length))) 96 (400 * a + la.2.2.1 o + f) (s.2.2 97 (10100 * a + (fQ (x a d) + S0.length)))) itf rfl rfl rfl rfl rfl
  rw [ecv] at w1
  rw [show rs_wB s 96 (400 * a + la.2.2.1 o + f) (om.1 (pS a (fQ (x a d) + S0.length))) = rs_wB s 96 (400 * a + la.2.2.1 o + f) (s.2.2 97 (10100 * a + (fQ (x a d) + S0.length))) from by rw [← evv]] at w1
  have w2 := wAl_k (E := fun _ => True) (lo := fBs (x a d)) (q0 := fQ (x a d)) (d := d) (a := a) (om' := (wU om.1 (pO o f) (om.1 (pS a (fQ (x a d) + S0.length))), rg_up (rg_up om.2.1 (pS a (fQ (x a d) + S0.length)) 0) (pO o f) tf, g', om.2.2.2)) (sg' := sQ (sW sg 0 (la.1 o + 1 + f) (sg.2.2.2.1 a 12 (fBs (x a d) + (mi (fMe (x a d))).2.2.2.2 + S0.length))) a (sg.2.2.2.2 a 12) (sg.2.2.2.2 a 13) (sg.2.2.2.1 a 12) (fBs (x a d) + (mi (fMe (x a d))).2.2.2.2 + S0.length)) (s' := rs_wA (rs_wB s 96 (400 * a + la.2.2.1 o + f) (s.2.2 97 (10100 * a + (fQ (x a d) + S0.length)))) 93 a (Int32.ofNat (fQ (x a d) + S0.length))) w1 (kCl_q (fun _ _ => rfl)) (kRf_A (Or.inr ⟨rfl, rfl⟩)) (fun _ _ => ⟨rfl, rfl⟩) rSt_r (fun _ _ => trivial) trivial ⟨a12, ac⟩ i1 (Nat.le_refl N) rfl
  exact ⟨g', ⟨w2, itf2⟩, I3F⟩
theorem it_sa (it : iTm sB A B mi kc om ka la ms N cn sg s D x a d) (eS : fSt (x a d) = (tv, false, fL (x a d)) :: S0) (pf : eLv (fL (x a d)) S0) (own : fRe (x a d) (fL (x a d)) = om.2.2.2.2 a) (hf : f < (kc (ka.2.1 a)).1) (htf : (kc (ka.2.1 a)).2.1 f = tf) (dt : dTy tf = true) (fit : fitC (cT tv) (cT tf) = 0) : ∃ g' : rGt, iTm sB A B mi kc (wU om.1 (pF a f) (om.1 (pS a (fQ (x a d) + S0.length))), rg_up (rg_up om.2.1 (pS a (fQ (x a d) + S0.length)) 0) (pF a f) tf, g', om.2.2.2) ka la ms N cn (sW (sPo sg a (fBs (x a d) + (mi (fMe (x a d))).2.2.2.2 + S0.length)) 0 (la.2.1 a + 1 + f) (sg.2.2.2.1 a 12 (fBs (x a d) + (mi (fMe (x a d))).2.2.2.2 + S0.length))) (rs_wB (rs_wA s 93 a (Int32.ofNat (fQ (x a d) + S0.length))) 95 (8 * a + f) (s.2.2 97 (10100 * a + (fQ (x a d) + S0.length)))) D (xU x a d (fMe (x a d), fL (x a d), fG (x a d), fGn (x a d), S0, fRe (x a d), fBs (x a d), fQ (x a d))) a d ∧ rSt a a (eLr om N a d (fL (x a d)) (x a)) (fun l => l = pF a f) om.2.2.1 g' := by
  obtain ⟨⟨a12, d10, u1, u2, u3, u4⟩, rq, fx, b3, r92, b8, gi, rl, ob4⟩ := it_f it
  have it0 := it
  obtain ⟨wl, _, _, ⟨_, ac, _⟩, vl, rg, nm, _, _, so, r93, _⟩ := it0
  have u3' : S0.length < 1010 := by rw [eS] at u3; exact u3
  have so' : SOK sg a ((fBs (x a d) + (mi (fMe (x a d))).2.2.2.2 + S0.length) + 1) := by rw [eS] at so; exact so
  obtain ⟨o1', o2', o3', o4'⟩ := so'
  have top := vl.2.2.2
  rw [eS] at top
  obtain ⟨⟨p1, p2, p3, p4, p5, p6⟩, _⟩ := top
  have q0 : (om.2.1 (pS a (fQ (x a d) + S0.length)) = tv ∧ (tv ≠ 0 → om.2.2.1.1 (pS a (fQ (x a d) + S0.length)) = fRe (x a d) (fL (x a d)))) := by
    rcases p4 with z | z
    · exact z
    · exact absurd z.1 Bool.false_ne_true
  have tv0 : tv ≠ 0 := by
    have := fit_c p5 dt fit
    omega
  have tf0 : tf ≠ 0 := by have := dTy_c dt; omega
  obtain ⟨hT, hr⟩ := q0
  have hr := hr tv0
  obtain ⟨r0, rN, ro⟩ := rg.1 (fL (x a d)) (Nat.le_refl _)
  have hE : ∀ y, y = 0 ∨ (y < N ∧ om.2.2.1.2.2.2.2 y ≠ a) → eLr om N a d (fL (x a d)) (x a) y := fun y hy => by
    rcases hy with z | z
    · exact Or.inl z
    · exact Or.inr (Or.inl z)
  have fr := fit_r p5 dt fit p1.1
  have fv := fit_v p5 dt fit p1.1
  have ecv : cvl (om.1 (pS a (fQ (x a d) + S0.length))) = (sg.2.2.2.1 a 12 (fBs (x a d) + (mi (fMe (x a d))).2.2.2.2 + S0.length)) := p2.symm
  have evv : om.1 (pS a (fQ (x a d) + S0.length)) = (s.2.2 97 (10100 * a + (fQ (x a d) + S0.length))) := p3.symm
  obtain ⟨g', i1, i2, i3⟩ := lay_x (a := a) (b := a) (l0 := pS a (fQ (x a d) + S0.length)) (l1 := pF a f) (t1 := tf) (r := fRe (x a d) (fL (x a d))) (r1 := fRe (x a d) (fL (x a d))) gi (tOp_of it (Nat.le_refl _)) (eL_R (Nat.le_refl _)) r0 r0 rN ro fS_ne ob_F (by rw [hT]; exact tv0) tf0 hr (by rw [hT]; exact fr) (Or.inl rfl)
  have ohr : om.2.2.1.1 (pF a f) = om.2.2.2.2 a := by
    obtain ⟨_, ⟨_, _, _, _, _, _, z⟩, _⟩ := wl.2.2.2.2.2 a ac
    exact (z f hf).2.1
  have i3' : rSt a a (eLr om N a d (fL (x a d)) (x a)) (cHg a d (fQ (x a d))) om.2.2.1 g' := ⟨i3.1, fun l _ hx => by
    by_cases c : l = pF a f
    · rw [c, i2, own, ohr]
    · exact i3.2.1 l c hx, i3.2.2⟩
  have I3F := i3
  have xlf : xCh om a (pF a f) := by
    have f8 := w_8 wl ac
    right
    unfold pF
    omega
  have w1 := wAl_fa (l0 := pS a (fQ (x a d) + S0.length)) (E := eLr om N a d (fL (x a d)) (x a)) (by unfold pS; omega) wl ac hf htf ⟨fv, p1.2⟩ i1 (i2.trans own) i3 hE (eL_m it)
  have sch : cHg a d (fQ (x a d)) (pS a (fQ (x a d) + S0.length)) := Or.inr (Or.inl ⟨_, by omega, by omega, rfl⟩)
  have kp : ∀ l, l ≠ pF a f → l ≠ pS a (fQ (x a d) + S0.length) → wU om.1 (pF a f) (om.1 (pS a (fQ (x a d) + S0.length))) l = om.1 l ∧ rg_up (rg_up om.2.1 (pS a (fQ (x a d) + S0.length)) 0) (pF a f) tf l = om.2.1 l := fun l h1 h2 => ⟨wU_ne h1, by rw [rg_up_ne _ h1, rg_up_ne _ h2]⟩
  have cl : kCl a d (fBs (x a d)) sg (sPo sg a (fBs (x a d) + (mi (fMe (x a d))).2.2.2.2 + S0.length)) := kCl_q (fun _ _ => rfl)
  have rf : kRf a d (fQ (x a d)) s (rs_wA s 93 a (Int32.ofNat (fQ (x a d) + S0.length))) := kRf_A (Or.inr ⟨rfl, rfl⟩)
  obtain ⟨nms, ths, svl⟩ := fV0 (om' := (wU om.1 (pF a f) (om.1 (pS a (fQ (x a d) + S0.length))), rg_up (rg_up om.2.1 (pS a (fQ (x a d) + S0.length)) 0) (pF a f) tf, g', om.2.2.2)) (sg' := sPo sg a (fBs (x a d) + (mi (fMe (x a d))).2.2.2.2 + S0.length)) (s' := rs_wA s 93 a (Int32.ofNat (fQ (x a d) + S0.length))) (X := [(tv, false, fL (x a d))]) (S0 := S0) (Qs := fun _ => False) it (Nat.le_refl _) i3 rfl eS pf (fun z hz _ => ⟨(kp _ fN_ne.symm nS_ne).1, (kp _ fN_ne.symm nS_ne).2, fN_ne.symm⟩) ⟨(kp _ fH_ne.symm hS_ne).1, (kp _ fH_ne.symm hS_ne).2, fH_ne.symm⟩ (fun k hk => ⟨(kp _ fS_ne.symm (sS_ne (by omega))).1, (kp _ fS_ne.symm (sS_ne (by omega))).2, fS_ne.symm⟩) (by rw [cl.2.2.2.1 a 9 (Or.inr (by decide))]) (fun _ h => h.elim) (fun i _ _ => by rw [sQ_f]) rfl (fun _ _ _ => rfl) (fun _ _ => rfl)
  have itf := it_mf (om' := (wU om.1 (pF a f) (om.1 (pS a (fQ (x a d) + S0.length))), rg_up (rg_up om.2.1 (pS a (fQ (x a d) + S0.length)) 0) (pF a f) tf, g', om.2.2.2)) (gn' := fGn (x a d)) it cl rf (fun l h1 h2 => kp l (fun z => h2 (z ▸ xlf)) (fun z => h1 (z ▸ sch))) i3' i1 rfl (fun y hy gy => nms y hy gy id (nm.1.2 y hy)) ths svl (SOK_q (by omega) o3' o4') (by rw [wA_get, if_pos ⟨rfl, rfl⟩]) (by omega)
  have itf2 := iTf_e (sg' := sW (sPo sg a (fBs (x a d) + (mi (fMe (x a d))).2.2.2.2 + S0.length)) 0 (la.2.1 a + 1 + f) (sg.2.2.2.1 a 12 (fBs (x a d) + (mi (fMe (x a d))).2.2.2.2 + S0.length))) (s' := rs_wB (rs_wA s 93 a (Int32.ofNat (fQ (x a d) + S0.length))) 95 (8 * a + f) (s.2.2 97 (10100 * a + (fQ (x a d) + S0.length)))) itf rfl rfl rfl rfl rfl
  rw [ecv] at w1
  rw [show rs_wB s 95 (8 * a + f) (om.1 (pS a (fQ (x a d) + S0.length))) = rs_wB s 95 (8 * a + f) (s.2.2 97 (10100 * a + (fQ (x a d) + S0.length))) from by rw [← evv]] at w1
  have w2 := wAl_k (E := fun _ => True) (lo := fBs (x a d)) (q0 := fQ (x a d)) (d := d) (a := a) (om' := (wU om.1 (pF a f) (om.1 (pS a (fQ (x a d) + S0.length))), rg_up (rg_up om.2.1 (pS a (fQ (x a d) + S0.length)) 0) (pF a f) tf, g', om.2.2.2)) (sg' := sQ (sW sg 0 (la.2.1 a + 1 + f) (sg.2.2.2.1 a 12 (fBs (x a d) + (mi (fMe (x a d))).2.2.2.2 + S0.length))) a (sg.2.2.2.2 a 12) (sg.2.2.2.2 a 13) (sg.2.2.2.1 a 12) (fBs (x a d) + (mi (fMe (x a d))).2.2.2.2 + S0.length)) (s' := rs_wA (rs_wB s 95 (8 * a + f) (s.2.2 97 (10100 * a + (fQ (x a d) + S0.length)))) 93 a (Int32.ofNat (fQ (x a d) + S0.length))) w1 (kCl_q (fun _ _ => rfl)) (kRf_A (Or.inr ⟨rfl, rfl⟩)) (fun _ _ => ⟨rfl, rfl⟩) rSt_r (fun _ _ => trivial) trivial ⟨a12, ac⟩ i1 (Nat.le_refl N) rfl
  exact ⟨g', ⟨w2, itf2⟩, I3F⟩
end JSO
