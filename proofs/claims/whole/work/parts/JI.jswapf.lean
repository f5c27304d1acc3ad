/-! A FIELD IS SWAPPED BY BOTH. -/
section JSY
variable {sB : rS} {A B : Nat → Int32} {mi : Nat → Nat × Nat × Nat × Nat × Nat} {kc : kCi} {om om' : oMg} {ka ka' : kAp} {la : lAy} {ms : mSg} {N N' cn : Nat} {sg sg' sg2 : cS} {s s' s2 S1 : rS} {a b d e lo q0 J l t r i n p q k k2 f0 w P L sz lv : Nat} {xs : Nat → Int32} {zf : Value} {Z : Nat → Prop} {hB h h' : rm_H} {es : List Nat} {x : Nat → Nat → fDs} {D : Nat → Nat} {S S0 X : List stE} {v : Int64} {y : Int32}
variable {o f tf tv ta c : Nat}
/-- what was kept aside is pushed -/
theorem J_7p {z c1 : Nat} {g1 : Nat → Int32} (it : iTm sB A B mi kc om ka la ms N cn sg s D x a d) (q4 : q < 4400) (pl : isPl (sB.2.1 44 q) = false) (ec : EC sB A B (fMe (x a d)) (mi (fMe (x a d))).1 (mi (fMe (x a d))).2.1 (mi (fMe (x a d))).2.2.1 q (p + 1) (fL (x a d)) (fG (x a d)) (fGn (x a d)) t (fSt (x a d))) (n7 : sg.2.2.2.1 a 7 d = Int32.ofNat (p + 1)) (gt : gTy t = true) (t0 : t ≠ 0) (t6 : ¬ (8 ≤ t ∧ t % 8 = 6)) (hT : om.2.1 (pH (132 + a)) = t) (hr : om.2.2.1.1 (pH (132 + a)) = fRe (x a d) (fL (x a d))) (val : vAl om ka a t (om.1 (pH (132 + a)))) (stn : STN sg a (fBs (x a d) + (mi (fMe (x a d))).2.2.2.2 + (fSt (x a d)).length) z c1 g1 ((fBs (x a d) + (mi (fMe (x a d))).2.2.2.2 + (fSt (x a d)).length) + 1)) (ff : g1 (fBs (x a d) + (mi (fMe (x a d))).2.2.2.2 + (fSt (x a d)).length) = cvl (om.1 (pH (132 + a)))) : ∃ q', bhd sB 1 q q' ∧ ∃ om2 N2 x2, rUn sB A B mi kc om2 ka la ms N2 cn (sQ sg a z c1 g1 ((fBs (x a d) + (mi (fMe (x a d))).2.2.2.2 + (fSt (x a d)).length) + 1)) (rs_wA (sPsh s a (fQ (x a d) + (fSt (x a d)).length) (om.1 (pH (132 + a)))) 99 (10 * a + d) (Int32.ofNat q')) D x2 := by
  obtain ⟨⟨a12, d10, u1, u2, u3, u4⟩, rq, fx, b3, r92, b8, gi, rl, ob4⟩ := it_f it
  have it0 := it
  obtain ⟨wl, _, _, ⟨_, ac, _⟩, vl, rg, nm, _, _, so, r93, _⟩ := it0
  have len := ec_len it q4 ec
  have pf := LV_EC ec
  obtain ⟨r0, rN, ro⟩ := rg.1 (fL (x a d)) (Nat.le_refl _)
  have ER := eL_R (om := om) (N := N) (x := x) (a := a) (d := d) (Nat.le_refl (fL (x a d)))
  have c4 : c1 ≤ 40000 := by
    rcases stn.2.2.2 with z | z
    · exact Nat.le_trans z so.2.2.2
    · omega
  obtain ⟨g', i1, i2, i3⟩ := lay_x (a := a) (b := a) (l0 := (pH (132 + a))) (l1 := (pS a (fQ (x a d) + (fSt (x a d)).length))) (t1 := t) (r := fRe (x a d) (fL (x a d))) (r1 := fRe (x a d) (fL (x a d))) gi (tOp_of it (Nat.le_refl _)) ER r0 r0 rN ro hS_ne.symm ob_S (by rw [hT]; exact t0) t0 hr (by
    rw [hT]
    by_cases o0 : oV (om.1 (pH (132 + a))) = 0
    · exact Or.inl o0
    · have := isO_c (vTy_o val.1 o0).1
      right
      unfold rg_good
      omega) (Or.inl rfl)
  obtain ⟨q', lv', S', bh, hl', pt, hS'⟩ := AD_E nm.2.2.2.2.2.1 nm.2.2.2.2.1 nm.1 q4 ec
  rw [pl] at hS'
  have kp : ∀ l, l ≠ (pS a (fQ (x a d) + (fSt (x a d)).length)) → l ≠ (pH (132 + a)) → (wU om.1 (pS a (fQ (x a d) + (fSt (x a d)).length)) (om.1 (pH (132 + a)))) l = om.1 l ∧ (rg_up (rg_up om.2.1 (pH (132 + a)) 0) (pS a (fQ (x a d) + (fSt (x a d)).length)) t) l = om.2.1 l ∧ ¬ (fun z => z = (pS a (fQ (x a d) + (fSt (x a d)).length))) l := fun l h1 h2 => ⟨wU_ne h1, by rw [rg_up_ne _ h1, rg_up_ne _ h2], h1⟩
  have sch : cHg a d (fQ (x a d)) (pS a (fQ (x a d) + (fSt (x a d)).length)) := Or.inr (Or.inl ⟨_, by omega, by omega, rfl⟩)
  have zch : cHg a d (fQ (x a d)) (pH (132 + a)) := Or.inr (Or.inr (Or.inr rfl))
  have cl : kCl a d (fBs (x a d)) sg (sQ sg a z c1 g1 ((fBs (x a d) + (mi (fMe (x a d))).2.2.2.2 + (fSt (x a d)).length) + 1)) := kCl_q (fun i hi => stn.1 i (by omega))
  have rf : kRf a d (fQ (x a d)) s (rs_wA (sPsh s a (fQ (x a d) + (fSt (x a d)).length) (om.1 (pH (132 + a)))) 99 (10 * a + d) (Int32.ofNat q')) := kRf_t (kRf_p (by omega) (by omega)) (kRf_A (Or.inl ⟨rfl, rfl⟩))
  have eW : (wU om.1 (pS a (fQ (x a d) + (fSt (x a d)).length)) (om.1 (pH (132 + a)))) (pS a (fQ (x a d) + (fSt (x a d)).length)) = om.1 (pH (132 + a)) := wU_eq
  obtain ⟨nms, ths, svl⟩ := fV0 (om' := ((wU om.1 (pS a (fQ (x a d) + (fSt (x a d)).length)) (om.1 (pH (132 + a)))), (rg_up (rg_up om.2.1 (pH (132 + a)) 0) (pS a (fQ (x a d) + (fSt (x a d)).length)) t), g', om.2.2.2)) (sg' := (sQ sg a z c1 g1 ((fBs (x a d) + (mi (fMe (x a d))).2.2.2.2 + (fSt (x a d)).length) + 1))) (s' := (rs_wA (sPsh s a (fQ (x a d) + (fSt (x a d)).length) (om.1 (pH (132 + a)))) 99 (10 * a + d) (Int32.ofNat q'))) (X := []) (S0 := fSt (x a d)) (Qs := fun _ => False) it (Nat.le_refl _) i3 rfl rfl pf (fun z hz _ => kp _ nS_ne nH_ne) (kp _ hS_ne (hH_ne (by omega))) (fun k hk => kp _ (sS_ne (by omega)) hS_ne.symm) (by rw [cl.2.2.2.1 a 9 (Or.inr (by decide))]) (fun _ h => h.elim) (fun i hi _ => by rw [sQ_f]; exact stn.1 i (by omega)) (rf.2.2 100 _ (by omega) (by omega)) (fun z _ _ => by rw [ps_L (Or.inl (by decide))]) (fun k hk => by rw [ps_L (Or.inr (by omega))])
  obtain ⟨om2, N2, x2, ru⟩ := PSE (om' := ((wU om.1 (pS a (fQ (x a d) + (fSt (x a d)).length)) (om.1 (pH (132 + a)))), (rg_up (rg_up om.2.1 (pH (132 + a)) 0) (pS a (fQ (x a d) + (fSt (x a d)).length)) t), g', om.2.2.2)) it cl rf (fun l hl => ⟨(kp l (fun z => hl (z ▸ sch)) (fun z => hl (z ▸ zch))).1, (kp l (fun z => hl (z ▸ sch)) (fun z => hl (z ▸ zch))).2.1⟩) (rSt_P i3 (fun l z => by rw [z]; exact sch)) i1 rfl (PJ_0 (n := 0) pt) pt hS' hl' pf gt t6 (by rw [sQ_R (Or.inl (by decide))]; exact n7) ps_99 (fun y hy gy => nms y hy gy id (nm.1.2 y hy)) ths svl (by
    show vAl _ ka a t ((wU om.1 (pS a (fQ (x a d) + (fSt (x a d)).length)) (om.1 (pH (132 + a)))) (pS a (fQ (x a d) + (fSt (x a d)).length)))
    rw [eW]
    exact ⟨val.1, val.2⟩) (rg_up_eq _ _ _) i2 (by
    show _ = cvl ((wU om.1 (pS a (fQ (x a d) + (fSt (x a d)).length)) (om.1 (pH (132 + a)))) (pS a (fQ (x a d) + (fSt (x a d)).length)))
    rw [eW, sQ_f]
    exact ff) (by
    show _ = (wU om.1 (pS a (fQ (x a d) + (fSt (x a d)).length)) (om.1 (pH (132 + a)))) (pS a (fQ (x a d) + (fSt (x a d)).length))
    rw [eW, ps_T]) (SOK_q stn.2.1 stn.2.2.1 c4) ps_93
  exact ⟨q', bh, om2, N2, x2, ru⟩
/-- a field is swapped -/
theorem J_7f (cb : CB hB Z P A B sz es) (rh : RH (.ref P) n sg Z hB h) (hn : ka.2.2.2 ≤ n) (it : iTm sB A B mi kc om ka la ms N cn sg s D x a d) (n7 : sg.2.2.2.1 a 7 d = Int32.ofNat (p + 1)) (q4 : q < 4400) (hw : 10000 ≤ w) {p0 k0 f0 : Nat} {pl : Bool} (kf : kFd sB kc) (eK : sB.2.1 44 q = Int32.ofNat 7) (e45 : sB.2.1 45 q = Int32.ofNat p0) (hp0 : p0 < 4400) (e10 : sB.2.1 44 p0 = 10) (eS : fSt (x a d) = (ta, pl, fL (x a d)) :: (tv, false, fL (x a d)) :: S0) (ah : ahT ta k0) (fd : fdT sB k0 (sB.2.2 56 p0) f0 f tf) (h53 : sB.2.1 53 p0 = Int32.ofNat (f - f0)) (c3 : cpT ta ≠ 3) (c4 : cpT ta ≠ 4) (fit : fitC (cT tv) (cT tf) = 0) (safe : isO tv = true → lkV 2 (Int32.ofNat (cpT ta)) (Int32.ofNat (tv % 8)) = 1) (hb3 : bhT 3 (cpT ta) tf t) (hA : A p = 10) (hB' : B p = Int32.ofNat (f - f0) * 2 + oT ta) (ec : EC sB A B (fMe (x a d)) (mi (fMe (x a d))).1 (mi (fMe (x a d))).2.1 (mi (fMe (x a d))).2.2.1 q (p + 1) (fL (x a d)) (fG (x a d)) (fGn (x a d)) t S0) : jEx sB A B mi kc L xs zf w P Z hB k k2 n cn a d p q sg h s := by
  obtain ⟨⟨a12, d10, u1, u2, u3, u4⟩, rq, fx, b3, r92, b8, gi, rl, ob4⟩ := it_f it
  have it0 := it
  obtain ⟨wl, _, _, ⟨_, ac, _⟩, vl, rg, nm, _, _, so, r93, _⟩ := it0
  have pf := LV_EC ec
  have pf1 : eLv (fL (x a d)) ((tv, false, fL (x a d)) :: S0) := eLv_c pf
  obtain ⟨nf1, ft1, dt⟩ := kf _ _ _ _ _ fd
  have top := vl.2.2.2
  have u3' : S0.length + 2 ≤ 1010 := by rw [eS] at u3; exact u3
  have r93' : s.2.1 93 a = Int32.ofNat (fQ (x a d) + S0.length + 2) := by rw [eS] at r93; exact r93
  rw [eS] at top so
  obtain ⟨⟨p1, p2, p3, p4, p5, p6⟩, _⟩ := top
  have p3 : s.2.2 97 (10100 * a + (fQ (x a d) + S0.length + 1)) = om.1 (pS a (fQ (x a d) + ((tv, false, fL (x a d)) :: S0).length)) := p3
  obtain ⟨a8, a5, ak⟩ := ah
  have gc := gTy_c.mp p5
  have s53 : s.2.1 53 p0 = Int32.ofNat (f - f0) := by rw [fx.1 53 (by decide)]; exact h53
  obtain ⟨o1', o2', o3', o4'⟩ := so
  have soq : SOK (sPo sg a (fBs (x a d) + (mi (fMe (x a d))).2.2.2.2 + ((tv, false, fL (x a d)) :: S0).length)) a (fBs (x a d) + (mi (fMe (x a d))).2.2.2.2 + ((tv, false, fL (x a d)) :: S0).length) := SOK_q (Nat.le_trans (Nat.le_succ _) o2') o3' o4'
  have pl7 : isPl (sB.2.1 44 q) = false := by rw [eK]; rfl
  have dc := dTy_c dt
  by_cases v0 : om.1 (pS a (fQ (x a d) + ((tv, false, fL (x a d)) :: S0).length)) = 0
  · -- of none
    have c0 : sg.2.2.2.1 a 12 (fBs (x a d) + (mi (fMe (x a d))).2.2.2.2 + ((tv, false, fL (x a d)) :: S0).length) = 0 := by rw [p2]; show cvl (om.1 (pS a (fQ (x a d) + ((tv, false, fL (x a d)) :: S0).length))) = 0; rw [v0, cv_0]
    obtain ⟨h', e1, e2, e3, e4⟩ := k_265z (L := L) (xs := xs) (zf := zf) (w := w) (k := k + 8) (op := 10) (ht := (fBs (x a d) + (mi (fMe (x a d))).2.2.2.2 + ((tv, false, fL (x a d)) :: S0).length)) rh (by omega) ⟨o1', o2', o3', o4'⟩ c0 (B p)
    have hr := r_400z (w := w) (k := k2 + 7) (i := 10 * a + d) (t := fQ (x a d) + S0.length) (K := 7) true rq a12 q4 eK rfl e45 hp0 e10 r93' (by omega) (p3.trans v0)
    have ru := J_fl (why := 1) (it_pop (X := [(ta, pl, fL (x a d))]) (S0 := ((tv, false, fL (x a d)) :: S0)) it eS pf1)
    rw [sFl_93, ← sFl_93 (y := Int32.ofNat (fQ (x a d) + S0.length))] at ru
    exact jEx_f (x_10s (k := k + 10) cb rh (by omega) hA e1) (act_sub (k := k2 + 11) rq q4 eK (Or.inl ⟨rfl, rfl⟩) hr) (by decide) e2 hn ac ru sPo_0 sPo_13 e3 e4
  obtain ⟨_, wac, _⟩ := wl.2.2.2.2.2 a ac
  by_cases t6 : ta % 8 = 6
  · -- of the actor itself
    have ow : om.1 (pS a (fQ (x a d) + ((tv, false, fL (x a d)) :: S0).length)) = mdV 3 (Int32.ofNat a) ∧ ka.2.1 a + 1 = ta / 8 := by
      rcases p1.1 with h | h | h | h | h
      · omega
      · omega
      · omega
      · omega
      · exact ⟨h.2.2.1, h.2.2.2.2⟩
    have ek : k0 = ka.2.1 a := by omega
    subst ek
    have f8 : f - f0 < 8 := by
      have := w_8 wl ac
      omega
    obtain ⟨_, ⟨w1, w2⟩, _, _, w3, w4, w5⟩ := wac
    have hlt : la.2.1 a + 1 + (f - f0) < 400 := by
      obtain ⟨_, _, ⟨clm, mb, tn, ⟨_, _, n1⟩, _, _, _, ⟨_, _, n2⟩, _⟩, _⟩ := wl
      omega
    have cne : sg.2.2.2.1 a 12 (fBs (x a d) + (mi (fMe (x a d))).2.2.2.2 + ((tv, false, fL (x a d)) :: S0).length) ≠ 0 := by
      rw [p2]
      show cvl (om.1 (pS a (fQ (x a d) + ((tv, false, fL (x a d)) :: S0).length))) ≠ 0
      rw [ow.1, cv_3, of_inc]
      exact ofn_0 (by omega) (by omega)
    have oT1 : oT ta = 1 := by unfold oT; rw [if_pos ⟨a8, t6⟩]
    obtain ⟨h1, q1, l1, z1, hX⟩ := k_265a (L := L) (xs := xs) (zf := zf) (w := w) (k := k + 7) (op := 10) (ht := (fBs (x a d) + (mi (fMe (x a d))).2.2.2.2 + ((tv, false, fL (x a d)) :: S0).length)) (st := la.2.1 a) (f := f - f0) rh (by omega) ⟨o1', o2', o3', o4'⟩ cne w1 f8
    obtain ⟨h', z, c1, g1, e1, e2, e3, e4, e5⟩ := k_52w (L := L) (xs := xs) (zf := zf) (w := w) (k := k + 7) (st := la.2.1 a + 1) (f := f - f0) (ht := (fBs (x a d) + (mi (fMe (x a d))).2.2.2.2 + S0.length)) (sg := sPo sg a (fBs (x a d) + (mi (fMe (x a d))).2.2.2.2 + ((tv, false, fL (x a d)) :: S0).length)) q1 (by omega) soq (Int32.ofNat (f - f0) * 2 + 1) (fop (f - f0) f8).2.2.2 hlt
    rw [sPo_0] at e1
    have hd := hX _ e1
    have it1 := it_pop (X := [(ta, pl, fL (x a d))]) (S0 := ((tv, false, fL (x a d)) :: S0)) it eS pf1
    have own := p6 a8 t6
    obtain ⟨fv1, fv2, fv3, fv4, fv5⟩ := w5 (f - f0) nf1
    rw [ft1] at fv1 fv3
    have cp2 : cpT ta = 2 := by unfold cpT; rw [if_neg (by omega)]
    have ett : t = tf := by
      have hb := hb3
      rw [cp2] at hb
      have hb := bh_34 (by decide) hb
      by_cases ot : isO tf = true
      · obtain ⟨c', c5, tab, et⟩ := bhT_c hb ot
        have tc := isO_c ot
        have := lk_22 (tf % 8) (by omega) c' c5 tab
        omega
      · unfold bhT at hb
        rw [if_neg ot] at hb
        exact hb
    obtain ⟨g', it2, r2⟩ := it_sa7 (x := (xU x a d (fMe (x a d), fL (x a d), fG (x a d), fGn (x a d), ((tv, false, fL (x a d)) :: S0), fRe (x a d), fBs (x a d), fQ (x a d)))) (S0 := S0) (tv := tv) (f := f - f0) (tf := tf) it1 (by rw [xU_eq]) (by rw [xU_eq]; exact pf) (by rw [xU_eq]; exact own.2) nf1 ft1 dt fit
    rw [xU_eq] at it2 r2
    have fh : pH (132 + a) ≠ pF a (f - f0) := by unfold pF pH; omega
    have eW : wU (wU om.1 (pH (132 + a)) (om.1 (pF a (f - f0)))) (pF a (f - f0)) (om.1 (pS a (fQ (x a d) + S0.length))) (pH (132 + a)) = om.1 (pF a (f - f0)) := by rw [wU_ne fh, wU_eq]
    have jp := J_7p (x := (xU (xU x a d (fMe (x a d), fL (x a d), fG (x a d), fGn (x a d), ((tv, false, fL (x a d)) :: S0), fRe (x a d), fBs (x a d), fQ (x a d))) a d (fMe (x a d), fL (x a d), fG (x a d), fGn (x a d), S0, fRe (x a d), fBs (x a d), fQ (x a d)))) (t := t) (z := z) (c1 := c1) (g1 := g1) (p := p) (q := q) it2 q4 pl7 (by rw [xU_eq]; exact ec) (by
      show (sPo (sPo sg a (fBs (x a d) + (mi (fMe (x a d))).2.2.2.2 + ((tv, false, fL (x a d)) :: S0).length)) a (fBs (x a d) + (mi (fMe (x a d))).2.2.2.2 + S0.length)).2.2.2.1 a 7 d = _
      rw [sQ_R (Or.inl (by decide)), sQ_R (Or.inl (by decide))]
      exact n7) (by rw [ett]; exact dTy_g dt) (by omega) (by omega) (by
      rw [ett]
      show (rg_up (rg_up (rg_up (rg_up om.2.1 (pF a (f - f0)) 0) (pH (132 + a)) tf) (pS a (fQ (x a d) + S0.length)) 0) (pF a (f - f0)) tf) (pH (132 + a)) = tf
      rw [rg_up_ne _ fh, rg_up_ne _ hS_ne, rg_up_eq]) (by rw [xU_eq]; exact r2) (by
      rw [ett]
      show vAl _ ka a tf (wU (wU om.1 (pH (132 + a)) (om.1 (pF a (f - f0)))) (pF a (f - f0)) (om.1 (pS a (fQ (x a d) + S0.length))) (pH (132 + a)))
      rw [eW]
      exact ⟨fv3.1, fv3.2⟩) (by
      rw [xU_eq]
      refine ⟨fun i hi => (e3.1 i hi).trans ?_, e3.2.1, e3.2.2.1, ?_⟩
      · show _ = (sPo (sPo sg a (fBs (x a d) + (mi (fMe (x a d))).2.2.2.2 + ((tv, false, fL (x a d)) :: S0).length)) a (fBs (x a d) + (mi (fMe (x a d))).2.2.2.2 + S0.length)).2.2.2.1 a 12 i
        exact (congrFun sQ_f i).symm
      · show c1 ≤ (sPo (sPo sg a (fBs (x a d) + (mi (fMe (x a d))).2.2.2.2 + ((tv, false, fL (x a d)) :: S0).length)) a (fBs (x a d) + (mi (fMe (x a d))).2.2.2.2 + S0.length)).2.2.2.2 a 13 ∨ _
        rw [sPo_13]
        exact e3.2.2.2) (by
      rw [xU_eq]
      show _ = cvl (wU (wU om.1 (pH (132 + a)) (om.1 (pF a (f - f0)))) (pF a (f - f0)) (om.1 (pS a (fQ (x a d) + S0.length))) (pH (132 + a)))
      rw [eW, ← fv4]
      exact e4)
    rw [xU_eq] at jp
    obtain ⟨q', bh, om2, N2, x2, ru⟩ := jp
    have ru : rUn sB A B mi kc om2 ka la ms N2 cn (sQ (sQ (sW (sPo sg a (fBs (x a d) + (mi (fMe (x a d))).2.2.2.2 + ((tv, false, fL (x a d)) :: S0).length)) 0 (la.2.1 a + 1 + (f - f0)) ((sPo sg a (fBs (x a d) + (mi (fMe (x a d))).2.2.2.2 + ((tv, false, fL (x a d)) :: S0).length)).2.2.2.1 a 12 (fBs (x a d) + (mi (fMe (x a d))).2.2.2.2 + S0.length))) a ((sPo sg a (fBs (x a d) + (mi (fMe (x a d))).2.2.2.2 + ((tv, false, fL (x a d)) :: S0).length)).2.2.2.2 a 12) ((sPo sg a (fBs (x a d) + (mi (fMe (x a d))).2.2.2.2 + ((tv, false, fL (x a d)) :: S0).length)).2.2.2.2 a 13) ((sPo sg a (fBs (x a d) + (mi (fMe (x a d))).2.2.2.2 + ((tv, false, fL (x a d)) :: S0).length)).2.2.2.1 a 12) (fBs (x a d) + (mi (fMe (x a d))).2.2.2.2 + S0.length)) a z c1 g1 ((fBs (x a d) + (mi (fMe (x a d))).2.2.2.2 + S0.length) + 1)) (rs_wA (sPsh (rs_wB (rs_wA (rs_wA s 93 a (Int32.ofNat (fQ (x a d) + ((tv, false, fL (x a d)) :: S0).length))) 93 a (Int32.ofNat (fQ (x a d) + S0.length))) 95 (8 * a + (f - f0)) (s.2.2 97 (10100 * a + (fQ (x a d) + S0.length)))) a (fQ (x a d) + S0.length) (wU (wU om.1 (pH (132 + a)) (om.1 (pF a (f - f0)))) (pF a (f - f0)) (om.1 (pS a (fQ (x a d) + S0.length))) (pH (132 + a)))) 99 (10 * a + d) (Int32.ofNat q')) D x2 := ru
    rw [sQ_sQ, eW, rs_wAA] at ru
    have hr := r_400a (k := k2 + 7) (i := 10 * a + d) (t := fQ (x a d) + S0.length) (f := f - f0) (x := Int32.ofNat a) (K := 7) true rq a12 (by omega) q4 eK rfl e45 hp0 e10 r93' (by omega) (p3.trans ow.1) f8 s53 bh (by decide) (by omega : 6000 ≤ w)
    rw [if_pos rfl, fv5] at hr
    refine jEx_s (x_10s (k := k + 10) cb rh (by omega) hA (by rw [hB', oT1]; exact hd)) (act_sub (k := k2 + 11) rq q4 eK (Or.inl ⟨rfl, rfl⟩) hr) e2 hn ac ru ?_ (CST_t (CST_q l1 z1) e5)
    rw [sQ_P (Or.inl (by decide))]
    exact sPo_0
  · -- of an object
    have tlo : isO ta = true := isO_n ⟨a8, by omega⟩
    obtain ⟨o, oo1, oo2, oo3, oo4⟩ : ∃ o : Nat, 1 ≤ o ∧ o ≤ ka.2.2.1 ∧ om.1 (pS a (fQ (x a d) + ((tv, false, fL (x a d)) :: S0).length)) = mdV 2 (Int32.ofNat o) ∧ ka.1 o + 1 = ta / 8 := by
      rcases p1.1 with h | h | h | h | h
      · omega
      · omega
      · rcases h.2.2 with y | y
        · exact absurd y v0
        · exact y
      · omega
      · omega
    have ek : k0 = ka.1 o := by omega
    subst ek
    have hov : oV (om.1 (pS a (fQ (x a d) + ((tv, false, fL (x a d)) :: S0).length))) = o := by rw [oo3]; exact oV_2 (by omega)
    have kn : om.2.2.2.1 a o := by
      have := p1.2 (by show oV (om.1 (pS a (fQ (x a d) + ((tv, false, fL (x a d)) :: S0).length))) ≠ 0; rw [hov]; omega)
      have h2 : oV (om.1 (pS a (fQ (x a d) + ((tv, false, fL (x a d)) :: S0).length))) = o := hov
      rw [h2] at this
      exact this
    obtain ⟨⟨_, _, nf8⟩, o2, _, _, o5, _, o7, o8⟩ := wl.2.2.2.1 o oo1 oo2
    have f8 : f - f0 < 8 := by omega
    have bd := w_bd wl o (f - f0) oo1 oo2 nf1
    have hlt : la.1 o + 1 + (f - f0) < 400 := by
      obtain ⟨_, _, ⟨clm, mb, tn, ⟨_, _, n1⟩, _, _, _, ⟨_, _, n2⟩, _⟩, wo, _⟩ := wl
      obtain ⟨_, _, _, _, _, z, _⟩ := wo o oo1 oo2
      omega
    have oT0 : oT ta = 0 := by unfold oT; rw [if_neg (by omega)]
    have cp2 : cpT ta = ta % 8 := by unfold cpT; rw [if_pos (by omega)]
    rw [cp2] at c3 c4 safe
    have c22 : ta % 8 ≤ 2 := le_2 (isO_c tlo).2 c3 c4
    obtain ⟨om1, it1, hld, kp, eK1⟩ := hLd_of (o := o) (S0 := ((tv, false, fL (x a d)) :: S0)) it eS pf1 tlo hov (by omega)
    obtain ⟨h1, q1, l1, z1, hX⟩ := k_265o (L := L) (xs := xs) (zf := zf) (w := w) (k := k + 7) (op := 10) (ht := (fBs (x a d) + (mi (fMe (x a d))).2.2.2.2 + ((tv, false, fL (x a d)) :: S0).length)) (st := la.1 o) (f := f - f0) (o := o) rh (by omega) ⟨o1', o2', o3', o4'⟩ (by rw [p2]; show cvl (om.1 (pS a (fQ (x a d) + ((tv, false, fL (x a d)) :: S0).length))) = _; rw [oo3, cv_2]) oo1 (by omega) o2 f8
    obtain ⟨h', z, c1, g1, e1, e2, e3, e4, e5⟩ := k_52w (L := L) (xs := xs) (zf := zf) (w := w) (k := k + 7) (st := la.1 o + 1) (f := f - f0) (ht := (fBs (x a d) + (mi (fMe (x a d))).2.2.2.2 + S0.length)) (sg := sPo sg a (fBs (x a d) + (mi (fMe (x a d))).2.2.2.2 + ((tv, false, fL (x a d)) :: S0).length)) q1 (by omega) soq (Int32.ofNat (f - f0) * 2 + 0) (fop (f - f0) f8).2.1 hlt
    rw [sPo_0] at e1
    have hd := hX _ e1
    obtain ⟨_, _, kf3⟩ := (wl.2.2.2.2.2 a ac).1 o kn
    obtain ⟨cpy, ckn⟩ := kf3 (f - f0) nf1
    obtain ⟨fv1, fv2, fv3⟩ := o8 (f - f0) nf1
    rw [ft1] at fv1 fv2
    rw [cp2] at hb3
    have kp1 := kp (pO o (f - f0)) oH_ne oS_ne
    have bv := bhT_v (a := a) (bh_34 c22 hb3) dt fv2
    have t10 : t ≠ 0 := by
      have hb := bh_34 c22 hb3
      by_cases ot : isO tf = true
      · obtain ⟨c', c5, tab, et⟩ := bhT_c hb ot
        have tc := isO_c ot
        omega
      · unfold bhT at hb
        rw [if_neg ot] at hb
        omega
    obtain ⟨g', it2, r2⟩ := it_so7 (x := (xU x a d (fMe (x a d), fL (x a d), fG (x a d), fGn (x a d), ((tv, false, fL (x a d)) :: S0), fRe (x a d), fBs (x a d), fQ (x a d)))) (om := om1) (S0 := S0) (tv := tv) (f := f - f0) (tf := tf) (c := ta % 8) (o := o) (t := t) it1 (by rw [xU_eq]) (by rw [xU_eq]; exact pf) (by rw [xU_eq]; exact hld) oo1 oo2 (by rw [eK1]; exact kn) c22 nf1 ft1 safe dt fit hb3
    rw [xU_eq] at it2 r2
    have fh : pH (132 + a) ≠ pO o (f - f0) := by unfold pO pH; omega
    have eW : (wU (wU om1.1 (pH (132 + a)) (om1.1 (pO o (f - f0)))) (pO o (f - f0)) (om1.1 (pS a (fQ (x a d) + S0.length))) (pH (132 + a))) = om.1 (pO o (f - f0)) := by rw [wU_ne fh, wU_eq]; exact kp1.1
    have jp := J_7p (x := (xU (xU x a d (fMe (x a d), fL (x a d), fG (x a d), fGn (x a d), ((tv, false, fL (x a d)) :: S0), fRe (x a d), fBs (x a d), fQ (x a d))) a d (fMe (x a d), fL (x a d), fG (x a d), fGn (x a d), S0, fRe (x a d), fBs (x a d), fQ (x a d)))) (t := t) (z := z) (c1 := c1) (g1 := g1) (p := p) (q := q) it2 q4 pl7 (by rw [xU_eq]; exact ec) (by
      show (sPo (sPo sg a (fBs (x a d) + (mi (fMe (x a d))).2.2.2.2 + ((tv, false, fL (x a d)) :: S0).length)) a (fBs (x a d) + (mi (fMe (x a d))).2.2.2.2 + S0.length)).2.2.2.1 a 7 d = _
      rw [sQ_R (Or.inl (by decide)), sQ_R (Or.inl (by decide))]
      exact n7) bv.2.1 t10 bv.2.2 (by
      show (rg_up (rg_up (rg_up om1.2.1 (pH (132 + a)) t) (pS a (fQ (x a d) + S0.length)) 0) (pO o (f - f0)) tf) (pH (132 + a)) = t
      rw [rg_up_ne _ fh, rg_up_ne _ hS_ne, rg_up_eq]) (by rw [xU_eq]; exact r2) (by
      show vAl _ ka a t (wU (wU om1.1 (pH (132 + a)) (om1.1 (pO o (f - f0)))) (pO o (f - f0)) (om1.1 (pS a (fQ (x a d) + S0.length))) (pH (132 + a)))
      rw [eW]
      exact ⟨bv.1, fun y => by
        show om1.2.2.2.1 a _
        rw [eK1]
        exact ckn y⟩) (by
      rw [xU_eq]
      refine ⟨fun i hi => (e3.1 i hi).trans ?_, e3.2.1, e3.2.2.1, ?_⟩
      · show _ = (sPo (sPo sg a (fBs (x a d) + (mi (fMe (x a d))).2.2.2.2 + ((tv, false, fL (x a d)) :: S0).length)) a (fBs (x a d) + (mi (fMe (x a d))).2.2.2.2 + S0.length)).2.2.2.1 a 12 i
        exact (congrFun sQ_f i).symm
      · show c1 ≤ (sPo (sPo sg a (fBs (x a d) + (mi (fMe (x a d))).2.2.2.2 + ((tv, false, fL (x a d)) :: S0).length)) a (fBs (x a d) + (mi (fMe (x a d))).2.2.2.2 + S0.length)).2.2.2.2 a 13 ∨ _
        rw [sPo_13]
        exact e3.2.2.2) (by
      rw [xU_eq]
      show _ = cvl (wU (wU om1.1 (pH (132 + a)) (om1.1 (pO o (f - f0)))) (pO o (f - f0)) (om1.1 (pS a (fQ (x a d) + S0.length))) (pH (132 + a)))
      rw [eW, ← fv3]
      exact e4)
    rw [xU_eq] at jp
    obtain ⟨q', bh, om2, N2, x2, ru⟩ := jp
    have ru : rUn sB A B mi kc om2 ka la ms N2 cn (sQ (sQ (sW (sPo sg a (fBs (x a d) + (mi (fMe (x a d))).2.2.2.2 + ((tv, false, fL (x a d)) :: S0).length)) 0 (la.1 o + 1 + (f - f0)) ((sPo sg a (fBs (x a d) + (mi (fMe (x a d))).2.2.2.2 + ((tv, false, fL (x a d)) :: S0).length)).2.2.2.1 a 12 (fBs (x a d) + (mi (fMe (x a d))).2.2.2.2 + S0.length))) a ((sPo sg a (fBs (x a d) + (mi (fMe (x a d))).2.2.2.2 + ((tv, false, fL (x a d)) :: S0).length)).2.2.2.2 a 12) ((sPo sg a (fBs (x a d) + (mi (fMe (x a d))).2.2.2.2 + ((tv, false, fL (x a d)) :: S0).length)).2.2.2.2 a 13) ((sPo sg a (fBs (x a d) + (mi (fMe (x a d))).2.2.2.2 + ((tv, false, fL (x a d)) :: S0).length)).2.2.2.1 a 12) (fBs (x a d) + (mi (fMe (x a d))).2.2.2.2 + S0.length)) a z c1 g1 ((fBs (x a d) + (mi (fMe (x a d))).2.2.2.2 + S0.length) + 1)) (rs_wA (sPsh (rs_wB (rs_wA (rs_wA s 93 a (Int32.ofNat (fQ (x a d) + ((tv, false, fL (x a d)) :: S0).length))) 93 a (Int32.ofNat (fQ (x a d) + S0.length))) 96 (400 * a + la.2.2.1 o + (f - f0)) (s.2.2 97 (10100 * a + (fQ (x a d) + S0.length)))) a (fQ (x a d) + S0.length) (wU (wU om1.1 (pH (132 + a)) (om1.1 (pO o (f - f0)))) (pO o (f - f0)) (om1.1 (pS a (fQ (x a d) + S0.length))) (pH (132 + a)))) 99 (10 * a + d) (Int32.ofNat q')) D x2 := ru
    rw [sQ_sQ, eW, rs_wAA] at ru
    have hr := r_400o (k := k2 + 7) (i := 10 * a + d) (t := fQ (x a d) + S0.length) (f := f - f0) (o := o) (bs := la.2.2.1 o) (K := 7) true rq a12 (by omega) q4 eK rfl e45 hp0 e10 r93' (by omega) (p3.trans oo3) (by omega) o5 bd s53 bh (by decide) (by omega : 6000 ≤ w)
    have ecp : s.2.2 96 (400 * a + la.2.2.1 o + (f - f0)) = om.1 (pO o (f - f0)) := by
      have : cPy s a (la.2.2.1 o + (f - f0)) = om.1 (pO o (f - f0)) := cpy
      unfold cPy at this
      rw [if_pos a12, ← Nat.add_assoc] at this
      exact this
    rw [if_pos rfl, ecp] at hr
    refine jEx_s (x_10s (k := k + 10) cb rh (by omega) hA (by rw [hB', oT0]; exact hd)) (act_sub (k := k2 + 11) rq q4 eK (Or.inl ⟨rfl, rfl⟩) hr) e2 hn ac ru ?_ (CST_t (CST_q l1 z1) e5)
    rw [sQ_P (Or.inl (by decide))]
    exact sPo_0
end JSY
