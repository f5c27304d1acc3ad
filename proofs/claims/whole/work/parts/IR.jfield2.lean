/-! A FIELD IS READ BY BOTH: the whole. -/
section JFE
variable {sB : rS} {A B : Nat → Int32} {mi : Nat → Nat × Nat × Nat × Nat × Nat} {kc : kCi} {om om' : oMg} {ka ka' : kAp} {la : lAy} {ms : mSg} {N N' cn : Nat} {sg sg' sg2 : cS} {s s' s2 S1 : rS} {a b d e lo q0 J l t r i n p q k k2 f0 w P L sz lv : Nat} {xs : Nat → Int32} {zf : Value} {Z : Nat → Prop} {hB h h' : rm_H} {es : List Nat} {x : Nat → Nat → fDs} {D : Nat → Nat} {S S0 X : List stE} {v : Int64} {y : Int32}
variable {c c' o f tf tl : Nat}
theorem lk_22 : ∀ c, c < 5 → ∀ c', c' < 5 → lkV 4 2 (Int32.ofNat c) = Int32.ofNat c' → c' = c := by decide +kernel
theorem w_8 (w : wAl sB kc om ka la ms N cn sg s D) (ac : a < ka.2.2.2) : (kc (ka.2.1 a)).1 ≤ 8 := (w.2.2.2.2.2 a ac).2.1.1.2.2.2.2
/-- a field -/
theorem J_10 (cb : CB hB Z P A B sz es) (rh : RH (.ref P) n sg Z hB h) (hn : ka.2.2.2 ≤ n) (it : iTm sB A B mi kc om ka la ms N cn sg s D x a d) (n7 : sg.2.2.2.1 a 7 d = Int32.ofNat (p + 1)) (q4 : q < 4400) (hw : 10000 ≤ w) {k0 f0 : Nat} {pl : Bool} (kf : kFd sB kc) (eK : sB.2.1 44 q = Int32.ofNat 10) (eS : fSt (x a d) = (tl, pl, fL (x a d)) :: S0) (ah : ahT tl k0) (fd : fdT sB k0 (sB.2.2 56 q) f0 f tf) (hb : bhT 4 (cpT tl) tf t) (h53 : sB.2.1 53 q = Int32.ofNat (f - f0)) (hA : A p = 3) (hB' : B p = Int32.ofNat (f - f0) * 2 + oT tl) (ec : EC sB A B (fMe (x a d)) (mi (fMe (x a d))).1 (mi (fMe (x a d))).2.1 (mi (fMe (x a d))).2.2.1 q (p + 1) (fL (x a d)) (fG (x a d)) (fGn (x a d)) t S0) : jEx sB A B mi kc L xs zf w P Z hB k k2 n cn a d p q sg h s := by
  obtain ⟨⟨a12, d10, u1, u2, u3, u4⟩, rq, fx, b3, r92, b8, gi, rl, ob4⟩ := it_f it
  have it0 := it
  obtain ⟨wl, _, _, ⟨_, ac, _⟩, vl, rg, nm, _, _, so, r93, _⟩ := it0
  have len := ec_len it q4 ec
  have pf := LV_EC ec
  obtain ⟨nf1, ft1, dt⟩ := kf _ _ _ _ _ fd
  have top := vl.2.2.2
  rw [eS] at top so r93
  obtain ⟨⟨p1, p2, p3, p4, p5, p6⟩, _⟩ := top
  obtain ⟨a8, a5, ak⟩ := ah
  have gc := gTy_c.mp p5
  have s53 : s.2.1 53 q = Int32.ofNat (f - f0) := by rw [fx.1 53 (by decide)]; exact h53
  obtain ⟨o1', o2', o3', o4'⟩ := so
  have soq : SOK (sPo sg a (fBs (x a d) + (mi (fMe (x a d))).2.2.2.2 + S0.length)) a (fBs (x a d) + (mi (fMe (x a d))).2.2.2.2 + S0.length) := SOK_q (Nat.le_trans (Nat.le_succ _) o2') o3' o4'
  by_cases v0 : om.1 (pS a (fQ (x a d) + S0.length)) = 0
  · -- of none
    have c0 : sg.2.2.2.1 a 12 (fBs (x a d) + (mi (fMe (x a d))).2.2.2.2 + S0.length) = 0 := by rw [p2, v0, cv_0]
    obtain ⟨h', e1, e2, e3, e4⟩ := k_265z (L := L) (xs := xs) (zf := zf) (w := w) (k := k + 8) (op := 3) (ht := (fBs (x a d) + (mi (fMe (x a d))).2.2.2.2 + S0.length)) rh (by omega) ⟨o1', o2', o3', o4'⟩ c0 (B p)
    have hr := act_10n (k := k2 + 7) (t := fQ (x a d) + S0.length) rq a12 d10 q4 eK (by omega : 6000 ≤ w) r93 (by omega) (by rw [p3]; exact v0)
    exact jEx_f (x_3s (k := k + 10) cb rh (by omega) hA e1) hr (by decide) e2 hn ac (J_fl (it_pop (X := [(tl, pl, fL (x a d))]) it eS pf)) sPo_0 sPo_13 e3 e4
  obtain ⟨_, wac, _⟩ := wl.2.2.2.2.2 a ac
  by_cases t6 : tl % 8 = 6
  · -- of the actor itself
    have ow : om.1 (pS a (fQ (x a d) + S0.length)) = mdV 3 (Int32.ofNat a) ∧ ka.2.1 a + 1 = tl / 8 := by
      rcases p1.1 with h | h | h | h | h
      · omega
      · omega
      · omega
      · omega
      · exact ⟨h.2.2.1, h.2.2.2.2⟩
    have ek : k0 = ka.2.1 a := by omega
    subst ek
    obtain ⟨_, ⟨w1, w2⟩, _, _, w3, w4, w5⟩ := wac
    obtain ⟨f1, f2, f3, f4, f5⟩ := w5 (f - f0) nf1
    rw [ft1] at f1 f3
    have hlt : la.2.1 a + 1 + (f - f0) < 400 := by
      obtain ⟨_, _, ⟨clm, mb, tn, ⟨_, _, n1⟩, _, _, _, ⟨_, _, n2⟩, _⟩, _⟩ := wl
      omega
    have f8 : f - f0 < 8 := by
      have := w_8 wl ac
      omega
    have cne : sg.2.2.2.1 a 12 (fBs (x a d) + (mi (fMe (x a d))).2.2.2.2 + S0.length) ≠ 0 := by
      rw [p2, ow.1, cv_3, of_inc]
      exact ofn_0 (by omega) (by omega)
    have oT1 : oT tl = 1 := by unfold oT; rw [if_pos ⟨a8, t6⟩]
    have cp2 : cpT tl = 2 := by unfold cpT; rw [if_neg (by omega)]
    have ett : t = tf := by
      by_cases ot : isO tf = true
      · obtain ⟨c', c5, tab, et⟩ := bhT_c hb ot
        rw [cp2] at tab
        have tc := isO_c ot
        have := lk_22 (tf % 8) (by omega) c' c5 tab
        omega
      · unfold bhT at hb
        rw [if_neg ot] at hb
        exact hb
    obtain ⟨h1, q1, l1, z1, hX⟩ := k_265a (L := L) (xs := xs) (zf := zf) (w := w) (k := k + 7) (op := 3) (ht := (fBs (x a d) + (mi (fMe (x a d))).2.2.2.2 + S0.length)) (st := la.2.1 a) (f := f - f0) rh (by omega) ⟨o1', o2', o3', o4'⟩ cne w1 f8
    obtain ⟨h', z, c1, g1, e1, e2, e3, e4, e5⟩ := k_52r (L := L) (xs := xs) (zf := zf) (w := w) (k := k + 7) (st := la.2.1 a + 1) (f := f - f0) (sg := sPo sg a (fBs (x a d) + (mi (fMe (x a d))).2.2.2.2 + S0.length)) q1 (by omega) soq (Int32.ofNat (f - f0) * 2 + 1) (fop (f - f0) f8).2.2.2 hlt
    rw [sPo_0] at e1
    have hd := hX _ e1
    have it1 := it_pop (X := [(tl, pl, fL (x a d))]) it eS pf
    have own := p6 a8 t6
    have lof : lOf a (pF a (f - f0)) := Or.inr (Or.inl ⟨by unfold pF; omega, by unfold pF; omega⟩)
    have dc := dTy_c dt
    have jp := J_10p (x := xU x a d (fMe (x a d), fL (x a d), fG (x a d), fGn (x a d), S0, fRe (x a d), fBs (x a d), fQ (x a d))) (v := om.1 (pF a (f - f0))) (t := t) (z := z) (c1 := c1) (g1 := g1) (p := p) it1 q4 eK (by rw [xU_eq]; exact ec) (by rw [sQ_R (Or.inl (by decide))]; exact n7) (by rw [ett]; exact dTy_g dt) (by rw [ett]; omega) (by rw [ett]; exact f3) (fun o0 => by
      rw [xU_eq, ett]
      have ot := (vTy_o f3.1 o0).1
      exact see_pl gi lof o0 f1 ot (by rw [f2]; exact own.2.symm) rl.1) (by rw [xU_eq]; exact e3) (by rw [xU_eq]; exact e4.trans f4)
    rw [xU_eq] at jp
    obtain ⟨q', bh, om', N', x', ru⟩ := jp
    have hr := act_10a (k := k2 + 7) (t := fQ (x a d) + S0.length) (f := f - f0) (x := Int32.ofNat a) rq a12 d10 q4 eK bh (by decide) (by omega : 6000 ≤ w) r93 (by omega) (by rw [p3]; exact ow.1) f8 s53
    rw [f5] at hr
    refine jEx_s (x_3s (k := k + 10) cb rh (by omega) hA (by rw [hB', oT1]; exact hd)) hr e2 hn ac ru ?_ (CST_t (CST_q l1 z1) e5)
    rw [sQ_P (Or.inl (by decide))]
    exact sPo_0
  · -- of an object
    have tlo : isO tl = true := isO_n ⟨a8, by omega⟩
    obtain ⟨o, oo1, oo2, oo3, oo4⟩ : ∃ o : Nat, 1 ≤ o ∧ o ≤ ka.2.2.1 ∧ om.1 (pS a (fQ (x a d) + S0.length)) = mdV 2 (Int32.ofNat o) ∧ ka.1 o + 1 = tl / 8 := by
      rcases p1.1 with h | h | h | h | h
      · omega
      · omega
      · rcases h.2.2 with y | y
        · exact absurd y v0
        · exact y
      · omega
      · omega
    have ek : k0 = ka.1 o := by omega
    subst ek
    have hov : oV (om.1 (pS a (fQ (x a d) + S0.length))) = o := by rw [oo3]; exact oV_2 (by omega)
    have kn : om.2.2.2.1 a o := by
      have := p1.2 (by show oV (om.1 (pS a (fQ (x a d) + S0.length))) ≠ 0; rw [hov]; omega)
      have h2 : oV (om.1 (pS a (fQ (x a d) + S0.length))) = o := hov
      rw [h2] at this
      exact this
    obtain ⟨_, _, kf3⟩ := (wl.2.2.2.2.2 a ac).1 o kn
    obtain ⟨cpy, ckn⟩ := kf3 (f - f0) nf1
    obtain ⟨⟨_, _, nf8⟩, o2, _, _, o5, _, o7, o8⟩ := wl.2.2.2.1 o oo1 oo2
    obtain ⟨f1, f2, f3⟩ := o8 (f - f0) nf1
    rw [ft1] at f1 f2
    have f8 : f - f0 < 8 := by omega
    have bd := w_bd wl o (f - f0) oo1 oo2 nf1
    have hlt : la.1 o + 1 + (f - f0) < 400 := by
      obtain ⟨_, _, ⟨clm, mb, tn, ⟨_, _, n1⟩, _, _, _, ⟨_, _, n2⟩, _⟩, wo, _⟩ := wl
      obtain ⟨_, _, _, _, _, z, _⟩ := wo o oo1 oo2
      omega
    have oT0 : oT tl = 0 := by unfold oT; rw [if_neg (by omega)]
    have cp2 : cpT tl = tl % 8 := by unfold cpT; rw [if_pos (by omega)]
    rw [cp2] at hb
    obtain ⟨om1, it1, hld, kp, eK1⟩ := hLd_of (o := o) it eS pf tlo hov (by omega)
    have kp1 := kp (pO o (f - f0)) oH_ne oS_ne
    have gi1 := (it_f it1).2.2.2.2.2.2.1
    obtain ⟨h1, q1, l1, z1, hX⟩ := k_265o (L := L) (xs := xs) (zf := zf) (w := w) (k := k + 7) (op := 3) (ht := (fBs (x a d) + (mi (fMe (x a d))).2.2.2.2 + S0.length)) (st := la.1 o) (f := f - f0) (o := o) rh (by omega) ⟨o1', o2', o3', o4'⟩ (by rw [p2]; show cvl (om.1 (pS a (fQ (x a d) + S0.length))) = _; rw [oo3, cv_2]) oo1 (by omega) o2 f8
    obtain ⟨h', z, c1, g1, e1, e2, e3, e4, e5⟩ := k_52r (L := L) (xs := xs) (zf := zf) (w := w) (k := k + 7) (st := la.1 o + 1) (f := f - f0) (sg := sPo sg a (fBs (x a d) + (mi (fMe (x a d))).2.2.2.2 + S0.length)) q1 (by omega) soq (Int32.ofNat (f - f0) * 2 + 0) (fop (f - f0) f8).2.1 hlt
    rw [sPo_0] at e1
    have hd := hX _ e1
    have bv := bhT_v (a := a) hb dt f2
    have jp := J_10p (x := xU x a d (fMe (x a d), fL (x a d), fG (x a d), fGn (x a d), S0, fRe (x a d), fBs (x a d), fQ (x a d))) (om := om1) (v := om.1 (pO o (f - f0))) (t := t) (z := z) (c1 := c1) (g1 := g1) (p := p) it1 q4 eK (by rw [xU_eq]; exact ec) (by rw [sQ_R (Or.inl (by decide))]; exact n7) bv.2.1 bv.2.2 ⟨bv.1, fun z => by rw [eK1]; exact ckn z⟩ (fun o0 => by
      rw [xU_eq]
      have ot := (vTy_o f2 o0).1
      obtain ⟨c', c5, tab, et⟩ := bhT_c hb ot
      have tc := isO_c ot
      have := f_rd (om := om1) (f := f - f0) (tf := tf) (t := t) gi1 hld (by omega) f8 (by rw [kp1.2]; exact f1) ot (by rw [kp1.1]; exact o0) (by omega) tab c5 (by omega) rl.1
      rw [kp1.1] at this
      exact this) (by rw [xU_eq]; exact e3) (by rw [xU_eq]; exact e4.trans f3)
    rw [xU_eq] at jp
    obtain ⟨q', bh, om', N', x', ru⟩ := jp
    have hr := act_10o (k := k2 + 7) (t := fQ (x a d) + S0.length) (f := f - f0) (o := o) (bs := la.2.2.1 o) rq a12 d10 q4 eK bh (by decide) (by omega : 6000 ≤ w) r93 (by omega) (by rw [p3]; exact oo3) (by omega) o5 bd s53
    have ecp : s.2.2 96 (400 * a + la.2.2.1 o + (f - f0)) = om.1 (pO o (f - f0)) := by
      have : cPy s a (la.2.2.1 o + (f - f0)) = om.1 (pO o (f - f0)) := cpy
      unfold cPy at this
      rw [if_pos a12, ← Nat.add_assoc] at this
      exact this
    rw [ecp] at hr
    refine jEx_s (x_3s (k := k + 10) cb rh (by omega) hA (by rw [hB', oT0]; exact hd)) hr e2 hn ac ru ?_ (CST_t (CST_q l1 z1) e5)
    rw [sQ_P (Or.inl (by decide))]
    exact sPo_0
end JFE
