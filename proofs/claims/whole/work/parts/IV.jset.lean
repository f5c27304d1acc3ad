/-! A FIELD IS SET BY BOTH. -/
section JST
variable {sB : rS} {A B : Nat → Int32} {mi : Nat → Nat × Nat × Nat × Nat × Nat} {kc : kCi} {om om' : oMg} {ka ka' : kAp} {la : lAy} {ms : mSg} {N N' cn : Nat} {sg sg' sg2 : cS} {s s' s2 S1 : rS} {a b d e lo q0 J l t r i n p q k k2 f0 w P L sz lv : Nat} {xs : Nat → Int32} {zf : Value} {Z : Nat → Prop} {hB h h' : rm_H} {es : List Nat} {x : Nat → Nat → fDs} {D : Nat → Nat} {S S0 X : List stE} {v : Int64} {y : Int32}
variable {o f tf tv ta c : Nat}
theorem kCl_r {lo : Nat} : kCl a d lo sg sg := ⟨rfl, rfl, fun _ _ _ => rfl, fun _ _ _ => rfl, fun _ _ => rfl, fun _ _ => rfl, fun _ _ _ => rfl⟩
theorem le_2 {n : Nat} (h : n < 5) (h3 : n ≠ 3) (h4 : n ≠ 4) : n ≤ 2 := by omega
theorem sFl_93 {y why : Int32} : sFl (rs_wA s 93 a y) a why = sFl s a why := by
  have e : (sFl (rs_wA s 93 a y) a why).2.1 = (sFl s a why).2.1 := by
    funext p i
    show (rs_wA (rs_wA (rs_wA (rs_w (rs_wA s 93 a y) 84 (s.1 84 + 1)) 91 a why) 92 a 0) 93 a 0).2.1 p i = (rs_wA (rs_wA (rs_wA (rs_w s 84 (s.1 84 + 1)) 91 a why) 92 a 0) 93 a 0).2.1 p i
    rw [wA_get, wA_get, wA_get, wA_get, wA_get, wA_get]
    by_cases c1 : p = 93 ∧ i = a
    · rw [if_pos c1, if_pos c1]
    · rw [if_neg c1, if_neg c1]
      show (if p = 92 ∧ i = a then (0 : Int32) else if p = 91 ∧ i = a then why else (rs_wA s 93 a y).2.1 p i) = _
      rw [wA_get, if_neg c1]
      rfl
  exact congrArg (fun z => ((sFl s a why).1, z, s.2.2)) e
/-- both owner and value have been taken: the step ends -/
theorem J_26e {u : Nat} (cb : CB hB Z P A B sz es) (hn : ka.2.2.2 ≤ n) (it : iTm sB A B mi kc om ka la ms N cn sg s D x a d) (n7 : sg.2.2.2.1 a 7 d = Int32.ofNat (p + 1)) (q4 : q < 4400) (sc : SC sB A B (fMe (x a d)) (mi (fMe (x a d))).1 (mi (fMe (x a d))).2.1 (mi (fMe (x a d))).2.2.1 u q (p + 1) (fL (x a d)) (fG (x a d)) (fGn (x a d)) (fSt (x a d))) : ∃ q', bhd sB 5995 q q' ∧ ∃ om2 N2 x2, rUn sB A B mi kc om2 ka la ms N2 cn sg (rs_wA (rs_wA s 93 a (Int32.ofNat (fQ (x a d) + (fSt (x a d)).length))) 99 (10 * a + d) (Int32.ofNat q')) D x2 := by
  have it0 := it
  obtain ⟨_, _, _, _, vl, rg, nm, _, _, so, r93, _⟩ := it0
  obtain ⟨q', bh, nx⟩ := AD_S nm.2.2.2.2.2.1 nm.2.2.2.2.1 sc nm.1 q4
  exact ⟨q', bh, J_pop (X := []) (sg' := sg) it rfl (LV_SC sc) gl_r nx kCl_r rfl n7 so⟩
/-- a field is set -/
theorem J_26f (cb : CB hB Z P A B sz es) (rh : RH (.ref P) n sg Z hB h) (hn : ka.2.2.2 ≤ n) (it : iTm sB A B mi kc om ka la ms N cn sg s D x a d) (n7 : sg.2.2.2.1 a 7 d = Int32.ofNat (p + 1)) (q4 : q < 4400) (hw : 10000 ≤ w) {u p0 k0 f0 : Nat} {pl : Bool} (kf : kFd sB kc) (eK : sB.2.1 44 q = Int32.ofNat 26) (e45 : sB.2.1 45 q = Int32.ofNat p0) (hp0 : p0 < 4400) (e10 : sB.2.1 44 p0 = 10) (eS : fSt (x a d) = (ta, pl, fL (x a d)) :: (tv, false, fL (x a d)) :: S0) (ah : ahT ta k0) (fd : fdT sB k0 (sB.2.2 56 p0) f0 f tf) (h53 : sB.2.1 53 p0 = Int32.ofNat (f - f0)) (c3 : cpT ta ≠ 3) (c4 : cpT ta ≠ 4) (fit : fitC (cT tv) (cT tf) = 0) (safe : isO tv = true → lkV 2 (Int32.ofNat (cpT ta)) (Int32.ofNat (tv % 8)) = 1) (hA : A p = 12) (hB' : B p = Int32.ofNat (f - f0) * 2 + oT ta) (sc : SC sB A B (fMe (x a d)) (mi (fMe (x a d))).1 (mi (fMe (x a d))).2.1 (mi (fMe (x a d))).2.2.1 u q (p + 1) (fL (x a d)) (fG (x a d)) (fGn (x a d)) S0) : jEx sB A B mi kc L xs zf w P Z hB k k2 n cn a d p q sg h s := by
  obtain ⟨⟨a12, d10, u1, u2, u3, u4⟩, rq, fx, b3, r92, b8, gi, rl, ob4⟩ := it_f it
  have it0 := it
  obtain ⟨wl, _, _, ⟨_, ac, _⟩, vl, rg, nm, _, _, so, r93, _⟩ := it0
  have pf := LV_SC sc
  have pf1 : eLv (fL (x a d)) ((tv, false, fL (x a d)) :: S0) := eLv_c pf
  obtain ⟨nf1, ft1, dt⟩ := kf _ _ _ _ _ fd
  have top := vl.2.2.2
  have u3' : S0.length + 2 ≤ 1010 := by rw [eS] at u3; exact u3
  have r93' : s.2.1 93 a = Int32.ofNat (fQ (x a d) + S0.length + 2) := by rw [eS] at r93; exact r93
  rw [eS] at top so
  obtain ⟨⟨p1, p2, p3, p4, p5, p6⟩, _⟩ := top
  have p3 : s.2.2 97 (10100 * a + (fQ (x a d) + S0.length + 1)) = om.1 (pS a (fQ (x a d) + ((tv, false, fL (x a d)) :: S0).length)) := p3
  obtain ⟨a8, a5, ak⟩ := ah
  have gc := gTy_c.mp p5
  have s53 : s.2.1 53 p0 = Int32.ofNat (f - f0) := by rw [fx.1 53 (by decide)]; exact h53
  obtain ⟨o1', o2', o3', o4'⟩ := so
  have soq : SOK (sPo sg a (fBs (x a d) + (mi (fMe (x a d))).2.2.2.2 + ((tv, false, fL (x a d)) :: S0).length)) a (fBs (x a d) + (mi (fMe (x a d))).2.2.2.2 + ((tv, false, fL (x a d)) :: S0).length) := SOK_q (Nat.le_trans (Nat.le_succ _) o2') o3' o4'
  have eR : ∀ (pp j : Nat) (v1 : Int64) (q' : Nat), rs_wA (rs_wA (rs_wB (rs_wA (rs_wA s 93 a (Int32.ofNat (fQ (x a d) + ((tv, false, fL (x a d)) :: S0).length))) 93 a (Int32.ofNat (fQ (x a d) + S0.length))) pp j v1) 93 a (Int32.ofNat (fQ (x a d) + S0.length))) 99 (10 * a + d) (Int32.ofNat q') = rs_wA (rs_wB (rs_wA s 93 a (Int32.ofNat (fQ (x a d) + S0.length))) pp j v1) 99 (10 * a + d) (Int32.ofNat q') := by
    intro pp j v1 q'
    rw [rs_wAA]
    exact congrArg (fun z => rs_wA z 99 (10 * a + d) (Int32.ofNat q')) (show rs_wB (rs_wA (rs_wA s 93 a (Int32.ofNat (fQ (x a d) + S0.length))) 93 a (Int32.ofNat (fQ (x a d) + S0.length))) pp j v1 = _ by rw [rs_wAA])
  by_cases v0 : om.1 (pS a (fQ (x a d) + ((tv, false, fL (x a d)) :: S0).length)) = 0
  · -- of none
    have c0 : sg.2.2.2.1 a 12 (fBs (x a d) + (mi (fMe (x a d))).2.2.2.2 + ((tv, false, fL (x a d)) :: S0).length) = 0 := by rw [p2]; show cvl (om.1 (pS a (fQ (x a d) + ((tv, false, fL (x a d)) :: S0).length))) = 0; rw [v0, cv_0]
    obtain ⟨h', e1, e2, e3, e4⟩ := k_265z (L := L) (xs := xs) (zf := zf) (w := w) (k := k + 8) (op := 12) (ht := (fBs (x a d) + (mi (fMe (x a d))).2.2.2.2 + ((tv, false, fL (x a d)) :: S0).length)) rh (by omega) ⟨o1', o2', o3', o4'⟩ c0 (B p)
    have hr := r_400z (w := w) (k := k2 + 7) (i := 10 * a + d) (t := fQ (x a d) + S0.length) (K := 26) false rq a12 q4 eK rfl e45 hp0 e10 r93' (by omega) (p3.trans v0)
    have ru := J_fl (why := 1) (it_pop (X := [(ta, pl, fL (x a d))]) (S0 := ((tv, false, fL (x a d)) :: S0)) it eS pf1)
    rw [sFl_93, ← sFl_93 (y := Int32.ofNat (fQ (x a d) + S0.length))] at ru
    exact jEx_f (x_12s (k := k + 10) cb rh (by omega) hA e1) (act_sub (k := k2 + 11) rq q4 eK (Or.inr (Or.inl ⟨rfl, rfl⟩)) hr) (by decide) e2 hn ac ru sPo_0 sPo_13 e3 e4
  obtain ⟨_, wac, _⟩ := wl.2.2.2.2.2 a ac
  by_cases t6 : ta % 8 = 6
  · -- of the actor itself
    have ow : om.1 (pS a (fQ (x a d) + ((tv, false, fL (x a d)) :: S0).length)) = mdV 3 (Int32.ofNat a) ∧ ka.2.1 a + 1 = ta / 8 := by
      rcases p1.1 with h | h | h | h | h
      · omega
      · omega
      · omega
      · omega
      · exact ⟨h.2.2.1, h.2.2.2.2⟩
    have ek : k0 = ka.2.1 a := by omega
    subst ek
    have f8 : f - f0 < 8 := by
      have := w_8 wl ac
      omega
    obtain ⟨_, ⟨w1, w2⟩, _, _, w3, w4, w5⟩ := wac
    have hlt : la.2.1 a + 1 + (f - f0) < 400 := by
      obtain ⟨_, _, ⟨clm, mb, tn, ⟨_, _, n1⟩, _, _, _, ⟨_, _, n2⟩, _⟩, _⟩ := wl
      omega
    have cne : sg.2.2.2.1 a 12 (fBs (x a d) + (mi (fMe (x a d))).2.2.2.2 + ((tv, false, fL (x a d)) :: S0).length) ≠ 0 := by
      rw [p2]
      show cvl (om.1 (pS a (fQ (x a d) + ((tv, false, fL (x a d)) :: S0).length))) ≠ 0
      rw [ow.1, cv_3, of_inc]
      exact ofn_0 (by omega) (by omega)
    have oT1 : oT ta = 1 := by unfold oT; rw [if_pos ⟨a8, t6⟩]
    obtain ⟨h1, q1, l1, z1, hX⟩ := k_265a (L := L) (xs := xs) (zf := zf) (w := w) (k := k + 7) (op := 12) (ht := (fBs (x a d) + (mi (fMe (x a d))).2.2.2.2 + ((tv, false, fL (x a d)) :: S0).length)) (st := la.2.1 a) (f := f - f0) rh (by omega) ⟨o1', o2', o3', o4'⟩ cne w1 f8
    obtain ⟨h', e1, e2, e3, e4⟩ := k_52s (L := L) (xs := xs) (zf := zf) (w := w) (k := k + 7) (st := la.2.1 a + 1) (f := f - f0) (ht := (fBs (x a d) + (mi (fMe (x a d))).2.2.2.2 + S0.length)) (sg := sPo sg a (fBs (x a d) + (mi (fMe (x a d))).2.2.2.2 + ((tv, false, fL (x a d)) :: S0).length)) q1 (by omega) soq (Int32.ofNat (f - f0) * 2 + 1) (fop (f - f0) f8).2.2.2 hlt
    rw [sPo_0] at e1
    have hd := hX _ e1
    have it1 := it_pop (X := [(ta, pl, fL (x a d))]) (S0 := ((tv, false, fL (x a d)) :: S0)) it eS pf1
    have own := p6 a8 t6
    obtain ⟨g', it2, _⟩ := it_sa (x := (xU x a d (fMe (x a d), fL (x a d), fG (x a d), fGn (x a d), ((tv, false, fL (x a d)) :: S0), fRe (x a d), fBs (x a d), fQ (x a d)))) (S0 := S0) (tv := tv) (f := f - f0) (tf := tf) it1 (by rw [xU_eq]) (by rw [xU_eq]; exact pf) (by rw [xU_eq]; exact own.2) nf1 ft1 dt fit
    rw [xU_eq] at it2
    obtain ⟨q', bh, om2, N2, x2, ru⟩ := J_26e (p := p) (x := (xU (xU x a d (fMe (x a d), fL (x a d), fG (x a d), fGn (x a d), ((tv, false, fL (x a d)) :: S0), fRe (x a d), fBs (x a d), fQ (x a d))) a d (fMe (x a d), fL (x a d), fG (x a d), fGn (x a d), S0, fRe (x a d), fBs (x a d), fQ (x a d)))) cb hn it2 (by
      show (sPo (sPo sg a (fBs (x a d) + (mi (fMe (x a d))).2.2.2.2 + ((tv, false, fL (x a d)) :: S0).length)) a (fBs (x a d) + (mi (fMe (x a d))).2.2.2.2 + S0.length)).2.2.2.1 a 7 d = _
      rw [sQ_R (Or.inl (by decide)), sQ_R (Or.inl (by decide))]
      exact n7) q4 (by rw [xU_eq]; exact sc)
    rw [xU_eq] at ru
    have hr := r_400a (k := k2 + 7) (i := 10 * a + d) (t := fQ (x a d) + S0.length) (f := f - f0) (x := Int32.ofNat a) (K := 26) false rq a12 (by omega) q4 eK rfl e45 hp0 e10 r93' (by omega) (p3.trans ow.1) f8 s53 bh (by decide) (by omega : 6000 ≤ w)
    have ru : rUn sB A B mi kc om2 ka la ms N2 cn _ (rs_wA (rs_wA (rs_wB (rs_wA (rs_wA s 93 a (Int32.ofNat (fQ (x a d) + ((tv, false, fL (x a d)) :: S0).length))) 93 a (Int32.ofNat (fQ (x a d) + S0.length))) 95 (8 * a + (f - f0)) (s.2.2 97 (10100 * a + (fQ (x a d) + S0.length)))) 93 a (Int32.ofNat (fQ (x a d) + S0.length))) 99 (10 * a + d) (Int32.ofNat q')) D x2 := ru
    rw [eR] at ru
    refine jEx_s (x_12s (k := k + 10) cb rh (by omega) hA (by rw [hB', oT1]; exact hd)) (act_sub (k := k2 + 11) rq q4 eK (Or.inr (Or.inl ⟨rfl, rfl⟩)) hr) e2 hn ac ru ?_ (CST_0 (fun b => ?_) (e3.trans l1) (e4.trans z1))
    · show (sPo (sPo sg a (fBs (x a d) + (mi (fMe (x a d))).2.2.2.2 + ((tv, false, fL (x a d)) :: S0).length)) a (fBs (x a d) + (mi (fMe (x a d))).2.2.2.2 + S0.length)).2.2.2.2 a 0 = _
      rw [sPo_0, sPo_0]
    · show (sPo (sPo sg a (fBs (x a d) + (mi (fMe (x a d))).2.2.2.2 + ((tv, false, fL (x a d)) :: S0).length)) a (fBs (x a d) + (mi (fMe (x a d))).2.2.2.2 + S0.length)).2.2.2.2 b 13 = _
      rw [sPo_13, sPo_13]
  · -- of an object
    have tlo : isO ta = true := isO_n ⟨a8, by omega⟩
    obtain ⟨o, oo1, oo2, oo3, oo4⟩ : ∃ o : Nat, 1 ≤ o ∧ o ≤ ka.2.2.1 ∧ om.1 (pS a (fQ (x a d) + ((tv, false, fL (x a d)) :: S0).length)) = mdV 2 (Int32.ofNat o) ∧ ka.1 o + 1 = ta / 8 := by
      rcases p1.1 with h | h | h | h | h
      · omega
      · omega
      · rcases h.2.2 with y | y
        · exact absurd y v0
        · exact y
      · omega
      · omega
    have ek : k0 = ka.1 o := by omega
    subst ek
    have hov : oV (om.1 (pS a (fQ (x a d) + ((tv, false, fL (x a d)) :: S0).length))) = o := by rw [oo3]; exact oV_2 (by omega)
    have kn : om.2.2.2.1 a o := by
      have := p1.2 (by show oV (om.1 (pS a (fQ (x a d) + ((tv, false, fL (x a d)) :: S0).length))) ≠ 0; rw [hov]; omega)
      have h2 : oV (om.1 (pS a (fQ (x a d) + ((tv, false, fL (x a d)) :: S0).length))) = o := hov
      rw [h2] at this
      exact this
    obtain ⟨⟨_, _, nf8⟩, o2, _, _, o5, _, o7, o8⟩ := wl.2.2.2.1 o oo1 oo2
    have f8 : f - f0 < 8 := by omega
    have bd := w_bd wl o (f - f0) oo1 oo2 nf1
    have hlt : la.1 o + 1 + (f - f0) < 400 := by
      obtain ⟨_, _, ⟨clm, mb, tn, ⟨_, _, n1⟩, _, _, _, ⟨_, _, n2⟩, _⟩, wo, _⟩ := wl
      obtain ⟨_, _, _, _, _, z, _⟩ := wo o oo1 oo2
      omega
    have oT0 : oT ta = 0 := by unfold oT; rw [if_neg (by omega)]
    have cp2 : cpT ta = ta % 8 := by unfold cpT; rw [if_pos (by omega)]
    rw [cp2] at c3 c4 safe
    have c22 : ta % 8 ≤ 2 := le_2 (isO_c tlo).2 c3 c4
    obtain ⟨om1, it1, hld, kp, eK1⟩ := hLd_of (o := o) (S0 := ((tv, false, fL (x a d)) :: S0)) it eS pf1 tlo hov (by omega)
    obtain ⟨h1, q1, l1, z1, hX⟩ := k_265o (L := L) (xs := xs) (zf := zf) (w := w) (k := k + 7) (op := 12) (ht := (fBs (x a d) + (mi (fMe (x a d))).2.2.2.2 + ((tv, false, fL (x a d)) :: S0).length)) (st := la.1 o) (f := f - f0) (o := o) rh (by omega) ⟨o1', o2', o3', o4'⟩ (by rw [p2]; show cvl (om.1 (pS a (fQ (x a d) + ((tv, false, fL (x a d)) :: S0).length))) = _; rw [oo3, cv_2]) oo1 (by omega) o2 f8
    obtain ⟨h', e1, e2, e3, e4⟩ := k_52s (L := L) (xs := xs) (zf := zf) (w := w) (k := k + 7) (st := la.1 o + 1) (f := f - f0) (ht := (fBs (x a d) + (mi (fMe (x a d))).2.2.2.2 + S0.length)) (sg := sPo sg a (fBs (x a d) + (mi (fMe (x a d))).2.2.2.2 + ((tv, false, fL (x a d)) :: S0).length)) q1 (by omega) soq (Int32.ofNat (f - f0) * 2 + 0) (fop (f - f0) f8).2.1 hlt
    rw [sPo_0] at e1
    have hd := hX _ e1
    obtain ⟨g', it2, _⟩ := it_so (x := (xU x a d (fMe (x a d), fL (x a d), fG (x a d), fGn (x a d), ((tv, false, fL (x a d)) :: S0), fRe (x a d), fBs (x a d), fQ (x a d)))) (om := om1) (S0 := S0) (tv := tv) (f := f - f0) (tf := tf) (c := ta % 8) (o := o) it1 (by rw [xU_eq]) (by rw [xU_eq]; exact pf) (by rw [xU_eq]; exact hld) oo1 oo2 (by rw [eK1]; exact kn) c22 nf1 ft1 safe dt fit
    rw [xU_eq] at it2
    obtain ⟨q', bh, om2, N2, x2, ru⟩ := J_26e (p := p) (x := (xU (xU x a d (fMe (x a d), fL (x a d), fG (x a d), fGn (x a d), ((tv, false, fL (x a d)) :: S0), fRe (x a d), fBs (x a d), fQ (x a d))) a d (fMe (x a d), fL (x a d), fG (x a d), fGn (x a d), S0, fRe (x a d), fBs (x a d), fQ (x a d)))) cb hn it2 (by
      show (sPo (sPo sg a (fBs (x a d) + (mi (fMe (x a d))).2.2.2.2 + ((tv, false, fL (x a d)) :: S0).length)) a (fBs (x a d) + (mi (fMe (x a d))).2.2.2.2 + S0.length)).2.2.2.1 a 7 d = _
      rw [sQ_R (Or.inl (by decide)), sQ_R (Or.inl (by decide))]
      exact n7) q4 (by rw [xU_eq]; exact sc)
    rw [xU_eq] at ru
    have hr := r_400o (k := k2 + 7) (i := 10 * a + d) (t := fQ (x a d) + S0.length) (f := f - f0) (o := o) (bs := la.2.2.1 o) (K := 26) false rq a12 (by omega) q4 eK rfl e45 hp0 e10 r93' (by omega) (p3.trans oo3) (by omega) o5 bd s53 bh (by decide) (by omega : 6000 ≤ w)
    have ru : rUn sB A B mi kc om2 ka la ms N2 cn _ (rs_wA (rs_wA (rs_wB (rs_wA (rs_wA s 93 a (Int32.ofNat (fQ (x a d) + ((tv, false, fL (x a d)) :: S0).length))) 93 a (Int32.ofNat (fQ (x a d) + S0.length))) 96 (400 * a + la.2.2.1 o + (f - f0)) (s.2.2 97 (10100 * a + (fQ (x a d) + S0.length)))) 93 a (Int32.ofNat (fQ (x a d) + S0.length))) 99 (10 * a + d) (Int32.ofNat q')) D x2 := ru
    rw [eR] at ru
    refine jEx_s (x_12s (k := k + 10) cb rh (by omega) hA (by rw [hB', oT0]; exact hd)) (act_sub (k := k2 + 11) rq q4 eK (Or.inr (Or.inl ⟨rfl, rfl⟩)) hr) e2 hn ac ru ?_ (CST_0 (fun b => ?_) (e3.trans l1) (e4.trans z1))
    · show (sPo (sPo sg a (fBs (x a d) + (mi (fMe (x a d))).2.2.2.2 + ((tv, false, fL (x a d)) :: S0).length)) a (fBs (x a d) + (mi (fMe (x a d))).2.2.2.2 + S0.length)).2.2.2.2 a 0 = _
      rw [sPo_0, sPo_0]
    · show (sPo (sPo sg a (fBs (x a d) + (mi (fMe (x a d))).2.2.2.2 + ((tv, false, fL (x a d)) :: S0).length)) a (fBs (x a d) + (mi (fMe (x a d))).2.2.2.2 + S0.length)).2.2.2.2 b 13 = _
      rw [sPo_13, sPo_13]
end JST
