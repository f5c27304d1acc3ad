/-! A MESSAGE BY BOTH. -/
/-- parameters of what is sent can be sent -/
def mSd (sB : rS) : Prop := ∀ (k : Nat) (c : Int64) (m : Nat) (ps : List Nat), mtT sB k 2 c m → pmT sB m ps → ∀ q' ∈ ps, sdT q' = true
/-- a Method's number is its place -/
def mNu (hB : rm_H) (Z : Nat → Prop) (es : List Nat) : Prop := ∀ (m M np loc : Nat) (num en : Int32), es[m]? = some M → MB hB Z M num np loc en → num = Int32.ofNat m
section JSD
variable {sB : rS} {A B : Nat → Int32} {mi : Nat → Nat × Nat × Nat × Nat × Nat} {kc : kCi} {om om' : oMg} {ka ka' : kAp} {la : lAy} {ms : mSg} {N N' cn : Nat} {sg sg' sg2 : cS} {s s' s2 S1 : rS} {a b d e lo q0 J l t r i n p q k k2 f0 w P L sz lv : Nat} {xs : Nat → Int32} {zf : Value} {Z : Nat → Prop} {hB h h' : rm_H} {es : List Nat} {x : Nat → Nat → fDs} {D : Nat → Nat} {S S0 X : List stE} {v : Int64} {y : Int32}
variable {om1 : oMg} {j tl m : Nat} {ts ps : List Nat}
theorem bhd_i {q2 : Nat} (b1 : bhd s N n q) (b2 : bhd s N' n q2) : Int32.ofNat q = Int32.ofNat q2 := by
  have h1 := b1 s 6000 0 (N + N') (fun _ _ _ => rfl) (Nat.le_refl _) (by omega)
  have h2 := b2 s 6000 0 (N + N') (fun _ _ _ => rfl) (Nat.le_refl _) (by omega)
  rw [h1] at h2
  injection h2 with h3
  injection h3 with h4 _
  injection h4 with h5
  injection h5
theorem wAl_14 (w : wAl sB kc om ka la ms N cn sg s D) : wAl sB kc om ka la ms N cn (sXc sg 14 (sg.1 14 + 1)) (rs_w s 83 (s.1 83 + 1)) D := by
  obtain ⟨x1, gi, ⟨clm, mb, tn, n1, n2, n3, n4, n5, n6, n7, n8, ⟨n9, n9b, n9c⟩, n10, n11⟩, wo, wd, wa⟩ := w
  have g1 : ∀ j, j ≠ 14 → (sXc sg 14 (sg.1 14 + 1)).1 j = sg.1 j := fun j hj => upd_ne' (g := sg.1) hj
  have s1 : ∀ j, j ≠ 83 → (rs_w s 83 (s.1 83 + 1)).1 j = s.1 j := fun j hj => upd_ne' (g := s.1) hj
  have g14 : (sXc sg 14 (sg.1 14 + 1)).1 14 = sg.1 14 + 1 := upd_eq' (g := sg.1) (i := 14) (v := sg.1 14 + 1)
  have s83 : (rs_w s 83 (s.1 83 + 1)).1 83 = s.1 83 + 1 := upd_eq' (g := s.1) (i := 83) (v := s.1 83 + 1)
  refine ⟨x1, gi, ?_, wo, wd, wa⟩
  unfold wNm
  rw [g14, s83, g1 5 (by decide), g1 6 (by decide), g1 8 (by decide), g1 9 (by decide), g1 10 (by decide), g1 11 (by decide), g1 12 (by decide), g1 13 (by decide), g1 15 (by decide), s1 78 (by decide), s1 79 (by decide), s1 75 (by decide), s1 76 (by decide), s1 77 (by decide), s1 87 (by decide), s1 80 (by decide), s1 81 (by decide), s1 82 (by decide), s1 84 (by decide), s1 74 (by decide)]
  exact ⟨clm, mb, tn, n1, n2, n3, n4, n5, n6, n7, n8, ⟨n9, by rw [n9b], n9c⟩, n10, n11⟩
/-- the mailbox is full: the same instruction again -/
theorem J_12f {z c : Nat} {f : Nat → Int32} (it : iTm sB A B mi kc om ka la ms N cn sg s D x a d) (pt : PT sB A B (fMe (x a d)) (mi (fMe (x a d))).1 (mi (fMe (x a d))).2.1 (mi (fMe (x a d))).2.2.1 p q (fL (x a d)) (fG (x a d)) (fGn (x a d)) (fSt (x a d))) (r99 : s.2.1 99 (10 * a + d) = Int32.ofNat q) (q4 : q < 4400) (hf : ∀ i, i < (fBs (x a d) + (mi (fMe (x a d))).2.2.2.2 + (fSt (x a d)).length) → f i = sg.2.2.2.1 a 12 i) (c1 : (fBs (x a d) + (mi (fMe (x a d))).2.2.2.2 + (fSt (x a d)).length) ≤ c) (c2 : 64 ≤ c) (c3 : c ≤ 40000) : ∃ om2 N2 x2, rUn sB A B mi kc om2 ka la ms N2 cn (sR (sQ (sXc sg 14 (sg.1 14 + 1)) a z c f (fBs (x a d) + (mi (fMe (x a d))).2.2.2.2 + (fSt (x a d)).length)) a 7 d (Int32.ofNat p)) (rs_w s 83 (s.1 83 + 1)) D x2 := by
  obtain ⟨⟨a12, d10, u1, u2, u3, u4⟩, rq, fx, b3, r92, b8, gi, rl, ob4⟩ := it_f it
  have it0 := it
  obtain ⟨wl, _, _, ⟨_, ac, _⟩, vl, rg, nm, _, _, so, r93, _⟩ := it0
  have it1 : iTm sB A B mi kc om ka la ms N cn (sXc sg 14 (sg.1 14 + 1)) (rs_w s 83 (s.1 83 + 1)) D x a d := ⟨wAl_14 it.1, it.2⟩
  obtain ⟨v1, v2, v3, v4⟩ := vl
  have lv := LV_PT pt
  have e12 : (sR (sQ (sXc sg 14 (sg.1 14 + 1)) a z c f (fBs (x a d) + (mi (fMe (x a d))).2.2.2.2 + (fSt (x a d)).length)) a 7 d (Int32.ofNat p)).2.2.2.1 a 12 = f := (if_neg (fun z => absurd z.2 (by decide))).trans sQ_f
  have e9 : (sR (sQ (sXc sg 14 (sg.1 14 + 1)) a z c f (fBs (x a d) + (mi (fMe (x a d))).2.2.2.2 + (fSt (x a d)).length)) a 7 d (Int32.ofNat p)).2.2.2.1 a 9 = sg.2.2.2.1 a 9 := (if_neg (fun z => absurd z.2 (by decide))).trans (sQ_R (Or.inl (by decide)))
  have hl : ∀ y ∈ fSt (x a d), y.2.2 ≤ fL (x a d) := fun y hy => lv.1 y hy
  refine ⟨_, _, _, eNd2 (om' := om) (sg' := sR (sQ (sXc sg 14 (sg.1 14 + 1)) a z c f (fBs (x a d) + (mi (fMe (x a d))).2.2.2.2 + (fSt (x a d)).length)) a 7 d (Int32.ofNat p)) (s' := (rs_w s 83 (s.1 83 + 1))) (J := fL (x a d)) (S' := fSt (x a d)) it1 (Nat.le_refl _) (kCl_t (kCl_q (fun i hi => hf i (by omega))) kCl_7) kRf_r (fun _ _ => ⟨rfl, rfl⟩) rSt_r gi rfl (PJ_0 (n := 0) pt) pt ?_ r99 q4 u3 (Nat.le_refl _) nm.1 nm.2.1 nm.2.2.1 (fun y hy gy => ?_) ?_ ?_ hl ?_ r93⟩
  · show (if a = a ∧ 7 = 7 then upd _ d (Int32.ofNat p) else _) d = _
    rw [if_pos ⟨rfl, rfl⟩, upd_eq']
  · obtain ⟨w1, w2, w3, w4, w5⟩ := v2 y hy gy
    have sl := (nm.2.2.1 y hy).1
    exact ⟨w1, w2, w3, by rw [e12, hf _ (by omega)]; exact w4, w5⟩
  · obtain ⟨tt, t1, t2, t3, t4, t5, t6, t7, t8⟩ := v3
    exact ⟨tt, t1, t2, t3, t4, t5, by rw [e9]; exact t6, t7, t8⟩
  · refine sVl_m _ v4 (fun y i hy hi pe => ?_)
    obtain ⟨w1, w2, w3, w4⟩ := pe
    exact ⟨w1, by rw [e12, hf _ (by omega)]; exact w2, w3, w4⟩
  · exact SOK_q c1 c2 c3
/-- a message -/
theorem J_12 (cb : CB hB Z P A B sz es) (rh : RH (.ref P) n sg Z hB h) (hn : ka.2.2.2 ≤ n) (it : iTm sB A B mi kc om ka la ms N cn sg s D x a d) (n7 : sg.2.2.2.1 a 7 d = Int32.ofNat (p + 1)) (q4 : q < 4400) (hw : 10000 ≤ w) {pl : Bool} (sk : mKd sB) (kfr : kFr sB kc) (msd : mSd sB) (mnu : mNu hB Z es) (ce : cEe sB A B mi hB Z es m) (pt : PT sB A B (fMe (x a d)) (mi (fMe (x a d))).1 (mi (fMe (x a d))).2.1 (mi (fMe (x a d))).2.2.1 p q (fL (x a d)) (fG (x a d)) (fGn (x a d)) (fSt (x a d))) (r99 : s.2.1 99 (10 * a + d) = Int32.ofNat q) (eK : sB.2.1 44 q = Int32.ofNat 12) (eS : fSt (x a d) = (tl, pl, fL (x a d)) :: (vE (fL (x a d)) ts ++ S0)) (t8 : 8 ≤ tl) (t5 : 5 ≤ tl % 8) (mt : mtT sB (tl / 8 - 1) 2 (sB.2.2 56 q) m) (af : AF sB m ts) (h52 : sB.2.1 52 q = Int32.ofNat ts.length) (h53 : sB.2.1 53 q = Int32.ofNat m) (hA : A p = 5) (hB' : B p = Int32.ofNat m) (ec : EC sB A B (fMe (x a d)) (mi (fMe (x a d))).1 (mi (fMe (x a d))).2.1 (mi (fMe (x a d))).2.2.1 q (p + 1) (fL (x a d)) (fG (x a d)) (fGn (x a d)) 0 S0) : jEx sB A B mi kc L xs zf w P Z hB k k2 n cn a d p q sg h s := by
  obtain ⟨⟨a12, d10, u1, u2, u3, u4⟩, rq, fx, b3, r92, b8, gi, rl, ob4⟩ := it_f it
  have it0 := it
  obtain ⟨wl, _, _, ⟨_, ac, _⟩, vl, rg, nm, _, _, so, r93, _⟩ := it0
  have len := ec_len it q4 ec
  have pf0 := LV_EC ec
  have hlen : (vE (fL (x a d)) ts ++ S0).length = S0.length + ts.length := by rw [List.length_append, vE_len]; omega
  have pf : eLv (fL (x a d)) (vE (fL (x a d)) ts ++ S0) := by
    intro e he
    rcases List.mem_append.mp he with z | z
    · unfold vE at z
      obtain ⟨t', _, e2⟩ := List.mem_map.mp z
      rw [← e2]
      exact ⟨rfl, Nat.le_refl _⟩
    · exact pf0 e z
  obtain ⟨mo, Gc, ps, pe, qe, lve, M, num, c1, c2, c3, c4, c5, c6, c7, c8, c9, c10⟩ := ce
  obtain ⟨ps', f1, f2, f3⟩ := af
  have eps := pm_u f1 c1
  subst eps
  obtain ⟨k8, m72, e71, _⟩ := sk _ _ _ _ mt
  have e70 : sB.2.1 70 m = 2 := by obtain ⟨_, _, _, _, _, _, _, z, _⟩ := mt; exact z
  have top := vl.2.2.2
  rw [eS] at top so r93
  have eq1 : fQ (x a d) + (vE (fL (x a d)) ts ++ S0).length = (fQ (x a d) + S0.length) + ts.length := by rw [hlen, Nat.add_assoc]
  have eq2 : fBs (x a d) + (mi (fMe (x a d))).2.2.2.2 + (vE (fL (x a d)) ts ++ S0).length = (fBs (x a d) + (mi (fMe (x a d))).2.2.2.2 + S0.length) + ts.length := by rw [hlen, Nat.add_assoc _ S0.length]
  obtain ⟨⟨p1, p2, p3, p4, p5, p6⟩, _⟩ := top
  have p1 : vAl om ka a tl (om.1 (pS a (fQ (x a d) + (vE (fL (x a d)) ts ++ S0).length))) := p1
  have p2 : sg.2.2.2.1 a 12 (fBs (x a d) + (mi (fMe (x a d))).2.2.2.2 + (vE (fL (x a d)) ts ++ S0).length) = cvl (om.1 (pS a (fQ (x a d) + (vE (fL (x a d)) ts ++ S0).length))) := p2
  have p3 : s.2.2 97 (10100 * a + (fQ (x a d) + (vE (fL (x a d)) ts ++ S0).length)) = om.1 (pS a (fQ (x a d) + (vE (fL (x a d)) ts ++ S0).length)) := p3
  rw [eq1] at p1 p2 p3
  rw [eq2] at p2
  have so1 : SOK sg a ((fBs (x a d) + (mi (fMe (x a d))).2.2.2.2 + S0.length) + ts.length + 1) := by
    have := so
    rw [List.length_cons, ← Nat.add_assoc, eq2] at this
    exact this
  have r93' : s.2.1 93 a = Int32.ofNat ((fQ (x a d) + S0.length) + ts.length + 1) := by
    rw [List.length_cons, ← Nat.add_assoc, eq1] at r93
    exact r93
  have itp := it_pop (X := [(tl, pl, fL (x a d))]) (S0 := (vE (fL (x a d)) ts ++ S0)) it eS pf
  rw [eq1, eq2] at itp
  have hfm : ∃ fs, hc h M = some (.inr (11, fs)) := by
    obtain ⟨fs, _, _, _, z, _⟩ := c10
    obtain ⟨fs2, y, _⟩ := rh.1.2.2.1 _ _ _ z
    exact ⟨fs2, y⟩
  have hq10 : (fQ (x a d) + S0.length) + ts.length < 10100 := by
    rw [eS, List.length_cons, hlen] at u3
    omega
  have u3' : S0.length < 1010 := len
  have lts : ps'.length = ts.length := f2
  by_cases v0 : om.1 (pS a ((fQ (x a d) + S0.length) + ts.length)) = 0
  · have z0 : sg.2.2.2.1 a 12 ((fBs (x a d) + (mi (fMe (x a d))).2.2.2.2 + S0.length) + ts.length) = 0 := by rw [p2, v0, cv_0]
    obtain ⟨h', e1, e2, e3, e4⟩ := k_sendZ (L := L) (xs := xs) (zf := zf) (w := w) (k := k + 8) (ht := (fBs (x a d) + (mi (fMe (x a d))).2.2.2.2 + S0.length) + ts.length) (M := M) (i := p) rh (by omega) so1 z0
    have hr := act_sub (K := 12) (mi := 399) rq q4 eK (Or.inr (Or.inr (Or.inr (Or.inr ⟨rfl, rfl⟩)))) (r_msg1 (w := w) (k := k2 + 10) (i := 10 * a + d) (n := q) a12 r93' (by omega) (by rw [p3]; exact v0))
    have ru := J_fl (why := 1) itp
    rw [sFl_93] at ru
    exact jEx_f (x_5s (k := k + 7) cb rh (by omega) hA hB' c9 hfm (by omega) e1) hr (by decide) e2 hn ac ru sPo_0 sPo_13 e3 e4
  -- who it goes to
  obtain ⟨b, bc, bv, bk⟩ : ∃ b : Nat, b < ka.2.2.2 ∧ om.1 (pS a ((fQ (x a d) + S0.length) + ts.length)) = mdV 3 (Int32.ofNat b) ∧ ka.2.1 b + 1 = tl / 8 := by
    rcases p1.1 with h | h | h | h | h
    · omega
    · omega
    · omega
    · rcases h.2.2 with y | y
      · exact absurd y v0
      · exact y
    · exact ⟨a, ac, h.2.2.1, h.2.2.2.2⟩
  have wl0 := wl
  obtain ⟨_, _, ⟨clm, mb, tn, _, ⟨n2, n2b, n2c, n2d⟩, ⟨n3, n3b, n3c⟩, _⟩, _, _, wa⟩ := wl0
  obtain ⟨_, _, hms⟩ := wa b bc
  have hms0 := hms
  obtain ⟨⟨m1, m2, m3⟩, ⟨m4, m5⟩, _⟩ := hms0
  have cv1 : sg.2.2.2.1 a 12 ((fBs (x a d) + (mi (fMe (x a d))).2.2.2.2 + S0.length) + ts.length) = Int32.ofNat (b + 1) := by rw [p2, bv, cv_3, of_inc]
  have wm : ms.1 b ≤ mb := by
    obtain ⟨_, _, ⟨clm', mb', tn', _, ⟨y2, _, _, y2d⟩, _, _, _, _, _, _, _, _, y11⟩, _⟩ := wl
    have e : mb = mb' := ofn_inj (by omega) (by omega) (n2.symm.trans y2)
    rw [e]
    exact y11.1 b bc
  by_cases full : mb ≤ ms.1 b
  · have ef : (fBs (x a d) + (mi (fMe (x a d))).2.2.2.2 + (fSt (x a d)).length) = (fBs (x a d) + (mi (fMe (x a d))).2.2.2.2 + S0.length) + ts.length + 1 := by rw [eS, List.length_cons, ← Nat.add_assoc, eq2]
    obtain ⟨h', z, c, f, e1, e2, e3, e4, e5⟩ := k_sendF (L := L) (xs := xs) (zf := zf) (w := w) (k := k + 7) (ht := (fBs (x a d) + (mi (fMe (x a d))).2.2.2.2 + S0.length) + ts.length) (M := M) (i := p) (wt := ms.1 b) (mb := mb) (b := b) (ac := ka.2.2.2) rh (by omega) so1 cv1 n3 hn n3c bc m2 n2 (by omega) n2d full b3 (by omega)
    have hr := act_sub (K := 12) (mi := 399) rq q4 eK (Or.inr (Or.inr (Or.inr (Or.inr ⟨rfl, rfl⟩)))) (r_msgF (w := w) (k := k2 + 10) (i := 10 * a + d) (n := q) (b := b) a12 r93' (by omega) (by rw [p3]; exact bv) (by omega) (by rw [m3, n2b]; exact congrArg Int32.ofNat (by omega)))
    have c40 : c ≤ 40000 := by
      have := so1.2.2.2
      rcases e3.2.2.2 with y | y
      · omega
      · omega
    obtain ⟨om2, N2, x2, ru⟩ := J_12f (z := z) (c := c) (f := f) it pt r99 q4 (fun i hi => by
      rw [ef] at hi
      by_cases ei : i = (fBs (x a d) + (mi (fMe (x a d))).2.2.2.2 + S0.length) + ts.length
      · rw [ei, e4]; exact cv1.symm
      · exact e3.1 i (by omega)) (by rw [ef]; exact e3.2.1) e3.2.2.1 c40
    rw [ef] at ru
    exact jEx_s (x_5s (k := k + 7) cb rh (by omega) hA hB' c9 hfm (by omega) e1) hr e2 hn ac ru (by
      show (sQ (sXc sg 14 (sg.1 14 + 1)) a z c f ((fBs (x a d) + (mi (fMe (x a d))).2.2.2.2 + S0.length) + ts.length + 1)).2.2.2.2 a 0 = _
      rw [sQ_P (Or.inl (by decide))]
      rfl) (CST_t e5 (CST_0 (fun _ => rfl) rfl rfl))
  have w6 : ms.1 b < 6 := by omega
  obtain ⟨j, j6, jz, ju, jf⟩ := free_j hms w6
  have sd := msd _ _ _ _ mt c1
  obtain ⟨om1, sn, vk, kn, obs⟩ := snd_1 (x := (xU x a d (fMe (x a d), fL (x a d), fG (x a d), fGn (x a d), (vE (fL (x a d)) ts ++ S0), fRe (x a d), fBs (x a d), fQ (x a d)))) (S0 := S0) (ts := ts) (ps := ps') itp kfr (by rw [xU_eq]) lts f3 (pm_d c1) sd b j
  rw [xU_eq] at sn vk
  have rmb : RMB sB s m qe ts.length := by
    rw [← lts]
    exact rmb_k c8 (fx.1 76 (by decide)) (fx.1 77 (by decide))
  obtain ⟨q', lv', S', bh, hl, ptc, hS'⟩ := AD_E nm.2.2.2.2.2.1 nm.2.2.2.2.1 nm.1 q4 ec
  obtain ⟨br, wl', bt, ag, Lb, r1, r2, r3, r4, r5, r6, r7⟩ := r_msgS (w := w) (k := k2 + 6) (i := 10 * a + d) (n := q) (t := (fQ (x a d) + S0.length)) (b := b) (wt := ms.1 b) (j := j) (mb := mb) rq rmb a12 (by omega) q4 (by rw [fx.1 53 (by decide)]; exact h53) (by rw [fx.1 52 (by decide)]; exact h52) r93' hq10 (by rw [p3]; exact bv) (by omega) m3 w6 n2b n2d (by omega) j6 jz ju (fun i hi => vk i (by omega)) kn bh (by decide) (by omega)
  have hr := act_sub (K := 12) (mi := 399) rq q4 eK (Or.inr (Or.inr (Or.inr (Or.inr ⟨rfl, rfl⟩)))) r1
  obtain ⟨h', z, c, g, f, e1, e2, ⟨e3, e4, e5⟩, e6, e7, e8⟩ := k_sendB (a := a) (L := L) (xs := xs) (zf := zf) (w := w) (k := k + 6) (i := p) (bs := (fBs (x a d) + (mi (fMe (x a d))).2.2.2.2 + S0.length)) (np := ps'.length) (b := b) (wt := ms.1 b) (mx := mb) (fr0 := ms.2.1 b) (ac := ka.2.2.2) c10 rh (by omega) (by rw [lts]; exact so1) (by rw [lts]; exact cv1) n3 hn n3c bc m2 n2 n2d (by omega) m5 m4 c2 (by omega)
  have enum : num = Int32.ofNat m := mnu m M _ _ num _ c9 c10
  rw [lts] at e2 e8
  have g10 : (sSe (sPo sg a ((fBs (x a d) + (mi (fMe (x a d))).2.2.2.2 + S0.length) + ts.length)) a b (fBs (x a d) + (mi (fMe (x a d))).2.2.2.2 + S0.length) (ms.1 b) g).2.2.2.1 b 10 = g := if_pos ⟨rfl, rfl⟩
  have a12' : (sSe (sPo sg a ((fBs (x a d) + (mi (fMe (x a d))).2.2.2.2 + S0.length) + ts.length)) a b (fBs (x a d) + (mi (fMe (x a d))).2.2.2.2 + S0.length) (ms.1 b) g).2.2.2.1 a 12 = (sPo sg a ((fBs (x a d) + (mi (fMe (x a d))).2.2.2.2 + S0.length) + ts.length)).2.2.2.1 a 12 := if_neg (fun z => absurd z.2 (by decide))
  have it2 := snd_2 (x := (xU x a d (fMe (x a d), fL (x a d), fG (x a d), fGn (x a d), (vE (fL (x a d)) ts ++ S0), fRe (x a d), fBs (x a d), fQ (x a d)))) (S0 := S0) (ts := ts) (ps := ps') (b := b) (j := j) (m := m) (om1 := om1) (L := Lb) (br := br) (wk := wl') (bt := bt) (ag := ag) (sg' := sSe (sPo sg a ((fBs (x a d) + (mi (fMe (x a d))).2.2.2.2 + S0.length) + ts.length)) a b (fBs (x a d) + (mi (fMe (x a d))).2.2.2.2 + S0.length) (ms.1 b) g) itp (by rw [xU_eq]) (by rw [xU_eq]; exact pf0) lts f3 bc j6 jf (fun mb' h1 h2 => by
    have h2 : sg.1 6 = Int32.ofNat mb' := h2
    have e : mb = mb' := ofn_inj (by omega) (by omega) (n2.symm.trans h2)
    omega) (by rw [xU_eq]; exact sn) obs c1 c2 sd m72 (by rw [e71]; exact congrArg Int32.ofNat (by omega)) ⟨by rw [e70]; decide, by
    obtain ⟨m0, m1, y1, y2, y3, y4, y5, _, _, kr8⟩ := mt
    exact ⟨_, m0, m1, kr8, y1, y2, by omega, y4, y5⟩⟩ r2 r3 (by rw [xU_eq, lts]; exact r4) (by rw [lts]; exact r5) r6 r7 (by
    refine ⟨fun j hj => upd_ne' (g := sg.1) hj, rfl, fun c j h1 h2 => ?_, fun c j h1 h2 => if_neg h2, fun _ _ _ => rfl⟩
    show (sA' (sA' (sM (sPo sg a ((fBs (x a d) + (mi (fMe (x a d))).2.2.2.2 + S0.length) + ts.length)) b g) a 13 (Int32.ofNat (fBs (x a d) + (mi (fMe (x a d))).2.2.2.2 + S0.length))) b 4 (Int32.ofNat (ms.1 b + 1))).2.2.1 c j = _
    exact (if_neg h2).trans (if_neg h1)) a12' (upd_eq' (g := sg.1) (i := 13) (v := sg.1 13 + 1)) (by
    show (sA' (sA' (sM (sPo sg a ((fBs (x a d) + (mi (fMe (x a d))).2.2.2.2 + S0.length) + ts.length)) b g) a 13 (Int32.ofNat (fBs (x a d) + (mi (fMe (x a d))).2.2.2.2 + S0.length))) b 4 (Int32.ofNat (ms.1 b + 1))).2.2.1 b 4 = _
    exact sA_at) (by rw [g10, e3, enum]) (fun i hi => by
    rw [xU_eq, g10, e4 i hi]
    show _ = (sPo sg a ((fBs (x a d) + (mi (fMe (x a d))).2.2.2.2 + S0.length) + ts.length)).2.2.2.1 a 12 _
    rw [sQ_f]) (fun i hi => by
    rw [g10, e5 i (by omega)]
    show _ = (sPo sg a ((fBs (x a d) + (mi (fMe (x a d))).2.2.2.2 + S0.length) + ts.length)).2.2.2.1 b 10 i
    rw [sQ_R (Or.inl (by decide))]) (by
    rw [xU_eq]
    refine ⟨?_, ?_, ?_, ?_⟩
    · show (sA' (sA' (sM (sPo sg a ((fBs (x a d) + (mi (fMe (x a d))).2.2.2.2 + S0.length) + ts.length)) b g) a 13 (Int32.ofNat (fBs (x a d) + (mi (fMe (x a d))).2.2.2.2 + S0.length))) b 4 (Int32.ofNat (ms.1 b + 1))).2.2.1 a 13 = _
      rw [sA_ne (Or.inl (by decide)), sA_at]
    · show (fBs (x a d) + (mi (fMe (x a d))).2.2.2.2 + S0.length) ≤ (sPo sg a ((fBs (x a d) + (mi (fMe (x a d))).2.2.2.2 + S0.length) + ts.length)).2.2.2.2 a 13
      rw [sPo_13]
      have := so1.2.1
      omega
    · show 64 ≤ (sPo sg a ((fBs (x a d) + (mi (fMe (x a d))).2.2.2.2 + S0.length) + ts.length)).2.2.2.2 a 13
      rw [sPo_13]; exact so1.2.2.1
    · show (sPo sg a ((fBs (x a d) + (mi (fMe (x a d))).2.2.2.2 + S0.length) + ts.length)).2.2.2.2 a 13 ≤ 40000
      rw [sPo_13]; exact so1.2.2.2)
  rw [xU_eq, rs_wAA] at it2
  have jp := J_psh (x := (xU (xU x a d (fMe (x a d), fL (x a d), fG (x a d), fGn (x a d), (vE (fL (x a d)) ts ++ S0), fRe (x a d), fBs (x a d), fQ (x a d))) a d (fMe (x a d), fL (x a d), fG (x a d), fGn (x a d), S0, fRe (x a d), fBs (x a d), fQ (x a d)))) (X := []) (S0 := S0) (t := 0) (v := 0) (n := q) (p := p) (z := z) (c := c) (f := f) (S1 := sSd (sS1 (rs_wA s 93 a (Int32.ofNat (fQ (x a d) + S0.length))) b (ms.1 b) (6 * b + j) m) br wl' bt ag) it2 (by rw [xU_eq]; rfl) (gl_r (G := fG ((xU (xU x a d (fMe (x a d), fL (x a d), fG (x a d), fGn (x a d), (vE (fL (x a d)) ts ++ S0), fRe (x a d), fBs (x a d), fQ (x a d))) a d (fMe (x a d), fL (x a d), fG (x a d), fGn (x a d), S0, fRe (x a d), fBs (x a d), fQ (x a d))) a d)) (g := fGn ((xU (xU x a d (fMe (x a d), fL (x a d), fG (x a d), fGn (x a d), (vE (fL (x a d)) ts ++ S0), fRe (x a d), fBs (x a d), fQ (x a d))) a d (fMe (x a d), fL (x a d), fG (x a d), fGn (x a d), S0, fRe (x a d), fBs (x a d), fQ (x a d))) a d))) q4 (by rw [xU_eq]; exact ec) (by decide) (fun z => absurd z (by decide)) ⟨Or.inr (Or.inl ⟨Or.inl rfl, rfl⟩), fun z => absurd oV_0 z⟩ (fun z => absurd oV_0 z) (by
    rw [xU_eq]
    refine ⟨fun i hi => (e6.1 i hi).trans ?_, e6.2.1, e6.2.2.1, ?_⟩
    · rw [a12', sQ_f]
    · show c ≤ (sPo sg a ((fBs (x a d) + (mi (fMe (x a d))).2.2.2.2 + S0.length) + ts.length)).2.2.2.2 a 13 ∨ _
      rw [sPo_13]
      exact e6.2.2.2) (by rw [xU_eq, cv_0]; exact e7) (by
    show (sM (sPo sg a ((fBs (x a d) + (mi (fMe (x a d))).2.2.2.2 + S0.length) + ts.length)) b g).2.2.2.1 a 7 d = _
    rw [sM_R (Or.inl (by decide)), sQ_R (Or.inl (by decide))]
    exact n7) (Or.inl rfl)
  rw [xU_eq] at jp
  obtain ⟨q2, bh2, om3, N3, x3, ru⟩ := jp
  rw [bhd_i bh2 bh] at ru
  exact jEx_s (x_5s (k := k + 7) cb rh (by omega) hA hB' c9 hfm (by omega) e1) hr e2 hn ac ru (by
    show (sQ (sSe (sPo sg a ((fBs (x a d) + (mi (fMe (x a d))).2.2.2.2 + S0.length) + ts.length)) a b (fBs (x a d) + (mi (fMe (x a d))).2.2.2.2 + S0.length) (ms.1 b) g) a z c f ((fBs (x a d) + (mi (fMe (x a d))).2.2.2.2 + S0.length) + 1)).2.2.2.2 a 0 = _
    rw [sQ_P (Or.inl (by decide))]
    exact sPo_0 (ht := (fBs (x a d) + (mi (fMe (x a d))).2.2.2.2 + S0.length) + ts.length)) e8
end JSD
