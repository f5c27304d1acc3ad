/-! A NEW OBJECT BY BOTH: the whole. -/
section JNP
variable {sB : rS} {A B : Nat → Int32} {mi : Nat → Nat × Nat × Nat × Nat × Nat} {kc : kCi} {om om' : oMg} {ka ka' : kAp} {la : lAy} {ms : mSg} {N N' cn : Nat} {sg sg' sg2 : cS} {s s' s2 S1 : rS} {a b d e lo q0 J l t r i n p q k k2 f0 w P L sz lv : Nat} {xs : Nat → Int32} {zf : Value} {Z : Nat → Prop} {hB h h' : rm_H} {es : List Nat} {x : Nat → Nat → fDs} {D : Nat → Nat} {S S0 X : List stE} {v : Int64} {y : Int32}

theorem J_8o (cb : CB hB Z P A B sz es) (rh : RH (.ref P) n sg Z hB h) (hn : ka.2.2.2 ≤ n) (it : iTm sB A B mi kc om ka la ms N cn sg s D x a d) (n7 : sg.2.2.2.1 a 7 d = Int32.ofNat (p + 1)) (q4 : q < 4400) (hw : 10000 ≤ w) {kk m cp : Nat} {ts : List Nat} {em : Nat → Int64} (ce : cEe sB A B mi hB Z es m) (pb : PBp hB Z P) (kn : ∀ M, es[m]? = some M → kNw sB kc hB Z M kk em) (h70 : sB.2.1 70 m = 0) (h75 : sB.2.1 75 m = -1) (e71 : sB.2.1 71 m = Int32.ofNat kk) (eK : sB.2.1 44 q = Int32.ofNat 8) (eS : fSt (x a d) = (vE (fL (x a d)) ts ++ S0)) (h53 : sB.2.1 53 q = Int32.ofNat kk) (k8 : kk < 8) (h65 : sB.2.1 65 kk = Int32.ofNat m) (m72 : m < 72) (af : AF sB m ts) (h66 : sB.2.1 66 kk = 0) (hA : A p = 6) (hB' : B p = Int32.ofNat m) (cp5 : cp < 5) (hcp : cp = 0 ∨ cp = 1 ∨ cp = 3 → ∃ ps : List Nat, pmT sB m ps ∧ ∀ x ∈ ps, sdT x = true) (ec : EC sB A B (fMe (x a d)) (mi (fMe (x a d))).1 (mi (fMe (x a d))).2.1 (mi (fMe (x a d))).2.2.1 q (p + 1) (fL (x a d)) (fG (x a d)) (fGn (x a d)) (8 * (kk + 1) + cp) S0) : jEx sB A B mi kc L xs zf w P Z hB k k2 n cn a d p q sg h s := by
  obtain ⟨⟨a12, d10, u1, u2, u3, u4⟩, rq, fx, b3, r92, b8, gi, rl, ob4⟩ := it_f it
  have it0 := it
  obtain ⟨wl, _, _, ⟨_, ac, _⟩, vl, rg, nm, _, _, so, r93, _⟩ := it0
  have len := ec_len it q4 ec
  have pf0 := LV_EC ec
  have hlen : (vE (fL (x a d)) ts ++ S0).length = S0.length + ts.length := by rw [List.length_append, vE_len]; omega
  obtain ⟨mo, Gc, ps, pe, qe, lve, M, num, c1, c2, c3, c4, c5, c6, c7, c8, c9, c10⟩ := ce
  obtain ⟨ps', f1, f2, f3⟩ := af
  have eps := pm_u f1 c1
  subst eps
  obtain ⟨kf, hem, K, mk, mow, kbk⟩ := kn M c9
  have lts : ps'.length = ts.length := f2
  have eq1 : fQ (x a d) + (vE (fL (x a d)) ts ++ S0).length = (fQ (x a d) + S0.length) + ts.length := by rw [hlen, Nat.add_assoc]
  have eq2 : fBs (x a d) + (mi (fMe (x a d))).2.2.2.2 + (vE (fL (x a d)) ts ++ S0).length = (fBs (x a d) + (mi (fMe (x a d))).2.2.2.2 + S0.length) + ts.length := by rw [hlen, Nat.add_assoc _ S0.length]
  have hq10 : (fQ (x a d) + S0.length) + ts.length ≤ 10100 := by
    rw [eS, hlen] at u3
    omega
  rw [eS] at so r93
  rw [eq2] at so
  rw [eq1] at r93
  have hfm : ∃ fs, hc h M = some (.inr (11, fs)) := by
    obtain ⟨fs, _, _, _, y, _⟩ := c10
    obtain ⟨fs2, y2, _⟩ := rh.1.2.2.1 _ _ _ y
    exact ⟨fs2, y2⟩
  have s53 : s.2.1 53 q = Int32.ofNat kk := by rw [fx.1 53 (by decide)]; exact h53
  have s65 : s.2.1 65 kk = Int32.ofNat m := by rw [fx.1 65 (by decide)]; exact h65
  have s66 : s.2.1 66 kk = 0 := by rw [fx.1 66 (by decide)]; exact h66
  have kfs : KFR s kk (kc kk).1 em := by
    obtain ⟨y1, f0, y2, y3, y4, y5, y6⟩ := kf
    refine ⟨y1, f0, by rw [fx.1 64 (by decide)]; exact y2, by rw [fx.1 64 (by decide)]; exact y3, y4, y5, fun f hf => ?_⟩
    obtain ⟨w, w1, w2, w3⟩ := y6 f hf
    exact ⟨w, w1, by rw [fx.1 69 (by decide)]; exact w2, by rw [fx.1 60 (by decide)]; exact w3⟩
  have nf8 : (kc kk).1 ≤ 8 := by obtain ⟨_, _, _, _, _, y, _⟩ := kf; exact y
  have loc16 := mo.2.2.2.1.1
  by_cases dd : d + 1 = 10
  · obtain ⟨h', e1, e2, e3, e4⟩ := k_newF3 (L := L) (xs := xs) (zf := zf) (w := w) (k := k + 8) (M := M) (a := a) rh (by omega) (by rw [b3, dd])
    have hr := act_sub (K := 8) (mi := 397) rq q4 eK (Or.inr (Or.inr (Or.inl ⟨rfl, rfl⟩))) (r_make3 (w := w) (k := k2 + 9) (i := 10 * a + d) (n := q) a12 q4 s53 k8 s65 s66 (by rw [r92, dd]))
    exact jEx_f (sg1 := sg) (x_6s (k := k + 7) cb rh (by omega) hA hB' c9 hfm (by omega) e1) hr (by decide) e2 hn ac (J_fl it) rfl (fun _ => rfl) e3 e4
  have d9 : d + 1 < 10 := by omega
  have wl0 := wl
  obtain ⟨_, _, ⟨clm, mb, tn, ⟨n1, n1b, n1c⟩, _, ⟨n3, n3b, n3c⟩, ⟨n4, n4b⟩, ⟨n5, n5b, n5c⟩, ⟨n6, n6b⟩, _⟩, _⟩ := wl0
  have ob3 : ka.2.2.1 < 400 := by omega
  have kn := k_newO (L := L) (xs := xs) (zf := zf) (w := w) (k := k + 6) (bs := (fBs (x a d) + (mi (fMe (x a d))).2.2.2.2 + S0.length)) (np := ps'.length) (b := d + 1) c10 mow kbk pb rh (by omega) (by rw [lts]; exact so) b3 d9 n1 n1c n5 n5c nf8 n4 ob3 (by omega) c3 (by omega) (by omega)
  rcases kn with ⟨full, h', e1, e2, e3, e4⟩ | ⟨room, h', z, c, f, cf, e1, e2, ⟨cf1, cf2, cf3⟩, e3, e4, e5, e6, e7, e8⟩
  · have hr := act_sub (K := 8) (mi := 397) rq q4 eK (Or.inr (Or.inr (Or.inl ⟨rfl, rfl⟩))) (r_make2 (w := w) (k := k2 + 9) (i := 10 * a + d) (n := q) (d := d + 1) kfs a12 q4 s53 s65 s66 d9 r92 n5b n1b n1c (by omega) full)
    exact jEx_f (sg1 := sg) (x_6s (k := k + 7) cb rh (by omega) hA hB' c9 hfm (by omega) e1) hr (by decide) e2 hn ac (J_fl it) rfl (fun _ => rfl) e3 e4
  obtain ⟨q', lv', S', bh, hl, ptc, hS'⟩ := AD_E nm.2.2.2.2.2.1 nm.2.2.2.2.1 nm.1 q4 ec
  have eS' : S' = (8 * (kk + 1) + cp, false, fL (x a d)) :: S0 := by
    have pl0 : isPl (sB.2.1 44 q) = false := by rw [eK]; rfl
    rw [pl0] at hS'
    rcases hS' with y | ⟨t', y1, y2⟩
    · exact y
    · rw [y2, vlF_f (by omega) y1]
  subst eS'
  have q4c : q' < 4400 := by
    obtain ⟨_, ⟨_, y⟩, _⟩ := ptc
    exact y
  rw [lts] at e3
  have rmb : RMB sB s m qe ts.length := by
    rw [← lts]
    exact rmb_k c8 (fx.1 76 (by decide)) (fx.1 77 (by decide))
  obtain ⟨g, g2, r1, r2, r3, r4, r5⟩ := r_makeO (w := w) (k := k2 + 6) (i := 10 * a + d) (n := q) (d := d + 1) (t := (fQ (x a d) + S0.length)) rq kfs rmb a12 (by omega) q4 s53 s65 s66 d9 r92 n5b n1b n1c room n4b ob3 n6 (by omega) r93 hq10 bh (by decide) (by omega)
  have hr := act_sub (K := 8) (mi := 397) rq q4 eK (Or.inr (Or.inr (Or.inl ⟨rfl, rfl⟩))) r1
  rw [sOb_99] at hr
  have c40 : c ≤ 40000 := by
    have := so.2.2.2
    omega
  have cvv : Int32.ofNat (ka.2.2.1 + 1) = cvl (mdV 2 (Int32.ofNat (ka.2.2.1 + 1))) := (cv_2 _).symm
  have e2' : RH (.ref P) n (sE (sQ (sgO sg la.2.2.2.1 (kc kk).1 ka.2.2.1 cf) a z c f ((fBs (x a d) + (mi (fMe (x a d))).2.2.2.2 + S0.length) + (mi m).2.2.2.2)) a (d + 1) (Int32.ofNat pe) (Int32.ofNat (fBs (x a d) + (mi (fMe (x a d))).2.2.2.2 + S0.length)) (cvl (mdV 2 (Int32.ofNat (ka.2.2.1 + 1))))) Z hB h' := by
    rw [← cvv]
    exact e2
  have hsd : cp = 0 ∨ cp = 1 ∨ cp = 3 → ∀ q' ∈ ps', sdT q' = true := fun y => by
    obtain ⟨ps2, y1, y2⟩ := hcp y
    rw [pm_u c1 y1]
    exact y2
  have rN := rg.1 (fL (x a d)) (Nat.le_refl _)
  have go8 : ∀ R, ((R = fRe (x a d) (fL (x a d)) ∧ (cp = 2 ∨ cp = 4)) ∨ (R = N ∧ (cp = 0 ∨ cp = 1 ∨ cp = 3))) → jEx sB A B mi kc L xs zf w P Z hB k k2 n cn a d p q sg h s := by
    intro R hR
    have it2 := it_n (R := R) (em := em) (cf := cf) (g := g) it k8 h66 nf8 (fun cl h4 h5 => by
      have : clm = cl := ofn_inj (by omega) (by omega) (n1.symm.trans h5)
      omega) hem (by
      rcases hR with y | y
      · have := rN.2.1; omega
      · omega) (by
      rcases hR with y | y
      · right; rw [y.1]; exact rN.2.2
      · exact Or.inl y.1) cf1 cf2 cf3 r2 r3
    obtain ⟨om2, N2, D2, x2, ru⟩ := J_8e (z := z) (c := c) (f := f) (g2 := g2) it it2 d9 eS pf0 ptc n7 q4c hl len hR k8 e71 h66 h70 h75 lts f3 hsd mo c2 c3 (pm_d c1) c4 c5 c6 c7 e3 e5 e6 c40 r4 r5 (by omega)
    exact jEx_s (ka := kaN ka kk) (la := laN la ka.2.2.1 (kc kk).1) (x_6s (k := k + 7) cb rh (by omega) hA hB' c9 hfm (by omega) e1) hr e2' hn ac ru (by
      show (sQ (sgO sg la.2.2.2.1 (kc kk).1 ka.2.2.1 cf) a z c f ((fBs (x a d) + (mi (fMe (x a d))).2.2.2.2 + S0.length) + (mi m).2.2.2.2)).2.2.2.2 a 0 = _
      rw [sQ_P (Or.inl (by decide))]
      rfl) (CST_t e8 (CST_0 (fun _ => rfl) rfl rfl))
  by_cases y : cp = 2 ∨ cp = 4
  · exact go8 _ (Or.inl ⟨rfl, y⟩)
  · exact go8 _ (Or.inr ⟨rfl, by omega⟩)
end JNP
