/-! A NEW ACTOR BY BOTH. -/
/-- what both know of an actor's maker M and Kind kk -/
def kNa (sB : rS) (kc : kCi) (hB : rm_H) (Z : Nat → Prop) (M kk : Nat) (em : Nat → Int64) : Prop := KFR sB kk (kc kk).1 em ∧ (∀ f, f < (kc kk).1 → ((∀ k' : kAp, vTy k' 0 ((kc kk).2.1 f) (em f)) ∧ oV (em f) = 0 ∧ cvl (em f) = 0) ∧ dTy ((kc kk).2.1 f) = true) ∧ MOw hB Z M (kc kk).2.2 ∧ ∃ mk, KBk hB Z (kc kk).2.2 (Int32.ofNat kk) (kc kk).1 mk
theorem g5_t : ∀ k, k < 8 → gTy (8 * (k + 1) + 5) = true := by decide
section JNU
variable {sB : rS} {A B : Nat → Int32} {mi : Nat → Nat × Nat × Nat × Nat × Nat} {kc : kCi} {om om' : oMg} {ka ka' : kAp} {la : lAy} {ms : mSg} {N N' cn : Nat} {sg sg' sg2 : cS} {s s' s2 S1 : rS} {a b d e lo q0 J l t r i n p q k k2 f0 w P L sz lv : Nat} {xs : Nat → Int32} {zf : Value} {Z : Nat → Prop} {hB h h' : rm_H} {es : List Nat} {x : Nat → Nat → fDs} {D : Nat → Nat} {S S0 X : List stE} {v : Int64} {y : Int32}
variable {c0 tk nf : Nat} {g0 : Nat → Int64} {us : Nat → Int32} {yy : Int32}
theorem sAc_I {p i : Nat} : (rsI (rsL (sAc0 s b c0 tk nf) 95 g0) 104 us).2.1 p i = if p = 104 then us i else if p = 94 ∧ i = b then 0 else if p = 93 ∧ i = b then 0 else if p = 92 ∧ i = b then 0 else if p = 91 ∧ i = b then 0 else if p = 90 ∧ i = b then 0 else if p = 89 ∧ i = b then Int32.ofNat c0 else s.2.1 p i := by
  show (if p = 104 then us else (rs_wA (rs_wA (rs_wA (rs_wA (rs_wA (rs_wA (rs_w (rs_w s 75 (Int32.ofNat (b + 1))) 77 (Int32.ofNat (tk + (nf + 1)))) 89 b (Int32.ofNat c0)) 90 b 0) 91 b 0) 92 b 0) 93 b 0) 94 b 0).2.1 p) i = _
  by_cases c1 : p = 104
  · rw [if_pos c1, if_pos c1]
  · rw [if_neg c1, if_neg c1, wA_get, wA_get, wA_get, wA_get, wA_get, wA_get]
    rfl
theorem sAc_93 (hab : a ≠ b) : rs_wA (rsI (rsL (sAc0 s b c0 tk nf) 95 g0) 104 us) 93 a yy = rsI (rsL (sAc0 (rs_wA s 93 a yy) b c0 tk nf) 95 g0) 104 us := by
  refine Prod.ext rfl (Prod.ext ?_ rfl)
  funext p i
  rw [wA_get, sAc_I, sAc_I]
  by_cases c1 : p = 93 ∧ i = a
  · rw [if_pos c1, if_neg (by omega), if_neg (by omega), if_neg (by omega), if_neg (by omega), if_neg (by omega), if_neg (by omega), if_neg (by omega), wA_get, if_pos c1]
  · rw [if_neg c1, wA_get, if_neg c1]
theorem J_8a (cb : CB hB Z P A B sz es) (rh : RH (.ref P) n sg Z hB h) (hn : ka.2.2.2 ≤ n) (it : iTm sB A B mi kc om ka la ms N cn sg s D x a d) (n7 : sg.2.2.2.1 a 7 d = Int32.ofNat (p + 1)) (q4 : q < 4400) (hw : 10000 ≤ w) {kk m : Nat} {ts : List Nat} {em : Nat → Int64} (ce : cEe sB A B mi hB Z es m) (pb : PBp hB Z P) (kfr : kFr sB kc) (mnu : mNu hB Z es) (kn : ∀ M, es[m]? = some M → kNa sB kc hB Z M kk em) (msd : ∀ ps, pmT sB m ps → ∀ q' ∈ ps, sdT q' = true) (mrl : mRl sB m) (h70 : sB.2.1 70 m = 0) (e71 : sB.2.1 71 m = Int32.ofNat kk) (eK : sB.2.1 44 q = Int32.ofNat 8) (eS : fSt (x a d) = (vE (fL (x a d)) ts ++ S0)) (h53 : sB.2.1 53 q = Int32.ofNat kk) (k8 : kk < 8) (h65 : sB.2.1 65 kk = Int32.ofNat m) (m72 : m < 72) (af : AF sB m ts) (h52 : sB.2.1 52 q = Int32.ofNat ts.length) (h66 : sB.2.1 66 kk = 1) (hA : A p = 7) (hB' : B p = Int32.ofNat m) (ec : EC sB A B (fMe (x a d)) (mi (fMe (x a d))).1 (mi (fMe (x a d))).2.1 (mi (fMe (x a d))).2.2.1 q (p + 1) (fL (x a d)) (fG (x a d)) (fGn (x a d)) (8 * (kk + 1) + 5) S0) : jEx sB A B mi kc L xs zf w P Z hB k k2 n cn a d p q sg h s := by
  obtain ⟨⟨a12, d10, u1, u2, u3, u4⟩, rq, fx, b3, r92, b8, gi, rl, ob4⟩ := it_f it
  have it0 := it
  obtain ⟨wl, _, _, ⟨_, ac, _⟩, vl, rg, nm, _, _, so, r93, _⟩ := it0
  have len := ec_len it q4 ec
  have pf0 := LV_EC ec
  have hlen : (vE (fL (x a d)) ts ++ S0).length = S0.length + ts.length := by rw [List.length_append, vE_len]; omega
  obtain ⟨mo, Gc, ps, pe, qe, lve, M, num, c1, c2, c3, c4, c5, c6, c7, c8, c9, c10⟩ := ce
  obtain ⟨ps', f1, f2, f3⟩ := af
  have eps := pm_u f1 c1
  subst eps
  obtain ⟨kf, hem, mow, mk, kbk⟩ := kn M c9
  have lts : ps'.length = ts.length := f2
  have eq1 : fQ (x a d) + (vE (fL (x a d)) ts ++ S0).length = (fQ (x a d) + S0.length) + ts.length := by rw [hlen, Nat.add_assoc]
  have eq2 : fBs (x a d) + (mi (fMe (x a d))).2.2.2.2 + (vE (fL (x a d)) ts ++ S0).length = (fBs (x a d) + (mi (fMe (x a d))).2.2.2.2 + S0.length) + ts.length := by rw [hlen, Nat.add_assoc _ S0.length]
  have hq10 : (fQ (x a d) + S0.length) + ts.length ≤ 10100 := by
    rw [eS, hlen] at u3
    omega
  rw [eS] at so r93
  rw [eq2] at so
  rw [eq1] at r93
  have hfm : ∃ fs, hc h M = some (.inr (11, fs)) := by
    obtain ⟨fs, _, _, _, y, _⟩ := c10
    obtain ⟨fs2, y2, _⟩ := rh.1.2.2.1 _ _ _ y
    exact ⟨fs2, y2⟩
  have s53 : s.2.1 53 q = Int32.ofNat kk := by rw [fx.1 53 (by decide)]; exact h53
  have s52 : s.2.1 52 q = Int32.ofNat ts.length := by rw [fx.1 52 (by decide)]; exact h52
  have s65 : s.2.1 65 kk = Int32.ofNat m := by rw [fx.1 65 (by decide)]; exact h65
  have s66 : s.2.1 66 kk = 1 := by rw [fx.1 66 (by decide)]; exact h66
  have kfs : KFR s kk (kc kk).1 em := by
    obtain ⟨y1, f0, y2, y3, y4, y5, y6⟩ := kf
    refine ⟨y1, f0, by rw [fx.1 64 (by decide)]; exact y2, by rw [fx.1 64 (by decide)]; exact y3, y4, y5, fun f hf => ?_⟩
    obtain ⟨w, w1, w2, w3⟩ := y6 f hf
    exact ⟨w, w1, by rw [fx.1 69 (by decide)]; exact w2, by rw [fx.1 60 (by decide)]; exact w3⟩
  have nf8 : (kc kk).1 ≤ 8 := by obtain ⟨_, _, _, _, _, y, _⟩ := kf; exact y
  have wl0 := wl
  obtain ⟨_, _, ⟨clm, mb, tn, ⟨n1, n1b, n1c⟩, ⟨n2, _, n2c, n2d⟩, ⟨n3, n3b, n3c⟩, _, ⟨n5, n5b, n5c⟩, _, _, _, _, _, _, n12⟩, _⟩ := wl0
  by_cases b12 : ka.2.2.2 = 12
  · obtain ⟨h', e1, e2, e3, e4⟩ := k_newA4 (L := L) (xs := xs) (zf := zf) (w := w) (k := k + 8) (M := M) (a := a) rh (by omega) (by rw [n3, b12])
    have hr := act_sub (K := 8) (mi := 397) rq q4 eK (Or.inr (Or.inr (Or.inl ⟨rfl, rfl⟩))) (r_make4 (w := w) (k := k2 + 9) (a := a) (i := 10 * a + d) (n := q) q4 s53 k8 s65 s66 (by rw [n3b, b12]))
    exact jEx_f (sg1 := sg) (x_7s (k := k + 7) cb rh (by omega) hA hB' c9 hfm (by omega) e1) hr (by decide) e2 hn ac (J_fl it) rfl (fun _ => rfl) e3 e4
  have b11 : ka.2.2.2 < 12 := by omega
  have kn := k_newA (a := a) (L := L) (xs := xs) (zf := zf) (w := w) (k := k + 6) (bs := (fBs (x a d) + (mi (fMe (x a d))).2.2.2.2 + S0.length)) (np := ps'.length) (b := ka.2.2.2) c10 mow kbk pb rh (by omega) (by rw [lts]; exact so) n3 hn (by omega) ac (fun _ => (n12 ka.2.2.2 (Nat.le_refl _) b11).1) n1 n1c n5 n5c nf8 c2 (by omega)
  rcases kn with ⟨full, h', e1, e2, e3, e4⟩ | ⟨room, h', n', sg0, z, c, q0, g, f, cf, e1, e2, ⟨e3, e3b⟩, e4, ⟨cf1, cf2, cf3⟩, ⟨e5, e6, e7⟩, e8, e9, e10⟩
  · have hr := act_sub (K := 8) (mi := 397) rq q4 eK (Or.inr (Or.inr (Or.inl ⟨rfl, rfl⟩))) (r_makeA2 (w := w) (k := k2 + 9) (a := a) (i := 10 * a + d) (n := q) (b := ka.2.2.2) kfs q4 s53 s65 s66 n3b b11 n5b n1b n1c (by omega) full)
    exact jEx_f (sg1 := sg) (x_7s (k := k + 7) cb rh (by omega) hA hB' c9 hfm (by omega) e1) hr (by decide) e2 hn ac (J_fl it) rfl (fun _ => rfl) e3 e4
  have ab : a ≠ ka.2.2.2 := by omega
  -- the reference makes it
  obtain ⟨g0, us, o1, o2, o3, o4, o5⟩ := r_mkA (s := rs_wA s 93 a (Int32.ofNat (fQ (x a d) + S0.length))) (a := ka.2.2.2) (c := kk) (nf := (kc kk).1) (em := em) (w := w) (k := k2 + 7) (tk := la.2.2.2.1) (kf_k kfs rfl rfl rfl) b11 n3b n5b (by omega)
  have o3' : ∀ j, (j < 8 * ka.2.2.2 ∨ 8 * ka.2.2.2 + (kc kk).1 ≤ j) → g0 j = s.2.2 95 j := o3
  have o5' : ∀ j, (j < 6 * ka.2.2.2 ∨ 6 * ka.2.2.2 + 6 ≤ j) → us j = s.2.1 104 j := fun j hj => by
    rw [o5 j hj, wA_get, if_neg (fun z => absurd z.1 (by decide))]
  have rI : ∀ p i, ¬ (89 ≤ p ∧ p ≤ 94 ∧ i = ka.2.2.2) → ¬ (p = 104 ∧ 6 * ka.2.2.2 ≤ i ∧ i < 6 * ka.2.2.2 + 6) → (rsI (rsL (sAc0 s ka.2.2.2 kk la.2.2.2.1 (kc kk).1) 95 g0) 104 us).2.1 p i = s.2.1 p i := by
    intro p i h1 h2
    rw [sAc_I]
    by_cases c : p = 104
    · rw [if_pos c, c]
      exact o5' i (by omega)
    · rw [if_neg c, if_neg (by omega), if_neg (by omega), if_neg (by omega), if_neg (by omega), if_neg (by omega), if_neg (by omega)]
  have rL : ∀ p i, p ≠ 95 → (rsI (rsL (sAc0 s ka.2.2.2 kk la.2.2.2.1 (kc kk).1) 95 g0) 104 us).2.2 p i = s.2.2 p i := fun p i hp => by
    show (if p = 95 then g0 else s.2.2 p) i = _
    rw [if_neg hp]
  have rz : ∀ p, 90 ≤ p → p ≤ 94 → (rsI (rsL (sAc0 s ka.2.2.2 kk la.2.2.2.1 (kc kk).1) 95 g0) 104 us).2.1 p ka.2.2.2 = 0 := by
    intro p h1 h2
    rw [sAc_I, if_neg (by omega)]
    by_cases c4 : p = 94
    · rw [if_pos ⟨c4, rfl⟩]
    rw [if_neg (fun z => c4 z.1)]
    by_cases c3 : p = 93
    · rw [if_pos ⟨c3, rfl⟩]
    rw [if_neg (fun z => c3 z.1)]
    by_cases c2 : p = 92
    · rw [if_pos ⟨c2, rfl⟩]
    rw [if_neg (fun z => c2 z.1)]
    by_cases c1 : p = 91
    · rw [if_pos ⟨c1, rfl⟩]
    rw [if_neg (fun z => c1 z.1), if_pos ⟨by omega, rfl⟩]
  -- the class
  have oth : ∀ c j, c ≠ ka.2.2.2 → (sA2 sg0 ka.2.2.2 (kc kk).2.2 la.2.2.2.1).2.2.1 c j = sg.2.2.1 c j ∧ (sA2 sg0 ka.2.2.2 (kc kk).2.2 la.2.2.2.1).2.2.2.1 c j = sg.2.2.2.1 c j ∧ (sA2 sg0 ka.2.2.2 (kc kk).2.2 la.2.2.2.1).2.2.2.2 c j = sg.2.2.2.2 c j := by
    intro c j hcb
    have e0 : sg0.2.2.1 c j = sg.2.2.1 c j ∧ sg0.2.2.2.1 c j = sg.2.2.2.1 c j ∧ sg0.2.2.2.2 c j = sg.2.2.2.2 c j := by
      rcases e4 with ⟨_, _, y⟩ | ⟨y0, _, y⟩
      · rw [y]; exact ⟨rfl, rfl, rfl⟩
      · rw [y]
        have e : c ≠ n := fun z => hcb (z.trans y0.symm)
        exact ⟨if_neg e, if_neg e, if_neg e⟩
    exact ⟨by rw [z2_ne hcb]; exact e0.1, e0.2.1, by rw [z2_P (fun z => hcb z.1)]; exact e0.2.2⟩
  have ev : sg0.2.1 = (sA1 sg la.2.2.2.1 (kc kk).1 cf).2.1 ∧ sg0.1 = (sA1 sg la.2.2.2.1 (kc kk).1 cf).1 := by
    rcases e4 with ⟨_, _, y⟩ | ⟨_, _, y⟩ <;> rw [y] <;> exact ⟨rfl, rfl⟩
  have eb0 : sg0.2.2.1 ka.2.2.2 0 = Int32.ofNat ka.2.2.2 ∧ 64 ≤ sg0.2.2.2.2 ka.2.2.2 13 ∧ sg0.2.2.2.2 ka.2.2.2 13 ≤ 40000 := by
    rcases e4 with ⟨y0, _, y⟩ | ⟨y0, _, y⟩
    · rw [y]; exact n12 ka.2.2.2 (Nat.le_refl _) b11
    · rw [y, ← y0]
      refine ⟨(if_pos rfl).trans (if_pos rfl), ?_⟩
      have e64 : (sN (sA1 sg la.2.2.2.1 (kc kk).1 cf) ka.2.2.2 q0).2.2.2.2 ka.2.2.2 13 = 64 := if_pos rfl
      rw [e64]
      exact ⟨by decide, by decide⟩
  have x1 : ∀ j, j ≠ 8 → j ≠ 10 → (sA2 sg0 ka.2.2.2 (kc kk).2.2 la.2.2.2.1).1 j = sg.1 j := fun j h1 h2 => by
    show upd sg0.1 8 _ j = _
    rw [upd_ne' h1, ev.2]
    exact upd_ne' (g := sg.1) h2
  have w' := wAl_a (kk := kk) (em := em) (sg' := (sA2 sg0 ka.2.2.2 (kc kk).2.2 la.2.2.2.1)) (s' := (rsI (rsL (sAc0 s ka.2.2.2 kk la.2.2.2.1 (kc kk).1) 95 g0) 104 us)) wl k8 h66 nf8 b11 (fun cl h4 h5 => by
    have : clm = cl := ofn_inj (by omega) (by omega) (n1.symm.trans h5)
    omega) (fun f hf => (hem f hf).1) (fun f hf => (hem f hf).2) x1 (upd_eq' (g := sg0.1) (i := 8) (v := Int32.ofNat (ka.2.2.2 + 1))) (by
    show upd sg0.1 8 (Int32.ofNat (ka.2.2.2 + 1)) 10 = _
    rw [upd_ne' (by decide), ev.2]
    exact upd_eq' (g := sg.1) (i := 10) (v := Int32.ofNat (la.2.2.2.1 + (kc kk).1 + 1))) (fun j hj => by
    show sg0.2.1 j = _
    rw [ev.1]
    exact if_neg hj) (fun j hj => by
    show sg0.2.1 0 j = _
    rw [ev.1]
    exact cf3 j hj) (fun j h1 h2 => by
    show sg0.2.1 0 j = _
    rw [ev.1]
    exact cf2 j h1 h2) oth (by rw [z2_0]; exact eb0.1) z2_2 (fun j hj => z2_z hj) z2_K (fun p h1 h2 => by
    show upd (upd s.1 75 _) 77 _ p = _
    rw [upd_ne' h2, upd_ne' h1]) (by
    show upd (upd s.1 75 (Int32.ofNat (ka.2.2.2 + 1))) 77 (Int32.ofNat (la.2.2.2.1 + ((kc kk).1 + 1))) 75 = _
    rw [upd_ne' (by decide), upd_eq']) (upd_eq' (g := upd s.1 75 (Int32.ofNat (ka.2.2.2 + 1))) (i := 77) (v := Int32.ofNat (la.2.2.2.1 + (kc kk).1 + 1))) rI (by
    rw [sAc_I, if_neg (by decide), if_neg (by omega), if_neg (by omega), if_neg (by omega), if_neg (by omega), if_neg (by omega), if_pos ⟨rfl, rfl⟩]) rz (fun j hj => by
    rw [sAc_I, if_pos rfl]
    exact o4 j hj) rL o2 o3'
  have itA := it_a (em := em) it b11 w' oth ⟨z2_z (by decide), Nat.zero_le _, by rw [z2_P (fun z => absurd z.2 (by decide))]; exact eb0.2.1, by rw [z2_P (fun z => absurd z.2 (by decide))]; exact eb0.2.2⟩ (rz 93 (by decide) (by decide)) rI rL
  -- the message
  have sd := msd ps' c1
  obtain ⟨om1, sn, vk, kn, obs⟩ := snd_1 (S0 := S0) (ts := ts) (ps := ps') itA kfr eS lts f3 (pm_d c1) sd ka.2.2.2 0
  have rmb : RMB sB s m qe ts.length := by
    rw [← lts]
    exact rmb_k c8 (fx.1 76 (by decide)) (fx.1 77 (by decide))
  obtain ⟨q', lv', S', bh, hl, ptc, hS'⟩ := AD_E nm.2.2.2.2.2.1 nm.2.2.2.2.1 nm.1 q4 ec
  obtain ⟨br, wl', bt, ag, Lb, r1, r2, r3, r4, r5, r6, r7⟩ := r_makeA (w := w) (k := k2 + 6) (i := 10 * a + d) (n := q) (t := (fQ (x a d) + S0.length)) (b := ka.2.2.2) (tk := la.2.2.2.1) (cl := clm) (g := g0) (us := us) o1 o4 rq kfs rmb a12 (by omega) q4 s53 s65 s66 s52 n3b b11 ac n5b n1b n1c room r93 hq10 (by omega) (fun i hi => vk i (by omega)) (KNc_k kn rfl rfl rfl rfl rfl rfl) bh (by decide) (by omega)
  have hr := act_sub (K := 8) (mi := 397) rq q4 eK (Or.inr (Or.inr (Or.inl ⟨rfl, rfl⟩))) r1
  have enum : num = Int32.ofNat m := mnu m M _ _ num _ c9 c10
  have em1 : (msA ms ka.2.2.2).1 ka.2.2.2 = 0 := if_pos rfl
  have em2 : (msA ms ka.2.2.2).2.1 ka.2.2.2 = 0 := if_pos rfl
  have g10 : (sA3 (sA2 sg0 ka.2.2.2 (kc kk).2.2 la.2.2.2.1) a ka.2.2.2 (fBs (x a d) + (mi (fMe (x a d))).2.2.2.2 + S0.length) g).2.2.2.1 ka.2.2.2 10 = g := if_pos ⟨rfl, rfl⟩
  have a12' : (sA3 (sA2 sg0 ka.2.2.2 (kc kk).2.2 la.2.2.2.1) a ka.2.2.2 (fBs (x a d) + (mi (fMe (x a d))).2.2.2.2 + S0.length) g).2.2.2.1 a 12 = (sA2 sg0 ka.2.2.2 (kc kk).2.2 la.2.2.2.1).2.2.2.1 a 12 := if_neg (fun z => absurd z.2 (by decide))
  have e12 : (sA2 sg0 ka.2.2.2 (kc kk).2.2 la.2.2.2.1).2.2.2.1 a 12 = sg.2.2.2.1 a 12 := (oth a 12 ab).2.1
  have it2 := snd_2 (S0 := S0) (ts := ts) (ps := ps') (b := ka.2.2.2) (j := 0) (m := m) (om1 := om1) (L := Lb) (br := br) (wk := wl') (bt := bt) (ag := ag) (sg' := (sA3 (sA2 sg0 ka.2.2.2 (kc kk).2.2 la.2.2.2.1) a ka.2.2.2 (fBs (x a d) + (mi (fMe (x a d))).2.2.2.2 + S0.length) g)) itA eS pf0 lts f3 (Nat.lt_succ_self _) (by decide) (fun k hk => by rw [em1] at hk; exact absurd hk (Nat.not_lt_zero _)) (fun mb' h1 h2 => by
    rw [x1 6 (by decide) (by decide)] at h2
    have e : mb = mb' := ofn_inj (by omega) (by omega) (n2.symm.trans h2)
    rw [em1]
    omega) sn obs c1 c2 sd m72 (by rw [e71]; exact congrArg Int32.ofNat (if_pos rfl).symm) ⟨by rw [h70]; decide, mrl⟩ r2 (fun i' o' h1 h2 c2' bs nf2 ob f hf => r3 i' o' h1 h2 c2' bs nf2 (by
      obtain ⟨z1, z2, z3, em', z4⟩ := ob
      exact ⟨z1, z2, z3, em', kf_k z4 rfl rfl rfl⟩) f hf) (by rw [lts]; exact r4) (by rw [lts]; exact r5) r6 r7 (by
    refine ⟨fun j hj => upd_ne' (g := (sA2 sg0 ka.2.2.2 (kc kk).2.2 la.2.2.2.1).1) hj, rfl, fun c j h1 h2 => ?_, fun c j h1 h2 => if_neg h2, fun _ _ _ => rfl⟩
    show (sA' (sA' (sM (sA2 sg0 ka.2.2.2 (kc kk).2.2 la.2.2.2.1) ka.2.2.2 g) a 13 (Int32.ofNat (fBs (x a d) + (mi (fMe (x a d))).2.2.2.2 + S0.length))) ka.2.2.2 4 (Int32.ofNat (0 + 1))).2.2.1 c j = _
    exact (if_neg h2).trans (if_neg h1)) a12' (upd_eq' (g := (sA2 sg0 ka.2.2.2 (kc kk).2.2 la.2.2.2.1).1) (i := 13) (v := (sA2 sg0 ka.2.2.2 (kc kk).2.2 la.2.2.2.1).1 13 + 1)) (by
    rw [em1]
    show (sA' (sA' (sM (sA2 sg0 ka.2.2.2 (kc kk).2.2 la.2.2.2.1) ka.2.2.2 g) a 13 (Int32.ofNat (fBs (x a d) + (mi (fMe (x a d))).2.2.2.2 + S0.length))) ka.2.2.2 4 (Int32.ofNat (0 + 1))).2.2.1 ka.2.2.2 4 = _
    exact sA_at) (by rw [em1, em2, g10, e5, enum]) (fun i hi => by
    rw [em1, em2, g10, e6 i hi, e12]) (fun i hi => by
    rw [em1, em2] at hi
    rw [g10, e7 i (by omega)]
    rfl) (by
    refine ⟨?_, ?_, ?_, ?_⟩
    · show (sA' (sA' (sM (sA2 sg0 ka.2.2.2 (kc kk).2.2 la.2.2.2.1) ka.2.2.2 g) a 13 (Int32.ofNat (fBs (x a d) + (mi (fMe (x a d))).2.2.2.2 + S0.length))) ka.2.2.2 4 (Int32.ofNat (0 + 1))).2.2.1 a 13 = _
      rw [sA_ne (Or.inl (by decide)), sA_at]
    · show (fBs (x a d) + (mi (fMe (x a d))).2.2.2.2 + S0.length) ≤ (sA2 sg0 ka.2.2.2 (kc kk).2.2 la.2.2.2.1).2.2.2.2 a 13
      rw [(oth a 13 ab).2.2]
      have := so.2.1
      omega
    · show 64 ≤ (sA2 sg0 ka.2.2.2 (kc kk).2.2 la.2.2.2.1).2.2.2.2 a 13
      rw [(oth a 13 ab).2.2]; exact so.2.2.1
    · show (sA2 sg0 ka.2.2.2 (kc kk).2.2 la.2.2.2.1).2.2.2.2 a 13 ≤ 40000
      rw [(oth a 13 ab).2.2]; exact so.2.2.2)
  rw [em1, sAc_93 ab] at it2
  have jp := J_psh (x := (xU x a d (fMe (x a d), fL (x a d), fG (x a d), fGn (x a d), S0, fRe (x a d), fBs (x a d), fQ (x a d)))) (X := []) (S0 := S0) (t := 8 * (kk + 1) + 5) (v := mdV 3 (Int32.ofNat ka.2.2.2)) (n := q) (p := p) (z := z) (c := c) (f := f) (S1 := sSd (sS1 (rsI (rsL (sAc0 (rs_wA s 93 a (Int32.ofNat (fQ (x a d) + S0.length))) ka.2.2.2 kk la.2.2.2.1 (kc kk).1) 95 g0) 104 us) ka.2.2.2 0 (6 * ka.2.2.2 + 0) m) br wl' bt ag) it2 (by rw [xU_eq]; rfl) (gl_r (G := fG ((xU x a d (fMe (x a d), fL (x a d), fG (x a d), fGn (x a d), S0, fRe (x a d), fBs (x a d), fQ (x a d))) a d)) (g := fGn ((xU x a d (fMe (x a d), fL (x a d), fG (x a d), fGn (x a d), S0, fRe (x a d), fBs (x a d), fQ (x a d))) a d))) q4 (by rw [xU_eq]; exact ec) (g5_t kk k8) (fun _ z => by omega) ⟨Or.inr (Or.inr (Or.inr (Or.inl ⟨by omega, by omega, Or.inr ⟨ka.2.2.2, Nat.lt_succ_self _, rfl, by
      show (if ka.2.2.2 = ka.2.2.2 then kk else _) + 1 = _
      rw [if_pos rfl]
      omega⟩⟩))), fun z => absurd (oV_3 _) z⟩ (fun z => absurd (oV_3 _) z) (by
    rw [xU_eq]
    refine ⟨fun i hi => (e8.1 i hi).trans ?_, e8.2.1, e8.2.2.1, ?_⟩
    · rw [a12', e12]
    · show c ≤ (sA2 sg0 ka.2.2.2 (kc kk).2.2 la.2.2.2.1).2.2.2.2 a 13 ∨ _
      rw [(oth a 13 ab).2.2]
      exact e8.2.2.2) (by rw [xU_eq, cv_3, of_inc]; exact e9) (by
    show (sM (sA2 sg0 ka.2.2.2 (kc kk).2.2 la.2.2.2.1) ka.2.2.2 g).2.2.2.1 a 7 d = _
    rw [sM_R (Or.inl (by decide)), (oth a 7 ab).2.1]
    exact n7) (Or.inl rfl)
  rw [xU_eq] at jp
  obtain ⟨q2, bh2, om3, N3, x3, ru⟩ := jp
  rw [bhd_i bh2 bh] at ru
  exact ⟨h', n', _, _, 0, om3, kaA ka kk, _, _, N3, _, x3, x_7s (k := k + 7) cb rh (by omega) hA hB' c9 hfm (by omega) e1, hr, e2, ⟨e3, e3b⟩, by rw [if_pos rfl]; exact rUn_cn ru, by
    show (sQ (sA3 (sA2 sg0 ka.2.2.2 (kc kk).2.2 la.2.2.2.1) a ka.2.2.2 (fBs (x a d) + (mi (fMe (x a d))).2.2.2.2 + S0.length) g) a z c f ((fBs (x a d) + (mi (fMe (x a d))).2.2.2.2 + S0.length) + 1)).2.2.2.2 a 0 = _
    rw [sQ_P (Or.inl (by decide))]
    exact (oth a 0 ab).2.2, Nat.lt_succ_of_lt ac, e10⟩
end JNU
