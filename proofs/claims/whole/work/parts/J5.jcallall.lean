/-! A CALL BY BOTH: the whole. -/
section JCM
variable {sB : rS} {A B : Nat → Int32} {mi : Nat → Nat × Nat × Nat × Nat × Nat} {kc : kCi} {om om' : oMg} {ka ka' : kAp} {la : lAy} {ms : mSg} {N N' cn : Nat} {sg sg' sg2 : cS} {s s' s2 S1 : rS} {a b d e lo q0 J l t r i n p q k k2 f0 w P L sz lv : Nat} {xs : Nat → Int32} {zf : Value} {Z : Nat → Prop} {hB h h' : rm_H} {es : List Nat} {x : Nat → Nat → fDs} {D : Nat → Nat} {S S0 X : List stE} {v : Int64} {y : Int32}

theorem J_11 (cb : CB hB Z P A B sz es) (rh : RH (.ref P) n sg Z hB h) (hn : ka.2.2.2 ≤ n) (it : iTm sB A B mi kc om ka la ms N cn sg s D x a d) (n7 : sg.2.2.2.1 a 7 d = Int32.ofNat (p + 1)) (q4 : q < 4400) (hw : 10000 ≤ w) {tl k0 m : Nat} {pl : Bool} {ts : List Nat} (sk : mKd sB) (ce : cEe sB A B mi hB Z es m) (eK : sB.2.1 44 q = Int32.ofNat 11) (eS : fSt (x a d) = (tl, pl, fL (x a d)) :: (vE (fL (x a d)) ts ++ S0)) (ah : ahT tl k0) (mt : mtT sB k0 1 (sB.2.2 56 q) m) (af : AF sB m ts) (clt : isO tl = true → clT sB pl (cpT tl) m) (rs : rsT sB m t) (h53 : sB.2.1 53 q = Int32.ofNat m) (hA : A p = 4) (hB' : B p = Int32.ofNat m) (ec : EC sB A B (fMe (x a d)) (mi (fMe (x a d))).1 (mi (fMe (x a d))).2.1 (mi (fMe (x a d))).2.2.1 q (p + 1) (fL (x a d)) (fG (x a d)) (fGn (x a d)) t S0) : jEx sB A B mi kc L xs zf w P Z hB k k2 n cn a d p q sg h s := by
  obtain ⟨⟨a12, d10, u1, u2, u3, u4⟩, rq, fx, b3, r92, b8, gi, rl, ob4⟩ := it_f it
  have it0 := it
  obtain ⟨wl, _, _, ⟨_, ac, _⟩, vl, rg, nm, _, _, so, r93, _⟩ := it0
  have len := ec_len it q4 ec
  have pf0 := LV_EC ec
  have hlen : (vE (fL (x a d)) ts ++ S0).length = S0.length + ts.length := by rw [List.length_append, vE_len]; omega
  have pf : eLv (fL (x a d)) (vE (fL (x a d)) ts ++ S0) := by
    intro e he
    rcases List.mem_append.mp he with z | z
    · unfold vE at z
      obtain ⟨t', _, e2⟩ := List.mem_map.mp z
      rw [← e2]
      exact ⟨rfl, Nat.le_refl _⟩
    · exact pf0 e z
  obtain ⟨mo, Gc, ps, pe, qe, lve, M, num, c1, c2, c3, c4, c5, c6, c7, c8, c9, c10⟩ := ce
  obtain ⟨ps', f1, f2, f3⟩ := af
  have eps := pm_u f1 c1
  subst eps
  obtain ⟨k8, m72, e71, e72⟩ := sk _ _ _ _ mt
  have e70 : sB.2.1 70 m = 1 := by obtain ⟨_, _, _, _, _, _, _, z, _⟩ := mt; exact z
  have top := vl.2.2.2
  rw [eS] at top so r93
  have eq1 : fQ (x a d) + (vE (fL (x a d)) ts ++ S0).length = (fQ (x a d) + S0.length) + ts.length := by rw [hlen, Nat.add_assoc]
  have eq2 : fBs (x a d) + (mi (fMe (x a d))).2.2.2.2 + (vE (fL (x a d)) ts ++ S0).length = (fBs (x a d) + (mi (fMe (x a d))).2.2.2.2 + S0.length) + ts.length := by rw [hlen, Nat.add_assoc _ S0.length]
  obtain ⟨⟨p1, p2, p3, p4, p5, p6⟩, _⟩ := top
  have p1 : vAl om ka a tl (om.1 (pS a (fQ (x a d) + (vE (fL (x a d)) ts ++ S0).length))) := p1
  have p2 : sg.2.2.2.1 a 12 (fBs (x a d) + (mi (fMe (x a d))).2.2.2.2 + (vE (fL (x a d)) ts ++ S0).length) = cvl (om.1 (pS a (fQ (x a d) + (vE (fL (x a d)) ts ++ S0).length))) := p2
  have p3 : s.2.2 97 (10100 * a + (fQ (x a d) + (vE (fL (x a d)) ts ++ S0).length)) = om.1 (pS a (fQ (x a d) + (vE (fL (x a d)) ts ++ S0).length)) := p3
  have p4 : (om.2.1 (pS a (fQ (x a d) + (vE (fL (x a d)) ts ++ S0).length)) = tl ∧ (tl ≠ 0 → om.2.2.1.1 (pS a (fQ (x a d) + (vE (fL (x a d)) ts ++ S0).length)) = fRe (x a d) (fL (x a d)))) ∨ (pl = true ∧ isO tl = true ∧ tl % 8 ≤ 1 ∧ om.2.1 (pS a (fQ (x a d) + (vE (fL (x a d)) ts ++ S0).length)) = 0 ∧ (oV (om.1 (pS a (fQ (x a d) + (vE (fL (x a d)) ts ++ S0).length))) ≠ 0 → sEe om a tl (fRe (x a d) (fL (x a d))) (oV (om.1 (pS a (fQ (x a d) + (vE (fL (x a d)) ts ++ S0).length)))))) := p4
  rw [eq1] at p1 p2 p3 p4
  rw [eq2] at p2
  have so1 : SOK sg a ((fBs (x a d) + (mi (fMe (x a d))).2.2.2.2 + S0.length) + ts.length + 1) := by
    have := so
    rw [List.length_cons, ← Nat.add_assoc, eq2] at this
    exact this
  have r93' : s.2.1 93 a = Int32.ofNat ((fQ (x a d) + S0.length) + ts.length + 1) := by
    rw [List.length_cons, ← Nat.add_assoc, eq1] at r93
    exact r93
  have itp := it_pop (X := [(tl, pl, fL (x a d))]) (S0 := (vE (fL (x a d)) ts ++ S0)) it eS pf
  rw [eq1, eq2] at itp
  have gc := gTy_c.mp p5
  obtain ⟨a8, a5, ak⟩ := ah
  have hfm : ∃ fs, hc h M = some (.inr (11, fs)) := by
    obtain ⟨fs, _, _, _, z, _⟩ := c10
    obtain ⟨fs2, y, _⟩ := rh.1.2.2.1 _ _ _ z
    exact ⟨fs2, y⟩
  have hq10 : (fQ (x a d) + S0.length) + ts.length < 10100 := by
    rw [eS, List.length_cons, hlen] at u3
    omega
  have u3' : S0.length < 1010 := len
  have lts : ps'.length = ts.length := f2
  by_cases v0 : om.1 (pS a ((fQ (x a d) + S0.length) + ts.length)) = 0
  · have z0 : sg.2.2.2.1 a 12 ((fBs (x a d) + (mi (fMe (x a d))).2.2.2.2 + S0.length) + ts.length) = 0 := by rw [p2, v0, cv_0]
    obtain ⟨h', e1, e2, e3, e4⟩ := k_callF (L := L) (xs := xs) (zf := zf) (w := w) (k := k + 8) (ht := (fBs (x a d) + (mi (fMe (x a d))).2.2.2.2 + S0.length) + ts.length) (M := M) (why := 1) rh (by omega) so1 (Or.inl ⟨z0, rfl⟩)
    have hr := act_sub (K := 11) (mi := 392) rq q4 eK (Or.inr (Or.inr (Or.inr (Or.inl ⟨rfl, rfl⟩)))) (r_call0 (w := w) (k := k2 + 9) (i := 10 * a + d) (n := q) a12 r93' (by omega) (by rw [p3]; exact v0))
    exact jEx_f (x_4s (k := k + 7) cb rh (by omega) hA hB' c9 hfm (by omega) e1) hr (by decide) e2 hn ac (J_fl itp) sPo_0 sPo_13 e3 e4
  -- what it is
  have form : (tl % 8 = 6 ∧ om.1 (pS a ((fQ (x a d) + S0.length) + ts.length)) = mdV 3 (Int32.ofNat a) ∧ ka.2.1 a + 1 = tl / 8) ∨ (tl % 8 < 5 ∧ ∃ o : Nat, 1 ≤ o ∧ o ≤ ka.2.2.1 ∧ om.1 (pS a ((fQ (x a d) + S0.length) + ts.length)) = mdV 2 (Int32.ofNat o) ∧ ka.1 o + 1 = tl / 8) := by
    rcases p1.1 with h | h | h | h | h
    · omega
    · omega
    · rcases h.2.2 with y | y
      · exact absurd y v0
      · exact Or.inr ⟨h.2.1, y⟩
    · omega
    · exact Or.inl ⟨h.2.1, h.2.2.1, h.2.2.2.2⟩
  have cne : sg.2.2.2.1 a 12 ((fBs (x a d) + (mi (fMe (x a d))).2.2.2.2 + S0.length) + ts.length) ≠ 0 := by
    rw [p2]
    rcases form with ⟨_, z, _⟩ | ⟨_, o, o1, o2, z, _⟩
    · rw [z, cv_3, of_inc]
      exact ofn_0 (by omega) (by omega)
    · rw [z, cv_2]
      exact ofn_0 (by omega) (by omega)
  by_cases dd : d + 1 = 10
  · obtain ⟨h', e1, e2, e3, e4⟩ := k_callF (L := L) (xs := xs) (zf := zf) (w := w) (k := k + 8) (ht := (fBs (x a d) + (mi (fMe (x a d))).2.2.2.2 + S0.length) + ts.length) (M := M) (why := 3) rh (by omega) so1 (Or.inr ⟨cne, by rw [b3, dd], rfl⟩)
    have hr := act_sub (K := 11) (mi := 392) rq q4 eK (Or.inr (Or.inr (Or.inr (Or.inl ⟨rfl, rfl⟩)))) (r_call3 (w := w) (k := k2 + 9) (i := 10 * a + d) (n := q) a12 r93' (by omega) (by rw [p3]; exact v0) (by rw [r92, dd]))
    exact jEx_f (x_4s (k := k + 7) cb rh (by omega) hA hB' c9 hfm (by omega) e1) hr (by decide) e2 hn ac (J_fl itp) sPo_0 sPo_13 e3 e4
  have d9 : d + 1 < 10 := by omega
  obtain ⟨q', lv', S', bh, hl, ptc, hS'⟩ := AD_E nm.2.2.2.2.2.1 nm.2.2.2.2.1 nm.1 q4 ec
  have t6n : t % 8 ≠ 6 := by
    rcases rs with z | ⟨_, _, _, _, z⟩
    · rw [z.2]; decide
    · have := dTy_c z; omega
  have eS' : S' = (t, false, fL (x a d)) :: S0 := by
    have pl0 : isPl (sB.2.1 44 q) = false := by rw [eK]; rfl
    rw [pl0] at hS'
    rcases hS' with z | ⟨t', z1, z2⟩
    · exact z
    · rw [z2, vlF_f t6n z1]
  subst eS'
  have q4c : q' < 4400 := by
    obtain ⟨_, ⟨_, z⟩, _⟩ := ptc
    exact z
  have loc16 := mo.2.2.2.1.1
  obtain ⟨h', z, c, f, e1, e2, e3, e4, e5, e6, e7, e8⟩ := k_callB (L := L) (xs := xs) (zf := zf) (w := w) (k := k + 6) (bs := (fBs (x a d) + (mi (fMe (x a d))).2.2.2.2 + S0.length)) (np := ps'.length) (b := d + 1) c10 rh (by omega) (by rw [lts]; exact so1) (by rw [lts]; exact cne) b3 d9 (by omega) c3 (by omega) (by omega)
  rw [lts] at e2 e3
  have rmb : RMB sB s m qe ts.length := by
    rw [← lts]
    exact rmb_k c8 (fx.1 76 (by decide)) (fx.1 77 (by decide))
  obtain ⟨g2, r1, r2, r3⟩ := r_callB (w := w) (k := k2 + 6) (i := 10 * a + d) (n := q) (d := d + 1) (t := (fQ (x a d) + S0.length)) rq rmb a12 (by omega) q4 (by rw [fx.1 53 (by decide)]; exact h53) d9 r92 r93' (by omega) (by rw [p3]; exact v0) bh (by decide) (by omega)
  have hr := act_sub (K := 11) (mi := 392) rq q4 eK (Or.inr (Or.inr (Or.inr (Or.inl ⟨rfl, rfl⟩)))) r1
  have c40 : c ≤ 40000 := by
    have := so1.2.2.2
    omega
  rw [p2] at e2
  rw [p3] at hr
  have fin : ∃ (om' : oMg) (N' : Nat) (D' : Nat → Nat) (x' : Nat → Nat → fDs), rUn sB A B mi kc om' ka la ms N' cn (sE (sQ sg a z c f ((fBs (x a d) + (mi (fMe (x a d))).2.2.2.2 + S0.length) + (mi m).2.2.2.2)) a (d + 1) (Int32.ofNat pe) (Int32.ofNat (fBs (x a d) + (mi (fMe (x a d))).2.2.2.2 + S0.length)) (cvl (om.1 (pS a ((fQ (x a d) + S0.length) + ts.length))))) (sBg (rs_wA (rsL (rs_wA s 99 (10 * a + d) (Int32.ofNat q')) 101 g2) 93 a (Int32.ofNat (fQ (x a d) + S0.length))) a (d + 1) m qe (om.1 (pS a ((fQ (x a d) + S0.length) + ts.length)))) D' x' := by
    rcases form with ⟨t6, fv, fk⟩ | ⟨t5, o, o1, o2, fv, fk⟩
    · -- itself
      have ek : k0 = ka.2.1 a := by omega
      obtain ⟨_, wac, _⟩ := wl.2.2.2.2.2 a ac
      have e66 : sB.2.1 66 k0 = 1 := by rw [ek]; exact wac.1.2.2.2.1
      have p4' : om.2.1 (pS a ((fQ (x a d) + S0.length) + ts.length)) = tl ∧ om.2.2.1.1 (pS a ((fQ (x a d) + S0.length) + ts.length)) = fRe (x a d) (fL (x a d)) := by
        rcases p4 with z | z
        · exact ⟨z.1, z.2 (by omega)⟩
        · have := isO_c z.2.1; omega
      have own := p6 a8 t6
      exact J_11e (R0 := fRe (x a d) (fL (x a d))) (tt := tl) itp d9 pf0 ptc n7 q4c hl len (Or.inl rfl) (Or.inl ⟨by rw [p4'.1]; omega, p4'.2, rfl, rfl, Or.inl (by rw [fv]; exact oV_3 _)⟩) ⟨k0, k8, e71, Or.inl ⟨e66, by rw [if_pos rfl]; omega⟩⟩ p1 v0 (by omega) (fun _ => own.2) lts f3 (Or.inl rfl) mo c2 c3 (pm_d c1) c4 c5 c6 c7 ⟨e70, rs, Or.inl rfl⟩ e3 e5 e6 c40 r2 r3
    · -- an object
      have ek : k0 = ka.1 o := by omega
      have tlo : isO tl = true := isO_n ⟨a8, t5⟩
      have e66 : sB.2.1 66 k0 = 0 := by rw [ek]; exact (wl.2.2.2.1 o o1 o2).1.2.1
      obtain ⟨c', c5', e72'⟩ := e72 rfl e66
      have hov : oV (om.1 (pS a ((fQ (x a d) + S0.length) + ts.length))) = o := by rw [fv]; exact oV_2 (by omega)
      have tt8 : (8 * (k0 + 1) + c') % 8 = c' := by omega
      have th : thT sB m 0 (8 * (k0 + 1) + c') := ⟨k0, k8, e71, Or.inr ⟨e66, c', c5', by rw [e70, if_neg (by decide)]; exact e72', rfl, fun z => absurd rfl z⟩⟩
      have vty : ∀ ka', ka' = ka → vTy ka' a (8 * (k0 + 1) + c') (om.1 (pS a ((fQ (x a d) + S0.length) + ts.length))) := fun ka' e => by
        rw [e]
        exact Or.inr (Or.inr (Or.inl ⟨by omega, by omega, Or.inr ⟨o, o1, o2, fv, by omega⟩⟩))
      have vkn : oV (om.1 (pS a ((fQ (x a d) + S0.length) + ts.length))) ≠ 0 → om.2.2.2.1 a (oV (om.1 (pS a ((fQ (x a d) + S0.length) + ts.length)))) := p1.2
      have hcl := clt tlo
      have cp2 : cpT tl = tl % 8 := by unfold cpT; rw [if_pos t5]
      rw [cp2] at hcl
      by_cases seen : pl = true ∧ tl % 8 ≤ 1
      · -- seen in its place
        have hld0 := hLd_of (o := o) (S0 := (vE (fL (x a d)) ts ++ S0)) it eS pf tlo (by rw [eq1]; exact hov) (by omega)
        rw [eq1, eq2] at hld0
        obtain ⟨om1, it1, hld, kp, eK1⟩ := hld0
        have gi1 := (it_f it1).2.2.2.2.2.2.1
        have vt1 : vAl om1 ka a (8 * (k0 + 1) + c') (om.1 (pS a ((fQ (x a d) + S0.length) + ts.length))) := ⟨vty ka rfl, fun z => by rw [eK1]; exact vkn z⟩
        obtain ⟨ho0, lx, l1, l2, l3, l4, l5⟩ := hld.2 seen.2
        by_cases box : tl % 8 = 1 ∧ c' = 4
        · -- trn, seen as box
          have ok4 : rg_ok om1.2.2.1.2.1 om1.2.2.1.2.2.1 om1.2.2.1.2.2.2.1 (fRe (x a d) (fL (x a d))) 4 o := by
            rcases hld.1 with y | y
            · rw [box.1] at y
              rcases y with y | y | ⟨y0, y | y | y | y | y⟩
              · omega
              · exact absurd y.1 rl.1
              · omega
              · omega
              · omega
              · refine Or.inr (Or.inr ⟨y0, Or.inr (Or.inr (Or.inl ⟨rfl, Or.inr ⟨1, ?_⟩⟩))⟩)
                exact ⟨y.2.2.1, y.2.2.2⟩
              · omega
            · omega
          exact J_11e (R0 := fRe (x a d) (fL (x a d))) (tt := 8 * (k0 + 1) + c') it1 d9 pf0 ptc n7 q4c hl len (Or.inl rfl) (Or.inr ⟨by rw [hov]; exact o2, Or.inr ⟨by omega, by rw [tt8, hov, box.2]; exact ok4⟩⟩) th vt1 v0 (by omega) (fun y => by omega) lts f3 (Or.inl rfl) mo c2 c3 (pm_d c1) c4 c5 c6 c7 ⟨e70, rs, Or.inl rfl⟩ e3 e5 e6 c40 r2 r3
        · -- a harmless call
          have hm : (c' = 2 ∨ c' = 4) ∧ hmT sB m := by
            unfold clT at hcl
            have e4' : ∀ u : Nat, u < 5 → sB.2.1 72 m = Int32.ofNat u → c' = u := fun u hu z => ofn_inj (by omega) (by omega) (e72'.symm.trans z)
            by_cases y : tl % 8 = 1
            · rw [if_pos ⟨seen.1, y⟩] at hcl
              rcases hcl with w | ⟨w, w2⟩
              · exact absurd ⟨y, e4' 4 (by decide) w⟩ box
              · exact ⟨Or.inl (e4' 2 (by decide) w), w2⟩
            · rw [if_neg (fun w => y w.2), if_pos ⟨seen.1, by omega⟩] at hcl
              rcases hcl with ⟨w | w, w2⟩
              · exact ⟨Or.inr (e4' 4 (by decide) w), w2⟩
              · exact ⟨Or.inl (e4' 2 (by decide) w), w2⟩
          have ent := rg_ent gi1.1 lx l2 (by rw [l4]; exact rl.1) l3
          have ie := inR_e gi1.1 l2 (by rw [l4]; exact rl.1) l3
          have own1 : om1.2.2.1.2.2.2.2 (om1.2.2.1.2.1 o) = a := by
            obtain ⟨_, _, _, _, _, rg1, _⟩ := it1
            rw [inR_ow gi1.1 l5, inR_ow gi1.1 ie.1, l4]
            have := (rg1.1 (fL (x a d)) (by rw [xU_eq]; exact Nat.le_refl _)).2.2
            rw [xU_eq] at this
            exact this
          have noE : ∀ y, eLr om1 N a d (fL (x a d)) ((xU x a d (fMe (x a d), fL (x a d), fG (x a d), fGn (x a d), vE (fL (x a d)) ts ++ S0, fRe (x a d), fBs (x a d), fQ (x a d))) a) y → ¬ inR om1.2.2.1 (om1.2.2.1.2.1 o) y := by
            intro y hy hin
            refine eL_no it1 (j0 := fL (x a d)) (T0 := om1.2.2.1.2.1 (tgF om1.2.1 om1.1 lx)) (by rw [xU_eq]; exact Nat.le_refl _) (by rw [ent.2.1]; exact Nat.succ_ne_zero _) (by rw [ent.2.2, l4, xU_eq]) (y := y) ?_ (inR_t l5 hin)
            rw [xU_eq]
            exact hy
          have hpm : ∀ q' ∈ ps', sdT q' = true := by
            obtain ⟨ts', _, y1, y2, _⟩ := hm.2
            have := pm_u y1 c1
            rw [← this]
            exact y2
          have ok2 : rg_ok om1.2.2.1.2.1 om1.2.2.1.2.2.1 om1.2.2.1.2.2.2.1 (om1.2.2.1.2.1 o) c' o := by
            refine Or.inr (Or.inr ⟨ho0, ?_⟩)
            rcases hm.1 with y | y
            · exact Or.inr (Or.inl ⟨y, rfl⟩)
            · exact Or.inr (Or.inr (Or.inl ⟨y, Or.inr rg_Tr_refl⟩))
          have args : ∀ j, j < ts.length → om1.2.1 (pS a ((fQ (x a d) + S0.length) + j)) ≠ 0 → oV (om1.1 (pS a ((fQ (x a d) + S0.length) + j))) ≠ 0 → om1.2.1 (pS a ((fQ (x a d) + S0.length) + j)) % 8 ≤ 1 → ¬ inR om1.2.2.1 (om1.2.2.1.2.1 (oV (om1.1 (pS a ((fQ (x a d) + S0.length) + j))))) (om1.2.2.1.2.1 o) := by
            intro j hj t0 o0 y1
            have hrj : om1.2.2.1.1 (pS a ((fQ (x a d) + S0.length) + j)) = fRe (x a d) (fL (x a d)) := by
              obtain ⟨_, _, _, _, vl1, _⟩ := it1
              have sv := vl1.2.2.2
              rw [xU_eq] at sv
              have h1 : ts[j]? = some ts[j] := List.getElem?_eq_getElem hj
              obtain ⟨_, _, _, z4, _⟩ := arg_at sv h1
              have z4 : (om1.2.1 (pS a (fQ (x a d) + (S0.length + j))) = ts[j] ∧ (ts[j] ≠ 0 → om1.2.2.1.1 (pS a (fQ (x a d) + (S0.length + j))) = fRe (x a d) (fL (x a d)))) ∨ (false = true ∧ _) := z4
              rw [← Nat.add_assoc] at z4
              rcases z4 with y | y
              · exact y.2 (by rw [← y.1]; exact t0)
              · exact absurd y.1 (by decide)
            exact no_in gi1 hld (by omega) (by omega) rl.1 t0 o0 hrj y1 (fun y => by unfold lOf pS pH at y; omega)
          exact J_11e (R0 := om1.2.2.1.2.1 o) (tt := 8 * (k0 + 1) + c') it1 d9 pf0 ptc n7 q4c hl len (Or.inr ⟨ho0, gi1.2.1.2.1 o, own1, noE, args⟩) (Or.inr ⟨by rw [hov]; exact o2, Or.inr ⟨by omega, by rw [tt8, hov]; exact ok2⟩⟩) th vt1 v0 (by omega) (fun y => by omega) lts f3 (Or.inr hpm) mo c2 c3 (pm_d c1) c4 c5 c6 c7 ⟨e70, rs, Or.inr hm.2⟩ e3 e5 e6 c40 r2 r3
      · -- held
        have gd : rg_good (tl % 8) c' := by
          unfold clT at hcl
          rw [if_neg (fun y => seen ⟨y.1, by omega⟩), if_neg (fun y => seen ⟨y.1, by omega⟩), e72'] at hcl
          exact gd_c (by omega) c5' hcl
        have p4' : om.2.1 (pS a ((fQ (x a d) + S0.length) + ts.length)) = tl ∧ om.2.2.1.1 (pS a ((fQ (x a d) + S0.length) + ts.length)) = fRe (x a d) (fL (x a d)) := by
          rcases p4 with z | z
          · exact ⟨z.1, z.2 (by omega)⟩
          · exact absurd ⟨z.1, z.2.2.1⟩ seen
        exact J_11e (R0 := fRe (x a d) (fL (x a d))) (tt := 8 * (k0 + 1) + c') itp d9 pf0 ptc n7 q4c hl len (Or.inl rfl) (Or.inl ⟨by rw [p4'.1]; omega, p4'.2, rfl, rfl, Or.inr ⟨by rw [p4'.1, tt8]; exact gd, by omega, by rw [p4'.1]; omega⟩⟩) th ⟨vty ka rfl, vkn⟩ v0 (by omega) (fun y => by omega) lts f3 (Or.inl rfl) mo c2 c3 (pm_d c1) c4 c5 c6 c7 ⟨e70, rs, Or.inl rfl⟩ e3 e5 e6 c40 r2 r3
  obtain ⟨om2, N2, D2, x2, ru⟩ := fin
  exact jEx_s (x_4s (k := k + 7) cb rh (by omega) hA hB' c9 hfm (by omega) e1) hr e2 hn ac ru (by
    show (sQ sg a z c f ((fBs (x a d) + (mi (fMe (x a d))).2.2.2.2 + S0.length) + (mi m).2.2.2.2)).2.2.2.2 a 0 = _
    exact sQ_P (Or.inl (by decide))) (CST_t e8 (CST_0 (fun _ => rfl) rfl rfl))
end JCM
