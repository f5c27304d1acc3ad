/-! A NAME IS SWAPPED BY BOTH. -/
section JSN
variable {sB : rS} {A B : Nat → Int32} {mi : Nat → Nat × Nat × Nat × Nat × Nat} {kc : kCi} {om om' : oMg} {ka ka' : kAp} {la : lAy} {ms : mSg} {N N' cn : Nat} {sg sg' sg2 : cS} {s s' s2 S1 : rS} {a b d e lo q0 J l t r i n p q k k2 f0 w P L sz lv : Nat} {xs : Nat → Int32} {zf : Value} {Z : Nat → Prop} {hB h h' : rm_H} {es : List Nat} {x : Nat → Nat → fDs} {D : Nat → Nat} {S S0 X : List stE} {v : Int64} {y : Int32}
variable {tv : Nat}
/-- swap of a name -/
theorem J_7n (cb : CB hB Z P A B sz es) (rh : RH (.ref P) n sg Z hB h) (hn : ka.2.2.2 ≤ n) (it : iTm sB A B mi kc om ka la ms N cn sg s D x a d) (n7 : sg.2.2.2.1 a 7 d = Int32.ofNat (p + 1)) (q4 : q < 4400) (hw : 10000 ≤ w) {p0 : Nat} {y : scN} (eK : sB.2.1 44 q = Int32.ofNat 7) (e45 : sB.2.1 45 q = Int32.ofNat p0) (hp0 : p0 < 4400) (e4 : sB.2.1 44 p0 = 4) (eS : fSt (x a d) = (tv, false, fL (x a d)) :: S0) (hG : (fG (x a d))[i]? = some y) (h53 : sB.2.1 53 p0 = Int32.ofNat y.2.1) (gy : fGn (x a d) &&& bt y.2.1 = 0) (yl : y.2.2.2 = fL (x a d)) (fit : fitC (cT tv) (cT y.2.2.1) = 0) (hA : A p = 9) (hB' : B p = sB.2.1 53 p0) (ec : EC sB A B (fMe (x a d)) (mi (fMe (x a d))).1 (mi (fMe (x a d))).2.1 (mi (fMe (x a d))).2.2.1 q (p + 1) (fL (x a d)) (fG (x a d)) (fGn (x a d) &&& (bt y.2.1 ^^^ (-1))) y.2.2.1 S0) : jEx sB A B mi kc L xs zf w P Z hB k k2 n cn a d p q sg h s := by
  obtain ⟨⟨a12, d10, u1, u2, u3, u4⟩, rq, fx, b3, r92, b8, gi, rl, ob4⟩ := it_f it
  have it0 := it
  obtain ⟨wl, _, _, ⟨_, ac, _⟩, vl, rg, nm, _, _, so, r93, _⟩ := it0
  have hy : y ∈ fG (x a d) := List.mem_of_getElem? hG
  have s16 := (nm.1.1 y hy).1
  obtain ⟨sloc, dt⟩ := nm.2.2.1 y hy
  obtain ⟨w1, w2, w3, w4, w5⟩ := vl.2.1 y hy gy
  rw [yl] at w3
  have dc := dTy_c dt
  have pf := LV_EC ec
  have len := ec_len it q4 ec
  have u3' : S0.length < 1010 := len
  have r93' : s.2.1 93 a = Int32.ofNat (fQ (x a d) + S0.length + 1) := by rw [eS] at r93; exact r93
  have so' : SOK sg a ((fBs (x a d) + (mi (fMe (x a d))).2.2.2.2 + S0.length) + 1) := by rw [eS] at so; exact so
  have top := vl.2.2.2
  rw [eS] at top
  obtain ⟨⟨p1, p2, p3, p4, p5, p6⟩, _⟩ := top
  have q0 : (om.2.1 (pS a (fQ (x a d) + S0.length)) = tv ∧ (tv ≠ 0 → om.2.2.1.1 (pS a (fQ (x a d) + S0.length)) = fRe (x a d) (fL (x a d)))) := by
    rcases p4 with z | z
    · exact z
    · exact absurd z.1 Bool.false_ne_true
  have tv0 : tv ≠ 0 := by
    have := fit_c p5 dt fit
    omega
  have ty0 : y.2.2.1 ≠ 0 := by omega
  obtain ⟨hT, hr⟩ := q0
  have hr := hr tv0
  obtain ⟨r0, rN, ro⟩ := rg.1 (fL (x a d)) (Nat.le_refl _)
  have ER := eL_R (om := om) (N := N) (x := x) (a := a) (d := d) (Nat.le_refl (fL (x a d)))
  have self : ∀ {t : Nat} {v : Int64}, vTy ka a t v → oV v = 0 ∨ (rg_good (t % 8) (t % 8) ∧ t % 8 ≤ 4 ∧ t % 8 ≤ 4) := by
    intro t v h
    by_cases o0 : oV v = 0
    · exact Or.inl o0
    · have := isO_c (vTy_o h o0).1
      right
      unfold rg_good
      omega
  obtain ⟨g1, i1, i2, i3⟩ := lay_x (a := a) (b := a) (l0 := pS a (fQ (x a d) + S0.length)) (l1 := pH (132 + a)) (t1 := tv) (r := fRe (x a d) (fL (x a d))) (r1 := fRe (x a d) (fL (x a d))) gi (tOp_of it (Nat.le_refl _)) ER r0 r0 rN ro hS_ne ob_H (by rw [hT]; exact tv0) tv0 hr (by rw [hT]; exact self p1.1) (Or.inl rfl)
  have a1 : (rg_up (rg_up om.2.1 (pS a (fQ (x a d) + S0.length)) 0) (pH (132 + a)) tv) (pN (10 * a + d) y.2.1) = y.2.2.1 := by rw [rg_up_ne _ nH_ne, rg_up_ne _ nS_ne]; exact w2
  have b1 : (wU om.1 (pH (132 + a)) (om.1 (pS a (fQ (x a d) + S0.length)))) (pN (10 * a + d) y.2.1) = om.1 (pN (10 * a + d) y.2.1) := wU_ne nH_ne
  have c1 : g1.1 (pN (10 * a + d) y.2.1) = fRe (x a d) (fL (x a d)) := by rw [i3.2.1 _ nH_ne (by rw [w3]; exact ER)]; exact w3
  obtain ⟨g2, j1, j2, j3⟩ := lay_x (a := a) (b := a) (l0 := pN (10 * a + d) y.2.1) (l1 := pS a (fQ (x a d) + S0.length)) (t1 := y.2.2.1) (r := fRe (x a d) (fL (x a d))) (r1 := fRe (x a d) (fL (x a d))) i1 (tOp_k (tOp_of it (Nat.le_refl _)) i3) ER r0 r0 rN (by rw [(i3.1 _ ER).2.1]; exact ro) nS_ne.symm ob_S (by rw [a1]; exact ty0) ty0 c1 (by rw [a1, b1]; exact self w1.1) (Or.inl rfl)
  have a2 : (rg_up (rg_up (rg_up (rg_up om.2.1 (pS a (fQ (x a d) + S0.length)) 0) (pH (132 + a)) tv) (pN (10 * a + d) y.2.1) 0) (pS a (fQ (x a d) + S0.length)) y.2.2.1) (pH (132 + a)) = tv := by rw [rg_up_ne _ hS_ne, rg_up_ne _ nH_ne.symm, rg_up_eq]
  have b2 : (wU (wU om.1 (pH (132 + a)) (om.1 (pS a (fQ (x a d) + S0.length)))) (pS a (fQ (x a d) + S0.length)) ((wU om.1 (pH (132 + a)) (om.1 (pS a (fQ (x a d) + S0.length)))) (pN (10 * a + d) y.2.1))) (pH (132 + a)) = om.1 (pS a (fQ (x a d) + S0.length)) := by rw [wU_ne hS_ne, wU_eq]
  have c2 : g2.1 (pH (132 + a)) = fRe (x a d) (fL (x a d)) := by rw [j3.2.1 _ hS_ne (by rw [i2]; exact ER)]; exact i2
  obtain ⟨g3, k1, k2', k3⟩ := lay_x (a := a) (b := a) (l0 := pH (132 + a)) (l1 := pN (10 * a + d) y.2.1) (t1 := y.2.2.1) (r := fRe (x a d) (fL (x a d))) (r1 := fRe (x a d) (fL (x a d))) j1 (tOp_k (tOp_k (tOp_of it (Nat.le_refl _)) i3) j3) ER r0 r0 rN (by rw [(j3.1 _ ER).2.1, (i3.1 _ ER).2.1]; exact ro) nH_ne ob_N (by rw [a2]; exact tv0) ty0 c2 (by rw [a2, b2]; exact fit_r p5 dt fit p1.1) (Or.inl rfl)
  have st : rSt a a (eLr om N a d (fL (x a d)) (x a)) (fun l => l = pH (132 + a) ∨ l = pS a (fQ (x a d) + S0.length) ∨ l = pN (10 * a + d) y.2.1) om.2.2.1 g3 := rSt_u (Or.inl rfl) (rSt_u (Or.inl rfl) (rSt_P i3 (fun _ h => Or.inl h)) (rSt_P j3 (fun _ h => Or.inr (Or.inl h)))) (rSt_P k3 (fun _ h => Or.inr (Or.inr h)))
  have kp : ∀ l, l ≠ pH (132 + a) → l ≠ pS a (fQ (x a d) + S0.length) → l ≠ pN (10 * a + d) y.2.1 → (wU (wU (wU om.1 (pH (132 + a)) (om.1 (pS a (fQ (x a d) + S0.length)))) (pS a (fQ (x a d) + S0.length)) ((wU om.1 (pH (132 + a)) (om.1 (pS a (fQ (x a d) + S0.length)))) (pN (10 * a + d) y.2.1))) (pN (10 * a + d) y.2.1) ((wU (wU om.1 (pH (132 + a)) (om.1 (pS a (fQ (x a d) + S0.length)))) (pS a (fQ (x a d) + S0.length)) ((wU om.1 (pH (132 + a)) (om.1 (pS a (fQ (x a d) + S0.length)))) (pN (10 * a + d) y.2.1))) (pH (132 + a)))) l = om.1 l ∧ (rg_up (rg_up (rg_up (rg_up (rg_up (rg_up om.2.1 (pS a (fQ (x a d) + S0.length)) 0) (pH (132 + a)) tv) (pN (10 * a + d) y.2.1) 0) (pS a (fQ (x a d) + S0.length)) y.2.2.1) (pH (132 + a)) 0) (pN (10 * a + d) y.2.1) y.2.2.1) l = om.2.1 l ∧ ¬ (fun l => l = pH (132 + a) ∨ l = pS a (fQ (x a d) + S0.length) ∨ l = pN (10 * a + d) y.2.1) l := by
    intro l h1 h2 h3
    refine ⟨?_, ?_, fun z => ?_⟩
    · rw [wU_ne h3, wU_ne h2, wU_ne h1]
    · rw [rg_up_ne _ h3, rg_up_ne _ h1, rg_up_ne _ h2, rg_up_ne _ h3, rg_up_ne _ h1, rg_up_ne _ h2]
    · rcases z with z | z | z
      · exact h1 z
      · exact h2 z
      · exact h3 z
  have nch : cHg a d (fQ (x a d)) (pN (10 * a + d) y.2.1) := Or.inl ⟨_, s16, rfl⟩
  have sch : cHg a d (fQ (x a d)) (pS a (fQ (x a d) + S0.length)) := Or.inr (Or.inl ⟨_, by omega, by omega, rfl⟩)
  have zch : cHg a d (fQ (x a d)) (pH (132 + a)) := Or.inr (Or.inr (Or.inr rfl))
  obtain ⟨q', lv', S', bh, hl', pt, hS'⟩ := AD_E nm.2.2.2.2.2.1 nm.2.2.2.2.1 nm.1 q4 ec
  have pl : isPl (sB.2.1 44 q) = false := by rw [eK]; rfl
  rw [pl] at hS'
  obtain ⟨h', z, c, f, e1, e2, e3, e4', e6, e5⟩ := k_swapN (L := L) (xs := xs) (zf := zf) (w := w) (k := k + 7) (ht := (fBs (x a d) + (mi (fMe (x a d))).2.2.2.2 + S0.length)) (bs := fBs (x a d)) (sl := y.2.1) rh (by omega) so' b3 (by omega) b8 (by omega)
  have c4 : c ≤ 40000 := by
    rcases e6.2.2 with z | z
    · exact Nat.le_trans z so'.2.2.2
    · omega
  have cl : kCl a d (fBs (x a d)) sg (sQ sg a z c f ((fBs (x a d) + (mi (fMe (x a d))).2.2.2.2 + S0.length) + 1)) := kCl_q (fun i hi => by rw [e3 i (by omega), if_neg (by omega)])
  have rf : kRf a d (fQ (x a d)) s (rs_wA (sPsh (rs_wB (rs_wA s 93 a (Int32.ofNat (fQ (x a d) + S0.length))) 101 (16 * (10 * a + d) + y.2.1) (s.2.2 97 (10100 * a + (fQ (x a d) + S0.length)))) a (fQ (x a d) + S0.length) (s.2.2 101 (16 * (10 * a + d) + y.2.1))) 99 (10 * a + d) (Int32.ofNat q')) := kRf_t (kRf_A (Or.inr ⟨rfl, rfl⟩)) (kRf_t (kRf_B (Or.inr ⟨rfl, by omega, by omega⟩)) (kRf_t (kRf_p (by omega) (by omega)) (kRf_A (Or.inl ⟨rfl, rfl⟩))))
  have g101 : ∀ z, z < 16 → ¬ (fun z => z = y.2.1) z → ((rs_wA (sPsh (rs_wB (rs_wA s 93 a (Int32.ofNat (fQ (x a d) + S0.length))) 101 (16 * (10 * a + d) + y.2.1) (s.2.2 97 (10100 * a + (fQ (x a d) + S0.length)))) a (fQ (x a d) + S0.length) (s.2.2 101 (16 * (10 * a + d) + y.2.1))) 99 (10 * a + d) (Int32.ofNat q'))).2.2 101 (16 * (10 * a + d) + z) = s.2.2 101 (16 * (10 * a + d) + z) := by
    intro z hz hne
    have hne : z ≠ y.2.1 := hne
    rw [ps_L (Or.inl (by decide)), wB_get, if_neg (by omega)]
    rfl
  have g97 : ∀ k, k < fQ (x a d) + S0.length → ((rs_wA (sPsh (rs_wB (rs_wA s 93 a (Int32.ofNat (fQ (x a d) + S0.length))) 101 (16 * (10 * a + d) + y.2.1) (s.2.2 97 (10100 * a + (fQ (x a d) + S0.length)))) a (fQ (x a d) + S0.length) (s.2.2 101 (16 * (10 * a + d) + y.2.1))) 99 (10 * a + d) (Int32.ofNat q'))).2.2 97 (10100 * a + k) = s.2.2 97 (10100 * a + k) := by
    intro k hk
    rw [ps_L (Or.inr (by omega))]
    rfl
  obtain ⟨nms, ths, svl⟩ := fV0 (om' := ((wU (wU (wU om.1 (pH (132 + a)) (om.1 (pS a (fQ (x a d) + S0.length)))) (pS a (fQ (x a d) + S0.length)) ((wU om.1 (pH (132 + a)) (om.1 (pS a (fQ (x a d) + S0.length)))) (pN (10 * a + d) y.2.1))) (pN (10 * a + d) y.2.1) ((wU (wU om.1 (pH (132 + a)) (om.1 (pS a (fQ (x a d) + S0.length)))) (pS a (fQ (x a d) + S0.length)) ((wU om.1 (pH (132 + a)) (om.1 (pS a (fQ (x a d) + S0.length)))) (pN (10 * a + d) y.2.1))) (pH (132 + a)))), (rg_up (rg_up (rg_up (rg_up (rg_up (rg_up om.2.1 (pS a (fQ (x a d) + S0.length)) 0) (pH (132 + a)) tv) (pN (10 * a + d) y.2.1) 0) (pS a (fQ (x a d) + S0.length)) y.2.2.1) (pH (132 + a)) 0) (pN (10 * a + d) y.2.1) y.2.2.1), g3, om.2.2.2)) (sg' := sQ sg a z c f ((fBs (x a d) + (mi (fMe (x a d))).2.2.2.2 + S0.length) + 1)) (s' := (rs_wA (sPsh (rs_wB (rs_wA s 93 a (Int32.ofNat (fQ (x a d) + S0.length))) 101 (16 * (10 * a + d) + y.2.1) (s.2.2 97 (10100 * a + (fQ (x a d) + S0.length)))) a (fQ (x a d) + S0.length) (s.2.2 101 (16 * (10 * a + d) + y.2.1))) 99 (10 * a + d) (Int32.ofNat q'))) (X := [(tv, false, fL (x a d))]) (S0 := S0) (Qs := fun z => z = y.2.1) it (Nat.le_refl _) st rfl eS pf (fun z hz hne => kp _ nH_ne nS_ne (nN_ne hne)) (kp _ (hH_ne (by omega)) hS_ne nH_ne.symm) (fun k hk => kp _ hS_ne.symm (sS_ne (by omega)) nS_ne.symm) (by rw [sQ_R (Or.inl (by decide))]) (fun z hz => by rw [hz]; exact sloc) (fun i hi hz => by rw [sQ_f, e3 i (by omega), if_neg (hz _ rfl)]) (rf.2.2 100 _ (by omega) (by omega)) g101 g97
  have fSP : (wU (wU (wU om.1 (pH (132 + a)) (om.1 (pS a (fQ (x a d) + S0.length)))) (pS a (fQ (x a d) + S0.length)) ((wU om.1 (pH (132 + a)) (om.1 (pS a (fQ (x a d) + S0.length)))) (pN (10 * a + d) y.2.1))) (pN (10 * a + d) y.2.1) ((wU (wU om.1 (pH (132 + a)) (om.1 (pS a (fQ (x a d) + S0.length)))) (pS a (fQ (x a d) + S0.length)) ((wU om.1 (pH (132 + a)) (om.1 (pS a (fQ (x a d) + S0.length)))) (pN (10 * a + d) y.2.1))) (pH (132 + a)))) (pS a (fQ (x a d) + S0.length)) = om.1 (pN (10 * a + d) y.2.1) := by rw [wU_ne nS_ne.symm, wU_eq, wU_ne nH_ne]
  have fNP : (wU (wU (wU om.1 (pH (132 + a)) (om.1 (pS a (fQ (x a d) + S0.length)))) (pS a (fQ (x a d) + S0.length)) ((wU om.1 (pH (132 + a)) (om.1 (pS a (fQ (x a d) + S0.length)))) (pN (10 * a + d) y.2.1))) (pN (10 * a + d) y.2.1) ((wU (wU om.1 (pH (132 + a)) (om.1 (pS a (fQ (x a d) + S0.length)))) (pS a (fQ (x a d) + S0.length)) ((wU om.1 (pH (132 + a)) (om.1 (pS a (fQ (x a d) + S0.length)))) (pN (10 * a + d) y.2.1))) (pH (132 + a)))) (pN (10 * a + d) y.2.1) = om.1 (pS a (fQ (x a d) + S0.length)) := by rw [wU_eq, b2]
  obtain ⟨om2, N2, x2, ru⟩ := PSE (om' := ((wU (wU (wU om.1 (pH (132 + a)) (om.1 (pS a (fQ (x a d) + S0.length)))) (pS a (fQ (x a d) + S0.length)) ((wU om.1 (pH (132 + a)) (om.1 (pS a (fQ (x a d) + S0.length)))) (pN (10 * a + d) y.2.1))) (pN (10 * a + d) y.2.1) ((wU (wU om.1 (pH (132 + a)) (om.1 (pS a (fQ (x a d) + S0.length)))) (pS a (fQ (x a d) + S0.length)) ((wU om.1 (pH (132 + a)) (om.1 (pS a (fQ (x a d) + S0.length)))) (pN (10 * a + d) y.2.1))) (pH (132 + a)))), (rg_up (rg_up (rg_up (rg_up (rg_up (rg_up om.2.1 (pS a (fQ (x a d) + S0.length)) 0) (pH (132 + a)) tv) (pN (10 * a + d) y.2.1) 0) (pS a (fQ (x a d) + S0.length)) y.2.2.1) (pH (132 + a)) 0) (pN (10 * a + d) y.2.1) y.2.2.1), g3, om.2.2.2)) it cl rf (fun l hl => ⟨(kp l (fun z => hl (z ▸ zch)) (fun z => hl (z ▸ sch)) (fun z => hl (z ▸ nch))).1, (kp l (fun z => hl (z ▸ zch)) (fun z => hl (z ▸ sch)) (fun z => hl (z ▸ nch))).2.1⟩) (rSt_P st (fun l z => by
    rcases z with z | z | z <;> rw [z]
    · exact zch
    · exact sch
    · exact nch)) k1 rfl (PJ_0 (n := 0) pt) pt hS' hl' pf (dTy_g dt) (by omega) (by rw [sQ_R (Or.inl (by decide))]; exact n7) ps_99 (fun z hz gz => by
    by_cases cz : z.2.1 = y.2.1
    · rw [gDs_u nm.2.1 hz hy cz]
      unfold nAm
      rw [yl]
      refine ⟨?_, rg_up_eq _ _ _, k2', ?_, ?_⟩
      · show vAl _ ka a y.2.2.1 ((wU (wU (wU om.1 (pH (132 + a)) (om.1 (pS a (fQ (x a d) + S0.length)))) (pS a (fQ (x a d) + S0.length)) ((wU om.1 (pH (132 + a)) (om.1 (pS a (fQ (x a d) + S0.length)))) (pN (10 * a + d) y.2.1))) (pN (10 * a + d) y.2.1) ((wU (wU om.1 (pH (132 + a)) (om.1 (pS a (fQ (x a d) + S0.length)))) (pS a (fQ (x a d) + S0.length)) ((wU om.1 (pH (132 + a)) (om.1 (pS a (fQ (x a d) + S0.length)))) (pN (10 * a + d) y.2.1))) (pH (132 + a)))) (pN (10 * a + d) y.2.1))
        rw [fNP]
        exact ⟨fit_v p5 dt fit p1.1, p1.2⟩
      · show _ = cvl ((wU (wU (wU om.1 (pH (132 + a)) (om.1 (pS a (fQ (x a d) + S0.length)))) (pS a (fQ (x a d) + S0.length)) ((wU om.1 (pH (132 + a)) (om.1 (pS a (fQ (x a d) + S0.length)))) (pN (10 * a + d) y.2.1))) (pN (10 * a + d) y.2.1) ((wU (wU om.1 (pH (132 + a)) (om.1 (pS a (fQ (x a d) + S0.length)))) (pS a (fQ (x a d) + S0.length)) ((wU om.1 (pH (132 + a)) (om.1 (pS a (fQ (x a d) + S0.length)))) (pN (10 * a + d) y.2.1))) (pH (132 + a)))) (pN (10 * a + d) y.2.1))
        rw [fNP, sQ_f, e3 _ (by omega), if_pos rfl]
        exact p2
      · show _ = (wU (wU (wU om.1 (pH (132 + a)) (om.1 (pS a (fQ (x a d) + S0.length)))) (pS a (fQ (x a d) + S0.length)) ((wU om.1 (pH (132 + a)) (om.1 (pS a (fQ (x a d) + S0.length)))) (pN (10 * a + d) y.2.1))) (pN (10 * a + d) y.2.1) ((wU (wU om.1 (pH (132 + a)) (om.1 (pS a (fQ (x a d) + S0.length)))) (pS a (fQ (x a d) + S0.length)) ((wU om.1 (pH (132 + a)) (om.1 (pS a (fQ (x a d) + S0.length)))) (pN (10 * a + d) y.2.1))) (pH (132 + a)))) (pN (10 * a + d) y.2.1)
        rw [fNP, ps_L (Or.inl (by decide)), wB_get, if_pos ⟨rfl, rfl⟩]
        exact p3
    · exact nms z hz (bt_ne s16 (nm.1.1 z hz).1 (fun w => cz w.symm) gz) cz (nm.1.2 z hz)) ths svl (by
    show vAl _ ka a y.2.2.1 ((wU (wU (wU om.1 (pH (132 + a)) (om.1 (pS a (fQ (x a d) + S0.length)))) (pS a (fQ (x a d) + S0.length)) ((wU om.1 (pH (132 + a)) (om.1 (pS a (fQ (x a d) + S0.length)))) (pN (10 * a + d) y.2.1))) (pN (10 * a + d) y.2.1) ((wU (wU om.1 (pH (132 + a)) (om.1 (pS a (fQ (x a d) + S0.length)))) (pS a (fQ (x a d) + S0.length)) ((wU om.1 (pH (132 + a)) (om.1 (pS a (fQ (x a d) + S0.length)))) (pN (10 * a + d) y.2.1))) (pH (132 + a)))) (pS a (fQ (x a d) + S0.length)))
    rw [fSP]
    exact ⟨w1.1, w1.2⟩) (by
    show (rg_up (rg_up (rg_up (rg_up (rg_up (rg_up om.2.1 (pS a (fQ (x a d) + S0.length)) 0) (pH (132 + a)) tv) (pN (10 * a + d) y.2.1) 0) (pS a (fQ (x a d) + S0.length)) y.2.2.1) (pH (132 + a)) 0) (pN (10 * a + d) y.2.1) y.2.2.1) (pS a (fQ (x a d) + S0.length)) = y.2.2.1
    rw [rg_up_ne _ nS_ne.symm, rg_up_ne _ hS_ne.symm, rg_up_eq]) (by
    show g3.1 (pS a (fQ (x a d) + S0.length)) = _
    rw [k3.2.1 _ nS_ne.symm (by rw [j2]; exact ER)]
    exact j2) (by
    show _ = cvl ((wU (wU (wU om.1 (pH (132 + a)) (om.1 (pS a (fQ (x a d) + S0.length)))) (pS a (fQ (x a d) + S0.length)) ((wU om.1 (pH (132 + a)) (om.1 (pS a (fQ (x a d) + S0.length)))) (pN (10 * a + d) y.2.1))) (pN (10 * a + d) y.2.1) ((wU (wU om.1 (pH (132 + a)) (om.1 (pS a (fQ (x a d) + S0.length)))) (pS a (fQ (x a d) + S0.length)) ((wU om.1 (pH (132 + a)) (om.1 (pS a (fQ (x a d) + S0.length)))) (pN (10 * a + d) y.2.1))) (pH (132 + a)))) (pS a (fQ (x a d) + S0.length)))
    rw [fSP, sQ_f, e4']
    exact w4) (by
    show _ = (wU (wU (wU om.1 (pH (132 + a)) (om.1 (pS a (fQ (x a d) + S0.length)))) (pS a (fQ (x a d) + S0.length)) ((wU om.1 (pH (132 + a)) (om.1 (pS a (fQ (x a d) + S0.length)))) (pN (10 * a + d) y.2.1))) (pN (10 * a + d) y.2.1) ((wU (wU om.1 (pH (132 + a)) (om.1 (pS a (fQ (x a d) + S0.length)))) (pS a (fQ (x a d) + S0.length)) ((wU om.1 (pH (132 + a)) (om.1 (pS a (fQ (x a d) + S0.length)))) (pN (10 * a + d) y.2.1))) (pH (132 + a)))) (pS a (fQ (x a d) + S0.length))
    rw [fSP, ps_T]
    exact w5) (SOK_q e6.1 e6.2.1 c4) ps_93
  have hr := r_400n (k := k2 + 7) (i := 10 * a + d) (t := fQ (x a d) + S0.length) (K := 7) true rq a12 (by omega) q4 eK rfl e45 hp0 e4 (by rw [fx.1 53 (by decide)]; exact h53) s16 r93' (by omega) bh (by decide) (by omega : 6000 ≤ w)
  exact jEx_p (x_9s (k := k + 10) cb rh (by omega) hA (by rw [hB', h53]; exact e1)) (act_sub (k := k2 + 11) rq q4 eK (Or.inl ⟨rfl, rfl⟩) hr) e2 hn ac ru e5
end JSN
