/-! NAMES ARE CONSUMED AND SWAPPED. -/
section JCS
variable {sB : rS} {A B : Nat → Int32} {mi : Nat → Nat × Nat × Nat × Nat × Nat} {kc : kCi} {om om' : oMg} {ka ka' : kAp} {la : lAy} {ms : mSg} {N N' cn : Nat} {sg sg' sg2 : cS} {s s' s2 S1 : rS} {a b d e lo q0 J l t r i n p q k k2 f0 w P L sz lv : Nat} {xs : Nat → Int32} {zf : Value} {Z : Nat → Prop} {hB h h' : rm_H} {es : List Nat} {x : Nat → Nat → fDs} {D : Nat → Nat} {S S0 X : List stE} {v : Int64} {y : Int32}
theorem bt_or2 {g : Int32} {i j : Nat} (hi : i < 16) (hj : j < 16) (h : (g ||| bt i) &&& bt j = 0) : i ≠ j ∧ g &&& bt j = 0 := by
  constructor
  · intro z
    subst z
    have k : ∀ i, i < 16 → bi (bt i) i = true := by decide +kernel
    rw [bi_z] at h
    have h := h i (by omega)
    rw [bi_and, bi_or, k i hi] at h
    cases h1 : bi g i <;> rw [h1] at h <;> exact absurd h (by decide)
  · rw [bi_z] at h ⊢
    intro k hk
    have h := h k hk
    rw [bi_and, bi_or] at h
    rw [bi_and]
    cases h1 : bi g k <;> cases h2 : bi (bt i) k <;> cases h3 : bi (bt j) k <;> rw [h1, h2, h3] at h <;> first | rfl | exact h
theorem eL_R {j0 : Nat} (hj : j0 ≤ fL (x a d)) : eLr om N a d (fL (x a d)) (x a) (fRe (x a d) j0) := Or.inr (Or.inr ⟨d, j0, Or.inr ⟨rfl, hj⟩, rfl⟩)
/-- consume -/
theorem J_5 (cb : CB hB Z P A B sz es) (rh : RH (.ref P) n sg Z hB h) (hn : ka.2.2.2 ≤ n) (it : iTm sB A B mi kc om ka la ms N cn sg s D x a d) (n7 : sg.2.2.2.1 a 7 d = Int32.ofNat (p + 1)) (q4 : q < 4400) (hw : 10000 ≤ w) {y : scN} (eK : sB.2.1 44 q = Int32.ofNat 5) (hG : (fG (x a d))[i]? = some y) (h53 : sB.2.1 53 q = Int32.ofNat y.2.1) (gy : fGn (x a d) &&& bt y.2.1 = 0) (hl : y.2.2.2 < fL (x a d) → isO y.2.2.1 = true → y.2.2.1 % 8 = 3 ∨ y.2.2.1 % 8 = 0) (hA : A p = 2) (hB' : B p = sB.2.1 53 q) (ec : EC sB A B (fMe (x a d)) (mi (fMe (x a d))).1 (mi (fMe (x a d))).2.1 (mi (fMe (x a d))).2.2.1 q (p + 1) (fL (x a d)) (fG (x a d)) (fGn (x a d) ||| bt y.2.1) y.2.2.1 (fSt (x a d))) : jEx sB A B mi kc L xs zf w P Z hB k k2 n cn a d p q sg h s := by
  obtain ⟨⟨a12, d10, u1, u2, u3, u4⟩, rq, fx, b3, r92, b8, gi, rl, ob4⟩ := it_f it
  have it0 := it
  obtain ⟨wl, _, _, ⟨_, ac, _⟩, vl, rg, nm, _, _, so, r93, _⟩ := it0
  have len := ec_len it q4 ec
  have hy : y ∈ fG (x a d) := List.mem_of_getElem? hG
  obtain ⟨w1, w2, w3, w4, w5⟩ := vl.2.1 y hy gy
  have s16 := (nm.1.1 y hy).1
  have lv := nm.1.2 y hy
  obtain ⟨sl, ty0⟩ := nm.2.2.1 y hy
  have dc := dTy_c ty0
  obtain ⟨h', z, c, f, e1, e2, e3, e4, e5⟩ := x_2 (L := L) (xs := xs) (zf := zf) (w := w) (k := k + 7) cb rh (by omega) hA so b3 (by omega) b8 (hB'.trans h53) (by have := so.2.1; omega)
  obtain ⟨q', lv', S', bh, hl', pt, hS'⟩ := AD_E nm.2.2.2.2.2.1 nm.2.2.2.2.1 nm.1 q4 ec
  have pl : isPl (sB.2.1 44 q) = false := by rw [eK]; rfl
  rw [pl] at hS'
  have lne : pS a (fQ (x a d) + (fSt (x a d)).length) ≠ pN (10 * a + d) y.2.1 := by unfold pS pN; omega
  obtain ⟨r0, rN, ro⟩ := rg.1 (fL (x a d)) (Nat.le_refl _)
  have gdd : rg_good (om.2.1 (pN (10 * a + d) y.2.1) % 8) (y.2.2.1 % 8) ∨ oV (om.1 (pN (10 * a + d) y.2.1)) = 0 := by
    rw [w2]
    unfold rg_good
    by_cases o0 : oV (om.1 (pN (10 * a + d) y.2.1)) = 0
    · exact Or.inr o0
    · have tc := isO_c (vTy_o w1.1 o0).1
      left
      omega
  obtain ⟨g', i1, i2, i3⟩ := lay_x (a := a) (b := a) (l0 := pN (10 * a + d) y.2.1) (l1 := pS a (fQ (x a d) + (fSt (x a d)).length)) (t1 := y.2.2.1) (r := fRe (x a d) y.2.2.2) (r1 := fRe (x a d) (fL (x a d))) gi (tOp_of it lv) (eL_R (Nat.le_refl _)) (rg.1 _ lv).1 r0 rN ro lne (ob_n (by unfold pS; omega)) (by rw [w2]; omega) (by omega) w3 (by
    rcases gdd with z | z
    · by_cases o0 : oV (om.1 (pN (10 * a + d) y.2.1)) = 0
      · exact Or.inl o0
      · have tc := isO_c (vTy_o w1.1 o0).1
        exact Or.inr ⟨z, by omega, by rw [w2]; omega⟩
    · exact Or.inl z) (by
    by_cases l0 : y.2.2.2 = fL (x a d)
    · exact Or.inl (by rw [l0])
    · right
      by_cases o0 : oV (om.1 (pN (10 * a + d) y.2.1)) = 0
      · exact Or.inl o0
      · right
        rw [w2]
        have := hl (by omega) (vTy_o w1.1 o0).1
        omega)
  have nch : cHg a d (fQ (x a d)) (pN (10 * a + d) y.2.1) := Or.inl ⟨_, s16, rfl⟩
  have sch : cHg a d (fQ (x a d)) (pS a (fQ (x a d) + (fSt (x a d)).length)) := Or.inr (Or.inl ⟨_, by omega, by omega, rfl⟩)
  have kp : ∀ l, l ≠ pN (10 * a + d) y.2.1 → l ≠ pS a (fQ (x a d) + (fSt (x a d)).length) → wU om.1 (pS a (fQ (x a d) + (fSt (x a d)).length)) (om.1 (pN (10 * a + d) y.2.1)) l = om.1 l ∧ rg_up (rg_up om.2.1 (pN (10 * a + d) y.2.1) 0) (pS a (fQ (x a d) + (fSt (x a d)).length)) y.2.2.1 l = om.2.1 l ∧ ¬ (fun z => z = pS a (fQ (x a d) + (fSt (x a d)).length)) l := fun l h1 h2 => ⟨wU_ne h2, by rw [rg_up_ne _ h2, rg_up_ne _ h1], h2⟩
  obtain ⟨y1, y2, y3, y4⟩ := e3
  have c4 : c ≤ 40000 := by
    rcases y4 with z | z
    · exact Nat.le_trans z so.2.2.2
    · omega
  have cl : kCl a d (fBs (x a d)) sg (sQ sg a z c f ((fBs (x a d) + (mi (fMe (x a d))).2.2.2.2 + (fSt (x a d)).length) + 1)) := kCl_q (fun i hi => y1 i (by omega))
  have rf : kRf a d (fQ (x a d)) s (rs_wA (sPsh s a (fQ (x a d) + (fSt (x a d)).length) (om.1 (pN (10 * a + d) y.2.1))) 99 (10 * a + d) (Int32.ofNat q')) := kRf_t (kRf_p (by omega) (by omega)) (kRf_A (Or.inl ⟨rfl, rfl⟩))
  obtain ⟨nms, ths, svl⟩ := fV0 (om' := (wU om.1 (pS a (fQ (x a d) + (fSt (x a d)).length)) (om.1 (pN (10 * a + d) y.2.1)), rg_up (rg_up om.2.1 (pN (10 * a + d) y.2.1) 0) (pS a (fQ (x a d) + (fSt (x a d)).length)) y.2.2.1, g', om.2.2.2)) (sg' := sQ sg a z c f ((fBs (x a d) + (mi (fMe (x a d))).2.2.2.2 + (fSt (x a d)).length) + 1)) (s' := rs_wA (sPsh s a (fQ (x a d) + (fSt (x a d)).length) (om.1 (pN (10 * a + d) y.2.1))) 99 (10 * a + d) (Int32.ofNat q')) (X := []) (S0 := fSt (x a d)) (Qs := fun z => z = y.2.1) it (Nat.le_refl _) i3 rfl rfl (LV_EC ec) (fun z hz hne => kp _ (by have hne : z ≠ y.2.1 := hne; unfold pN; omega) (by unfold pN pS; omega)) (kp _ (by unfold pH pN; omega) (by unfold pH pS; omega)) (fun k hk => kp _ (by unfold pN pS; omega) (by unfold pS; omega)) (by rw [sQ_R (Or.inl (by decide))]) (fun z hz => by rw [hz]; exact sl) (fun i hi _ => by rw [sQ_f]; exact y1 i hi) (ps_L (Or.inl (by decide))) (fun z hz hne => ps_L (Or.inl (by decide))) (fun k hk => ps_L (Or.inr (by omega)))
  obtain ⟨om2, N2, x2, ru⟩ := PSE (om' := (wU om.1 (pS a (fQ (x a d) + (fSt (x a d)).length)) (om.1 (pN (10 * a + d) y.2.1)), rg_up (rg_up om.2.1 (pN (10 * a + d) y.2.1) 0) (pS a (fQ (x a d) + (fSt (x a d)).length)) y.2.2.1, g', om.2.2.2)) it cl rf (fun l hl => ⟨(kp l (fun z => hl (z ▸ nch)) (fun z => hl (z ▸ sch))).1, (kp l (fun z => hl (z ▸ nch)) (fun z => hl (z ▸ sch))).2.1⟩) (rSt_P i3 (fun l z => by rw [z]; exact sch)) i1 rfl (PJ_0 (n := 0) pt) pt hS' hl' (LV_EC ec) (dTy_g ty0) (by omega) (by rw [sQ_R (Or.inl (by decide))]; exact n7) ps_99 (fun z hz gz => nms z hz (bt_or2 s16 (nm.1.1 z hz).1 gz).2 (fun w => (bt_or2 s16 (nm.1.1 z hz).1 gz).1 w.symm) (nm.1.2 z hz)) ths svl (by
    show vAl _ ka a y.2.2.1 (wU om.1 (pS a (fQ (x a d) + (fSt (x a d)).length)) (om.1 (pN (10 * a + d) y.2.1)) (pS a (fQ (x a d) + (fSt (x a d)).length)))
    rw [wU_eq]
    exact ⟨w1.1, w1.2⟩) (rg_up_eq _ _ _) i2 (by
    show _ = cvl (wU om.1 (pS a (fQ (x a d) + (fSt (x a d)).length)) (om.1 (pN (10 * a + d) y.2.1)) (pS a (fQ (x a d) + (fSt (x a d)).length)))
    rw [wU_eq, sQ_f, e4]
    exact w4) (by
    show _ = wU om.1 (pS a (fQ (x a d) + (fSt (x a d)).length)) (om.1 (pN (10 * a + d) y.2.1)) (pS a (fQ (x a d) + (fSt (x a d)).length))
    rw [wU_eq]
    exact ps_T) (SOK_q y2 y3 c4) ps_93
  have hr := act_5 (k := k2 + 8) rq a12 d10 q4 eK bh (by decide) (by omega : 6000 ≤ w) r93 (by omega) (by rw [fx.1 53 (by decide)]; exact h53) s16
  rw [w5] at hr
  exact jEx_p e1 hr e2 hn ac ru e5
end JCS
