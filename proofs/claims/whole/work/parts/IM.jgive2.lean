/-! A RECOVER GIVES: both. -/
section JG2
variable {sB : rS} {A B : Nat → Int32} {mi : Nat → Nat × Nat × Nat × Nat × Nat} {kc : kCi} {om om' : oMg} {ka ka' : kAp} {la : lAy} {ms : mSg} {N N' cn : Nat} {sg sg' sg2 : cS} {s s' s2 S1 : rS} {a b d e lo q0 J l t r i n p q k k2 f0 w P L sz lv : Nat} {xs : Nat → Int32} {zf : Value} {Z : Nat → Prop} {hB h h' : rm_H} {es : List Nat} {x : Nat → Nat → fDs} {D : Nat → Nat} {S S0 X : List stE} {v : Int64} {y : Int32}
theorem rqT_vt {tg : Nat} (h : vTy ka a tg v) : vTy ka a (rqT tg) v := by
  unfold rqT
  by_cases c : isO tg = true
  · rw [if_pos c]
    have tc := isO_c c
    have e : ∀ z, z ≤ 3 → (tg - tg % 8 + z) % 8 = z ∧ (tg - tg % 8 + z) / 8 = tg / 8 := by intro z hz; omega
    have := e (if tg % 8 < 3 then 0 else 3) (by split <;> decide)
    rcases h with h | h | h | h | h
    · omega
    · omega
    · refine Or.inr (Or.inr (Or.inl ⟨by omega, by rw [this.1]; split <;> decide, ?_⟩))
      rcases h.2.2 with y | ⟨o, o1, o2, o3, o4⟩
      · exact Or.inl y
      · exact Or.inr ⟨o, o1, o2, o3, by rw [this.2]; exact o4⟩
    · omega
    · omega
  · rw [if_neg c]; exact h
theorem rqT_g {tg : Nat} (h : gTy tg = true) : gTy (rqT tg) = true := by
  rw [gTy_c] at h ⊢
  unfold rqT
  by_cases c : isO tg = true
  · rw [if_pos c]
    have tc := isO_c c
    have e : ∀ z, z ≤ 3 → (tg - tg % 8 + z) % 8 = z ∧ (tg - tg % 8 + z) / 8 = tg / 8 := by intro z hz; omega
    have := e (if tg % 8 < 3 then 0 else 3) (by split <;> decide)
    have z3 : (if tg % 8 < 3 then 0 else 3) ≤ 3 := by split <;> decide
    omega
  · rw [if_neg c]; exact h
theorem rqT_o {tg : Nat} (c : isO tg = true) : rqT tg % 8 = (if tg % 8 < 3 then 0 else 3) ∧ rqT tg ≠ 0 := by
  unfold rqT
  rw [if_pos c]
  have tc := isO_c c
  split <;> omega
/-- give -/
theorem J_25 (cb : CB hB Z P A B sz es) (rh : RH (.ref P) n sg Z hB h) (hn : ka.2.2.2 ≤ n) (it : iTm sB A B mi kc om ka la ms N cn sg s D x a d) (n7 : sg.2.2.2.1 a 7 d = Int32.ofNat (p + 1)) (q4 : q < 4400) (hw : 10000 ≤ w) {tg c R lv0 : Nat} {Go gx : List scN} (eK : sB.2.1 44 q = Int32.ofNat 25) (eS : fSt (x a d) = (tg, false, fL (x a d)) :: S0) (hA : A p = 16) (e49 : sB.2.1 49 q = Int32.ofNat c) (c4 : c < 4400) (e49' : sB.2.1 49 c = Int32.ofNat R) (R4 : R < 4400) (elv : fL (x a d) = lv0 + 1) (glv : ∀ y ∈ Go, y.2.2.2 ≤ lv0) (k9 : sB.2.1 44 R = 9) (eG : fG (x a d) = Go ++ gx) (ec : EC sB A B (fMe (x a d)) (mi (fMe (x a d))).1 (mi (fMe (x a d))).2.1 (mi (fMe (x a d))).2.2.1 R (p + 1) lv0 Go (fGn (x a d)) (rqT tg) S0) : jEx sB A B mi kc L xs zf w P Z hB k k2 n cn a d p q sg h s := by
  obtain ⟨⟨a12, d10, u1, u2, u3, u4⟩, rq, fx, b3, r92, b8, gi, rl, ob4⟩ := it_f it
  have it0 := it
  obtain ⟨wl, _, _, ⟨_, ac, _⟩, vl, rg, nm, _, _, so, r93, _⟩ := it0
  obtain ⟨m1, m2, m3, m4, m5⟩ := nm.2.2.2
  have it1 := it
  obtain ⟨_, _, su, _, _, _, _, od, _⟩ := it1
  have pf := LV_EC ec
  have go : GO sB (mi (fMe (x a d))).2.1 (mi (fMe (x a d))).2.2.1 (mi (fMe (x a d))).2.2.2.1 lv0 Go := ⟨(GO_sub nm.1 eG).1, glv⟩
  obtain ⟨q', lv', S', bh, hl', pt, hS'⟩ := AD_E m3 m2 go R4 ec
  have pl : isPl (sB.2.1 44 R) = false := by rw [k9]; rfl
  rw [pl] at hS'
  have len := m5 _ _ _ _ _ _ pt
  have sub : ∀ y, y ∈ Go → y ∈ fG (x a d) := fun y hy => by rw [eG]; exact List.mem_append.mpr (Or.inl hy)
  have top := vl.2.2.2
  rw [eS] at top so r93 u3
  have u3' : S0.length < 1010 := u3
  obtain ⟨⟨p1, p2, p3, p4, p5, p6⟩, svl0⟩ := top
  have q0 : (om.2.1 (pS a (fQ (x a d) + S0.length)) = tg ∧ (tg ≠ 0 → om.2.2.1.1 (pS a (fQ (x a d) + S0.length)) = fRe (x a d) (fL (x a d)))) := by
    rcases p4 with z | z
    · exact z
    · exact absurd z.1 Bool.false_ne_true
  obtain ⟨r0, rN, ro⟩ := rg.1 (fL (x a d)) (Nat.le_refl _)
  obtain ⟨r0', rN', ro'⟩ := rg.1 lv0 (by omega)
  have hJ : lv0 ≤ fL (x a d) := by omega
  have no : ∀ y, eLr om N a d lv0 (x a) y → ¬ inR om.2.2.1 (fRe (x a d) (fL (x a d))) y := by
    intro y hy hin
    rcases hy with h | h | ⟨e, j, h1, h2⟩
    · rw [h] at hin; exact r0 (inR_0 gi.1 hin)
    · have := inR_ow gi.1 hin
      rw [ro] at this
      exact h.2 this
    · rw [h2] at hin
      have h3 : (e < d ∧ j ≤ fL (x a e)) ∨ (e = d ∧ j < fL (x a d)) := by
        rcases h1 with z | z
        · exact Or.inl z
        · exact Or.inr ⟨z.1, by omega⟩
      obtain ⟨o1, o2⟩ := od e j (fL (x a d)) h3 (Nat.le_refl _)
      exact o1 (o2 (by omega)) hin
  have EE : ∀ y, eLr om N a d lv0 (x a) y → eLr om N a d (fL (x a d)) (x a) y := by
    intro y hy
    rcases hy with h | h | ⟨e, j, h1, h2⟩
    · exact Or.inl h
    · exact Or.inr (Or.inl h)
    · refine Or.inr (Or.inr ⟨e, j, ?_, h2⟩)
      rcases h1 with z | z
      · exact Or.inl z
      · exact Or.inr ⟨z.1, by omega⟩
  have Er1 : eLr om N a d lv0 (x a) (fRe (x a d) lv0) := Or.inr (Or.inr ⟨d, lv0, Or.inr ⟨rfl, Nat.le_refl _⟩, rfl⟩)
  have zch : cHg a d (fQ (x a d)) (pH (120 + a)) := Or.inr (Or.inr (Or.inl rfl))
  have sch : cHg a d (fQ (x a d)) (pS a (fQ (x a d) + S0.length)) := Or.inr (Or.inl ⟨_, by omega, by omega, rfl⟩)
  have gt := rqT_g p5
  have val := rqT_vt p1.1
  have eS' : ∀ t6 : ¬ (8 ≤ rqT tg ∧ rqT tg % 8 = 6), S' = (rqT tg, false, lv0) :: S0 := by
    intro t6
    rcases hS' with z | ⟨t', z1, z2⟩
    · exact z
    · rcases vlF_c z1 with y | y | y
      · rw [y.1] at z2; exact z2
      · exact absurd ⟨y.1, y.2.1⟩ t6
      · exact absurd y.2.1 Bool.false_ne_true
  -- the store behind it
  have key : ∃ om' : oMg, GI ka.2.2.1 N om'.1 om'.2.1 om'.2.2.1 ∧ om'.2.2.2 = om.2.2.2 ∧ rSt a a (eLr om N a d lv0 (x a)) (fun l => l = pS a (fQ (x a d) + S0.length) ∨ l = pH (120 + a)) om.2.2.1 om'.2.2.1 ∧ (∀ l, l ≠ pS a (fQ (x a d) + S0.length) → l ≠ pH (120 + a) → om'.1 l = om.1 l ∧ om'.2.1 l = om.2.1 l) ∧ om'.1 (pS a (fQ (x a d) + S0.length)) = om.1 (pS a (fQ (x a d) + S0.length)) ∧ om'.2.1 (pS a (fQ (x a d) + S0.length)) = rqT tg ∧ (rqT tg ≠ 0 → om'.2.2.1.1 (pS a (fQ (x a d) + S0.length)) = fRe (x a d) lv0) := by
    by_cases t0 : tg = 0
    · have z0 : rqT tg = 0 := by rw [t0]; rfl
      exact ⟨om, gi, rfl, rSt_r, fun _ _ _ => ⟨rfl, rfl⟩, rfl, by rw [q0.1, z0, t0], fun z => absurd z0 z⟩
    · have t10 : rqT tg ≠ 0 := by
        by_cases c : isO tg = true
        · exact (rqT_o c).2
        · unfold rqT; rw [if_neg c]; exact t0
      have zne : pH (120 + a) ≠ pS a (fQ (x a d) + S0.length) := by unfold pH pS; omega
      obtain ⟨g', i1, i2, i3⟩ := cLs (a := a) (l0 := pS a (fQ (x a d) + S0.length)) (lz := pH (120 + a)) (t0 := tg) (t1 := rqT tg) (r1 := fRe (x a d) lv0) (Rc := fRe (x a d) (fL (x a d))) (E := eLr om N a d lv0 (x a)) (Ef := eLr om N a d (fL (x a d)) (x a)) gi zne (ob_n (by unfold pS; omega)) (ob_n (by unfold pH; omega)) q0.1 t0 t10 (q0.2 t0) r0 rN (rg.2 _ (by omega) (Nat.le_refl _)) ro r0' rN' ro' Er1 EE (eL_R (Nat.le_refl _)) (tOp_of it (Nat.le_refl _)) no (Or.inl rfl) (by
        by_cases o0 : oV (om.1 (pS a (fQ (x a d) + S0.length))) = 0
        · exact Or.inl o0
        · have ot := (vTy_o p1.1 o0).1
          have tc := isO_c ot
          exact Or.inr ⟨by omega, (rqT_o ot).1⟩)
      refine ⟨(wU om.1 (pH (120 + a)) (om.1 (pS a (fQ (x a d) + S0.length))), rg_up (rg_up om.2.1 (pH (120 + a)) 0) (pS a (fQ (x a d) + S0.length)) (rqT tg), g', om.2.2.2), i1, rfl, i3, fun l h1 h2 => ⟨wU_ne h2, ?_⟩, wU_ne zne.symm, rg_up_eq _ _ _, fun _ => i2⟩
      show rg_up (rg_up om.2.1 (pH (120 + a)) 0) (pS a (fQ (x a d) + S0.length)) (rqT tg) l = om.2.1 l
      rw [rg_up_ne _ h1, rg_up_ne _ h2]
  obtain ⟨om', k1, k2', k3, k4, k5, k6, k7⟩ := key
  have t6 : ¬ (8 ≤ rqT tg ∧ rqT tg % 8 = 6) := by
    intro z
    by_cases c : isO tg = true
    · have := (rqT_o c).1
      have z3 : (if tg % 8 < 3 then 0 else 3) ≤ 3 := by split <;> decide
      omega
    · have e : rqT tg = tg := by unfold rqT; rw [if_neg c]
      rw [e] at z
      exact absurd (p6 z.1 z.2).1 Bool.false_ne_true
  have eS' := eS' t6
  obtain ⟨nms, ths, svl⟩ := fV0 (om' := om') (sg' := sg) (s' := rs_wA s 99 (10 * a + d) (Int32.ofNat q')) (X := [(tg, false, fL (x a d))]) (S0 := S0) (Qs := fun _ => False) it hJ k3 k2' eS pf (fun z hz _ => ⟨(k4 _ nS_ne nH_ne).1, (k4 _ nS_ne nH_ne).2, fun w => w.elim nS_ne nH_ne⟩) ⟨(k4 _ hS_ne (hH_ne (by omega))).1, (k4 _ hS_ne (hH_ne (by omega))).2, fun w => w.elim hS_ne (hH_ne (by omega))⟩ (fun k hk => ⟨(k4 _ (sS_ne (by omega)) hS_ne.symm).1, (k4 _ (sS_ne (by omega)) hS_ne.symm).2, fun w => w.elim (sS_ne (by omega)) hS_ne.symm⟩) rfl (fun _ h => h.elim) (fun _ _ _ => rfl) rfl (fun _ _ _ => rfl) (fun _ _ => rfl)
  have ru := eNd2 (om' := om') (sg' := sg) (s' := rs_wA s 99 (10 * a + d) (Int32.ofNat q')) it hJ ⟨rfl, rfl, fun _ _ _ => rfl, fun _ _ _ => rfl, fun _ _ => rfl, fun _ _ => rfl, fun _ _ _ => rfl⟩ (kRf_A (Or.inl ⟨rfl, rfl⟩)) (fun l hl => k4 l (fun z => hl (z ▸ sch)) (fun z => hl (z ▸ zch))) (rSt_P k3 (fun l z => by rcases z with z | z <;> rw [z]; exact sch; exact zch)) k1 k2' (PJ_0 (n := 0) pt) pt n7 (by rw [wA_get, if_pos ⟨rfl, rfl⟩]) (PT_rg pt).2 len hl' go (gDs_p nm.2.1 eG) (fun y hy => nm.2.2.1 y (sub y hy)) (fun y hy gy => nms y (sub y hy) gy id (glv y hy)) ths (by
    rw [eS']
    refine ⟨⟨⟨?_, ?_⟩, ?_, ?_, Or.inl ⟨k6, k7⟩, gt, fun z1 z2 => absurd ⟨z1, z2⟩ t6⟩, svl⟩
    · rw [k5]; exact val
    · rw [k5, k2']; exact p1.2
    · rw [k5]; exact p2
    · rw [k5]; exact p3) (fun y hy => by
    rw [eS'] at hy
    rcases List.mem_cons.mp hy with z | z
    · rw [z]; exact Nat.le_refl _
    · exact (pf y z).2) (by rw [eS']; exact so) (by
    rw [eS', wA_get, if_neg (by omega)]
    exact r93)
  exact jEx_s (x_16 (L := L) (xs := xs) (zf := zf) (w := w) (k := k + 7) cb rh (by omega) hA) (act_25 (k := k2 + 8) rq a12 d10 q4 eK e49 c4 e49' bh (by decide) (by omega)) rh hn ac ru rfl (CST_0 (fun _ => rfl) rfl rfl)
end JG2
