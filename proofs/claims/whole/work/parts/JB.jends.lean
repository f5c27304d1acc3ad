/-! A BODY ENDS: by both. -/
section JFO
variable {sB : rS} {A B : Nat → Int32} {mi : Nat → Nat × Nat × Nat × Nat × Nat} {kc : kCi} {om om' : oMg} {ka ka' : kAp} {la : lAy} {ms : mSg} {N N' cn : Nat} {sg sg' sg2 : cS} {s s' s2 S1 : rS} {a b d e lo q0 J l t r i n p q k k2 f0 w P L sz lv : Nat} {xs : Nat → Int32} {zf : Value} {Z : Nat → Prop} {hB h h' : rm_H} {es : List Nat} {x : Nat → Nat → fDs} {D : Nat → Nat} {S S0 X : List stE} {v : Int64} {y : Int32}

theorem neg1 {k : Nat} (hk : k ≤ 100000000) : Int32.ofNat k ≠ -1 := by
  intro y
  have y2 := congrArg Int32.toInt y
  rw [of_int hk] at y2
  have : (-1 : Int32).toInt = -1 := by decide
  omega
/-- the caller goes on with what the ended body gives -/
theorem fin_2 {kk z c : Nat} {vc : Int32} {f : Nat → Int32} (it : iTm sB A B mi kc om ka la ms N cn sg s D x a (d + 1)) (h75 : sB.2.1 75 (fMe (x a (d + 1))) = -1) (e71 : sB.2.1 71 (fMe (x a (d + 1))) = Int32.ofNat kk) (kk8 : kk < 8) (hvc : vc = if sB.2.1 70 (fMe (x a (d + 1))) = 0 ∧ sB.2.1 66 kk = 0 then sg.2.2.2.1 a 9 (d + 1) else 0)
    (hf : ∀ i, i < fBs (x a (d + 1)) → f i = sg.2.2.2.1 a 12 i) (fv : f (fBs (x a (d + 1))) = vc) (c1 : fBs (x a (d + 1)) < c) (c2 : 64 ≤ c) (c3 : c ≤ 40000) :
    ∃ (om' : oMg) (D' : Nat → Nat), rUn sB A B mi kc om' ka la ms N cn (sQ (sA' (sA' sg a 13 (Int32.ofNat (fBs (x a (d + 1))))) a 3 (Int32.ofNat (d + 1))) a z c f (fBs (x a (d + 1)) + 1)) (sPsh (rs_wA s 92 a (Int32.ofNat (d + 1))) a (fQ (x a (d + 1))) (if sB.2.1 70 (fMe (x a (d + 1))) = 0 then s.2.2 100 (10 * a + (d + 1)) else 0)) D' x := by
  obtain ⟨⟨a12, d10, u1, u2, u3, u4⟩, rq, fx, b3, r92, b8, gi, rl, ob4⟩ := it_f it
  have it0 := it
  obtain ⟨_, _, _, _, vl, rg, _, _, lk, _⟩ := it0
  obtain ⟨r0, _⟩ := rg.1 0 (Nat.zero_le _)
  rcases lk with ⟨y, _⟩ | ⟨d', hd, t, le, S0, l1, l2, l3, l4, l5⟩
  · omega
  have ed : d' = d := by omega
  subst ed
  have pl : ∀ l, (l = (pS a (fQ (x a (d' + 1)))) ∨ l = (pH (120 + a)) ∨ l = (pH (132 + a))) → (fun l => (∃ k, fQ (x a (d' + 1)) ≤ k ∧ k < 10100 ∧ l = pS a k) ∨ l = pH (120 + a) ∨ l = pH (132 + a)) l := fun l h => by
    rcases h with z | z | z
    · exact Or.inl ⟨_, Nat.le_refl _, by omega, z⟩
    · exact Or.inr (Or.inl z)
    · exact Or.inr (Or.inr z)
  rcases l5 with ⟨m1, m2, m3⟩ | ⟨m1, m2, k, cp, k8, cp5, k71, k66, et, alt⟩
  · -- a method without a result
    have n0 : ¬ sB.2.1 70 (fMe (x a (d' + 1))) = 0 := by rw [m1]; decide
    rw [if_neg (fun y => n0 y.1)] at hvc
    rw [if_neg n0]
    have et : t = 0 := by
      rcases m2 with y | ⟨k, k1, k2, _⟩
      · exact y.2
      · exact absurd (k2.symm.trans h75) (neg1 (by omega))
    obtain ⟨om', o1, o2, o3, o4, o5, o6, o7⟩ := fin_p (v := 0) (t := t) it l2 (by rw [oV_0]; exact Nat.zero_le _) (Or.inl et)
    refine ⟨om', _, J_lv (om' := om') (le := le) (t := t) it l1 l3 l4 (fun l h => o6 l (fun y => h (pl l (Or.inl y))) (fun y => h (pl l (Or.inr (Or.inl y)))) (fun y => h (pl l (Or.inr (Or.inr y))))) (rSt_P o7 pl) o1 o2 ⟨Or.inr (Or.inl ⟨Or.inl et, rfl⟩), fun y => absurd oV_0 y⟩ (by rw [← l4]; exact o3) (by rw [← l4]; exact o4) (fun y => absurd et y) (by rw [et]; rfl) (by rw [et]; decide) hf (by rw [fv, hvc, cv_0]) c1 c2 c3⟩
  · -- a maker
    have ek : kk = k := ofn_inj (by omega) (by omega) (e71.symm.trans k71)
    subst ek
    rw [if_pos ⟨m1, k66⟩] at hvc
    rw [if_pos m1]
    obtain ⟨tt, ⟨k', k8', k71', alt'⟩, t2, t3, t4, t5, t6, t7, t8⟩ := vl.2.2.1
    have ek' : k' = kk := ofn_inj (by omega) (by omega) (k71'.symm.trans e71)
    subst ek'
    have ett : tt = 8 * (k' + 1) + 2 := by
      rcases alt' with y | ⟨_, c', c5', y, y2, _⟩
      · exact absurd (k66.symm.trans y.1) (by decide)
      · rw [if_pos m1] at y
        have : 2 = c' := ofn_inj (by omega) (by omega) y
        omega
    obtain ⟨o, o1', o2', o3', o4'⟩ : ∃ o : Nat, 1 ≤ o ∧ o ≤ ka.2.2.1 ∧ om.1 (pH (10 * a + (d' + 1))) = mdV 2 (Int32.ofNat o) ∧ ka.1 o + 1 = tt / 8 := by
      rcases t2.1 with h | h | h | h | h
      · omega
      · omega
      · rcases h.2.2 with y | y
        · exact absurd y t3
        · exact y
      · omega
      · omega
    have hov : oV (om.1 (pH (10 * a + (d' + 1)))) = o := by rw [o3']; exact oV_2 (by omega)
    have val : vAl om ka a t (om.1 (pH (10 * a + (d' + 1)))) := ⟨Or.inr (Or.inr (Or.inl ⟨by omega, by omega, Or.inr ⟨o, o1', o2', o3', by omega⟩⟩)), t2.2⟩
    have ok := gi.1.1 (pH (10 * a + (d' + 1)))
    rw [tgF_eq (by rw [t4]; omega), t5, show cpF om.2.1 (pH (10 * a + (d' + 1))) = 2 from by unfold cpF; rw [t4]; omega] at ok
    have rho : om.2.2.1.2.1 (oV (om.1 (pH (10 * a + (d' + 1))))) = fRe (x a (d' + 1)) 0 := by
      rcases ok with y | y | ⟨_, y | y | y | y | y⟩
      · omega
      · exact absurd y.1 r0
      · omega
      · exact y.2
      · omega
      · omega
      · omega
    have pk : ∃ om' : oMg, GI ka.2.2.1 N om'.1 om'.2.1 om'.2.2.1 ∧ om'.2.2.2 = om.2.2.2 ∧ om'.1 (pS a (fQ (x a (d' + 1)))) = om.1 (pH (10 * a + (d' + 1))) ∧ om'.2.1 (pS a (fQ (x a (d' + 1)))) = t ∧ (t ≠ 0 → om'.2.2.1.1 (pS a (fQ (x a (d' + 1)))) = fRe (x a d') le) ∧ (∀ l, l ≠ (pS a (fQ (x a (d' + 1)))) → l ≠ (pH (120 + a)) → l ≠ (pH (132 + a)) → om'.1 l = om.1 l ∧ om'.2.1 l = om.2.1 l) ∧ rSt a a (eSu om N a (d' + 1) (x a)) (fun l => l = (pS a (fQ (x a (d' + 1)))) ∨ l = (pH (120 + a)) ∨ l = (pH (132 + a))) om.2.2.1 om'.2.2.1 := by
      rcases alt with ⟨y1, y2⟩ | ⟨y1, y2, y3⟩
      · refine fin_p it l2 (by omega) (Or.inr (Or.inr ⟨by omega, ?_⟩))
        rw [← y2]
        have ec : t % 8 = cp := by omega
        rw [ec]
        refine Or.inr (Or.inr ⟨r0, ?_⟩)
        rcases y1 with w | w
        · exact Or.inr (Or.inl ⟨w, rho⟩)
        · exact Or.inr (Or.inr (Or.inl ⟨w, Or.inr (by rw [rho]; exact rg_Tr_refl)⟩))
      · exact fin_m (cp := cp) it l2 ett et cp5 (by omega) ok y1 y3
    obtain ⟨om', o1, o2, o3, o4, o5, o6, o7⟩ := pk
    rw [t7]
    refine ⟨om', _, J_lv (om' := om') (le := le) (t := t) it l1 l3 l4 (fun l h => o6 l (fun y => h (pl l (Or.inl y))) (fun y => h (pl l (Or.inr (Or.inl y)))) (fun y => h (pl l (Or.inr (Or.inr y))))) (rSt_P o7 pl) o1 o2 ⟨val.1, fun y => by rw [o2]; exact val.2 y⟩ (by rw [← l4]; exact o3) (by rw [← l4]; exact o4) (fun y => by rw [← l4]; exact o5 y) (gTy_c.mpr (Or.inr ⟨by omega, by omega, by omega⟩)) (by omega) hf (by rw [fv, hvc, t6]) c1 c2 c3⟩
theorem J_31 (cb : CB hB Z P A B sz es) (rh : RH (.ref P) n sg Z hB h) (hn : ka.2.2.2 ≤ n) (it : iTm sB A B mi kc om ka la ms N cn sg s D x a d) (n7 : sg.2.2.2.1 a 7 d = Int32.ofNat (p + 1)) (q4 : q < 4400) (hw : 10000 ≤ w) {kk : Nat} (eK : sB.2.1 44 q = Int32.ofNat 31) (eS : fSt (x a d) = []) (h54 : sB.2.1 54 q = Int32.ofNat (fMe (x a d))) (h75 : sB.2.1 75 (fMe (x a d)) = -1) (hA : A p = 19) (kk8 : kk < 8) (e71 : sB.2.1 71 (fMe (x a d)) = Int32.ofNat kk) (hB' : B p = if sB.2.1 70 (fMe (x a d)) = 0 ∧ sB.2.1 66 kk = 0 then 1 else 0) : jEx sB A B mi kc L xs zf w P Z hB k k2 n cn a d p q sg h s := by
  obtain ⟨⟨a12, d10, u1, u2, u3, u4⟩, rq, fx, b3, r92, b8, gi, rl, ob4⟩ := it_f it
  have it0 := it
  obtain ⟨wl, _, _, ⟨_, ac, _⟩, vl, rg, nm, _, _, so, r93, _⟩ := it0
  rw [eS] at so r93
  have so1 : SOK sg a (fBs (x a d) + (mi (fMe (x a d))).2.2.2.2) := so
  have r93' : s.2.1 93 a = Int32.ofNat (fQ (x a d)) := r93
  obtain ⟨vc, hvc, hv⟩ : ∃ vc : Int32, (vc = if sB.2.1 70 (fMe (x a d)) = 0 ∧ sB.2.1 66 kk = 0 then sg.2.2.2.1 a 9 d else 0) ∧ ((B p ≠ 1 ∧ vc = 0) ∨ (B p = 1 ∧ (dcV L xs (dM L xs zf w (k + 11)) 252 [14] (some (sg.2.2.2.2 a 0)) [] h).bind dxI = some (vc, h))) := by
    by_cases c0 : sB.2.1 70 (fMe (x a d)) = 0 ∧ sB.2.1 66 kk = 0
    · rw [if_pos c0] at hB'
      refine ⟨_, rfl, Or.inr ⟨hB', ?_⟩⟩
      rw [if_pos c0, cV_a rh (by omega : a < n), k_self (k := k + 8) rh (by omega) b3 (by omega)]
      rfl
    · rw [if_neg c0] at hB'
      exact ⟨_, rfl, Or.inl ⟨by rw [hB']; decide, if_neg c0⟩⟩
  obtain ⟨h', sg', m1, m2, m3, m4⟩ := k_leave (L := L) (xs := xs) (zf := zf) (w := w) (k := k + 7) (v := vc) (bs := fBs (x a d)) rh (by omega) b3 (by omega) b8 (by have := so1.2.1; omega) so1.2.2.1 so1.2.2.2
  have hm : (dcV L xs (dM L xs zf w (k + 11)) 259 [14] (some (sg.2.2.2.2 a 0)) [.int vc] h).bind dxV = some h' := by
    rw [cV_a rh (by omega : a < n), m1]
    rfl
  have hd := x_19 (k := k + 10) cb rh (by omega) hA hv hm
  have hr := act_31 (k := k2 + 7) (t := fQ (x a d)) (m := (fMe (x a d))) rq a12 d10 q4 eK (by omega : 6000 ≤ w) r93' (by omega) r92 (by rw [fx.1 54 (by decide)]; exact h54) nm.2.2.2.1
  rw [fx.1 70 (by decide)] at hr
  rcases m4 with ⟨d0, esg⟩ | ⟨d1, z, c, f, esg, f1, f2, f3, f4⟩
  · subst d0
    rw [if_pos rfl] at hr
    have q0 : fQ (x a 0) = 0 := by
      obtain ⟨_, _, _, _, _, _, _, _, lk, _⟩ := it
      rcases lk with ⟨_, _, y, _⟩ | ⟨d', y, _⟩
      · exact y
      · omega
    have ru := J_l0 (t0 := Int32.ofNat (fBs (x a 0))) it (by rw [r93', q0]; rfl)
    rw [← esg] at ru
    exact jEx_s hd hr m2 hn ac ru (by rw [esg]; rfl) m3
  · obtain ⟨d', ed⟩ : ∃ d', d = d' + 1 := ⟨d - 1, by omega⟩
    subst ed
    rw [if_neg (by omega)] at hr
    obtain ⟨om', D', ru⟩ := fin_2 (z := z) (c := c) (f := f) it h75 e71 kk8 hvc f1 f2 f3 (by
      have := so1.2.2.1
      omega) (by
      have := so1.2.2.2
      omega)
    rw [← esg] at ru
    exact jEx_s hd hr m2 hn ac ru (by
      rw [esg, sQ_P (Or.inl (by decide))]
      rfl) m3
end JFO
