/-! A BODY GIVES A RESULT: by both. -/
section JRU
variable {sB : rS} {A B : Nat → Int32} {mi : Nat → Nat × Nat × Nat × Nat × Nat} {kc : kCi} {om om' : oMg} {ka ka' : kAp} {la : lAy} {ms : mSg} {N N' cn : Nat} {sg sg' sg2 : cS} {s s' s2 S1 : rS} {a b d e lo q0 J l t r i n p q k k2 f0 w P L sz lv : Nat} {xs : Nat → Int32} {zf : Value} {Z : Nat → Prop} {hB h h' : rm_H} {es : List Nat} {x : Nat → Nat → fDs} {D : Nat → Nat} {S S0 X : List stE} {v : Int64} {y : Int32}
variable {x1 : Nat → Nat → fDs}
theorem pl_l {l0 : Nat} (hl : l0 = pS a (fQ (x1 a (d + 1)))) (h10 : fQ (x1 a (d + 1)) < 10100) : ∀ l, (l = l0 ∨ l = pH (120 + a)) → (fun l => (∃ k, fQ (x1 a (d + 1)) ≤ k ∧ k < 10100 ∧ l = pS a k) ∨ l = pH (120 + a) ∨ l = pH (132 + a)) l := fun l h => by
  rcases h with z | z
  · exact Or.inl ⟨_, Nat.le_refl _, h10, z.trans hl⟩
  · exact Or.inr (Or.inl z)
/-- the value on top is given: the caller goes on -/
theorem res_2 {tv tr z c : Nat} {f : Nat → Int32} (it : iTm sB A B mi kc om ka la ms N cn sg s D x1 a (d + 1)) (ty : tyc sB (sB.2.1 75 (fMe (x1 a (d + 1)))) tr) (hT : om.2.1 (pS a (fQ (x1 a (d + 1)))) = tv) (hr : om.2.2.1.1 (pS a (fQ (x1 a (d + 1)))) = fRe (x1 a (d + 1)) 0) (gv : gTy tv = true) (fit : fitC (cT tv) (cT tr) = 0) (val : vAl om ka a tv (om.1 (pS a (fQ (x1 a (d + 1))))))
    (hf : ∀ i, i < fBs (x1 a (d + 1)) → f i = sg.2.2.2.1 a 12 i) (fv : f (fBs (x1 a (d + 1))) = cvl (om.1 (pS a (fQ (x1 a (d + 1)))))) (c1 : fBs (x1 a (d + 1)) < c) (c2 : 64 ≤ c) (c3 : c ≤ 40000) :
    ∃ (om' : oMg) (D' : Nat → Nat), rUn sB A B mi kc om' ka la ms N cn (sQ (sA' (sA' sg a 13 (Int32.ofNat (fBs (x1 a (d + 1))))) a 3 (Int32.ofNat (d + 1))) a z c f (fBs (x1 a (d + 1)) + 1)) (sPsh (rs_wA s 92 a (Int32.ofNat (d + 1))) a (fQ (x1 a (d + 1))) (om.1 (pS a (fQ (x1 a (d + 1)))))) D' x1 := by
  obtain ⟨⟨a12, d10, u1, u2, u3, u4⟩, _⟩ := it_f it
  have it0 := it
  obtain ⟨_, _, _, _, _, _, _, _, lk, _⟩ := it0
  have dr : dTy tr = true := by obtain ⟨_, _, _, _, y⟩ := ty; exact y
  have nr : sB.2.1 75 (fMe (x1 a (d + 1))) ≠ -1 := by
    obtain ⟨k, k1, k2, _⟩ := ty
    rw [k2]
    intro y
    have y2 := congrArg Int32.toInt y
    rw [of_int (by omega)] at y2
    have : (-1 : Int32).toInt = -1 := by decide
    omega
  have tt : ∀ t', rsT sB (fMe (x1 a (d + 1))) t' → t' = tr := fun t' h => by
    rcases h with y | y
    · exact absurd y.1 nr
    · exact tyc_u y ty
  rcases lk with ⟨y, _⟩ | ⟨d', hd, t, le, S0, l1, l2, l3, l4, l5⟩
  · omega
  have ed : d' = d := by omega
  subst ed
  obtain ⟨m1, m2, m3⟩ : sB.2.1 70 (fMe (x1 a (d' + 1))) = 1 ∧ rsT sB (fMe (x1 a (d' + 1))) t ∧ (fRe (x1 a (d' + 1)) 0 = fRe (x1 a d') le ∨ hmT sB (fMe (x1 a (d' + 1)))) := by
    rcases l5 with y | ⟨_, y, _⟩
    · exact y
    · exact absurd y nr
  have et := tt t m2
  subst et
  obtain ⟨om', o1, o2, o3, o4, o5, o6, o7⟩ := res_1 it l2 hT hr gv dr fit val (by
    rcases m3 with y | ⟨ts, t', _, _, y1, y2⟩
    · exact Or.inl y
    · right
      have := tt t' y1
      rw [this] at y2
      rcases y2 with y2 | y2
      · have := dTy_c dr; omega
      · exact y2)
  have dc := dTy_c dr
  have v2 := fit_v gv dr fit val.1
  refine ⟨om', _, J_lv (om' := om') (le := le) (t := t) it l1 l3 l4 (fun l h => o6 l (fun y => h (pl_l rfl (by omega) l (Or.inl y))) (fun y => h (pl_l rfl (by omega) l (Or.inr y)))) (rSt_P o7 (fun l h => pl_l rfl (by omega) l h)) o1 o2 ⟨v2, fun y => by rw [o2]; exact val.2 y⟩ (by rw [← l4]; exact o3) (by rw [← l4]; exact o4) (fun _ => by rw [← l4]; exact o5) (dTy_g dr) (by omega) hf fv c1 c2 c3⟩
theorem J_24 (cb : CB hB Z P A B sz es) (rh : RH (.ref P) n sg Z hB h) (hn : ka.2.2.2 ≤ n) (it : iTm sB A B mi kc om ka la ms N cn sg s D x a d) (n7 : sg.2.2.2.1 a 7 d = Int32.ofNat (p + 1)) (q4 : q < 4400) (hw : 10000 ≤ w) {tv tr : Nat} (eK : sB.2.1 44 q = Int32.ofNat 24) (eS : fSt (x a d) = [(tv, false, 0)]) (ty : tyc sB (sB.2.1 75 (fMe (x a d))) tr) (fit : fitC (cT tv) (cT tr) = 0) (hA : A p = 15) : jEx sB A B mi kc L xs zf w P Z hB k k2 n cn a d p q sg h s := by
  obtain ⟨⟨a12, d10, u1, u2, u3, u4⟩, rq, fx, b3, r92, b8, gi, rl, ob4⟩ := it_f it
  have it0 := it
  obtain ⟨wl, _, _, ⟨_, ac, _⟩, vl, rg, nm, _, _, so, r93, _⟩ := it0
  have top := vl.2.2.2
  rw [eS] at top so r93
  obtain ⟨⟨p1, p2, p3, p4, p5, p6⟩, _⟩ := top
  have dr : dTy tr = true := by obtain ⟨_, _, _, _, y⟩ := ty; exact y
  have fc := fit_c p5 dr fit
  have p1 : vAl om ka a tv (om.1 (pS a (fQ (x a d)))) := p1
  have p2 : sg.2.2.2.1 a 12 (fBs (x a d) + (mi (fMe (x a d))).2.2.2.2) = cvl (om.1 (pS a (fQ (x a d)))) := p2
  have p3 : s.2.2 97 (10100 * a + fQ (x a d)) = om.1 (pS a (fQ (x a d))) := p3
  have so1 : SOK sg a (fBs (x a d) + (mi (fMe (x a d))).2.2.2.2 + 1) := so
  have r93' : s.2.1 93 a = Int32.ofNat (fQ (x a d) + 1) := r93
  have p4' : om.2.1 (pS a (fQ (x a d))) = tv ∧ om.2.2.1.1 (pS a (fQ (x a d))) = fRe (x a d) 0 := by
    rcases p4 with y | y
    · exact ⟨y.1, y.2 (show tv ≠ 0 by omega)⟩
    · exact absurd (show false = true from y.1) (by decide)
  have it1 : iTm sB A B mi kc om ka la ms N cn (sPo sg a (fBs (x a d) + (mi (fMe (x a d))).2.2.2.2)) (rs_wA s 93 a (Int32.ofNat (fQ (x a d)))) D (xU x a d (fMe (x a d), fL (x a d), fG (x a d), fGn (x a d), [], fRe (x a d), fBs (x a d), fQ (x a d))) a d := it_pop (X := [(tv, false, 0)]) (S0 := []) it eS (fun _ h => absurd h (List.not_mem_nil))
  generalize hx : (xU x a d (fMe (x a d), fL (x a d), fG (x a d), fGn (x a d), [], fRe (x a d), fBs (x a d), fQ (x a d))) = x1 at it1
  have e1 : x1 a d = (fMe (x a d), fL (x a d), fG (x a d), fGn (x a d), [], fRe (x a d), fBs (x a d), fQ (x a d)) := by rw [← hx, xU_eq]
  have eQ : fQ (x1 a d) = fQ (x a d) := by rw [e1]
  have eB : fBs (x1 a d) = fBs (x a d) := by rw [e1]
  have eM : fMe (x1 a d) = fMe (x a d) := by rw [e1]
  have eR : fRe (x1 a d) 0 = fRe (x a d) 0 := by rw [e1]
  obtain ⟨h1, k1, k2', k3, k4⟩ := k_pop0 (L := L) (xs := xs) (zf := zf) (w := w) (k := k + 10) rh (by omega) so1
  have b3' : (sPo sg a (fBs (x a d) + (mi (fMe (x a d))).2.2.2.2)).2.2.1 a 3 = Int32.ofNat (d + 1) := by rw [sQ_A (Or.inl (by decide))]; exact b3
  have c13 : (sPo sg a (fBs (x a d) + (mi (fMe (x a d))).2.2.2.2)).2.2.2.2 a 13 = sg.2.2.2.2 a 13 := sQ_c
  obtain ⟨h', sg', m1, m2, m3, m4⟩ := k_leave (L := L) (xs := xs) (zf := zf) (w := w) (k := k + 7) (v := sg.2.2.2.1 a 12 (fBs (x a d) + (mi (fMe (x a d))).2.2.2.2)) (bs := fBs (x a d)) k2' (by omega) b3' (by omega) (by rw [sQ_R (Or.inl (by decide))]; exact b8) (by rw [c13]; have := so1.2.1; omega) (by rw [c13]; exact so1.2.2.1) (by rw [c13]; exact so1.2.2.2)
  rw [sPo_0] at m1
  have hm : (dcV L xs (dM L xs zf w (k + 11)) 259 [14] (some (sg.2.2.2.2 a 0)) [.int (sg.2.2.2.1 a 12 (fBs (x a d) + (mi (fMe (x a d))).2.2.2.2))] h1).bind dxV = some h' := by
    have hcv := cV_a (L := L) (xs := xs) (D := dM L xs zf w (k + 11)) (mi := 259) (As := [.int (sg.2.2.2.1 a 12 (fBs (x a d) + (mi (fMe (x a d))).2.2.2.2))]) k2' (by omega : a < n)
    rw [sPo_0] at hcv
    rw [hcv, m1]
    rfl
  have hd := x_15 (k := k + 10) cb rh (by omega) hA k1 hm
  have hr := act_24 (k := k2 + 7) (t := fQ (x a d)) rq a12 d10 q4 eK (by omega : 6000 ≤ w) r93' (by omega) r92
  have cst : CST n sg h sg' h' := CST_t (CST_0 sPo_13 k3 k4) m3
  rw [p2] at m4
  rw [p3] at hr
  rcases m4 with ⟨d0, esg⟩ | ⟨d1, z, c, f, esg, f1, f2, f3, f4⟩
  · -- the last body
    subst d0
    rw [if_pos rfl] at hr
    have q0 : fQ (x a 0) = 0 := by
      obtain ⟨_, _, _, _, _, _, _, _, lk, _⟩ := it
      rcases lk with ⟨_, _, y, _⟩ | ⟨d', y, _⟩
      · exact y
      · omega
    have ru := J_l0 (t0 := Int32.ofNat (fBs (x a 0))) it1 (by rw [wA_get, if_pos ⟨rfl, rfl⟩, q0]; rfl)
    rw [← esg] at ru
    exact jEx_s hd hr m2 hn ac ru (by rw [esg]; exact sPo_0 (ht := fBs (x a 0) + (mi (fMe (x a 0))).2.2.2.2)) cst
  · obtain ⟨d', ed⟩ : ∃ d', d = d' + 1 := ⟨d - 1, by omega⟩
    subst ed
    rw [if_neg (by omega)] at hr
    have res := res_2 (z := z) (c := c) (f := f) (tv := tv) (tr := tr) it1 (by rw [eM]; exact ty) (by rw [eQ]; exact p4'.1) (by rw [eQ, eR]; exact p4'.2) p5 fit (by rw [eQ]; exact p1) (by rw [eB]; exact f1) (by rw [eB, eQ]; exact f2) (by rw [eB]; exact f3) (by
      have := so1.2.2.1
      rw [c13] at f4
      omega) (by
      have := so1.2.2.2
      rw [c13] at f4
      omega)
    rw [eB, eQ] at res
    obtain ⟨om', D', ru⟩ := res
    rw [← esg] at ru
    exact jEx_s hd hr m2 hn ac ru (by
      rw [esg, sQ_P (Or.inl (by decide))]
      exact sPo_0 (ht := fBs (x a (d' + 1)) + (mi (fMe (x a (d' + 1)))).2.2.2.2)) cst
end JRU
