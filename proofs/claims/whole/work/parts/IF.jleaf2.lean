/-! BOTH DO AN INSTRUCTION: none, this, a name, has, operators. -/
section JL2
variable {sB : rS} {A B : Nat → Int32} {mi : Nat → Nat × Nat × Nat × Nat × Nat} {kc : kCi} {om om' : oMg} {ka ka' : kAp} {la : lAy} {ms : mSg} {N N' cn : Nat} {sg sg' sg2 : cS} {s s' s2 S1 : rS} {a b d e lo q0 J l t r i n p q k k2 f0 w P L sz lv : Nat} {xs : Nat → Int32} {zf : Value} {Z : Nat → Prop} {hB h h' : rm_H} {es : List Nat} {x : Nat → Nat → fDs} {D : Nat → Nat} {S S0 X : List stE} {v : Int64} {y : Int32}
/-- none -/
theorem J_2 (cb : CB hB Z P A B sz es) (rh : RH (.ref P) n sg Z hB h) (hn : ka.2.2.2 ≤ n) (it : iTm sB A B mi kc om ka la ms N cn sg s D x a d) (n7 : sg.2.2.2.1 a 7 d = Int32.ofNat (p + 1)) (q4 : q < 4400) (hw : 10000 ≤ w) (eK : sB.2.1 44 q = Int32.ofNat 2) (hA : A p = 0) (hB' : B p = 0) (ec : EC sB A B (fMe (x a d)) (mi (fMe (x a d))).1 (mi (fMe (x a d))).2.1 (mi (fMe (x a d))).2.2.1 q (p + 1) (fL (x a d)) (fG (x a d)) (fGn (x a d)) 2 (fSt (x a d))) : jEx sB A B mi kc L xs zf w P Z hB k k2 n cn a d p q sg h s := by
  obtain ⟨⟨a12, d10, u1, u2, u3, u4⟩, rq, fx, b3, r92, b8, gi, rl, ob4⟩ := it_f it
  have it0 := it
  obtain ⟨wl, _, _, ⟨_, ac, _⟩, vl, rg, nm, _, _, so, r93, _⟩ := it0
  have len := ec_len it q4 ec
  obtain ⟨h', z, c, f, e1, e2, e3, e4, e5⟩ := x_0 (L := L) (xs := xs) (zf := zf) (w := w) (k := k + 7) cb rh (by omega) hA so
  obtain ⟨q', bh, om', N', x', ru⟩ := J_psh (v := 0) (S1 := s) (X := []) it rfl gl_r q4 ec (by decide) (fun h _ => absurd h (by decide)) ⟨Or.inr (Or.inl ⟨Or.inr rfl, rfl⟩), fun z => absurd oV_0 z⟩ (fun z => absurd oV_0 z) e3 (by rw [e4, hB', cv_0]) n7 (Or.inl rfl)
  exact jEx_p e1 (act_2 (k := k2 + 8) rq a12 d10 q4 eK bh (by decide) (by omega) r93 (by omega)) e2 hn ac ru e5
theorem of8_inj {k1 k3 : Nat} (h1 : k1 < 8) (h3 : k3 < 8) (e : Int32.ofNat k1 = Int32.ofNat k3) : k1 = k3 := by
  have : ∀ k1, k1 < 8 → ∀ k3, k3 < 8 → Int32.ofNat k1 = Int32.ofNat k3 → k1 = k3 := by decide
  exact this k1 h1 k3 h3 e
/-- this, at any level -/
theorem thT_lv {m t tt lv : Nat} (h0 : thT sB m 0 tt) (h : thT sB m lv t) : (tt % 8 = 6 ∧ 8 ≤ tt ∧ (t = tt ∧ lv = 0 ∨ t = tt - 1 ∧ lv ≠ 0)) ∨ (isO tt = true ∧ t = tt ∧ (lv ≠ 0 → tt % 8 = 3)) := by
  obtain ⟨k1, c1, c2, c3⟩ := h0
  obtain ⟨k3, g1, g2, g3⟩ := h
  have ek : k1 = k3 := of8_inj c1 g1 (c2.symm.trans g2)
  subst ek
  rcases c3 with ⟨z1, z2⟩ | ⟨z1, cc, y1, y2, y3, y4⟩
  · rcases g3 with ⟨w1, w2⟩ | ⟨w1, _⟩
    · left
      rw [if_pos rfl] at z2
      refine ⟨by omega, by omega, ?_⟩
      by_cases l0 : lv = 0
      · rw [if_pos l0] at w2; exact Or.inl ⟨by omega, l0⟩
      · rw [if_neg l0] at w2; exact Or.inr ⟨by omega, l0⟩
    · rw [z1] at w1; exact absurd w1 (by decide)
  · rcases g3 with ⟨w1, _⟩ | ⟨_, c', w1, w2, w3, w4⟩
    · rw [z1] at w1; exact absurd w1 (by decide)
    · have ec : cc = c' := of8_inj (by omega) (by omega) (y2.symm.trans w2)
      subst ec
      right
      exact ⟨isO_n (by omega), by omega, fun z => by have := w4 z; omega⟩
/-- this -/
theorem J_3 (cb : CB hB Z P A B sz es) (rh : RH (.ref P) n sg Z hB h) (hn : ka.2.2.2 ≤ n) (it : iTm sB A B mi kc om ka la ms N cn sg s D x a d) (n7 : sg.2.2.2.1 a 7 d = Int32.ofNat (p + 1)) (q4 : q < 4400) (hw : 10000 ≤ w) (eK : sB.2.1 44 q = Int32.ofNat 3) (th : thT sB (fMe (x a d)) (fL (x a d)) t) (hA : A p = 1) (ec : EC sB A B (fMe (x a d)) (mi (fMe (x a d))).1 (mi (fMe (x a d))).2.1 (mi (fMe (x a d))).2.2.1 q (p + 1) (fL (x a d)) (fG (x a d)) (fGn (x a d)) t (fSt (x a d))) : jEx sB A B mi kc L xs zf w P Z hB k k2 n cn a d p q sg h s := by
  obtain ⟨⟨a12, d10, u1, u2, u3, u4⟩, rq, fx, b3, r92, b8, gi, rl, ob4⟩ := it_f it
  have it0 := it
  obtain ⟨wl, _, _, ⟨_, ac, _⟩, vl, rg, nm, _, _, so, r93, _⟩ := it0
  have len := ec_len it q4 ec
  obtain ⟨h', z, c, f, e1, e2, e3, e4, e5⟩ := x_1 (L := L) (xs := xs) (zf := zf) (w := w) (k := k + 7) cb rh (by omega) hA so b3 (by omega)
  obtain ⟨tt, t1, t2, t3, t4, t5, t6, t7, t8⟩ := vl.2.2.1
  have pl : isPl (sB.2.1 44 q) = true := by rw [eK]; rfl
  have lof : lOf a (pH (10 * a + d)) := by
    right; right; right
    unfold pH
    omega
  have cases := thT_lv t1 th
  have val : vAl om ka a t (om.1 (pH (10 * a + d))) := by
    rcases cases with ⟨z1, z2, ⟨z3, _⟩ | ⟨z3, _⟩⟩ | ⟨z1, z2, _⟩
    · rw [z3]; exact t2
    · refine ⟨?_, t2.2⟩
      rcases t2.1 with h | h | h | h | h
      · omega
      · omega
      · omega
      · omega
      · refine Or.inr (Or.inr (Or.inr (Or.inl ⟨by omega, by omega, Or.inr ⟨a, h.2.2.2.1, h.2.2.1, ?_⟩⟩)))
        have := h.2.2.2.2
        omega
    · rw [z2]; exact t2
  have rgt : oV (om.1 (pH (10 * a + d))) ≠ 0 → (2 ≤ t % 8 → rg_ok om.2.2.1.2.1 om.2.2.1.2.2.1 om.2.2.1.2.2.2.1 (fRe (x a d) (fL (x a d))) (t % 8) (oV (om.1 (pH (10 * a + d))))) ∧ (t % 8 ≤ 1 → isPl (sB.2.1 44 q) = true ∧ sEe om a t (fRe (x a d) (fL (x a d))) (oV (om.1 (pH (10 * a + d))))) := by
    intro o0
    have ot := (vTy_o t2.1 o0).1
    have tc := isO_c ot
    rcases cases with ⟨z1, _⟩ | ⟨z1, z2, z3⟩
    · omega
    · subst z2
      by_cases l0 : fL (x a d) = 0
      · have := see_pl gi lof o0 t4 ot t5 (rg.1 0 (Nat.zero_le _)).1
        rw [l0]
        exact ⟨this.1, fun z => ⟨pl, this.2 z⟩⟩
      · have h3 := z3 l0
        exact ⟨fun _ => ok_3 gi t4 ot h3 rl.1, fun z => by omega⟩
  have gt : gTy t = true := by
    rw [gTy_c]
    obtain ⟨k1, c1, _, c3⟩ := th
    right
    rcases c3 with ⟨_, z⟩ | ⟨_, cc, z1, _, z2, _⟩
    · by_cases l0 : fL (x a d) = 0
      · rw [if_pos l0] at z; omega
      · rw [if_neg l0] at z; omega
    · omega
  have own : 8 ≤ t → t % 8 = 6 → isPl (sB.2.1 44 q) = true ∧ fRe (x a d) (fL (x a d)) = om.2.2.2.2 a := by
    intro h1 h2
    rcases cases with ⟨z1, z2, ⟨z3, l0⟩ | ⟨z3, _⟩⟩ | ⟨z1, z2, _⟩
    · rw [l0]; exact ⟨pl, t8 z1⟩
    · omega
    · have := isO_c z1
      omega
  obtain ⟨q', bh, om', N', x', ru⟩ := J_psh (v := om.1 (pH (10 * a + d))) (S1 := s) (X := []) it rfl gl_r q4 ec gt own val rgt e3 (by rw [e4]; exact t6) n7 (Or.inl rfl)
  have hr := act_3 (k := k2 + 8) rq a12 d10 q4 eK bh (by decide) (by omega : 6000 ≤ w) r93 (by omega)
  rw [t7] at hr
  exact jEx_p e1 hr e2 hn ac ru e5
theorem dTy_c {t : Nat} (h : dTy t = true) : t = 1 ∨ (8 ≤ t ∧ t < 72 ∧ t % 8 ≤ 5) := by
  unfold dTy at h
  simp at h
  omega
/-- a name -/
theorem J_4 (cb : CB hB Z P A B sz es) (rh : RH (.ref P) n sg Z hB h) (hn : ka.2.2.2 ≤ n) (it : iTm sB A B mi kc om ka la ms N cn sg s D x a d) (n7 : sg.2.2.2.1 a 7 d = Int32.ofNat (p + 1)) (q4 : q < 4400) (hw : 10000 ≤ w) (eK : sB.2.1 44 q = Int32.ofNat 4) {y : scN} (hG : (fG (x a d))[i]? = some y) (h53 : sB.2.1 53 q = Int32.ofNat y.2.1) (gy : fGn (x a d) &&& bt y.2.1 = 0) (hl : y.2.2.2 < fL (x a d) → isO y.2.2.1 = true → y.2.2.1 % 8 = 3) (hA : A p = 2) (hB' : B p = sB.2.1 53 q) (ec : EC sB A B (fMe (x a d)) (mi (fMe (x a d))).1 (mi (fMe (x a d))).2.1 (mi (fMe (x a d))).2.2.1 q (p + 1) (fL (x a d)) (fG (x a d)) (fGn (x a d)) y.2.2.1 (fSt (x a d))) : jEx sB A B mi kc L xs zf w P Z hB k k2 n cn a d p q sg h s := by
  obtain ⟨⟨a12, d10, u1, u2, u3, u4⟩, rq, fx, b3, r92, b8, gi, rl, ob4⟩ := it_f it
  have it0 := it
  obtain ⟨wl, _, _, ⟨_, ac, _⟩, vl, rg, nm, _, _, so, r93, _⟩ := it0
  have len := ec_len it q4 ec
  have hy : y ∈ fG (x a d) := List.mem_of_getElem? hG
  obtain ⟨w1, w2, w3, w4, w5⟩ := vl.2.1 y hy gy
  have s16 := (nm.1.1 y hy).1
  have lv := nm.1.2 y hy
  obtain ⟨sl, ty0⟩ := nm.2.2.1 y hy
  obtain ⟨h', z, c, f, e1, e2, e3, e4, e5⟩ := x_2 (L := L) (xs := xs) (zf := zf) (w := w) (k := k + 7) cb rh (by omega) hA so b3 (by omega) b8 (hB'.trans h53) (by have := so.2.1; omega)
  have pl : isPl (sB.2.1 44 q) = true := by rw [eK]; rfl
  have lof : lOf a (pN (10 * a + d) y.2.1) := by
    right; right; left
    unfold pN
    omega
  have rgt : oV (om.1 (pN (10 * a + d) y.2.1)) ≠ 0 → (2 ≤ y.2.2.1 % 8 → rg_ok om.2.2.1.2.1 om.2.2.1.2.2.1 om.2.2.1.2.2.2.1 (fRe (x a d) (fL (x a d))) (y.2.2.1 % 8) (oV (om.1 (pN (10 * a + d) y.2.1)))) ∧ (y.2.2.1 % 8 ≤ 1 → isPl (sB.2.1 44 q) = true ∧ sEe om a y.2.2.1 (fRe (x a d) (fL (x a d))) (oV (om.1 (pN (10 * a + d) y.2.1)))) := by
    intro o0
    have ot := (vTy_o w1.1 o0).1
    by_cases l0 : y.2.2.2 = fL (x a d)
    · rw [l0] at w3
      have := see_pl gi lof o0 w2 ot w3 rl.1
      exact ⟨this.1, fun z => ⟨pl, this.2 z⟩⟩
    · have h3 := hl (by omega) ot
      exact ⟨fun _ => ok_3 gi w2 ot h3 rl.1, fun z => by omega⟩
  obtain ⟨q', bh, om', N', x', ru⟩ := J_psh (v := om.1 (pN (10 * a + d) y.2.1)) (S1 := s) (X := []) it rfl gl_r q4 ec (dTy_g ty0) (fun h1 h2 => by
    have := dTy_c ty0
    omega) w1 rgt e3 (by rw [e4]; exact w4) n7 (Or.inl rfl)
  have hr := act_4 (k := k2 + 8) rq a12 d10 q4 eK bh (by decide) (by omega : 6000 ≤ w) r93 (by omega) (by rw [fx.1 53 (by decide)]; exact h53) s16
  rw [w5] at hr
  exact jEx_p e1 hr e2 hn ac ru e5
end JL2
