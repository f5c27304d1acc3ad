/-! VAR: what the class does of a declaration. -/
/-- behind the declaration -/
def vaR (L : Nat) (xs : Nat → Int32) (D : dD) (o0 o1 : Option Nat) (i2 : Int32) (o3 : Option Nat) (h : rm_H) : Option dR :=
  ((dcV L xs D 109 [8] o0 [.int 14] h).bind dxV).bind fun h23 =>
  ((dcV L xs D 123 [8] o0 [va_rf o1, .int (i2 + 1)] h23).bind dxR).bind fun p27 =>
  (dpF p27.2 8 [12] o3 (va_rf p27.1)).bind fun h31 =>
  ((dcV L xs D 109 [8] o0 [.int 9] h31).bind dxV).bind fun h33 =>
  some (some (va_rf o3), h33)
/-- the class's cell -/
abbrev vaN (pl : Int32) (d : Nat) : List Value := [.int 15, .int pl, .ref 9, .int pl, .int 0, .ref d, .null, .null, .null, .null, .null, .null, .int 0]
/-- what the class has of a var's declaration -/
def vcO (L : Nat) (xs : Nat → Int32) (cx : Nat → Nat) (F : Nat → Nat → Int32) (N : Nat → Int64) (h : rm_H) (i d l : Nat) (v : Nat → Int32) : Prop :=
  (l < 16 ∧ ctk cx F i = 2 ∧ ctk cx F (i + 1) = 11 ∧ i + 2 ≤ cx 16 ∧ ∃ nm, nS L xs h nm (N i) ∧ tcO L xs cx F N h (i + 2) d nm (cpl cx F i) 0 0 (Int32.ofNat l) v)
  ∨ (l < 16 ∧ ctk cx F i = 2 ∧ ¬ ctk cx F (i + 1) = 11 ∧ i + 1 ≤ cx 16 ∧ rfd v (cpl cx F (i + 1)))
  ∨ ((¬ ctk cx F i = 2 ∨ 16 ≤ l) ∧ rfd v (cpl cx F i))
section VR
variable {L : Nat} {xs : Nat → Int32} {zf : Value} {w k i : Nat} {cx : Nat → Nat} {F : Nat → Nat → Int32} {N : Nat → Int64} {q : List Value} {h0 h h1 h2 h5 h9 : rm_H} {g : Nat → Nat} {ts : List Nat} {pt vr x i1 pl : Int32} {v v0 : Nat → Int32} {P d : Nat}
theorem CH_m (c : CH cx q h g ts pt vr) (hm : cx 14 ≠ 0) (w : st1 (cx 14) h h1) (e : hc h1 (cx 14) = some (.inr (11, q.set 10 (.int (Int32.ofNat (g 3 + 1)))))) : CH cx q h1 (gu g 3 (g 3 + 1)) ts pt vr := by
  obtain ⟨c1, c2, c3, c4, c5⟩ := c
  rcases c5 with c5 | ⟨c5, c6⟩
  · exact absurd c5 hm
  refine ⟨st1_old w c1 (fun z => by rw [z, c6] at c1; cases c1), aL_fr w.1 (fun z => ?_) (fun h5 z => ?_) c2, fun x hx => oK_fr w.1 (c3 x hx), uA_st c6 (by decide) w c4, Or.inr ⟨c5, e⟩⟩
  · obtain ⟨mc, e1, _⟩ := c2
    rw [z, c6] at e1; cases e1
  · obtain ⟨mc, e1, _, _, e3⟩ := c2
    rcases e3 with ⟨y, _⟩ | ⟨f, y, _⟩
    · exact h5 y
    · rw [show g 1 = cx 14 from z, c6] at y; cases y
theorem c_v40 {fsd : List Value} {u8 : Value} (p0 : pC h0 cx F v0) (e111 : dM L xs zf w k 111 [.ref (cx 7)] h0 = some (some (.ref d), h)) (p : pC h cx F v) (c : CH cx q h g ts pt vr) (hm : cx 14 ≠ 0) (hP : hc h P = some (nd0 15 pl)) (hd : hc h d = some (.inr (10, fsd))) (h8 : fsd[8]? = some u8) : ∃ h9, b122_40 L xs zf (dM L xs zf w k) w (some (cx 7)) (some (cx 14)) i1 (some P) h0 = vaR L xs (dM L xs zf w k) (some (cx 7)) (some (cx 14)) i1 (some P) h9 ∧ CH cx q h9 (gu g 3 (g 3 + 1)) ts pt (vr + 1) ∧ pC h9 cx F v ∧ fr (fun y => y = cx 8 ∨ y = cx 14 ∨ y = P ∨ y = d) h h9 ∧ h9.length = h.length ∧ zh h9 = zh h ∧ hc h9 P = some (.inr (12, vaN pl d)) ∧ hc h9 d = some (.inr (10, fsd.set 8 (.int (Int32.ofNat (g 3))))) := by
  have dP : d ≠ P := fun z => by rw [z, hP] at hd; cases hd
  obtain ⟨h1, a1, a2, a3⟩ := pF_ex (j := 5) (cis := [12]) (v := .ref d) (u := .null) hP rfl (by decide) rfl (by decide)
  have a2 : hc h1 P = some (.inr (12, vaN pl d)) := a2
  have p1 := pC_w hP (by decide) a3 p
  have c1 := CH_w hP (by decide) a3 c
  have hd1 := st1_old a3 hd dP
  have mc1 : ∃ x, hc h1 (cx 14) = some (.inr (11, q.set 10 (.int (Int32.ofNat (g 3))))) ∧ q.length = 14 ∧ x = 0 := by
    rcases c1.2.2.2.2 with e | ⟨e, e2⟩
    · exact absurd e hm
    · exact ⟨0, e2, e, rfl⟩
  obtain ⟨_, m1, ql, _⟩ := mc1
  have q10 : ∀ y : Value, (q.set 10 y)[10]? = some y := fun y => List.getElem?_set_self (by omega)
  obtain ⟨h2, b1, b2, b3⟩ := pF_ex (j := 8) (cis := [10]) (v := .int (Int32.ofNat (g 3))) hd1 h8 (by decide) rfl (by decide)
  have p2 := pC_w hd1 (by decide) b3 p1
  have c2 := CH_w hd1 (by decide) b3 c1
  have d14 : cx 14 ≠ d := fun z => by rw [z, hd1] at m1; cases m1
  have m2 := st1_old b3 m1 d14
  obtain ⟨h3, e1, e2, e3⟩ := pF_ex (j := 10) (cis := [11]) (v := .int (Int32.ofNat (g 3) + 1)) m2 (q10 _) (by decide) rfl (by decide)
  rw [List.set_set, show Int32.ofNat (g 3) + 1 = Int32.ofNat (g 3 + 1) from of_add (g 3) 1] at e2
  have p3 := pC_w m2 (by decide) e3 p2
  have c3 := CH_m c2 hm e3 e2
  obtain ⟨h4, f1, f2, f3, f4⟩ := p_vars p3 c3 (vr + 1)
  have P14 : P ≠ cx 14 := fun z => by rw [← z, a2] at m1; cases m1
  have P8 : P ≠ cx 8 := fun z => by have := c.1; rw [← z, hP] at this; cases this
  have d8 : d ≠ cx 8 := fun z => by have := c.1; rw [← z, hd] at this; cases this
  refine ⟨h4, ?_, f3, f2, ?_, by rw [f4.2.1, e3.2.1, b3.2.1, a3.2.1], by rw [f4.2.2, e3.2.2, b3.2.2, a3.2.2], st1_old f4 (st1_old e3 (st1_old b3 a2 dP.symm) P14) P8, st1_old f4 (st1_old e3 b2 d14.symm) d8⟩
  · unfold b122_40
    rw [c_pv p0, e111]
    show (dpF h 5 [12] (some P) (.ref d)).bind _ = _
    rw [a1]
    show (dgR L xs h1 5 [12] (some P)).bind _ = _
    rw [hc_gR (p := some d) a2 rfl (by decide)]
    show (dgI L xs h1 10 [11] (some (cx 14))).bind _ = _
    rw [hc_gI m1 (q10 _) (by decide)]
    show (dpF h1 8 [10] (some d) (.int (Int32.ofNat (g 3)))).bind _ = _
    rw [b1]
    show (dgI L xs h2 10 [11] (some (cx 14))).bind _ = _
    rw [hc_gI m2 (q10 _) (by decide)]
    show (dpF h2 10 [11] (some (cx 14)) (.int (Int32.ofNat (g 3) + 1))).bind _ = _
    rw [e1]
    show (dgR L xs h3 1 [8] (some (cx 7))).bind _ = _
    rw [c_out p3]
    show (dgI L xs h3 5 [4] (some (cx 8))).bind _ = _
    rw [p_gv c3]
    show (dpF h3 5 [4] (some (cx 8)) (.int (vr + 1))).bind _ = _
    rw [f1]
    rfl
  · exact fr_trans (fr_trans (fr_trans (fr_mono a3.1 (fun _ _ u => Or.inr (Or.inr (Or.inl u)))) b3.1 (fun _ _ u => Or.inr (Or.inr (Or.inr u)))) e3.1 (fun _ _ u => Or.inr (Or.inl u))) f4.1 (fun _ _ u => Or.inl u)
theorem tcO_8 {nm j : Nat} {sl : Int32} (e9 : ∀ fs, hc h5 d = some (.inr (10, fs)) → hc h9 d = some (.inr (10, fs.set 8 (.int sl)))) (ns : ∀ a b, nS L xs h5 a b → nS L xs h9 a b) (t : tcO L xs cx F N h5 j d nm pl 0 0 0 v) : tcO L xs cx F N h9 j d nm pl 0 0 sl v := by
  rcases t with ⟨a1, a2, a3, a4, a5⟩ | ⟨a1, t2, cp, cq, a2, a3, a4, a5⟩
  · exact Or.inl ⟨a1, a2, a3, a4, e9 _ a5⟩
  · refine Or.inr ⟨a1, t2, cp, cq, e9 _ a2, a3, a4, ?_⟩
    rcases a5 with ⟨b1, b2, b3, b4⟩ | b
    · exact Or.inl ⟨b1, b2, b3, ns _ _ b4⟩
    · exact Or.inr b
theorem c_vdecl (hT : TF cx F N) (hi : i ≤ cx 16) (p : pC h cx F (vS cx F i)) (c : CH cx q h g ts pt vr) (hm : cx 14 ≠ 0) (hg3 : g 3 ≤ 16) (hP : hc h P = some (nd0 15 pl)) (hn : ts.length ≤ 99000) : ∃ h9 ar' cap' v, ((dgI L xs h 10 [11] (some (cx 14))).bind fun x21 => if mx_f2 .lt x21 16 = true then b122_40 L xs zf (dM L xs zf w (k + 10)) w (some (cx 7)) (some (cx 14)) i1 (some P) h else (dgR L xs h 0 [8] (some (cx 7))).bind fun p24 => ((dcV L xs (dM L xs zf w (k + 10)) 95 [6] p24 [] h).bind dxV).bind fun h26 => b122_40 L xs zf (dM L xs zf w (k + 10)) w (some (cx 7)) (some (cx 14)) i1 (some P) h26) = vaR L xs (dM L xs zf w (k + 10)) (some (cx 7)) (some (cx 14)) i1 (some P) h9 ∧ CH cx q h9 (gu (gu (gu g 1 ar') 2 cap') 3 (g 3 + 1)) (ts ++ [21 + h.length]) pt (vr + 1) ∧ pC h9 cx F v ∧ fr (fun y => y = cx 0 ∨ y = cx 8 ∨ y = cx 11 ∨ y = cx 14 ∨ y = g 1 ∨ y = P) h h9 ∧ (h9.length ≤ h.length + 6 ∧ (g 3 < 16 → ctk cx F i = 2 → ctk cx F (i + 1) = 11 → nE (21 + h.length) h h9)) ∧ (ar' = g 1 ∨ 21 + h.length ≤ ar') ∧ zh h9 + 4 * g 2 ≤ zh h + 4 * cap' + 33 ∧ hc h9 P = some (.inr (12, vaN pl (21 + h.length))) ∧ (∃ fs, hc h9 (21 + h.length) = some (.inr (10, fs))) ∧ vcO L xs cx F N h9 i (21 + h.length) (g 3) v := by
  have gm : dgI L xs h 10 [11] (some (cx 14)) = some (Int32.ofNat (g 3)) := by
    rcases c.2.2.2.2 with e | ⟨e, e2⟩
    · exact absurd e hm
    · exact hc_gI e2 (List.getElem?_set_self (by omega)) (by decide)
  have hPl := hc_lt hP
  have P0 : P ≠ cx 0 := fun z => by have := pC_r p; rw [← z, hP] at this; cases this
  have P11 : P ≠ cx 11 := fun z => by
    obtain ⟨mc, e1, _⟩ := c.2.1
    rw [← z, hP] at e1; cases e1
  have P1 : P ≠ g 1 := fun z => by
    obtain ⟨mc, _, _, _, e3⟩ := c.2.1
    rcases e3 with ⟨e3, _⟩ | ⟨f0, e3, _⟩
    · have := hc_ge hP
      omega
    · rw [← z, hP] at e3; cases e3
  have gg : ∀ ar' cap', gu (gu g 1 ar') 2 cap' 3 = g 3 := fun _ _ => rfl
  by_cases l16 : g 3 < 16
  · obtain ⟨h5, ar', cap', v, e1, e2, e3, e4, e5, e6, e7, e8, e9⟩ := tc_decl (L := L) (xs := xs) (zf := zf) (w := w) (k := k) hT hi p c hn
    obtain ⟨nm0, cp0, cq0, ti0, tp0, hd5⟩ := e4
    have hP5 := fr_old e5 hP (fun u => u.elim P0 (fun u => u.elim P11 P1))
    obtain ⟨h9, f1, f2, f3, f4, f5, f6, f7, f8⟩ := c_v40 (L := L) (xs := xs) (zf := zf) (w := w) (k := k + 10) (i1 := i1) p e1 e3 e2 hm hP5 hd5 rfl
    refine ⟨h9, ar', cap', v, ?_, f2, f3, ?_, ⟨by omega, fun _ z1 z2 => nE_r (e6.2 z1 z2) f4 (nD_0 f5)⟩, e7, by omega, f7, ⟨_, f8⟩, ?_⟩
    · rw [gm]
      show (if mx_f2 .lt (Int32.ofNat (g 3)) 16 = true then _ else _) = _
      rw [if_pos (by rw [f2_lt, of_int (by omega), show (16 : Int32).toInt = 16 from by decide]; simp; omega)]
      exact f1
    · refine fr_trans (fr_mono e5 (fun y _ u => ?_)) f4 (fun y hy u => ?_)
      · rcases u with u | u | u
        · exact Or.inl u
        · exact Or.inr (Or.inr (Or.inl u))
        · exact Or.inr (Or.inr (Or.inr (Or.inr (Or.inl u))))
      · rcases u with u | u | u | u
        · exact Or.inr (Or.inl u)
        · exact Or.inr (Or.inr (Or.inr (Or.inl u)))
        · exact Or.inr (Or.inr (Or.inr (Or.inr (Or.inr u))))
        · omega
    · rcases e9 with ⟨t1, t2, t3, nm, t4, t5⟩ | ⟨t1, t2, t3, t4⟩ | ⟨t1, t2⟩
      · refine Or.inl ⟨l16, t1, t2, t3, nm, nS_fr f4 t4, tcO_8 (fun fs e => ?_) (fun a b => nS_fr f4) t5⟩
        rw [hd5] at e
        cases e
        exact f8
      · exact Or.inr (Or.inl ⟨l16, t1, t2, t3, t4⟩)
      · exact Or.inr (Or.inr ⟨Or.inl t1, t2⟩)
  · obtain ⟨h1, v, d1, d2, d3, d4⟩ := y_ref (L := L) (xs := xs) (zf := zf) (w := w) (k := k + 9) hT hi p
    have l1 := d4.2.1
    have y1 := d4.2.2
    obtain ⟨h5, ar', cap', e1, e2, e3, e4, e5, e6, e7⟩ := z_decl (L := L) (xs := xs) (zf := zf) (w := w) (k := k + 2) ⟨d2, d3, CH_r p d4 c⟩ hn
    rw [l1] at e1 e2 e3 e6
    obtain ⟨nm0, pl0, cp0, cq0, ti0, tp0, hd5⟩ := e3
    have hP5 := fr_old e4 (st1_old d4 hP P0) (fun u => u.elim P0 (fun u => u.elim P11 P1))
    obtain ⟨h9, f1, f2, f3, f4, f5, f6, f7, f8⟩ := c_v40 (L := L) (xs := xs) (zf := zf) (w := w) (k := k + 10) (i1 := i1) d2 e1 e2.1 e2.2.2 hm hP5 hd5 rfl
    refine ⟨h9, ar', cap', v, ?_, f2, f3, ?_, ⟨by omega, fun z => absurd z l16⟩, by omega, by omega, f7, ⟨_, f8⟩, Or.inr (Or.inr ⟨Or.inr (by omega), d3⟩)⟩
    · rw [gm]
      show (if mx_f2 .lt (Int32.ofNat (g 3)) 16 = true then _ else _) = _
      rw [if_neg (by rw [f2_lt, of_int (by omega), show (16 : Int32).toInt = 16 from by decide]; simp; omega), c_in p]
      show ((dcV L xs (dM L xs zf w (k + 10)) 95 [6] (some (cx 0)) [] h).bind dxV).bind _ = _
      rw [c_rv p, d1]
      exact f1
    · refine fr_trans (fr_trans (fr_mono d4.1 (fun _ _ u => Or.inl u)) e4 (fun y _ u => ?_)) f4 (fun y hy u => ?_)
      · rcases u with u | u | u
        · exact Or.inl u
        · exact Or.inr (Or.inr (Or.inl u))
        · exact Or.inr (Or.inr (Or.inr (Or.inr (Or.inl u))))
      · rcases u with u | u | u | u
        · exact Or.inr (Or.inl u)
        · exact Or.inr (Or.inr (Or.inr (Or.inl u)))
        · exact Or.inr (Or.inr (Or.inr (Or.inr (Or.inr u))))
        · omega
end VR
