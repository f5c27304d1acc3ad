/-! PRIMARIES: where none begins, behind a fault, in parentheses. -/
section PX
variable {L : Nat} {xs : Nat → Int32} {zf : Value} {w k k2 i : Nat} {cx : Nat → Nat} {F : Nat → Nat → Int32} {N : Nat → Int64} {q : List Value} {h h' h1 h2 : rm_H} {s s' s1 s2 : rS} {g g' g1 g2 : Nat → Nat} {ts ts' ts1 ts2 : List Nat} {v : Nat → Int32} {A : Nat}
/-- behind a fault both may stand at any node -/
theorem FL_new {pt vr wh pl : Int32} (p : pC h1 cx F v) (r : rfd v (s.1 58)) (ch : CH cx q h1 g ts pt vr) (h57 : s.1 57 = 1) (rt : rTk F N s) (cs : CS s g) (b : g 0 ≤ cx 16 ∧ ts.length ≤ g 0 + g 6 ∧ g 4 ≤ g 0 + 2 + g 6) : FLT cx F N q (h1 ++ [nd0 wh pl]) s (gu g 6 (g 6 + 2)) ts := by
  refine ⟨⟨v, pC_ap p, r⟩, h57, rt, ⟨pt, vr, CH_g (g := g) rfl rfl rfl (CH_ap (Or.inl (nd0_5 _ _)) ch)⟩, cs, ?_⟩
  show g 0 ≤ cx 16 ∧ ts.length ≤ g 0 + (g 6 + 2) ∧ g 4 ≤ g 0 + 2 + (g 6 + 2)
  omega
/-- a Node that stands for a refused one -/
theorem EX_new {cl : Nat} {rc : Option dR} {rr : Option rA} {wh pl pt vr : Int32} (p : pC h1 cx F v) (r : rfd v (s'.1 58)) (ch : CH cx q h1 g ts pt vr) (h57 : s'.1 57 = 1) (rt : rTk F N s') (cs : CS s' g) (b : g 0 ≤ cx 16 ∧ ts.length ≤ g 0 + g 6 ∧ g 4 ≤ g 0 + 2 + g 6) (f : fr (fun y => y = cx 0 ∨ y = cx 8) h h1) (l : h1.length = h.length) (y : zh h1 = zh h) (rf : rF s s') (ec : rc = some (some (.ref (21 + h1.length)), h1 ++ [nd0 wh pl])) (er : rr = some (some (.int 0), s')) : EXR cl L xs cx F N q A h s g ts rc rr := by
  have fl := FL_new (wh := wh) (pl := pl) p r ch h57 rt cs b
  have l2 : (h1 ++ [nd0 wh pl]).length = h.length + 1 := by rw [List.length_append, l]; rfl
  have y2 := zh_nd (h := h1) wh pl
  refine ⟨_, s', _, ts, _, 0, ec, er, ⟨Or.inr fl, fun u => (sy_no u fl).elim, fr_trans (fr_mono f (fun _ _ u => u.elim Or.inl (fun u => Or.inr (Or.inl u)))) (fr_app _ _) (fun _ _ u => u), Or.inl rfl, rf, ?_⟩, Or.inr (Nat.le_refl _), nW_new _ _, by omega, ?_, fun u => (sy_no u fl).elim⟩
  · show (g 0 ≤ g 0 ∧ g 4 ≤ g 4) ∧ (h1 ++ [nd0 wh pl]).length + 10 * g 0 + g 6 ≤ h.length + 10 * g 0 + (g 6 + 2) ∧ zh (h1 ++ [nd0 wh pl]) + 4 * g 2 + 80 * g 0 + 8 * g 6 ≤ zh h + 4 * g 2 + 80 * g 0 + 8 * (g 6 + 2) ∧ g 4 + g 0 + g 6 ≤ g 4 + g 0 + (g 6 + 2)
    omega
  · show 0 < g 4
    have := cs.2.2.2
    omega
theorem x_flt {i1 : Int32} (z : FLT cx F N q h s g ts) : EXR 0 L xs cx F N q A h s g ts (dM L xs zf w (k + 4) 125 [.ref (cx 7), .ref (cx 14), .int i1] h) (rM w (k2 + 1) 322 [.ref 36, .int i1] s) := by
  obtain ⟨⟨v, p, r⟩, h57, rt, ⟨pt, vr, ch⟩, cs, b⟩ := z
  obtain ⟨h1, a1, a2, a3, a4, a5⟩ := z_prim (L := L) (xs := xs) (zf := zf) (w := w) (k := k) ⟨p, r, ch⟩ i1
  exact EX_new a2.1 r a2.2.2 h57 rt cs b a3 a4 a5 (rF_refl _) a1 (z322 (k := k2) h57 i1)
/-- no primary begins here -/
theorem x_none {i1 : Int32} (hT : TF cx F N) (z : SY cx F N q h s g ts) (t7 : ctk cx F (g 0) ≠ 7) (hn : ¬ (ctk cx F (g 0) = 2 ∨ ctk cx F (g 0) = 4 ∨ ctk cx F (g 0) = 22 ∨ ctk cx F (g 0) = 32 ∨ ctk cx F (g 0) = 33 ∨ ctk cx F (g 0) = 34 ∨ ctk cx F (g 0) = 35 ∨ ctk cx F (g 0) = 36 ∨ ctk cx F (g 0) = 37)) : EXR 0 L xs cx F N q A h s g ts (dM L xs zf w (k + 4) 125 [.ref (cx 7), .ref (cx 14), .int i1] h) (rM w (k2 + 4) 322 [.ref 36, .int i1] s) := by
  obtain ⟨h1, e1, p1, ch1, w8⟩ := sy_parts z
  obtain ⟨⟨p, ⟨a1, a2, a3, a4⟩, rt, ch, ⟨c1, c2, c3, c4⟩, b1, b2, b3, b4⟩, g6⟩ := id z
  have hl : g 0 ≤ 2000 := by have := hT.1; omega
  obtain ⟨⟨f5, _, tr⟩, _⟩ := hT.2.2 (g 0) b1
  obtain ⟨h2, v, d1, d2, d3, d4⟩ := y_ref (L := L) (xs := xs) (zf := zf) (w := w) (k := k + 2) hT b1 p1
  have l8 := w8.2.1
  have y8 := w8.2.2
  refine EX_new (s' := stS s (g 0)) (wh := 1) (pl := v 7) d2 ?_ (CH_r p1 d4 ch1) rfl rt ⟨c1, c2, c3, c4⟩ (by omega) (fr_trans (fr_mono w8.1 (fun _ _ u => Or.inr u)) d4.1 (fun _ _ u => Or.inl u)) (by rw [d4.2.1, l8]) (by rw [d4.2.2, y8]) rF_st ?_ ?_
  · show rfd v (s.2.1 41 (g 0))
    rw [rt.2.1, f5]
    exact d3
  · obtain ⟨j, hj, ej⟩ := tk_44 tr
    rw [e125]
    show b125_0 L xs zf (dM L xs zf w (k + 3)) w (some (cx 7)) (some (cx 14)) i1 h = _
    unfold b125_0
    refine bse (c_in p) (bse (c_I p 6 (by omega)) (ift ?_ ?_))
    · rw [vS_6, f2_ne]
      exact decide_eq_true t7
    refine bse (c_out p) (bse (p_gp ch) (bse e1 (bse (c_in p1) (bse (c_I p1 6 (by omega)) ?_))))
    rw [vS_6]
    have sw := sw_139 j hj (by rw [← ej]; exact hn)
    rw [← ej] at sw
    rw [if_neg (fun u => hn (Or.inl u)), if_neg (fun u => hn (Or.inr (Or.inl u))), if_neg (fun u => hn (Or.inr (Or.inr (Or.inl u)))), if_neg (fun u => hn (Or.inr (Or.inr (Or.inr (Or.inl u))))), if_neg (fun u => hn (Or.inr (Or.inr (Or.inr (Or.inr (Or.inl u)))))), if_neg (fun u => hn (Or.inr (Or.inr (Or.inr (Or.inr (Or.inr (Or.inl u))))))), if_neg (fun u => hn (Or.inr (Or.inr (Or.inr (Or.inr (Or.inr (Or.inr (Or.inl u)))))))), if_neg (fun u => hn (Or.inr (Or.inr (Or.inr (Or.inr (Or.inr (Or.inr (Or.inr (Or.inl u))))))))), if_neg (fun u => hn (Or.inr (Or.inr (Or.inr (Or.inr (Or.inr (Or.inr (Or.inr (Or.inr u))))))))), if_pos sw]
    refine bse (c_in p1) (bse (a := h2) (by rw [c_rv p1, d1]; rfl) ?_)
    exact c_mk d2 1 (nd_new (k := k + 2) 1 (v 7)) rfl
  · refine q322 (k := k2 + 1) a1 c1 hl ?_ ?_
    · rw [rt.1, rt.2.2.1]
      exact fun u => t7 ((sg_iff tr P40).mp u)
    · rw [rt.1, rt.2.2.1, sel_0 tr hn]
      unfold s322_181
      exact ifn (by decide) (bse (a := stS s (g 0)) (by rw [q304 (k := k2 + 1) a1 c1 hl]; rfl) rfl)
/-- an expression or a block of both, at any depth that is great enough -/
def IHx (L : Nat) (xs : Nat → Int32) (zf : Value) (w : Nat) (cx : Nat → Nat) (F : Nat → Nat → Int32) (N : Nat → Int64) (q : List Value) (A ke kr mc mr : Nat) (i1 : Int32) : Prop := ∀ (j j2 : Nat) (h : rm_H) (s : rS) (g : Nat → Nat) (ts : List Nat), (SY cx F N q h s g ts ∨ FLT cx F N q h s g ts) → g 6 ≤ 2200 → EXR ((124 - mc) / 5) L xs cx F N q A h s g ts (dM L xs zf w (ke + j) mc [.ref (cx 7), .ref (cx 14), .int i1] h) (rM w (kr + j2) mr [.ref 36, .int i1] s)
/-- in parentheses -/
theorem x_par {i1 : Int32} {ke kr : Nat} (hT : TF cx F N) (hA : A ≤ 2000) (IH : IHx L xs zf w cx F N q A (ke + 4) (kr + 3) 123 320 (i1 + 1)) (z : SY cx F N q h s g ts) (t : ctk cx F (g 0) = 7) : EXR 0 L xs cx F N q A h s g ts (dM L xs zf w (ke + 5 + k) 125 [.ref (cx 7), .ref (cx 14), .int i1] h) (rM w (kr + 4 + k) 322 [.ref 36, .int i1] s) := by
  obtain ⟨⟨p, ⟨a1, a2, a3, a4⟩, rt, ch, ⟨c1, c2, c3, c4⟩, b1, b2, b3, b4⟩, g6⟩ := id z
  have hl : g 0 ≤ 2000 := by have := hT.1; omega
  obtain ⟨⟨f5, _, tr⟩, _⟩ := hT.2.2 (g 0) b1
  have hlt := w_pass hT z 7 t (by decide) (by decide)
  obtain ⟨h1, d1, d2, d3⟩ := y_adv (L := L) (xs := xs) (zf := zf) (w := w) (k := ke + 1 + k) hT hlt p
  have sy1 := SY_nx z hlt d2 d3
  have op1 : OPR cx F N q h s g ts h1 (nxS s (g 0)) (gu g 0 (g 0 + 1)) ts := OPR_0 (Or.inl sy1) (fun _ => z) d3 rF_nx rfl rfl rfl rfl rfl rfl (by rw [gu_eq]; omega)
  obtain ⟨h2, s2, g2, ts2, x, n, ec, er, op2, sl, nx, xl, nl, nr⟩ := IH k k h1 (nxS s (g 0)) (gu g 0 (g 0 + 1)) ts (Or.inl sy1) (by show g 6 ≤ 2200; omega)
  have p2 : ∃ v, pC h2 cx F v := by
    rcases op2.1 with u | u
    · exact ⟨_, u.1.1⟩
    · obtain ⟨⟨v, u, _⟩, _⟩ := u
      exact ⟨v, u⟩
  obtain ⟨v2, p2⟩ := p2
  obtain ⟨h3, s3, g3, e1, e2, op3, n3, w3, s3e, y1, y2, y3, y4, y5, y6⟩ := op_need (L := L) (xs := xs) (zf := zf) (w := w) (k := ke + k) (k2 := kr + k) hT P41 op2.1
  have l1 := d3.2.1
  have l3 := w3.2.1
  refine ⟨h3, s3, g3, ts2, x, n, ?_, ?_, OPR_trans (OPR_trans op1 op2) op3, ?_, ?_, by omega, by omega, fun u => ?_⟩
  · rw [show ke + 5 + k = ke + 4 + k + 1 from by omega, e125]
    show b125_0 L xs zf (dM L xs zf w (ke + 4 + k)) w (some (cx 7)) (some (cx 14)) i1 h = _
    unfold b125_0
    refine bse (c_in p) (bse (c_I p 6 (by omega)) (ifn (by rw [vS_6, t]; decide) ?_))
    refine bse (c_in p) (bse (a := h1) (by rw [c_rv p, show ke + 4 + k = ke + 1 + k + 3 from by omega, d1]; rfl) ?_)
    refine bse (a := (some x, h2)) (by rw [c_pv d2, va_s, ec]; rfl) ?_
    exact bse (a := h3) (by rw [c_pv p2, show ke + 4 + k = ke + k + 4 from by omega, e1]; rfl) rfl
  · rw [show kr + 4 + k = kr + 3 + k + 1 from by omega, y322]
    show s322_0 (rM w (kr + 3 + k)) w i1 s = _
    unfold s322_0
    have f5' : F 4 (g 0) = 5 ∧ F 6 (g 0) = 40 := (sg_iff tr P40).mpr t
    refine ift (le0 a1) (bse (aT (by omega) c1 hl) (bse (aT (by omega) c1 hl) (ift ?_ ?_)))
    · rw [rt.1, f5'.1]; decide
    unfold s322_45
    have q9 := q309 (w := w) (k := kr + 1 + k) 40 a1 c1 hl
    rw [rt.1, rt.2.2.1, decide_eq_true f5', if_pos f5'] at q9
    refine bse (a := (rd_01 true, nxS s (g 0))) (by rw [show kr + 3 + k = kr + 1 + k + 2 from by omega, q9]; rfl) (ifn (show ¬ mx_f1 .eq (rd_01 true) = true by decide) ?_)
    refine bse (a := (Int32.ofNat n, s2)) (by rw [er]; rfl) ?_
    exact bse (a := s3) (by rw [show kr + 3 + k = kr + k + 3 from by omega, e2]; rfl) rfl
  · have : gu g 0 (g 0 + 1) 6 = g 6 := rfl
    omega
  · obtain ⟨fs, q1, q2⟩ := nx
    exact ⟨fs, on_keep op2.1 op3 q1, q2⟩
  · obtain ⟨u1, u48, u2⟩ := nr (op3.2.1 u).1
    have g0 : gu g 0 (g 0 + 1) 0 = g 0 + 1 := rfl
    have g4 : gu g 0 (g 0 + 1) 4 = g 4 := rfl
    have o6 := op3.2.2.2.2.2.1
    rw [g4, l1] at u2
    refine ⟨by omega, by rw [((op3.2.1 u).2.1 n nl).1 48 (by omega) (by omega)]; exact u48, ?_⟩
    have := NR_keep op3 u u2 (Nat.le_refl _) (bl_le (sy_cx (Or.inl z)) (Nat.le_refl _))
    rw [y4, l3]
    exact this
end PX
