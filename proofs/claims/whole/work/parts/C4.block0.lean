/-! A BLOCK that is none: behind a fault, too deep, without its brace. -/
section B0
variable {L : Nat} {xs : Nat → Int32} {zf : Value} {w k k2 i : Nat} {cx : Nat → Nat} {F : Nat → Nat → Int32} {N : Nat → Int64} {q : List Value} {h h' : rm_H} {s s' : rS} {g : Nat → Nat} {ts : List Nat} {v : Nat → Int32} {A : Nat} {i1 : Int32}
theorem EX_f {cl : Nat} {rc : Option dR} {rr : Option rA} {pt vr : Int32} (p : pC h' cx F v) (r : rfd v (s'.1 58)) (ch : CH cx q h' g ts pt vr) (h57 : s'.1 57 = 1) (rt : rTk F N s') (cs : CS s' g) (b : g 0 ≤ cx 16 ∧ ts.length ≤ g 0 + g 6 ∧ g 4 ≤ g 0 + 2 + g 6) (ec : rc = some (some (.ref (21 + h.length)), h')) (er : rr = some (some (.int 0), s')) (f : fr (fun y => y = cx 0) h h') (l : h'.length = h.length + 1) (y : zh h' = zh h + 13) (rf : rF s s') (np : nW h' (21 + h.length)) : EXR cl L xs cx F N q A h s g ts rc rr := by
  have fl : FLT cx F N q h' s' (gu g 6 (g 6 + 2)) ts := by
    refine ⟨⟨v, p, r⟩, h57, rt, ⟨pt, vr, CH_g (g := g) rfl rfl rfl ch⟩, cs, ?_⟩
    show g 0 ≤ cx 16 ∧ ts.length ≤ g 0 + (g 6 + 2) ∧ g 4 ≤ g 0 + 2 + (g 6 + 2)
    omega
  refine ⟨h', s', _, ts, _, 0, ec, er, ⟨Or.inr fl, fun u => (sy_no u fl).elim, fr_mono f (fun _ _ u => Or.inl u), Or.inl rfl, rf, ?_⟩, Or.inr (Nat.le_refl _), np, Nat.le_refl _, ?_, fun u => (sy_no u fl).elim⟩
  · show (g 0 ≤ g 0 ∧ g 4 ≤ g 4) ∧ h'.length + 10 * g 0 + g 6 ≤ h.length + 10 * g 0 + (g 6 + 2) ∧ zh h' + 4 * g 2 + 80 * g 0 + 8 * g 6 ≤ zh h + 4 * g 2 + 80 * g 0 + 8 * (g 6 + 2) ∧ g 4 + g 0 + g 6 ≤ g 4 + g 0 + (g 6 + 2)
    omega
  · show 0 < g 4
    have := cs.2.2.2
    omega
theorem x_bflt (hT : TF cx F N) (hw : 1 ≤ w) (z : FLT cx F N q h s g ts) : EXR 1 L xs cx F N q A h s g ts (dM L xs zf w (k + 5) 119 [.ref (cx 7), .ref (cx 14), .int i1] h) (rM w (k2 + 3) 317 [.ref 36, .int i1] s) := by
  obtain ⟨⟨v, p, r⟩, h57, rt, ⟨pt, vr, ch⟩, cs, b⟩ := z
  have hl : g 0 ≤ 2000 := by have := hT.1; omega
  obtain ⟨h1, a1, a2, a3, a4, a5, a6⟩ := z_block (L := L) (xs := xs) (zf := zf) (w := w) (k := k) hw ⟨p, r, ch⟩ i1
  exact EX_f a2.1 r a2.2.2 h57 rt cs b a1 (z317 (k := k2) h57 cs.1 hl i1) a4 a5 a6 (rF_refl _) a3
/-- the reference stops at a block that is none -/
theorem r_317s (hT : TF cx F N) (z : SY cx F N q h s g ts) (hn : ¬ (mx_f2 .le i1 24 = true ∧ ctk cx F (g 0) = 5)) : rM w (k2 + 3) 317 [.ref 36, .int i1] s = some (some (.int 0), stS s (g 0)) := by
  obtain ⟨⟨p, ⟨a1, a2, a3, a4⟩, rt, ch, ⟨c1, c2, c3, c4⟩, b1, b2, b3, b4⟩, g6⟩ := id z
  have hl : g 0 ≤ 2000 := by have := hT.1; omega
  obtain ⟨⟨f5, _, tr⟩, _⟩ := hT.2.2 (g 0) b1
  have q10 := q310 (w := w) (k := k2 + 1) 123 a1 c1 hl
  rw [rt.1, rt.2.2.1] at q10
  have stop : s317_22 (rM w (k2 + 2)) w s = some (some (.int 0), stS s (g 0)) := by
    unfold s317_22
    exact bse (a := stS s (g 0)) (by rw [q304 (k := k2) a1 c1 hl]; rfl) rfl
  rw [y317]
  show s317_0 (rM w (k2 + 2)) w i1 s = _
  unfold s317_0
  refine ifn (by rw [a1]; decide) ?_
  by_cases t : ctk cx F (g 0) = 5
  · rw [decide_eq_true ((sg_iff tr P123).mpr t)] at q10
    exact bse (a := (rd_01 true, s)) (by rw [q10]; rfl) (ifn (show ¬ mx_f1 .eq (rd_01 true) = true by decide) (ifn (fun u => hn ⟨u, t⟩) stop))
  · rw [decide_eq_false (fun u => t ((sg_iff tr P123).mp u))] at q10
    exact bse (a := (rd_01 false, s)) (by rw [q10]; rfl) (ift (show mx_f1 .eq (rd_01 false) = true by decide) stop)
theorem x_bnone (hT : TF cx F N) (hw : 1 ≤ w) (z : SY cx F N q h s g ts) (hn : ¬ (mx_f2 .le i1 24 = true ∧ ctk cx F (g 0) = 5)) : EXR 1 L xs cx F N q A h s g ts (dM L xs zf w (k + 5) 119 [.ref (cx 7), .ref (cx 14), .int i1] h) (rM w (k2 + 3) 317 [.ref 36, .int i1] s) := by
  obtain ⟨⟨p, ⟨a1, a2, a3, a4⟩, rt, ch, ⟨c1, c2, c3, c4⟩, b1, b2, b3, b4⟩, g6⟩ := id z
  obtain ⟨⟨f5, _, tr⟩, _⟩ := hT.2.2 (g 0) b1
  have p1 : pC (h ++ [nd0 14 (cpl cx F (g 0))]) cx F (vS cx F (g 0)) := pC_ap p
  have ch1 : CH cx q (h ++ [nd0 14 (cpl cx F (g 0))]) g ts (s.1 24) (s.1 25) := CH_ap (Or.inl (nd0_5 _ _)) ch
  have n1 : nW (h ++ [nd0 14 (cpl cx F (g 0))]) (21 + h.length) := nW_new _ _
  have hne : 21 + h.length ≠ cx 0 := by have := hc_lt (pC_r p); omega
  have l1 : (h ++ [nd0 14 (cpl cx F (g 0))]).length = h.length + 1 := by rw [List.length_append]; rfl
  have y1 := zh_nd (h := h) 14 (cpl cx F (g 0))
  have rr := r_317s (w := w) (k2 := k2) hT z hn
  have rf : ∀ v, rfd v (cpl cx F (g 0)) → rfd v ((stS s (g 0)).1 58) := by
    intro v hv
    show rfd v (s.2.1 41 (g 0))
    rw [rt.2.1, f5]
    exact hv
  by_cases d : mx_f2 .le i1 24 = true
  · have t5 : ¬ ctk cx F (g 0) = 5 := fun u => hn ⟨d, u⟩
    obtain ⟨h2, v, d1, d2, d3, d4⟩ := y_takeF (L := L) (xs := xs) (zf := zf) (w := w) (k := k) hT b1 p1 5 t5
    have n2 := nW_st n1 d4 hne
    have ch2 := CH_r p1 d4 ch1
    obtain ⟨h3, e1, e2, e3, e4, e5⟩ := nW_w (j := 3) (v := .int (v 7)) n2 (by decide) (by decide) (fun y => absurd y (by decide)) rfl
    obtain ⟨fs, ex, _⟩ := id n2
    have p3 := pC_w ex (by decide) e4 d2
    have ch3 := CH_w ex (by decide) e4 ch2
    obtain ⟨h4, w1, w2, w3⟩ := z_take (L := L) (xs := xs) (zf := zf) (w := w) (k := k) d3 p3 6 (by decide)
    refine EX_f w2 (rf v d3) (CH_r p3 w3 ch3) rfl rt ⟨c1, c2, c3, c4⟩ (by omega) ?_ rr ?_ (by rw [w3.2.1, e4.2.1, d4.2.1, l1]) (by rw [w3.2.2, e4.2.2, d4.2.2, y1]) rF_st (nW_st e5 w3 hne)
    · rw [e119]
      show b119_0 L xs zf (dM L xs zf w (k + 4)) w (some (cx 7)) (some (cx 14)) i1 h = _
      unfold b119_0
      refine c_mk p 14 (nd_new (k := k + 3) 14 (vS cx F (g 0) 7)) ?_
      rw [vS_7]
      refine ift d (bse (a := h2) (by rw [c_pv p1, d1]; rfl) ?_)
      obtain ⟨w', rfl⟩ : ∃ w', w = w' + 1 := ⟨w - 1, by omega⟩
      rw [b119_40]
      have i6 := c_I (L := L) (xs := xs) d2 6 (by omega)
      rw [d3.2.1] at i6
      have i8 := c_I (L := L) (xs := xs) d2 8 (by omega)
      refine ifn (by decide) (bse (c_in d2) (bse i6 (ifn (by decide) (bse (c_in d2) (bse i8 (ift ?_ ?_))))))
      · rw [f2_ne]
        apply decide_eq_true
        rw [d3.1]
        exact d3.2.2
      · unfold b119_87
        refine bse (c_in d2) (bse (c_I d2 7 (by omega)) (bse e1 ?_))
        exact bse (a := h4) (by rw [c_pv p3, w1]; rfl) rfl
    · exact fr_trans (fr_trans (fr_trans (fr_app _ _) d4.1 (fun _ _ u => u)) e4.1 (fun y hy u => by omega)) w3.1 (fun _ _ u => u)
  · obtain ⟨h2, v, d1, d2, d3, d4⟩ := y_ref (L := L) (xs := xs) (zf := zf) (w := w) (k := k + 3) hT b1 p1
    refine EX_f d2 (rf v d3) (CH_r p1 d4 ch1) rfl rt ⟨c1, c2, c3, c4⟩ (by omega) ?_ rr ?_ (by rw [d4.2.1, l1]) (by rw [d4.2.2, y1]) rF_st (nW_st n1 d4 hne)
    · rw [e119]
      show b119_0 L xs zf (dM L xs zf w (k + 4)) w (some (cx 7)) (some (cx 14)) i1 h = _
      unfold b119_0
      refine c_mk p 14 (nd_new (k := k + 3) 14 (vS cx F (g 0) 7)) ?_
      rw [vS_7]
      exact ifn d (bse (c_in p1) (bse (a := h2) (by rw [c_rv p1, d1]; rfl) rfl))
    · exact fr_trans (fr_app _ _) d4.1 (fun _ _ u => u)
end B0
