/-! ARGUMENTS: all of them. -/
/-- what both have of arguments -/
def ARS (L : Nat) (xs : Nat → Int32) (cx : Nat → Nat) (F : Nat → Nat → Int32) (N : Nat → Int64) (q : List Value) (A : Nat) (R : Nat → Int32) (J : Int64) (fp : Nat → Option Value) (p n : Nat) (h : rm_H) (s : rS) (g : Nat → Nat) (ts : List Nat) (rc : Option dR) (rr : Option rA) : Prop := ∃ h' s' g' ts' ks cap, rc = some (none, h') ∧ rr = some (none, s') ∧ OPA cx F N q p n 0 0 0 h s g ts h' s' g' ts' ∧ (g' 6 ≤ A ∨ g' 6 ≤ g 6 + 13) ∧ nW h' p ∧ (∀ j, j ≠ 11 → fd h' 12 p j = fp j) ∧ (SY cx F N q h' s' g' ts' → AJ L xs (0, A / 20 + 1) cx F N q true R J fp p n h g h' s' g' ts' ks cap ∧ ks.length ≤ 6)
section AH
variable {L : Nat} {xs : Nat → Int32} {zf : Value} {w k k2 : Nat} {cx : Nat → Nat} {F : Nat → Nat → Int32} {N : Nat → Int64} {q : List Value} {h0 h h' h1 h2 : rm_H} {s0 s s' s1 s2 : rS} {g0 g g' g1 g2 : Nat → Nat} {t0 ts ts' ts1 ts2 : List Nat} {p n m c1 c2 d2 cap A ke kr : Nat} {R : Nat → Int32} {J : Int64} {fp : Nat → Option Value} {ks : List (Nat → Nat)} {i1 : Int32}
theorem x_are (hT : TF cx F N) (hn : n < g0 4) (hbl : bl cx (21 + h0.length)) (a : OPA cx F N q p n c1 c2 d2 h0 s0 g0 t0 h s g ts) (hd : d2 ≤ c2) (j : AJ L xs (0, A / 20 + 1) cx F N q true R J fp p n h0 g0 h s g ts ks cap) (hks : SY cx F N q h s g ts → ks.length ≤ 6) (sl : g 6 ≤ A ∨ g 6 ≤ g0 6 + 13) (M M2 : Nat) (i5 i4 : Int32) : ARS L xs cx F N q A R J fp p n h0 s0 g0 t0 (b134_28 L xs zf (dM L xs zf w (ke + 8)) w (M + 1) (some (cx 7)) (some p) (some (cx 14)) i1 0 i5 h) (s324_31 (rM w (kr + 3)) w (M2 + 1) (Int32.ofNat n) i1 0 i4 s) := by
  obtain ⟨h', s', g', e1, e2, op, n3, w3, s3e, y1, y2, y3, y4, y5, y6⟩ := op_need (L := L) (xs := xs) (zf := zf) (w := w) (k := ke + 4) (k2 := kr) hT P41 a.1
  obtain ⟨v, p0⟩ := op_pC a.1
  have ag := a.2.2.2.2.2.1
  have nn := nW_op a.1 op j.1
  refine ⟨h', s', g', ts, ks, cap, ?_, ?_, OPA_le (OPA_op a op) (Nat.zero_le _) (by omega), by omega, nn.1, fun i hi => (nn.2 i).trans (j.2.1 i hi), fun u => ⟨AJ_keep op a.1 hbl (by omega) j, hks (op.2.1 u).1⟩⟩
  · rw [b134_28]
    refine ift (by decide) ?_
    unfold b134_80
    exact bse (a := h') (by rw [c_pv p0, e1]; rfl) rfl
  · rw [s324_31]
    exact ift (by decide) (bse (a := s') (by rw [e2]; rfl) rfl)
theorem x_arl (hT : TF cx F N) (hA : 2 ≤ A ∧ A ≤ 2000) (IH : IHx L xs zf w cx F N q A (ke + 8) (kr + 3) 123 320 (i1 + 1)) (hn : n < g0 4) (hg0 : 1 ≤ g0 4) (hp0 : p < 21 + h0.length) (hbl : bl cx (21 + h0.length)) : ∀ (r : Nat) (ks : List (Nat → Nat)) (cap : Nat) (h : rm_H) (s : rS) (g : Nat → Nat) (ts : List Nat) (M M2 : Nat), ks.length + r = 6 → r + 1 ≤ M → r + 1 ≤ M2 → OPA cx F N q p n 2 (59 + 8 * ks.length) (4 * cap) h0 s0 g0 t0 h s g ts → SY cx F N q h s g ts → AJ L xs (0, A / 20 + 1) cx F N q true R J fp p n h0 g0 h s g ts ks cap → ARS L xs cx F N q A R J fp p n h0 s0 g0 t0 (b134_28 L xs zf (dM L xs zf w (ke + 8)) w (M + 1) (some (cx 7)) (some p) (some (cx 14)) i1 1 (Int32.ofNat ks.length) h) (s324_31 (rM w (kr + 3)) w (M2 + 1) (Int32.ofNat n) i1 1 (Int32.ofNat (lst ks)) s) := by
  intro r
  induction r with
  | zero =>
    intro ks cap h s g ts M M2 hr hM hM2 a z j
    obtain ⟨⟨p0, ⟨a1, a2, a3, a4⟩, rt, ch, ⟨c1, c2, c3, c4⟩, b1, b2, b3, b4⟩, g6⟩ := id z
    have hT1 := hT.1
    have ag := a.2.2.2.2.2.1
    obtain ⟨X, x1, _⟩ := j.2.2.2.2.2 z
    have x52 : s.2.1 52 n = Int32.ofNat ks.length := x1.1 52 (by omega) (by omega)
    obtain ⟨h1, v, d1, d2, d3, d4⟩ := y_ref (L := L) (xs := xs) (zf := zf) (w := w) (k := ke + 7) hT b1 p0
    have fl := SY_st hT z d2 d3 d4
    have op : OPR cx F N q h s g ts h1 (stS s (g 0)) g ts := OPR_0 (Or.inr fl) (fun _ => z) d4 rF_st rfl rfl rfl rfl rfl rfl (Nat.le_refl _)
    have j1 := AJ_keep op (Or.inl z) hbl (by omega) j
    obtain ⟨b, h4, s4, g4, ts4, ks4, cap4, e1, e2, e3, e4, e5, e6, e7, e8, e9⟩ := x_ar1 hT hA IH hn hg0 hp0 hbl (OPA_op a op) (by omega) (by omega) j1
    have bf : b = false := by
      cases b with
      | false => rfl
      | true => exact (sy_no (e7 (e6 rfl)) fl).elim
    subst bf
    obtain ⟨M', rfl⟩ : ∃ M', M = M' + 1 := ⟨M - 1, by omega⟩
    obtain ⟨M2', rfl⟩ : ∃ M2', M2 = M2' + 1 := ⟨M2 - 1, by omega⟩
    have res := x_are (L := L) (xs := xs) (zf := zf) (w := w) (ke := ke) (kr := kr) (A := A) (i1 := i1) hT hn hbl e3 (by simp) e4 (fun u => (sy_no (e7 u) fl).elim) (by omega) M' M2' (Int32.ofNat ks.length + 1) (Int32.ofNat (lst ks4))
    have k6 : ks.length = 6 := by omega
    have ce : b134_28 L xs zf (dM L xs zf w (ke + 8)) w (M' + 1 + 1) (some (cx 7)) (some p) (some (cx 14)) i1 1 (Int32.ofNat ks.length) h = b134_28 L xs zf (dM L xs zf w (ke + 8)) w (M' + 1) (some (cx 7)) (some p) (some (cx 14)) i1 0 (Int32.ofNat ks.length + 1) h4 := by
      rw [b134_28, if_neg (by decide), k6, if_neg (by decide), if_neg (by decide), c_in p0]
      show ((dcV L xs (dM L xs zf w (ke + 8)) 95 [6] (some (cx 0)) [] h).bind dxV).bind _ = _
      rw [c_rv p0, d1]
      exact e1 _ _
    have re : s324_31 (rM w (kr + 3)) w (M2' + 1 + 1) (Int32.ofNat n) i1 1 (Int32.ofNat (lst ks)) s = s324_31 (rM w (kr + 3)) w (M2' + 1) (Int32.ofNat n) i1 0 (Int32.ofNat (lst ks4)) s4 := by
      rw [s324_31, if_neg (by decide), nA (q := 52) (by omega) (by omega), x52, k6]
      show ((rM w (kr + 3) 304 [.ref 36] s).bind rxV).bind _ = _
      rw [q304 (k := kr + 1) a1 c1 (by omega)]
      exact e2 _
    rw [ce, re]
    exact res
  | succ r ih =>
    intro ks cap h s g ts M M2 hr hM hM2 a z j
    obtain ⟨⟨p0, ⟨a1, a2, a3, a4⟩, rt, ch, ⟨c1, c2, c3, c4⟩, b1, b2, b3, b4⟩, g6⟩ := id z
    have hT1 := hT.1
    have ag := a.2.2.2.2.2.1
    obtain ⟨X, x1, _⟩ := j.2.2.2.2.2 z
    have x52 : s.2.1 52 n = Int32.ofNat ks.length := x1.1 52 (by omega) (by omega)
    obtain ⟨b, h4, s4, g4, ts4, ks4, cap4, e1, e2, e3, e4, e5, e6, e7, e8, e9⟩ := x_ar1 hT hA IH hn hg0 hp0 hbl a (by omega) (by omega) j
    obtain ⟨M', rfl⟩ : ∃ M', M = M' + 1 := ⟨M - 1, by omega⟩
    obtain ⟨M2', rfl⟩ : ∃ M2', M2 = M2' + 1 := ⟨M2 - 1, by omega⟩
    have ne6 : mx_f2 .ne (Int32.ofNat ks.length) 6 = true := by
      rw [f2_ne]
      apply decide_eq_true
      intro u
      have u2 := congrArg Int32.toInt u
      rw [of_int (by omega), show (6 : Int32).toInt = 6 from by decide] at u2
      omega
    have ce : b134_28 L xs zf (dM L xs zf w (ke + 8)) w (M' + 1 + 1) (some (cx 7)) (some p) (some (cx 14)) i1 1 (Int32.ofNat ks.length) h = b134_28 L xs zf (dM L xs zf w (ke + 8)) w (M' + 1) (some (cx 7)) (some p) (some (cx 14)) i1 (rd_01 b) (Int32.ofNat ks4.length) h4 := by
      rw [b134_28, if_neg (by decide), if_neg (by rw [f2_gt, of_int (by omega), show (6 : Int32).toInt = 6 from by decide]; simp; omega), if_pos ne6, e1 _ _, e5, show Int32.ofNat ks.length + 1 = Int32.ofNat (ks.length + 1) from of_add ks.length 1]
    have re : s324_31 (rM w (kr + 3)) w (M2' + 1 + 1) (Int32.ofNat n) i1 1 (Int32.ofNat (lst ks)) s = s324_31 (rM w (kr + 3)) w (M2' + 1) (Int32.ofNat n) i1 (rd_01 b) (Int32.ofNat (lst ks4)) s4 := by
      rw [s324_31, if_neg (by decide), nA (q := 52) (by omega) (by omega), x52]
      show (if mx_f2 .ne (Int32.ofNat ks.length) 6 = true then _ else _) = _
      rw [if_pos ne6]
      exact e2 _
    rw [ce, re]
    cases b with
    | false => exact x_are (L := L) (xs := xs) (zf := zf) (w := w) (ke := ke) (kr := kr) (A := A) (i1 := i1) hT hn hbl e3 (by simp) e4 (fun u => by omega) (by omega) M' M2' (Int32.ofNat ks4.length) (Int32.ofNat (lst ks4))
    | true => exact ih ks4 cap4 h4 s4 g4 ts4 M' M2' (by omega) (by omega) (by omega) (OPA_le e3 (by simp) (by simp; omega)) (e6 rfl) e4
/-- arguments -/
theorem x_args (hT : TF cx F N) (hw : 2001 ≤ w) (hA : 2 ≤ A ∧ A ≤ 2000) (IH : IHx L xs zf w cx F N q A (ke + 8) (kr + 3) 123 320 (i1 + 1)) (z : SY cx F N q h s g ts ∨ FLT cx F N q h s g ts) (hg : g 6 ≤ 2100) (np : nW h p) (e11 : fd h 12 p 11 = some .null) (hn : n < g 4) (on : SY cx F N q h s g ts → onR s n R J ∧ R 45 = 0 ∧ R 52 = 0) : ARS L xs cx F N q A R J (fun j => fd h 12 p j) p n h s g ts (dM L xs zf w (ke + 9) 134 [.ref (cx 7), .ref p, .ref (cx 14), .int i1] h) (rM w (kr + 4) 324 [.ref 36, .int (Int32.ofNat n), .int i1] s) := by
  obtain ⟨h1, s1, g1, e1, e2, op1, n1, w1, s1e, y11, y12, y13, y14, y15, y16⟩ := op_need (L := L) (xs := xs) (zf := zf) (w := w) (k := ke + 4) (k2 := kr) hT P40 z
  obtain ⟨v0, p0⟩ := op_pC z
  have hbl := sy_cx z
  have hpl := nW_lt np
  have nn := nW_op z op1 np
  have nl := n_lt hT z
  have l1 := w1.2.1
  have yy1 := w1.2.2
  obtain ⟨w', rfl⟩ : ∃ w', w = w' + 1 := ⟨w - 1, by omega⟩
  rcases op1.1 with y | y
  · obtain ⟨⟨p1, ⟨a1, a2, a3, a4⟩, rt, ch, ⟨c1, c2, c3, c4⟩, b1, b2, b3, b4⟩, g6⟩ := id y
    have hT1 := hT.1
    obtain ⟨⟨f5, _, tr⟩, _⟩ := hT.2.2 (g1 0) b1
    have z0 := (op1.2.1 y).1
    have tk := n1 y
    have aa := OPA_tok (p := p) (n := n) (OPA_refl z) op1 w1 tk.2 y12 y16
    have onn : onR s1 n (RR true R 0 0) J := by
      obtain ⟨o1, o2, o3⟩ := on z0
      have o4 := onR_keep op1 y hn o1
      refine ⟨fun r h1 h2 => ?_, o4.2⟩
      rw [o4.1 r h1 h2]
      unfold RR
      by_cases r45 : r = 45
      · rw [if_pos r45, r45, o2]
      · rw [if_neg r45]
        by_cases r52 : r = 52
        · rw [if_pos ⟨rfl, r52⟩, r52, o3]
          rfl
        · rw [if_neg (fun u => r52 u.2)]
    have j1 : AJ L xs (0, A / 20 + 1) cx F N q true R J (fun j => fd h 12 p j) p n h g h1 s1 g1 ts [] 0 := ⟨nn.1, fun j _ => nn.2 j, Or.inl ⟨(nn.2 11).trans e11, rfl, rfl⟩, fun a ha => (List.not_mem_nil ha).elim, fun a ha => (List.not_mem_nil ha).elim, fun _ => ⟨0, onn, rfl, fun l hl => KS_nil⟩⟩
    have q10 := q310 (w := w' + 1) (k := kr + 2) 41 a1 c1 (by omega)
    rw [rt.1, rt.2.2.1] at q10
    have toC : ∀ b : Bool, (ctk cx F (g1 0) = 8 ↔ b = false) → dM L xs zf (w' + 1) (ke + 9) 134 [.ref (cx 7), .ref p, .ref (cx 14), .int i1] h = b134_28 L xs zf (dM L xs zf (w' + 1) (ke + 8)) (w' + 1) (w' + 1) (some (cx 7)) (some p) (some (cx 14)) i1 (rd_01 b) 0 h1 := by
      intro b hb
      rw [e134]
      show b134_0 L xs zf (dM L xs zf (w' + 1) (ke + 8)) (w' + 1) (some (cx 7)) (some p) (some (cx 14)) i1 h = _
      unfold b134_0
      rw [c_pv p0, e1]
      show (dgR L xs h1 0 [8] (some (cx 7))).bind _ = _
      rw [c_in p1]
      show (dgI L xs h1 6 [6] (some (cx 0))).bind _ = _
      rw [c_I p1 6 (by omega), vS_6]
      cases b with
      | false =>
        show (if mx_f2 .eq (ctk cx F (g1 0)) 8 = true then _ else _) = _
        rw [hb.mpr rfl]
        rfl
      | true =>
        show (if mx_f2 .eq (ctk cx F (g1 0)) 8 = true then _ else _) = _
        rw [if_neg (show ¬ mx_f2 .eq (ctk cx F (g1 0)) 8 = true from fun u => absurd (hb.mp (of_decide_eq_true u)) (by decide))]
        rfl
    have toR : ∀ b : Bool, (ctk cx F (g1 0) = 8 ↔ b = false) → rM (w' + 1) (kr + 4) 324 [.ref 36, .int (Int32.ofNat n), .int i1] s = s324_31 (rM (w' + 1) (kr + 3)) (w' + 1) (w' + 1) (Int32.ofNat n) i1 (rd_01 b) 0 s1 := by
      intro b hb
      rw [y324]
      show s324_0 (rM (w' + 1) (kr + 3)) (w' + 1) (Int32.ofNat n) i1 s = _
      unfold s324_0
      rw [e2]
      show (if mx_f1 .ne (s1.1 57) = true then _ else _) = _
      rw [a1, if_neg (by decide)]
      cases b with
      | false =>
        rw [decide_eq_true ((sg_iff tr P41).mpr (hb.mpr rfl))] at q10
        rw [q10]
        rfl
      | true =>
        rw [decide_eq_false (fun u => absurd (hb.mp ((sg_iff tr P41).mp u)) (by decide))] at q10
        rw [q10]
        rfl
    by_cases t8 : ctk cx F (g1 0) = 8
    · rw [toC false ⟨fun _ => rfl, fun _ => t8⟩, toR false ⟨fun _ => rfl, fun _ => t8⟩]
      exact x_are (L := L) (xs := xs) (zf := zf) (w := w' + 1) (ke := ke) (kr := kr) (A := A) (i1 := i1) hT hn hbl aa (by omega) j1 (fun _ => by simp) (by omega) w' w' 0 0
    · rw [toC true ⟨fun u => absurd u t8, fun u => absurd u (by decide)⟩, toR true ⟨fun u => absurd u t8, fun u => absurd u (by decide)⟩]
      exact x_arl hT hA IH hn nl.2.2.1 hpl.1 hbl 6 [] 0 h1 s1 g1 ts w' w' rfl (by omega) (by omega) (OPA_le aa (by omega) (by simp)) y j1
  · obtain ⟨⟨v, p1, r⟩, h57, rt, ⟨pt, vr, ch⟩, cs, b⟩ := id y
    have hT1 := hT.1
    obtain ⟨h2, pt', d1, d2, d3, d4, d5, d6, d7⟩ := z_argt (L := L) (xs := xs) (zf := zf) (w := w' + 1) (k := ke) (by omega) ⟨p1, r, ch⟩ nn.1 ((nn.2 11).trans e11) i1
    have fl : FLT cx F N q h2 s1 (gu g1 6 (g1 6 + 13)) ts := by
      refine ⟨⟨v, d2.1, r⟩, h57, rt, ⟨pt', vr, CH_g (g := g1) rfl rfl rfl d2.2.2⟩, cs, ?_⟩
      show g1 0 ≤ cx 16 ∧ ts.length ≤ g1 0 + (g1 6 + 13) ∧ g1 4 ≤ g1 0 + 2 + (g1 6 + 13)
      omega
    have og := op1.2.2.2.2.2.1
    have o7 := op1.2.2.2.2.2.2.1
    have o8 := op1.2.2.2.2.2.2.2.1
    have o9 := op1.2.2.2.2.2.2.2.2
    refine ⟨h2, s1, gu g1 6 (g1 6 + 13), ts, [], 0, ?_, ?_, ⟨Or.inr fl, fun u => (sy_no u fl).elim, ?_, op1.2.2.2.1, op1.2.2.2.2.1, ?_⟩, ?_, d3, fun j hj => (d4 j hj).trans (nn.2 j), fun u => (sy_no u fl).elim⟩
    · rw [e134]
      show b134_0 L xs zf (dM L xs zf (w' + 1) (ke + 8)) (w' + 1) (some (cx 7)) (some p) (some (cx 14)) i1 h = _
      unfold b134_0
      refine bse (a := h1) (by rw [c_pv p0, e1]; rfl) ?_
      have i6 := c_I (L := L) (xs := xs) p1 6 (by omega)
      rw [r.2.1] at i6
      exact bse (c_in p1) (bse i6 (ifn (by decide) d1))
    · rw [y324]
      show s324_0 (rM (w' + 1) (kr + 3)) (w' + 1) (Int32.ofNat n) i1 s = _
      unfold s324_0
      refine bse (a := s1) (by rw [e2]; rfl) (ift (ne1 h57) ?_)
      unfold s324_26 s324_27
      rw [s324_31]
      exact ift (by decide) (bse (a := s1) (by rw [z308 (k := kr) 41 h57 cs.1 (by omega)]; rfl) rfl)
    · refine fr_trans (fr_mono op1.2.2.1 (fun _ _ u => Or.inl u)) d5 (fun y hy u => ?_)
      rcases u with u | u | u
      · exact Or.inl (Or.inl u)
      · exact Or.inl (Or.inr (Or.inl u))
      · exact Or.inr u
    · show (g 0 ≤ g1 0 ∧ g 4 ≤ g1 4) ∧ h2.length + 10 * g 0 + g 6 + 0 ≤ h.length + 10 * g1 0 + (g1 6 + 13) ∧ zh h2 + 4 * g 2 + 80 * g 0 + 8 * g 6 + 0 ≤ zh h + 4 * g1 2 + 80 * g1 0 + 8 * (g1 6 + 13) + 0 ∧ g1 4 + g 0 + g 6 ≤ g 4 + g1 0 + (g1 6 + 13)
      omega
    · show g1 6 + 13 ≤ A ∨ g1 6 + 13 ≤ g 6 + 13
      omega
end AH
