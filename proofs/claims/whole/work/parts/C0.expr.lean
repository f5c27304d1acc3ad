/-! AN EXPRESSION OUT OF ITS TERMS. -/
section EX
variable {L : Nat} {xs : Nat → Int32} {zf : Value} {w k i : Nat} {cx : Nat → Nat} {F : Nat → Nat → Int32} {N : Nat → Int64} {q : List Value} {h h' h1 h2 : rm_H} {s s' s1 s2 : rS} {g g' g1 g2 : Nat → Nat} {ts ts' ts1 ts2 : List Nat} {v : Nat → Int32} {A ke kr mc mr : Nat} {i1 : Int32}
theorem IHx_mono (a b : Nat) (IH : IHx L xs zf w cx F N q A ke kr mc mr i1) : IHx L xs zf w cx F N q A (ke + a) (kr + b) mc mr i1 := by
  intro j j2 h s g ts z hg
  have := IH (a + j) (b + j2) h s g ts z hg
  rw [← Nat.add_assoc, ← Nat.add_assoc] at this
  exact this
theorem EXR_le {cl A2 : Nat} {rc : Option dR} {rr : Option rA} (e : EXR cl L xs cx F N q A h s g ts rc rr) (hA : A ≤ A2) : EXR cl L xs cx F N q A2 h s g ts rc rr := by
  obtain ⟨h', s', g', ts', x, n, e1, e2, e3, e4, e5⟩ := e
  exact ⟨h', s', g', ts', x, n, e1, e2, e3, by omega, e5.1, e5.2.1, e5.2.2.1, fun y => ⟨(e5.2.2.2 y).1, (e5.2.2.2 y).2.1, NR_lz (e5.2.2.2 y).2.2 (by omega)⟩⟩
theorem z320t (hw : 1 ≤ w) (h1 : s.1 57 = 1) (i : Int32) : s320_10 (rM w (k + 2)) w i s = some (some (.int 0), s) := by
  obtain ⟨w', rfl⟩ : ∃ w', w = w' + 1 := ⟨w - 1, by omega⟩
  unfold s320_10
  refine bse (a := ((0 : Int32), s)) (by rw [z321 (k := k) (by omega) h1]; rfl) ?_
  rw [s320_16]
  exact bse (a := ((0 : Int32), s)) (by rw [z325 (k := k) h1]; rfl) (ift (show mx_f1 .eq 0 = true by decide) rfl)
/-- too deep -/
theorem x_deep (hT : TF cx F N) (hw : 1 ≤ w) (d : ¬ mx_f2 .le i1 24 = true) : IHx L xs zf w cx F N q A 6 3 123 320 i1 := by
  intro j j2 h s g ts z hg
  rcases z with z | z
  · obtain ⟨⟨p, ⟨a1, a2, a3, a4⟩, rt, ch, ⟨c1, c2, c3, c4⟩, b1, b2, b3, b4⟩, g6⟩ := id z
    have hl : g 0 ≤ 2000 := by have := hT.1; omega
    obtain ⟨⟨f5, _, tr⟩, _⟩ := hT.2.2 (g 0) b1
    obtain ⟨h2, v, d1, d2, d3, d4⟩ := y_ref (L := L) (xs := xs) (zf := zf) (w := w) (k := 4 + j) hT b1 p
    refine EX_new (s' := stS s (g 0)) (wh := 1) (pl := v 7) d2 ?_ (CH_r p d4 ch) rfl rt ⟨c1, c2, c3, c4⟩ (by omega) (fr_mono d4.1 (fun _ _ u => Or.inl u)) d4.2.1 d4.2.2 rF_st ?_ ?_
    · show rfd v (s.2.1 41 (g 0))
      rw [rt.2.1, f5]
      exact d3
    · rw [show 6 + j = 4 + j + 1 + 1 from by omega, e123]
      show b123_0 L xs zf (dM L xs zf w (4 + j + 1)) w (some (cx 7)) (some (cx 14)) i1 h = _
      unfold b123_0
      refine ifn d (bse (c_in p) (bse (a := h2) (by rw [c_rv p, d1]; rfl) ?_))
      exact c_mk d2 1 (nd_new (k := 4 + j) 1 (v 7)) rfl
    · rw [show 3 + j2 = j2 + 2 + 1 from by omega, y320]
      show s320_0 (rM w (j2 + 2)) w i1 s = _
      unfold s320_0
      exact ifn d (bse (a := stS s (g 0)) (by rw [q304 (k := j2) a1 c1 hl]; rfl) (z320t (k := j2) hw rfl i1))
  · obtain ⟨⟨v, p, r⟩, h57, rt, ⟨pt, vr, ch⟩, cs, b⟩ := z
    have hl : g 0 ≤ 2000 := by have := hT.1; omega
    obtain ⟨h1, pt', a1, a2, a3, a4, a5⟩ := z_expr (L := L) (xs := xs) (zf := zf) (w := w) (k := j) hw ⟨p, r, ch⟩ i1
    refine EX_new (wh := 1) (pl := v 7) a2.1 r a2.2.2 h57 rt cs b a3 a4 a5 (rF_refl _) ?_ ?_
    · rw [show 6 + j = j + 6 from by omega]; exact a1
    · rw [show 3 + j2 = j2 + 3 from by omega]; exact z320 (k := j2) hw h57 cs.1 hl i1
/-- an expression -/
theorem x_expr (hT : TF cx F N) (hA : 2 ≤ A ∧ A ≤ 2000) (hw : 2001 ≤ w) (d : mx_f2 .le i1 24 = true) (IH : IHx L xs zf w cx F N q A (ke + 3) (kr + 2) 124 321 i1) : IHx L xs zf w cx F N q (A + 20) (ke + 4) (kr + 3) 123 320 i1 := by
  intro j j2 h s g ts z hg
  obtain ⟨h1, s1, g1, ts1, x, m, ec, er, op1, sl, nx, xl, nl, nr⟩ := IH j j2 h s g ts z hg
  obtain ⟨w', rfl⟩ : ∃ w', w = w' + 1 := ⟨w - 1, by omega⟩
  have IH2 : IHx L xs zf (w' + 1) cx F N q A (ke + j + 3) (kr + j2 + 2) 124 321 i1 := by
    have := IHx_mono j j2 IH
    rw [show ke + 3 + j = ke + j + 3 from by omega, show kr + 2 + j2 = kr + j2 + 2 from by omega] at this
    exact this
  have hT1 := hT.1
  obtain ⟨v, p⟩ := op_pC z
  have res := x_ops (k := 0) (hb := h) (sb := s) (gb := g) (tb := ts) hT hA IH2 2000 h1 s1 g1 ts1 x m 0 w' w' (by omega) (by omega) (by omega) (by omega) op1 sl hg nx xl nl (fun y => ⟨(nr y).1, (nr y).2.1, NR_lz (nr y).2.2 (by omega)⟩)
  obtain ⟨h9, s9, g9, ts9, x9, m9, r1, r2, r3⟩ := res
  refine ⟨h9, s9, g9, ts9, x9, m9, ?_, ?_, r3⟩
  · rw [show ke + 4 + j = ke + j + 3 + 1 from by omega, e123]
    show b123_0 L xs zf (dM L xs zf (w' + 1) (ke + j + 3)) (w' + 1) (some (cx 7)) (some (cx 14)) i1 h = _
    unfold b123_0
    refine ift d (bse (a := (some x, h1)) (by rw [c_pv p, va_s, show ke + j + 3 = ke + 3 + j from by omega, ec]; rfl) ?_)
    exact r1
  · rw [show kr + 3 + j2 = kr + j2 + 2 + 1 from by omega, y320]
    show s320_0 (rM (w' + 1) (kr + j2 + 2)) (w' + 1) i1 s = _
    unfold s320_0 s320_10
    refine ift d (bse (a := (Int32.ofNat m, s1)) (by rw [show kr + j2 + 2 = kr + 2 + j2 from by omega, er]; rfl) ?_)
    exact r2
end EX
