/-! TERMS: what stands behind a primary. -/
section TM
variable {L : Nat} {xs : Nat → Int32} {zf : Value} {w k k2 i : Nat} {cx : Nat → Nat} {F : Nat → Nat → Int32} {N : Nat → Int64} {q : List Value} {hb h h' h1 h2 : rm_H} {sb s s' s1 s2 : rS} {gb g g' g1 g2 : Nat → Nat} {tb ts ts' ts1 ts2 : List Nat} {v v1 v2 : Nat → Int32} {A ke kr n m x nm p : Nat} {i1 : Int32} {b1 b2 bp : Bool}
theorem NR_10 {zz d lo hi pl ph nm : Nat} (rg : 1 ≤ lo ∧ lo ≤ n ∧ n < hi ∧ pl ≤ p ∧ p < ph) (f0 : fd h 12 p 0 = some (.int (Int32.ofNat 10))) (r44 : s.2.1 44 n = Int32.ofNat (wK 10)) (f1 : fd h 12 p 1 = some (.int (s.2.1 50 n))) (hk : kd h s (NR L xs h s (0, zz + 1) d) lo hi pl ph n p (6, 45, true)) (f2 : fd h 12 p 2 = some (.ref nm)) (hn : nS L xs h nm (s.2.2 56 n)) (f3 : fd h 12 p 3 = some (.int (s.2.1 51 n))) (f12 : (fd h 12 p 12).isSome = true) : NR L xs h s (0, zz + 1) (d + 1) lo hi pl ph n p := by
  refine ⟨rg, 10, ⟨by omega, by omega, f0, r44, f1, Or.inl ⟨rfl, by omega⟩, fun z => by omega⟩, fun z => by omega, fun c hc => ?_, fun z => by omega, fun z => by omega, fun z => by omega, fun _ => ⟨⟨nm, f2, hn⟩, f3⟩, fun z => by omega, fun z => by omega, fun z => by omega, fun z => by omega, fun z => by omega, fun z => by omega, fun z => by omega, f12⟩
  have : c = (6, 45, true) := by simpa [kids] using hc
  subst this
  exact hk
theorem NR_11 {zz d lo hi pl ph nm W : Nat} {es : List Nat} (hW : W = 11 ∨ W = 12) (rg : 1 ≤ lo ∧ lo ≤ n ∧ n < hi ∧ pl ≤ p ∧ p < ph) (f0 : fd h 12 p 0 = some (.int (Int32.ofNat W))) (r44 : s.2.1 44 n = Int32.ofNat (wK W)) (f1 : fd h 12 p 1 = some (.int (s.2.1 50 n))) (hk : kd h s (NR L xs h s (0, zz + 1) d) lo hi pl ph n p (6, 46, true)) (e1 : pts h pl ph p es) (e2 : sq s (NRq L xs h s (0, zz)) hi ph n p (n + 1) (p + 1) es (s.2.1 45 n)) (e3 : s.2.1 52 n = Int32.ofNat es.length) (e4 : es.length ≤ 6) (f2 : fd h 12 p 2 = some (.ref nm)) (hn : nS L xs h nm (s.2.2 56 n)) (f3 : fd h 12 p 3 = some (.int (s.2.1 51 n))) (f12 : (fd h 12 p 12).isSome = true) : NR L xs h s (0, zz + 1) (d + 1) lo hi pl ph n p := by
  refine ⟨rg, W, ⟨by omega, by omega, f0, r44, f1, Or.inl ⟨rfl, by omega⟩, fun z => by omega⟩, fun z => by omega, fun c hc => ?_, fun z => by omega, fun _ => ⟨es, e1, e2, e3, e4⟩, fun z => by omega, fun _ => ⟨⟨nm, f2, hn⟩, f3⟩, fun z => by omega, fun z => by omega, fun z => by omega, fun z => by omega, fun z => by omega, fun z => by omega, fun z => by omega, f12⟩
  have : c = (6, 46, true) := by
    rcases hW with e | e <;> subst e <;> simpa [kids] using hc
  subst this
  exact hk
/-- which node it is -/
def tmW (b2 bp fl : Bool) (W : Nat) : Prop := (b2 = true ∧ fl = false ∧ W = 12) ∨ (b2 = false ∧ bp = false ∧ fl = true ∧ W = 10) ∨ (b2 = false ∧ bp = true ∧ fl = false ∧ W = 11)
theorem tm_ex (b2 bp : Bool) : ∃ fl W, tmW b2 bp fl W := by
  cases b2
  · cases bp
    · exact ⟨true, 10, Or.inr (Or.inl ⟨rfl, rfl, rfl, rfl⟩)⟩
    · exact ⟨false, 11, Or.inr (Or.inr ⟨rfl, rfl, rfl, rfl⟩)⟩
  · exact ⟨false, 12, Or.inl ⟨rfl, rfl, rfl⟩⟩
/-- the class at a dot or '!' -/
theorem c_tm {fl : Bool} {W i4 M : Nat} {pn : Int32} (hi4 : i4 < 2000) (p1 : pC h cx F v1) (q1 : v1 6 = 12 ↔ b1 = true) (p2 : pC h cx F v2) (q2 : v2 6 = 13 ↔ b2 = true) (hb : b1 = true ∨ b2 = true) (e92 : dM L xs zf w k 92 [.ref (cx 0)] h = some (none, h1)) (ph1 : pC h1 cx F v) (hv : v 7 = pn) (e94 : dM L xs zf w k 94 [.ref (cx 7), .int 2] h1 = some (some (.ref nm), h2)) {v3 : Nat → Int32} (ph2 : pC h2 cx F v3) (q3 : v3 6 = 7 ↔ bp = true) (hW : tmW b2 bp fl W) : b124_10 L xs zf (dM L xs zf w k) w (M + 1) (some (cx 7)) (some (cx 14)) i1 (some x) (Int32.ofNat i4) h = b124_131 L xs zf (dM L xs zf w k) w (b124_10 L xs zf (dM L xs zf w k) w M) (some (cx 7)) (some (cx 14)) i1 (some x) (Int32.ofNat i4) pn (some nm) (rd_01 fl) (Int32.ofNat W) (some (cx 7)) h2 := by
  have st : b124_10 L xs zf (dM L xs zf w k) w (M + 1) (some (cx 7)) (some (cx 14)) i1 (some x) (Int32.ofNat i4) h = b124_42 L xs zf (dM L xs zf w k) w (b124_10 L xs zf (dM L xs zf w k) w M) (some (cx 7)) (some (cx 14)) i1 (some x) (Int32.ofNat i4) h := by
    rw [b124_10, if_neg (by rw [f2_ge, of_int (by omega), show (2000 : Int32).toInt = 2000 from by decide]; simp; omega), c_in p1]
    show (dgI L xs h 6 [6] (some (cx 0))).bind _ = _
    rw [c_I p1 6 (by omega)]
    show (if mx_f2 .eq (v1 6) 12 = true then _ else _) = _
    by_cases e : v1 6 = 12
    · rw [if_pos (show mx_f2 .eq (v1 6) 12 = true from decide_eq_true e)]
    · rw [if_neg (show ¬ mx_f2 .eq (v1 6) 12 = true from fun u => e (of_decide_eq_true u))]
      show (dgI L xs h 6 [6] (some (cx 0))).bind _ = _
      rw [c_I p2 6 (by omega)]
      show (if mx_f2 .ne (v2 6) 13 = true then _ else _) = _
      have b2t : b2 = true := by
        rcases hb with u | u
        · exact absurd (q1.mpr u) e
        · exact u
      rw [q2.mpr b2t]
      rfl
  have st2 : b124_42 L xs zf (dM L xs zf w k) w (b124_10 L xs zf (dM L xs zf w k) w M) (some (cx 7)) (some (cx 14)) i1 (some x) (Int32.ofNat i4) h = b124_59 L xs zf (dM L xs zf w k) w (b124_10 L xs zf (dM L xs zf w k) w M) (some (cx 7)) (some (cx 14)) i1 (some x) (Int32.ofNat i4) (rd_01 b2) h := by
    unfold b124_42
    rw [c_in p2]
    show (dgI L xs h 6 [6] (some (cx 0))).bind _ = _
    rw [c_I p2 6 (by omega)]
    show (if mx_f2 .ne (v2 6) 13 = true then _ else _) = _
    cases b2 with
    | true =>
      rw [q2.mpr rfl]
      rfl
    | false =>
      rw [if_pos (show mx_f2 .ne (v2 6) 13 = true from by rw [f2_ne]; exact decide_eq_true (fun u => absurd (q2.mp u) (by decide)))]
      rfl
  rw [st, st2]
  unfold b124_59
  rw [c_in p1]
  show ((dcV L xs (dM L xs zf w k) 92 [6] (some (cx 0)) [] h).bind dxV).bind _ = _
  rw [c_rv p1, e92]
  show (dgR L xs h1 0 [8] (some (cx 7))).bind _ = _
  rw [c_in ph1]
  show (dgI L xs h1 7 [6] (some (cx 0))).bind _ = _
  rw [c_I ph1 7 (by omega), hv]
  show ((dcV L xs (dM L xs zf w k) 94 [8] (some (cx 7)) [.int 2] h1).bind dxR).bind _ = _
  rw [c_pv ph1, e94]
  rcases hW with ⟨u1, u2, u3⟩ | ⟨u1, u2, u3, u4⟩ | ⟨u1, u2, u3, u4⟩
  · subst u1; subst u2; subst u3
    rfl
  · subst u1; subst u2; subst u3; subst u4
    show (dgR L xs h2 0 [8] (some (cx 7))).bind _ = _
    rw [c_in ph2]
    show (dgI L xs h2 6 [6] (some (cx 0))).bind _ = _
    rw [c_I ph2 6 (by omega)]
    show (if mx_f2 .eq (v3 6) 7 = true then _ else _) = _
    rw [if_neg (show ¬ mx_f2 .eq (v3 6) 7 = true from fun u => absurd (q3.mp (of_decide_eq_true u)) (by decide))]
    rfl
  · subst u1; subst u2; subst u3; subst u4
    show (dgR L xs h2 0 [8] (some (cx 7))).bind _ = _
    rw [c_in ph2]
    show (dgI L xs h2 6 [6] (some (cx 0))).bind _ = _
    rw [c_I ph2 6 (by omega)]
    show (if mx_f2 .eq (v3 6) 7 = true then _ else _) = _
    rw [q3.mpr rfl]
    rfl
/-- the reference there -/
theorem r_tm {fl : Bool} {W M t : Nat} (ht : s.1 56 = Int32.ofNat t) (q1 : rM w k 310 [.ref 36, .int 46] s = some (some (.int (rd_01 b1)), s)) (q2 : rM w k 310 [.ref 36, .int 33] s = some (some (.int (rd_01 b2)), s)) (hb : b1 = true ∨ b2 = true) (e7 : rM w k 307 [.ref 36, .int 1] (nxS s t) = some (some (.int (Int32.ofNat (t + 1))), s2)) (q3 : rM w k 310 [.ref 36, .int 40] s2 = some (some (.int (rd_01 bp)), s2)) (hW : tmW b2 bp fl W) : s321_6 (rM w k) w (M + 1) i1 (Int32.ofNat m) s = s321_90 (rM w k) w (s321_6 (rM w k) w M) i1 (Int32.ofNat m) (Int32.ofNat (t + 1)) (rd_01 (!fl)) (Int32.ofNat W) s2 := by
  have st : s321_6 (rM w k) w (M + 1) i1 (Int32.ofNat m) s = s321_24 (rM w k) w (s321_6 (rM w k) w M) i1 (Int32.ofNat m) s := by
    rw [s321_6, q1]
    cases b1 with
    | true => rfl
    | false =>
      have b2t : b2 = true := hb.resolve_left (by decide)
      subst b2t
      show ((rM w k 310 [.ref 36, .int 33] s).bind rxI).bind _ = _
      rw [q2]
      rfl
  rw [st]
  unfold s321_24
  rw [show (rM w k 310 [.ref 36, .int 33] s).bind rxI = some (rd_01 b2, s) from by rw [q2]; rfl, Option.bind_some, pI_nx ht, Option.bind_some, show (rM w k 307 [.ref 36, .int 1] (nxS s t)).bind rxI = some (Int32.ofNat (t + 1), s2) from by rw [e7]; rfl, Option.bind_some]
  rcases hW with ⟨u1, u2, u3⟩ | ⟨u1, u2, u3, u4⟩ | ⟨u1, u2, u3, u4⟩
  · subst u1; subst u2; subst u3
    rfl
  · subst u1; subst u2; subst u3; subst u4
    show ((rM w k 310 [.ref 36, .int 40] s2).bind rxI).bind _ = _
    rw [q3]
    rfl
  · subst u1; subst u2; subst u3; subst u4
    show ((rM w k 310 [.ref 36, .int 40] s2).bind rxI).bind _ = _
    rw [q3]
    rfl
/-- what stands behind a primary, one after another -/
theorem x_terms (hT : TF cx F N) (hw : 2001 ≤ w) (hA : 2 ≤ A ∧ A ≤ 1900) (IH : IHx L xs zf w cx F N q A (ke + 8) (kr + 3) 123 320 (i1 + 1)) : ∀ (K : Nat) (h : rm_H) (s : rS) (g : Nat → Nat) (ts : List Nat) (x m i4 M M2 : Nat), cx 16 - g 0 ≤ K → K ≤ M → K ≤ M2 → i4 ≤ g 0 → OPR cx F N q hb sb gb tb h s g ts → (g 6 ≤ A + 20 ∨ g 6 ≤ gb 6 + 2) → gb 6 ≤ 2200 → nW h x → 21 + hb.length ≤ x → m < g 4 → (SY cx F N q h s g ts → gb 0 < g 0 ∧ s.2.1 48 m = 0 ∧ NR L xs h s (0, (A + 20) / 20 + 1) (g 4 - gb 4) (gb 4) (g 4) (21 + hb.length) (21 + h.length) m x) → EXR 0 L xs cx F N q (A + 20) hb sb gb tb (b124_10 L xs zf (dM L xs zf w (ke + 9)) w (M + 1) (some (cx 7)) (some (cx 14)) i1 (some x) (Int32.ofNat i4) h) (s321_6 (rM w (kr + 4)) w (M2 + 1) i1 (Int32.ofNat m) s) := by
  intro K
  induction K with
  | zero =>
    intro h s g ts x m i4 M M2 hK hM hM2 hi4 a sl hg6 nx xl nl nr
    obtain ⟨b1, v1, p1, q1, r1, t1, f1⟩ := op_at (w := w) hT P46 a.1
    obtain ⟨b2, v2, p2, q2, r2, t2, f2⟩ := op_at (w := w) hT P33 a.1
    have no : ∀ T : Int32, (SY cx F N q h s g ts → T ≠ 0 → T ≠ 1 → ¬ ctk cx F (g 0) = T) := by
      intro T y h0 h1 e
      have := w_pass hT y T e h0 h1
      omega
    have f1' : b1 = false := by
      rcases a.1 with y | y
      · cases b1 with
        | false => rfl
        | true => exact absurd ((t1 y).mpr rfl) (no 12 y (by decide) (by decide))
      · exact f1 y
    have f2' : b2 = false := by
      rcases a.1 with y | y
      · cases b2 with
        | false => rfl
        | true => exact absurd ((t2 y).mpr rfl) (no 13 y (by decide) (by decide))
      · exact f2 y
    subst f1'
    subst f2'
    refine ⟨h, s, g, ts, x, m, ?_, ?_, a, sl, nx, xl, nl, nr⟩
    · rw [b124_10]
      by_cases d : mx_f2 .ge (Int32.ofNat i4) 2000 = true
      · exact ift d rfl
      · exact ifn d (bse (c_in p1) (bse (c_I p1 6 (by omega)) (ifn (fun u => absurd (q1.mp (of_decide_eq_true u)) (by decide)) (bse (c_in p2) (bse (c_I p2 6 (by omega)) (ift (by rw [f2_ne]; exact decide_eq_true (fun u => absurd (q2.mp u) (by decide))) rfl))))))
    · rw [s321_6]
      exact bse (a := (rd_01 false, s)) (by rw [r1 (kr + 3)]; rfl) (ifn (show ¬ mx_f1 .ne (rd_01 false) = true by decide) (bse (a := (rd_01 false, s)) (by rw [r2 (kr + 3)]; rfl) (ift (show mx_f1 .eq (rd_01 false) = true by decide) rfl)))
  | succ K ih =>
    intro h s g ts x m i4 M M2 hK hM hM2 hi4 a sl hg6 nx xl nl nr
    obtain ⟨b1, v1, p1, q1, r1, t1, f1⟩ := op_at (w := w) hT P46 a.1
    obtain ⟨b2, v2, p2, q2, r2, t2, f2⟩ := op_at (w := w) hT P33 a.1
    by_cases hbb : b1 = true ∨ b2 = true
    · have y : SY cx F N q h s g ts := by
        rcases a.1 with y | y
        · exact y
        · have := f1 y
          have := f2 y
          subst b1
          subst b2
          exact absurd hbb (by decide)
      obtain ⟨⟨p0, ⟨a1, a2, a3, a4⟩, rt, ch, ⟨c1, c2, c3, c4⟩, b1', b2', b3', b4'⟩, g60⟩ := id y
      obtain ⟨v0, v48, vN⟩ := nr y
      have rg := NR_rg _ _ _ _ _ _ _ _ vN
      have hT1 := hT.1
      have hlt : g 0 < cx 16 := by
        rcases hbb with u | u
        · exact w_pass hT y 12 ((t1 y).mpr u) (by decide) (by decide)
        · exact w_pass hT y 13 ((t2 y).mpr u) (by decide) (by decide)
      obtain ⟨h1, d1, d2, d3⟩ := y_adv (L := L) (xs := xs) (zf := zf) (w := w) (k := ke + 6) hT hlt p0
      have sy1 := SY_nx y hlt d2 d3
      have op1 : OPR cx F N q h s g ts h1 (nxS s (g 0)) (gu g 0 (g 0 + 1)) ts := OPR_0 (Or.inl sy1) (fun _ => y) d3 rF_nx rfl rfl rfl rfl rfl rfl (by rw [gu_eq]; omega)
      have l1 := d3.2.1
      have yy1 := d3.2.2
      have oc1 : OPC cx F N q 10 80 h s g ts h1 (nxS s (g 0)) (gu g 0 (g 0 + 1)) ts := by
        refine ⟨op1, ?_, ?_⟩
        · show h1.length + 10 * g 0 + g 6 + 10 ≤ h.length + 10 * (g 0 + 1) + g 6
          omega
        · show zh h1 + 4 * g 2 + 80 * g 0 + 8 * g 6 + 80 ≤ zh h + 4 * g 2 + 80 * (g 0 + 1) + 8 * g 6
          omega
      have z0 : gu g 0 (g 0 + 1) 0 = g 0 + 1 := rfl
      have z4 : gu g 0 (g 0 + 1) 4 = g 4 := rfl
      have z6 : gu g 0 (g 0 + 1) 6 = g 6 := rfl
      obtain ⟨nm, h2, s2, g2, e1, e2, op2, n2, fr2, s2e, y21, y22, y23, y24, y25, y26⟩ := op_word (L := L) (xs := xs) (zf := zf) (w := w) (k := ke + 1) (k2 := kr + 1) (x := 2) (c := 1) hT (Or.inl ⟨rfl, rfl⟩) (Or.inl sy1)
      have oc2 := OPC_trans oc1 op2
      obtain ⟨bp, v3, p3, q3, r3, t3, f3⟩ := op_at (w := w) hT P40 op2.1
      obtain ⟨fl, W, hW⟩ := tm_ex b2 bp
      have hW3 : W = 10 ∨ W = 11 ∨ W = 12 := by
        rcases hW with u | u | u <;> omega
      have s2e' : s2.2 = s.2 := s2e
      have g20 : g 0 + 1 ≤ g2 0 := op2.2.2.2.2.2.1.1
      have ceq := c_tm (L := L) (xs := xs) (zf := zf) (w := w) (k := ke + 9) (x := x) (i1 := i1) (M := M) (i4 := i4) (pn := cpl cx F (g 0 + 1)) (by omega) p1 q1 p2 q2 hbb d1 d2 rfl e1 p3 q3 hW
      have req := r_tm (w := w) (k := kr + 4) (i1 := i1) (m := m) (M := M2) c1 (r1 (kr + 3)) (r2 (kr + 3)) hbb e2 (r3 (kr + 3)) hW
      have nlt2 := n_lt hT op2.1
      have n10 := n_10 op2.1
      rw [y24, z4] at n10
      have r90 := fun s0 K => r_90 (w := w) (k := kr + 3) (i1 := i1) (s := s2) (n := g 4) (m := m) (i := g 0 + 1) (W := W) (s0 := s0) (K := K) (by omega) n10 (by omega) (by omega)
      obtain ⟨M', rfl⟩ : ∃ M', M = M' + 1 := ⟨M - 1, by omega⟩
      obtain ⟨M2', rfl⟩ : ∃ M2', M2 = M2' + 1 := ⟨M2 - 1, by omega⟩
      have f5 := (hT.2.2 (g 0 + 1) (by omega)).1.1
      have rt2 : s2.2.1 41 (g 0 + 1) = cpl cx F (g 0 + 1) := by rw [s2e', rt.2.1, f5]
      have rtN : s2.2.2 43 (g 0 + 1) = N (g 0 + 1) := by rw [s2e', rt.2.2.2]
      have r50 : s2.2.1 50 m = s.2.1 50 m := by rw [s2e']
      have len2 := op2.2.2.1.1
      have lenb := a.2.2.1.1
      have bg := a.2.2.2.2.2.1
      have blb := sy_cx (Or.inl (a.2.1 y).1)
      cases fl with
      | true =>
        have hW10 : W = 10 := by
          rcases hW with u | u | u
          · exact absurd u.2.1 (by decide)
          · exact u.2.2.2
          · exact absurd u.2.2.1 (by decide)
        subst hW10
        obtain ⟨h3, h4, h5, k1, k2, k3, op5, bk, cp5, fr5, l5, kk⟩ := op_wr (L := L) (xs := xs) (zf := zf) (w := w) (k := ke + 6) (W := 10) (r := 45) (nm := nm) (pn := cpl cx F (g 0 + 1)) (i := g 0 + 1) hT (by omega) (by omega) a y nx xl nl vN oc2 s2e' (by omega) (by omega) g20
        have w0 : gu g2 4 (g 4 + 1) 0 = g2 0 := rfl
        have w4 : gu g2 4 (g 4 + 1) 4 = g 4 + 1 := rfl
        have w6 : gu g2 4 (g 4 + 1) 6 = g2 6 := rfl
        have hl5 := hc_lt cp5
        have res := ih h5 (wrS s2 (g 4) m (g 0 + 1) 10 45) (gu g2 4 (g 4 + 1)) ts (21 + h2.length) (g 4) (i4 + 1) M' M2' (by omega) (by omega) (by omega) (by omega) op5 (by omega) hg6 (nW_of (o := none) cp5 rfl rfl rfl) (by omega) (by omega) (fun u => ?_)
        · have ce : b124_10 L xs zf (dM L xs zf w (ke + 9)) w (M' + 1 + 1) (some (cx 7)) (some (cx 14)) i1 (some x) (Int32.ofNat i4) h = b124_10 L xs zf (dM L xs zf w (ke + 9)) w (M' + 1) (some (cx 7)) (some (cx 14)) i1 (some (21 + h2.length)) (Int32.ofNat (i4 + 1)) h5 := by
            rw [ceq]
            unfold b124_131
            rw [c_pv p3, va_s, k1]
            show (dpF h3 2 [12] (some (21 + h2.length)) (.ref nm)).bind _ = _
            rw [k2]
            show (dpF h4 3 [12] (some (21 + h2.length)) (.int (cpl cx F (g 0 + 1)))).bind _ = _
            rw [k3, show Int32.ofNat (i4 + 1) = Int32.ofNat i4 + 1 from (of_add i4 1).symm]
            rfl
          have re : s321_6 (rM w (kr + 4)) w (M2' + 1 + 1) i1 (Int32.ofNat m) s = s321_6 (rM w (kr + 4)) w (M2' + 1) i1 (Int32.ofNat (g 4)) (wrS s2 (g 4) m (g 0 + 1) 10 45) := by
            rw [req, r90]
            rfl
          rw [ce, re]
          exact res
        · have u2 := bk u
          obtain ⟨KK, k7⟩ := kk u
          have on := wrS_on (s := s2) (n := g 4) (m := m) (i := g 0 + 1) (W := 10) (r := 45) (by omega)
          refine ⟨by omega, by rw [on.1 48 (by omega) (by omega)]; rfl, ?_⟩
          rw [w4]
          obtain ⟨d, hd⟩ : ∃ d, g 4 + 1 - gb 4 = d + 1 := ⟨g 4 - gb 4, by omega⟩
          rw [hd]
          refine NR_10 (nm := nm) ⟨rg.1, by omega, by omega, by omega, by omega⟩ ?_ ?_ ?_ ⟨m, x, gb 4, g 4, 21 + hb.length, 21 + h.length, ?_, ?_, KK.2, NR_le KK.1 (by omega), ?_, fun _ => ⟨k7, by omega, Nat.lt_of_lt_of_le (nW_lt nx).1 (by omega)⟩⟩ ?_ ?_ ?_ (by rw [fd_of cp5]; rfl)
          · rw [fd_of cp5]; rfl
          · rw [on.1 44 (by omega) (by omega)]; rfl
          · rw [fd_of cp5, on.1 50 (by omega) (by omega)]
            show some (Value.int (s.2.1 50 m)) = some (Value.int (s2.2.1 50 m))
            rw [r50]
          · rw [fd_of cp5]; rfl
          · rw [on.1 45 (by omega) (by omega)]; rfl
          · unfold sub; omega
          · rw [fd_of cp5]; rfl
          · rw [on.2, rtN]; exact nS_fr fr5 (n2 u2).2.2
          · rw [fd_of cp5, on.1 51 (by omega) (by omega)]
            show some (Value.int (cpl cx F (g 0 + 1))) = some (Value.int (s2.2.1 41 (g 0 + 1)))
            rw [rt2]
      | false =>
        have hW11 : W = 11 ∨ W = 12 := by
          rcases hW with u | u | u
          · exact Or.inr u.2.2
          · exact absurd u.2.2.1 (by decide)
          · exact Or.inl u.2.2.2
        obtain ⟨h3, h4, h5, k1, k2, k3, op5, bk, cp5, fr5, l5, kk⟩ := op_wr (L := L) (xs := xs) (zf := zf) (w := w) (k := ke + 6) (W := W) (r := 46) (nm := nm) (pn := cpl cx F (g 0 + 1)) (i := g 0 + 1) hT hW3 (by omega) a y nx xl nl vN oc2 s2e' (by omega) (by omega) g20
        have w0 : gu g2 4 (g 4 + 1) 0 = g2 0 := rfl
        have w4 : gu g2 4 (g 4 + 1) 4 = g 4 + 1 := rfl
        have w6 : gu g2 4 (g 4 + 1) 6 = g2 6 := rfl
        have hl5 := hc_lt cp5
        have on := wrS_on (s := s2) (n := g 4) (m := m) (i := g 0 + 1) (W := W) (r := 46) (by omega)
        obtain ⟨h9, s9, g9, ts9, ks, cap, ec, er, oa, sl9, nw9, fd9, jj⟩ := x_args (A := A) (ke := ke) (kr := kr) (p := 21 + h2.length) (n := g 4) hT hw ⟨hA.1, by omega⟩ IH op5.1 (by omega) (nW_of (o := none) cp5 rfl rfl rfl) (by rw [fd_of cp5]; rfl) (by omega) (fun _ => ⟨on, rfl, rfl⟩)
        have fd9 : ∀ j, j ≠ 11 → fd h9 12 (21 + h2.length) j = fd h5 12 (21 + h2.length) j := fd9
        have o9 := oa.2.2.2.2.2.1
        have len9 := oa.2.2.1.1
        obtain ⟨v5, p5⟩ := op_pC op5.1
        have op9 := OPR_OPA op5 oa (by omega) (by omega) (Nat.le_refl _)
        have res := ih h9 s9 g9 ts9 (21 + h2.length) (g 4) (i4 + 1) M' M2' (by omega) (by omega) (by omega) (by omega) op9 (by omega) hg6 nw9 (by omega) (by omega) (fun u => ?_)
        · have ce : b124_10 L xs zf (dM L xs zf w (ke + 9)) w (M' + 1 + 1) (some (cx 7)) (some (cx 14)) i1 (some x) (Int32.ofNat i4) h = b124_10 L xs zf (dM L xs zf w (ke + 9)) w (M' + 1) (some (cx 7)) (some (cx 14)) i1 (some (21 + h2.length)) (Int32.ofNat (i4 + 1)) h9 := by
            rw [ceq]
            unfold b124_131
            rw [c_pv p3, va_s, k1]
            show (dpF h3 2 [12] (some (21 + h2.length)) (.ref nm)).bind _ = _
            rw [k2]
            show (dpF h4 3 [12] (some (21 + h2.length)) (.int (cpl cx F (g 0 + 1)))).bind _ = _
            rw [k3, show Int32.ofNat (i4 + 1) = Int32.ofNat i4 + 1 from (of_add i4 1).symm]
            show ((dcV L xs (dM L xs zf w (ke + 9)) 134 [8] (some (cx 7)) [.ref (21 + h2.length), .ref (cx 14), .int i1] h5).bind dxV).bind _ = _
            rw [c_pv p5, ec]
            rfl
          have re : s321_6 (rM w (kr + 4)) w (M2' + 1 + 1) i1 (Int32.ofNat m) s = s321_6 (rM w (kr + 4)) w (M2' + 1) i1 (Int32.ofNat (g 4)) s9 := by
            rw [req, r90]
            show ((rM w (kr + 4) 324 [.ref 36, .int (Int32.ofNat (g 4)), .int i1] (wrS s2 (g 4) m (g 0 + 1) W 46)).bind rxV).bind _ = _
            rw [er]
            rfl
          rw [ce, re]
          exact res
        · obtain ⟨j9, lk⟩ := jj u
          have u5 := (oa.2.1 u).1
          have u2 := bk u5
          obtain ⟨KK, k7⟩ := kk u5
          obtain ⟨X, x1, x2, x3⟩ := j9.2.2.2.2.2 u
          have KK9 := KD_opa oa u cp5 (Or.inr (by omega)) (Or.inr (Nat.le_refl _)) KK (by omega) blb
          obtain ⟨xf, xfe, xf7⟩ := fd_c k7
          have xlt := nW_lt nx
          have x9 := oa_keep op5.1 oa xfe (by decide) (by omega)
          refine ⟨by omega, by rw [x1.1 48 (by omega) (by omega)]; rfl, ?_⟩
          obtain ⟨d, hd⟩ : ∃ d, g9 4 - gb 4 = d + 1 := ⟨g9 4 - gb 4 - 1, by omega⟩
          rw [hd]
          refine NR_11 (nm := nm) (es := ks.map (fun a => a 0)) hW11 ⟨rg.1, by omega, by omega, by omega, by omega⟩ ?_ ?_ ?_ ⟨m, x, gb 4, g 4, 21 + hb.length, 21 + h.length, ?_, ?_, KK9.2, NR_le KK9.1 (by omega), ?_, fun _ => ⟨?_, by omega, Nat.lt_of_lt_of_le (nW_lt nx).1 (by omega)⟩⟩ (pW_pts j9.2.2.1 (by omega) (Nat.le_refl _)) ?_ ?_ ?_ ?_ ?_ ?_ (by rw [fd9 12 (by decide), fd_of cp5]; rfl)
          · rw [fd9 0 (by decide), fd_of cp5]; rfl
          · rw [x1.1 44 (by omega) (by omega)]
            rcases hW11 with e | e <;> subst e <;> rfl
          · rw [fd9 1 (by decide), fd_of cp5, x1.1 50 (by omega) (by omega)]
            show some (Value.int (s.2.1 50 m)) = some (Value.int (s2.2.1 50 m))
            rw [r50]
          · rw [fd9 6 (by decide), fd_of cp5]; rfl
          · rw [x1.1 46 (by omega) (by omega)]; rfl
          · unfold sub; omega
          · rw [fd_of x9]; exact xf7
          · rw [x1.1 45 (by omega) (by omega)]
            rw [show (A + 20) / 20 = A / 20 + 1 from by omega]
            exact AJ_sq j9.2.2.1 x2 x3 (by omega) (Nat.le_refl _) (by omega) (Nat.le_refl _) (by omega) (by omega)
          · rw [x1.1 52 (by omega) (by omega), List.length_map]; rfl
          · rw [List.length_map]; exact lk
          · rw [fd9 2 (by decide), fd_of cp5]; rfl
          · rw [x1.2, rtN]; exact nS_fr oa.2.2.1 (nS_fr fr5 (n2 u2).2.2)
          · rw [fd9 3 (by decide), fd_of cp5, x1.1 51 (by omega) (by omega)]
            show some (Value.int (cpl cx F (g 0 + 1))) = some (Value.int (s2.2.1 41 (g 0 + 1)))
            rw [rt2]
    · have f1' : b1 = false := by
        cases b1 with
        | false => rfl
        | true => exact absurd (Or.inl rfl) hbb
      have f2' : b2 = false := by
        cases b2 with
        | false => rfl
        | true => exact absurd (Or.inr rfl) hbb
      subst f1'
      subst f2'
      refine ⟨h, s, g, ts, x, m, ?_, ?_, a, sl, nx, xl, nl, nr⟩
      · rw [b124_10]
        by_cases d : mx_f2 .ge (Int32.ofNat i4) 2000 = true
        · exact ift d rfl
        · exact ifn d (bse (c_in p1) (bse (c_I p1 6 (by omega)) (ifn (fun u => absurd (q1.mp (of_decide_eq_true u)) (by decide)) (bse (c_in p2) (bse (c_I p2 6 (by omega)) (ift (by rw [f2_ne]; exact decide_eq_true (fun u => absurd (q2.mp u) (by decide))) rfl))))))
      · rw [s321_6]
        exact bse (a := (rd_01 false, s)) (by rw [r1 (kr + 3)]; rfl) (ifn (show ¬ mx_f1 .ne (rd_01 false) = true by decide) (bse (a := (rd_01 false, s)) (by rw [r2 (kr + 3)]; rfl) (ift (show mx_f1 .eq (rd_01 false) = true by decide) rfl)))
/-- a term -/
theorem x_term (hT : TF cx F N) (hw : 2001 ≤ w) (hA : 2 ≤ A ∧ A ≤ 1900) (IH : IHx L xs zf w cx F N q A (ke + 8) (kr + 3) 123 320 (i1 + 1)) (IP : IHx L xs zf w cx F N q (A + 20) (ke + 9) (kr + 4) 125 322 i1) : IHx L xs zf w cx F N q (A + 20) (ke + 10) (kr + 5) 124 321 i1 := by
  intro j j2 h s g ts z hg
  obtain ⟨h1, s1, g1, ts1, x, m, ec, er, op1, sl, nx, xl, nl, nr⟩ := IP j j2 h s g ts z hg
  obtain ⟨w', rfl⟩ : ∃ w', w = w' + 1 := ⟨w - 1, by omega⟩
  have hT1 := hT.1
  obtain ⟨v, p⟩ := op_pC z
  have res := x_terms (ke := ke + j) (kr := kr + j2) (hb := h) (sb := s) (gb := g) (tb := ts) hT hw hA (IHx_at _ _ IH (by omega) (by omega)) 2000 h1 s1 g1 ts1 x m 0 w' w' (by omega) (by omega) (by omega) (by omega) op1 sl hg nx xl nl nr
  obtain ⟨h9, s9, g9, ts9, x9, m9, r1, r2, r3⟩ := res
  refine ⟨h9, s9, g9, ts9, x9, m9, ?_, ?_, r3⟩
  · rw [show ke + 10 + j = ke + 9 + j + 1 from by omega, e124]
    show b124_0 L xs zf (dM L xs zf (w' + 1) (ke + 9 + j)) (w' + 1) (some (cx 7)) (some (cx 14)) i1 h = _
    unfold b124_0
    refine bse (a := (some x, h1)) (by rw [c_pv p, va_s, ec]; rfl) ?_
    rw [show ke + 9 + j = ke + j + 9 from by omega]
    exact r1
  · rw [show kr + 5 + j2 = kr + 4 + j2 + 1 from by omega, y321]
    show s321_0 (rM (w' + 1) (kr + 4 + j2)) (w' + 1) i1 s = _
    unfold s321_0
    refine bse (a := (Int32.ofNat m, s1)) (by rw [er]; rfl) ?_
    rw [show kr + 4 + j2 = kr + j2 + 4 from by omega]
    exact r2
end TM
