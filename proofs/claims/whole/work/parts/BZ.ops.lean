/-! OPERATORS. -/
section OPS
variable {L : Nat} {xs : Nat → Int32} {zf : Value} {w k i : Nat} {cx : Nat → Nat} {F : Nat → Nat → Int32} {N : Nat → Int64} {q : List Value} {hb h h' h1 h2 : rm_H} {sb s s' s1 s2 : rS} {gb g g' g1 g2 : Nat → Nat} {tb ts ts' ts1 ts2 : List Nat} {v : Nat → Int32} {A ke kr : Nat} {i1 : Int32}
theorem NR_pl {zz : Nat × Nat} {d lo hi pl ph n p : Nat} (e : NR L xs h s zz d lo hi pl ph n p) : fd h 12 p 1 = some (.int (s.2.1 50 n)) := by
  obtain ⟨c, z⟩ := zz
  cases z with
  | zero => exact e.elim
  | succ z =>
    cases d with
    | zero => exact e.elim
    | succ d =>
      obtain ⟨_, W, ⟨_, _, _, _, e5, _⟩, _⟩ := e
      exact e5
/-- an operator's node -/
theorem NR_13 {zz d lo hi pl ph n p : Nat} {x : Int32} (rg : 1 ≤ lo ∧ lo ≤ n ∧ n < hi ∧ pl ≤ p ∧ p < ph) (f0 : fd h 12 p 0 = some (.int (Int32.ofNat 13))) (r44 : s.2.1 44 n = Int32.ofNat (wK 13)) (f1 : fd h 12 p 1 = some (.int (s.2.1 50 n))) (hk : ∀ c ∈ kids 13, kd h s (if c.2.2 = true then NR L xs h s (0, zz + 1) d else NRq L xs h s (kC 13 c.1, zz)) lo hi pl ph n p c) (f4 : fd h 12 p 4 = some (.int x)) (ho : opS x (s.2.1 54 n)) (h13 : kd h s (NRq L xs h s (0, zz)) (n + 1) hi (p + 1) ph n p (8, 46, false)) (f12 : (fd h 12 p 12).isSome = true) : NR L xs h s (0, zz + 1) (d + 1) lo hi pl ph n p := ⟨rg, 13, ⟨by omega, by omega, f0, r44, f1, Or.inl ⟨rfl, by omega⟩, fun z => by omega⟩, fun z => by omega, hk, fun z => by omega, fun z => by omega, fun z => by omega, fun z => by omega, fun z => by omega, fun _ => ⟨x, f4, ho⟩, fun z => by omega, fun z => by omega, fun z => by omega, fun z => by omega, fun _ => h13, f12⟩
/-- the reference has made an operator's node n around m -/
def opN (s : rS) (n m i : Nat) : rS := lkS (rs_w (nxS (rs_wA (ndS s n 13 (s.2.1 50 m)) 54 n (s.2.1 42 i)) i) 24 (s.1 24 + 1)) 45 n m
theorem opN_rF {n m : Nat} : rF s (opN s n m i) := rF_trans (rF_trans (rF_trans (rF_trans rF_nd (rF_A (by omega))) rF_nx) (rF_w (by omega))) (lk_rF (by omega))
theorem opN_yA {n m : Nat} : yA s (opN s n m i) := by
  refine yA_trans (s1 := ndS s n 13 (s.2.1 50 m)) (yA_of rfl (fun r h1 h2 => ?_) ?_) (yA_trans (yA_A (by omega)) (yA_trans (s1 := nxS (rs_wA (ndS s n 13 (s.2.1 50 m)) 54 n (s.2.1 42 i)) i) (yA_2 rfl rfl) (yA_trans (s1 := rs_w (nxS (rs_wA (ndS s n 13 (s.2.1 50 m)) 54 n (s.2.1 42 i)) i) 24 (s.1 24 + 1)) (yA_2 rfl rfl) (lk_yA (by omega)))))
  · funext j; rw [nd_get, if_neg (by omega)]
  · funext j; rw [nd_getJ, if_neg (by omega)]
theorem opN_sX {n m b : Nat} (hn : b ≤ n) (hm : b ≤ m) : sX s (opN s n m i) b := sX_trans (sX_trans (sX_trans (sX_trans (sX_nd hn) (sX_A hn) (Nat.le_refl _)) sX_w (Nat.le_refl _)) sX_w (Nat.le_refl _)) (sX_trans (sX_A hm) (sX_A hn) (Nat.le_refl _)) (Nat.le_refl _)
theorem opN_tR {n m : Nat} : tR s (opN s n m i) n := tR_trans (tR_sX (sX_trans (sX_trans (sX_trans (sX_nd (Nat.le_refl _)) (sX_A (Nat.le_refl _)) (Nat.le_refl _)) sX_w (Nat.le_refl _)) sX_w (Nat.le_refl _))) (lk_tR (by omega)) (Nat.le_refl _)
theorem opN_sA {n m lo hi : Nat} (hn : hi ≤ n) : sA s (opN s n m i) lo hi m := by
  refine sA_trans (s1 := ndS s n 13 (s.2.1 50 m)) (fun j h1 h2 => ⟨fun r _ => by rw [nd_get, if_neg (by omega)], by rw [nd_getJ, if_neg (by omega)], fun _ => ⟨by rw [nd_get, if_neg (by omega)], by rw [nd_get, if_neg (by omega)]⟩, fun _ => by rw [nd_get, if_neg (by omega)]⟩) (sA_trans (sA_A (by omega)) (sA_trans (s1 := rs_w (nxS (rs_wA (ndS s n 13 (s.2.1 50 m)) 54 n (s.2.1 42 i)) i) 24 (s.1 24 + 1)) (sA_1 rfl) (sA_trans (sA_A (Or.inr (Or.inr ⟨rfl, Or.inr rfl⟩))) (sA_A (by omega)))))
theorem opN_on {n m : Nat} (hmn : m ≠ n) : onR (opN s n m i) n (upd (upd (fun r => ndV r 13 (s.2.1 50 m)) 54 (s.2.1 42 i)) 45 (Int32.ofNat m)) 0 := by
  refine lk_on hmn ?_
  have onN : onR (ndS s n 13 (s.2.1 50 m)) n (fun r => ndV r 13 (s.2.1 50 m)) 0 := ⟨fun r h1 h2 => by rw [nd_get, if_pos ⟨rfl, h1, h2⟩], by rw [nd_getJ, if_pos ⟨rfl, rfl⟩]⟩
  have a := onR_A (i := 54) (j := n) (y := s.2.1 42 i) onN
  rw [if_pos rfl] at a
  exact a
/-- both make an operator's node and pass the operator -/
theorem op_w13 {zz : Nat × Nat} {x m : Nat} (hT : TF cx F N) (a : OPR cx F N q hb sb gb tb h s g ts) (y : SY cx F N q h s g ts) (nx : nW h x) (xl : 21 + hb.length ≤ x) (nl : m < g 4) (vN : NR L xs h s zz (g 4 - gb 4) (gb 4) (g 4) (21 + hb.length) (21 + h.length) m x) (ho : 15 ≤ (ctk cx F (g 0)).toInt ∧ (ctk cx F (g 0)).toInt ≤ 19) : ∃ h4 h5 h6, dM L xs zf w (k + 3) 137 [.ref (cx 7), .int 13, .ref x] h = some (some (.ref (21 + h.length)), h4) ∧ pC h4 cx F (vS cx F (g 0)) ∧ dpF h4 4 [12] (some (21 + h.length)) (.int (ctk cx F (g 0))) = some h5 ∧ pC h5 cx F (vS cx F (g 0)) ∧ dM L xs zf w (k + 3) 92 [.ref (cx 0)] h5 = some (none, h6) ∧ SY cx F N q h6 (opN s (g 4) m (g 0)) (gu (gu g 0 (g 0 + 1)) 4 (g 4 + 1)) ts ∧ OPR cx F N q hb sb gb tb h6 (opN s (g 4) m (g 0)) (gu (gu g 0 (g 0 + 1)) 4 (g 4 + 1)) ts ∧ hc h6 (21 + h.length) = some (.inr (12, [.int 13, .int (s.2.1 50 m), .ref 9, .int (s.2.1 50 m), .int (ctk cx F (g 0)), .null, .ref x, .null, .null, .null, .null, .null, .int 0])) ∧ KD L xs zz h6 (opN s (g 4) m (g 0)) (g 4) m x (gb 4) (g 4) (21 + hb.length) (21 + h.length) ∧ fd h6 12 x 7 = some (.ref (21 + h.length)) ∧ h6.length = h.length + 1 := by
  obtain ⟨⟨p, ⟨a1, a2, a3, a4⟩, rt, ch, ⟨c1, c2, c3, c4⟩, b1, b2, b3, b4⟩, g6⟩ := id y
  have rg := NR_rg _ _ _ _ _ _ _ _ vN
  have xlt := nW_lt nx
  have hlt : g 0 < cx 16 := by
    refine tk_lt hT b1 (fun e => ?_) (fun e => ?_)
    · rw [e] at ho; exact absurd ho (by decide)
    · rw [e] at ho; exact absurd ho (by decide)
  obtain ⟨h4, d1, d2, d3, d4, d5, d6, d7, d8, d9, d10⟩ := c_137 (L := L) (xs := xs) (zf := zf) (w := w) (k := k + 1) 13 p ch nx (NR_pl vN)
  obtain ⟨h5, e1, e2, e3⟩ := pF_ex (j := 4) (cis := [12]) (v := .int (ctk cx F (g 0))) (u := .int 0) d4 rfl (by decide) rfl (by decide)
  have p5 := pC_w d4 (by decide) e3 d2
  have ch5 := CH_w d4 (by decide) e3 d3
  obtain ⟨h6, w1, w2, w3⟩ := y_adv (L := L) (xs := xs) (zf := zf) (w := w) (k := k) hT hlt p5
  have px : x ≠ 21 + h.length := by omega
  have x0 : x ≠ cx 0 := fun e => by
    obtain ⟨fs, ex, _⟩ := nx
    rw [e, pC_r p] at ex; cases ex
  have hp0 : 21 + h.length ≠ cx 0 := by have := hc_lt (pC_r p); omega
  have l6 : h6.length = h.length + 1 := by rw [w3.2.1, e3.2.1, d9]
  have y6 : zh h6 = zh h + 13 := by rw [w3.2.2, e3.2.2, d10]
  have f6 : fr (fun r => r = x ∨ r = cx 0 ∨ r = cx 8) h h6 := fr_trans (fr_trans (fr_mono d8 (fun _ _ u => u.elim Or.inl (fun u => Or.inr (Or.inr u)))) e3.1 (fun r hr u => by omega)) w3.1 (fun _ _ u => Or.inr (Or.inl u))
  have hP6 : ∀ d fs, hc h d = some (.inr (10, fs)) → ¬ (d = x ∨ d = cx 0 ∨ d = cx 8) := by
    intro d fs ed u
    rcases u with u | u | u
    · obtain ⟨gs, ex, _⟩ := id nx
      rw [u, ex] at ed; cases ed
    · rw [u, pC_r p] at ed; cases ed
    · rw [u, ch.1] at ed; cases ed
  have e44 : (opN s (g 4) m (g 0)).2.1 44 (g 4) = 13 := by
    have := (opN_on (s := s) (i := g 0) (n := g 4) (m := m) (by omega)).1 44 (by omega) (by omega)
    rw [upd_ne _ _ (by decide), upd_ne _ _ (by decide)] at this
    exact this
  have sy6 : SY cx F N q h6 (opN s (g 4) m (g 0)) (gu (gu g 0 (g 0 + 1)) 4 (g 4 + 1)) ts := by
    refine ⟨⟨w2, ⟨a1, a2, a3, a4⟩, rT_F opN_rF rt, CH_g (g := g) rfl rfl rfl (CH_r p5 w3 ch5), ⟨rfl, rfl, c3, ?_⟩, ?_⟩, g6.1, TSI_n g6.2 f6 hP6 (nD_1 (by omega) (st1_old w3 e2 hp0) (fun _ z => by cases z)) opN_tR (yA_n c3 (by have := hT.1; omega) opN_yA) (Nat.le_refl _) (Nat.le_succ _) rfl (fun n n1 n2 => ?_)⟩
    rotate_left 2
    · have n3 : n < g 4 + 1 := n2
      have n4 : n = g 4 := by omega
      rw [n4, e44]
      decide
    · show 1 ≤ g 4 + 1
      omega
    · show g 0 + 1 ≤ _ ∧ _ ≤ g 0 + 1 ∧ g 4 + 1 ≤ (g 0 + 1) + 2 ∧ g 5 + 2 ≤ g 0 + 1
      omega
  have fd6 : ∀ j, fd h6 12 x j = fd h4 12 x j := fun j => by rw [fd_st w3 x0, fd_st e3 px]
  obtain ⟨m1, m2, m3, m4, m5, m6, m7, m8, m9⟩ := a
  have bly := sy_cx (Or.inl (m2 y).1)
  refine ⟨h4, h5, h6, d1, d2, e1, p5, w1, sy6, ⟨Or.inl sy6, fun _ => ⟨(m2 y).1, sX_trans (m2 y).2.1 (opN_sX m6.2 rg.2.1) (Nat.le_refl _), yA_trans (m2 y).2.2 opN_yA⟩, fr_trans m3 f6 (fun r hr u => ?_), m4, rF_trans m5 opN_rF, ?_⟩, st1_old w3 e2 hp0, ⟨?_, lk_49 (by decide)⟩, ?_, l6⟩
  · rcases u with u | u | u
    · omega
    · exact Or.inl u
    · exact Or.inr (Or.inl u)
  · show (gb 0 ≤ g 0 + 1 ∧ gb 4 ≤ g 4 + 1) ∧ h6.length + 10 * gb 0 + gb 6 ≤ hb.length + 10 * (g 0 + 1) + g 6 ∧ zh h6 + 4 * gb 2 + 80 * gb 0 + 8 * gb 6 ≤ zh hb + 4 * g 2 + 80 * (g 0 + 1) + 8 * g 6 ∧ g 4 + 1 + gb 0 + gb 6 ≤ gb 4 + (g 0 + 1) + g 6
    omega
  · exact NR_fr f6 opN_yA _ _ _ _ _ _ _ _ vN (cA_x p ch nx (fun j hj => (fd6 j).trans (d7 j hj)) f6 ⟨bly.1, bly.2.1⟩) (opN_sA (Nat.le_refl _))
  · rw [fd6 7]; exact d6
/-- the operators behind a term -/
theorem x_ops (hT : TF cx F N) (hA : 2 ≤ A ∧ A ≤ 2000) (IH : IHx L xs zf w cx F N q A (ke + 3) (kr + 2) 124 321 i1) : ∀ (K : Nat) (h : rm_H) (s : rS) (g : Nat → Nat) (ts : List Nat) (x m i4 M M2 : Nat), cx 16 - g 0 ≤ K → K ≤ M → K ≤ M2 → i4 ≤ g 0 → OPR cx F N q hb sb gb tb h s g ts → (g 6 ≤ A ∨ g 6 ≤ gb 6 + 2) → gb 6 ≤ 2200 → nW h x → 21 + hb.length ≤ x → m < g 4 → (SY cx F N q h s g ts → gb 0 < g 0 ∧ s.2.1 48 m = 0 ∧ NR L xs h s (0, (A + 20) / 20 + 1) (g 4 - gb 4) (gb 4) (g 4) (21 + hb.length) (21 + h.length) m x) → EXR 0 L xs cx F N q (A + 20) hb sb gb tb (b123_39 L xs zf (dM L xs zf w (ke + 3 + k)) w (M + 1) (some (cx 7)) (some (cx 14)) i1 (some x) (Int32.ofNat i4) h) (s320_16 (rM w (kr + 2 + k)) w (M2 + 1) i1 (Int32.ofNat m) s) := by
  intro K
  induction K with
  | zero =>
    intro h s g ts x m i4 M M2 hK hM hM2 hi4 a sl hg6 nx xl nl nr
    have nl1 := n_lt hT a.1
    have stop : dM L xs zf w (ke + 3 + k) 138 [.ref (cx 0)] h = some (some (.int 0), h) ∧ rM w (kr + 2 + k) 325 [.ref 36] s = some (some (.int 0), s) := by
      rcases a.1 with y | y
      · have no : ¬ (15 ≤ (ctk cx F (g 0)).toInt ∧ (ctk cx F (g 0)).toInt ≤ 19) := by
          have b1 := y.1.2.2.2.2.2.1
          have : g 0 = cx 16 := by omega
          rcases ((hT.2.2 (g 0) b1).2.1).mpr this with e | e <;> rw [e] <;> decide
        refine ⟨?_, ?_⟩
        · have := c_op (L := L) (xs := xs) (zf := zf) (w := w) (k := ke + 2 + k) y.1.1
          rw [vS_6, decide_eq_false no, show ke + 2 + k + 1 = ke + 3 + k from by omega] at this
          exact this
        · have := q325 (w := w) (k := kr + k) hT y
          rw [decide_eq_false no, show kr + k + 2 = kr + 2 + k from by omega] at this
          exact this
      · obtain ⟨⟨v, p, r⟩, h57, _⟩ := y
        refine ⟨?_, ?_⟩
        · have := c_op (L := L) (xs := xs) (zf := zf) (w := w) (k := ke + 2 + k) p
          rw [r.2.1, show ke + 2 + k + 1 = ke + 3 + k from by omega] at this
          exact this
        · rw [show kr + 2 + k = kr + k + 2 from by omega]
          exact z325 (k := kr + k) h57
    obtain ⟨v, p⟩ := op_pC a.1
    refine ⟨h, s, g, ts, x, m, ?_, ?_, a, by omega, nx, xl, nl, nr⟩
    · rw [b123_39]
      by_cases d : mx_f2 .ge (Int32.ofNat i4) 2000 = true
      · exact ift d rfl
      · exact ifn d (bse (c_in p) (bse (a := ((0 : Int32), h)) (by rw [c_rv p, stop.1]; rfl) (ift (show mx_f1 .eq 0 = true by decide) rfl)))
    · rw [s320_16]
      exact bse (a := ((0 : Int32), s)) (by rw [stop.2]; rfl) (ift (show mx_f1 .eq 0 = true by decide) rfl)
  | succ K ih =>
    intro h s g ts x m i4 M M2 hK hM hM2 hi4 a sl hg6 nx xl nl nr
    have nl1 := n_lt hT a.1
    have o0 := a.2.2.2.2.2.1
    obtain ⟨v, p⟩ := op_pC a.1
    have fin : dM L xs zf w (ke + 3 + k) 138 [.ref (cx 0)] h = some (some (.int 0), h) → rM w (kr + 2 + k) 325 [.ref 36] s = some (some (.int 0), s) → EXR 0 L xs cx F N q (A + 20) hb sb gb tb (b123_39 L xs zf (dM L xs zf w (ke + 3 + k)) w (M + 1) (some (cx 7)) (some (cx 14)) i1 (some x) (Int32.ofNat i4) h) (s320_16 (rM w (kr + 2 + k)) w (M2 + 1) i1 (Int32.ofNat m) s) := by
      intro s1 s2
      refine ⟨h, s, g, ts, x, m, ?_, ?_, a, by omega, nx, xl, nl, nr⟩
      · rw [b123_39]
        by_cases d : mx_f2 .ge (Int32.ofNat i4) 2000 = true
        · exact ift d rfl
        · exact ifn d (bse (c_in p) (bse (a := ((0 : Int32), h)) (by rw [c_rv p, s1]; rfl) (ift (show mx_f1 .eq 0 = true by decide) rfl)))
      · rw [s320_16]
        exact bse (a := ((0 : Int32), s)) (by rw [s2]; rfl) (ift (show mx_f1 .eq 0 = true by decide) rfl)
    rcases a.1 with y | y
    · by_cases ho : 15 ≤ (ctk cx F (g 0)).toInt ∧ (ctk cx F (g 0)).toInt ≤ 19
      · obtain ⟨v0, v48, vN⟩ := nr y
        have rg := NR_rg _ _ _ _ _ _ _ _ vN
        obtain ⟨h4, h5, h6, d1, d2, d3, d4, d5, sy6, op6, cp6, K6, x76, l6⟩ := op_w13 (L := L) (xs := xs) (zf := zf) (w := w) (k := ke + k) hT a y nx xl nl vN ho
        have q0 : gu (gu g 0 (g 0 + 1)) 4 (g 4 + 1) 0 = g 0 + 1 := rfl
        have q4 : gu (gu g 0 (g 0 + 1)) 4 (g 4 + 1) 4 = g 4 + 1 := rfl
        have q6 : gu (gu g 0 (g 0 + 1)) 4 (g 4 + 1) 6 = g 6 := rfl
        have g60 := y.2
        have b1 := y.1.2.2.2.2.2.1
        have hlt : g 0 < cx 16 := by
          refine tk_lt hT b1 (fun e => ?_) (fun e => ?_)
          · rw [e] at ho; exact absurd ho (by decide)
          · rw [e] at ho; exact absurd ho (by decide)
        obtain ⟨h7, s7, g7, ts7, x7, m7, ec7, er7, op7, sl7, nx7, xl7, nl7, nr7⟩ := IH k k h6 _ _ ts (Or.inl sy6) (by omega)
        have cp7 := on_keep (Or.inl sy6) op7 cp6
        have o7 := op7.2.2.2.2.2.1
        have le7 := op7.2.2.1.1
        have hm7 : SY cx F N q h7 s7 g7 ts7 → g 4 + 1 ≤ m7 := fun u => by have := (NR_rg _ _ _ _ _ _ _ _ (nr7 u).2.2).2.1; omega
        have hT1 := hT.1
        obtain ⟨h8, e1, e2, e3, e4, e5, op8, f78, f87⟩ := op_lnk (w := w) (x := x7) (f := 8) (r := 46) (n := g 4) (m := m7) hT (OPR_trans op6 op7) cp7 (by have := a.2.2.1.1; omega) (by omega) rfl (by omega) (by omega) (by omega) nl7 (fun u => by have := hm7 u; omega) (by omega)
        have l8 := e3.2.1
        have hl8 := hc_lt e2
        have st : b123_39 L xs zf (dM L xs zf w (ke + 3 + k)) w (M + 1) (some (cx 7)) (some (cx 14)) i1 (some x) (Int32.ofNat i4) h = b123_39 L xs zf (dM L xs zf w (ke + 3 + k)) w M (some (cx 7)) (some (cx 14)) i1 (some (21 + h.length)) (Int32.ofNat (i4 + 1)) h8 := by
          rw [b123_39, if_neg (by rw [f2_ge, of_int (by omega), show (2000 : Int32).toInt = 2000 from by decide]; simp; omega), c_in p]
          show ((dcV L xs (dM L xs zf w (ke + 3 + k)) 138 [6] (some (cx 0)) [] h).bind dxI).bind _ = _
          have q138 := c_op (L := L) (xs := xs) (zf := zf) (w := w) (k := ke + 2 + k) y.1.1
          rw [vS_6, decide_eq_true ho, show ke + 2 + k + 1 = ke + 3 + k from by omega] at q138
          rw [c_rv p, q138]
          show ((dcV L xs (dM L xs zf w (ke + 3 + k)) 137 [8] (some (cx 7)) [.int 13, .ref x] h).bind dxR).bind _ = _
          rw [c_pv p, show ke + 3 + k = ke + k + 3 from by omega, d1]
          show (dgR L xs h4 0 [8] (some (cx 7))).bind _ = _
          rw [c_in d2]
          show (dgI L xs h4 6 [6] (some (cx 0))).bind _ = _
          rw [c_I d2 6 (by omega)]
          show (dpF h4 4 [12] (some (21 + h.length)) (.int (ctk cx F (g 0)))).bind _ = _
          rw [d3]
          show (dgR L xs h5 0 [8] (some (cx 7))).bind _ = _
          rw [c_in d4]
          show ((dcV L xs (dM L xs zf w (ke + k + 3)) 92 [6] (some (cx 0)) [] h5).bind dxV).bind _ = _
          rw [c_rv d4, d5]
          show ((dcV L xs (dM L xs zf w (ke + k + 3)) 124 [8] (some (cx 7)) [.ref (cx 14), .int i1] h6).bind dxR).bind _ = _
          rw [c_pv sy6.1.1, show ke + k + 3 = ke + 3 + k from by omega, ec7]
          show (dpF h7 8 [12] (some (21 + h.length)) (.ref x7)).bind _ = _
          rw [e1]
          show b123_39 L xs zf (dM L xs zf w (ke + 3 + k)) w M (some (cx 7)) (some (cx 14)) i1 (some (21 + h.length)) (Int32.ofNat i4 + 1) h8 = _
          rw [show Int32.ofNat i4 + 1 = Int32.ofNat (i4 + 1) from of_add i4 1]
        obtain ⟨M', rfl⟩ : ∃ M', M = M' + 1 := ⟨M - 1, by omega⟩
        obtain ⟨M2', rfl⟩ : ∃ M2', M2 = M2' + 1 := ⟨M2 - 1, by omega⟩
        have res := ih h8 (lkS s7 46 (g 4) m7) g7 ts7 (21 + h.length) (g 4) (i4 + 1) M' M2' (by omega) (by omega) (by omega) (by omega) op8 (by omega) hg6 (nW_of (o := none) e2 rfl rfl rfl) (by have := a.2.2.1.1; omega) (by omega) (fun u => ?_)
        · rw [← st] at res
          obtain ⟨h9, s9, g9, ts9, x9, m9, r1, r2, r3⟩ := res
          refine ⟨h9, s9, g9, ts9, x9, m9, r1, ?_, r3⟩
          rw [s320_16]
          have q25 := q325 (w := w) (k := kr + k) hT y
          rw [decide_eq_true ho, show kr + k + 2 = kr + 2 + k from by omega] at q25
          refine bse (a := (rd_01 true, s)) (by rw [q25]; rfl) (ifn (show ¬ mx_f1 .eq (rd_01 true) = true by decide) ?_)
          refine bse (nA (s := s) (q := 50) (i := m) (by omega) (by omega)) ?_
          refine bse (a := (Int32.ofNat (g 4), ndS s (g 4) 13 (s.2.1 50 m))) (by rw [show kr + 2 + k = kr + 1 + k + 1 from by omega, q316 (k := kr + 1 + k) 13 (s.2.1 50 m) (n_10 (Or.inl y)) (by omega)]; rfl) ?_
          refine bse (a := s.2.1 42 (g 0)) (aT (s := ndS s (g 4) 13 (s.2.1 50 m)) (by omega) nl1.2.2.2 (by omega)) ?_
          refine bse (nWt (by omega) (by omega)) ?_
          refine bse (pI_nx (s := rs_wA (ndS s (g 4) 13 (s.2.1 50 m)) 54 (g 4) (s.2.1 42 (g 0))) nl1.2.2.2) ?_
          refine bse (a := rs_w (nxS (rs_wA (ndS s (g 4) 13 (s.2.1 50 m)) 54 (g 4) (s.2.1 42 (g 0))) (g 0)) 24 (s.1 24 + 1)) rfl ?_
          refine bse (a := (Int32.ofNat m, rs_wA (rs_w (nxS (rs_wA (ndS s (g 4) 13 (s.2.1 50 m)) 54 (g 4) (s.2.1 42 (g 0))) (g 0)) 24 (s.1 24 + 1)) 49 m (Int32.ofNat (g 4)))) (by rw [show kr + 2 + k = kr + 1 + k + 1 from by omega, q323 (k := kr + 1 + k) (by omega)]; rfl) ?_
          refine bse (a := opN s (g 4) m (g 0)) (nWt (by omega) (by omega)) ?_
          refine bse (a := (Int32.ofNat m7, s7)) (by rw [er7]; rfl) ?_
          refine bse (a := (Int32.ofNat m7, rs_wA s7 49 m7 (Int32.ofNat (g 4)))) (by rw [show kr + 2 + k = kr + 1 + k + 1 from by omega, e4]; rfl) ?_
          exact bse e5 r2
        · have u7 := f87 u
          obtain ⟨w1, w48, wN⟩ := nr7 u7
          have rg7 := NR_rg _ _ _ _ _ _ _ _ wN
          have blb := sy_cx (Or.inl (a.2.1 y).1)
          have on8 := lk_on (r := 46) (m := m7) (by omega) (onR_keep op7 u7 (by omega) (opN_on (s := s) (i := g 0) (n := g 4) (m := m) (by omega)))
          have K7 := KD_keep op7 u7 K6 (by omega) blb
          have K8 := KD_lk (r := 46) (m2 := m7) K7 e3 cp7 (by omega) (by omega) (by omega) (by omega)
          have J8 := KD_new (n := g 4) (r := 46) wN e3 cp7 (by omega) (by omega) (by omega)
          have x77 : fd h7 12 x 7 = some (.ref (21 + h.length)) := by
            obtain ⟨fs, c1, c2⟩ := fd_c x76
            rw [fd_of (on_keep (Or.inl sy6) op7 c1)]
            exact c2
          have x78 : fd h8 12 x 7 = some (.ref (21 + h.length)) := by rw [fd_st e3 (by have := nW_lt nx; omega)]; exact x77
          obtain ⟨⟨f5, _, tr⟩, _⟩ := hT.2.2 (g 0) b1
          have rt := y.1.2.2.1
          have lb := a.2.2.1.1
          refine ⟨by omega, by rw [on8.1 48 (by omega) (by omega), upd_ne _ _ (by decide), upd_ne _ _ (by decide), upd_ne _ _ (by decide)]; rfl, ?_⟩
          obtain ⟨d, hd⟩ : ∃ d, g7 4 - gb 4 = d + 1 := ⟨g7 4 - gb 4 - 1, by omega⟩
          rw [hd]
          refine NR_13 (x := ctk cx F (g 0)) ⟨rg.1, by omega, by omega, by omega, hl8⟩ ?_ ?_ ?_ (fun c hc => ?_) ?_ ?_ (kd_of (KD_lz J8 (by omega)) (by rw [fd_of e2]; rfl) (by rw [on8.1 46 (by omega) (by omega), upd_eq]) (by unfold sub; omega)) (by rw [fd_of e2]; rfl)
          · rw [fd_of e2]; rfl
          · rw [on8.1 44 (by omega) (by omega), upd_ne _ _ (by decide), upd_ne _ _ (by decide), upd_ne _ _ (by decide)]; rfl
          · rw [fd_of e2, on8.1 50 (by omega) (by omega), upd_ne _ _ (by decide), upd_ne _ _ (by decide), upd_ne _ _ (by decide)]; rfl
          · have : c = (6, 45, true) ∨ c = (8, 46, false) := by simpa [kids] using hc
            rcases this with e | e <;> subst e
            · refine ⟨m, x, gb 4, g 4, 21 + hb.length, 21 + h.length, ?_, ?_, K8.2, NR_le K8.1 (by omega), ?_, fun _ => ⟨x78, by omega, (nW_lt nx).1⟩⟩
              · rw [fd_of e2]; rfl
              · rw [on8.1 45 (by omega) (by omega), upd_ne _ _ (by decide), upd_eq]
              · unfold sub; omega
            · refine kd_of (KD_lz J8 (by omega)) ?_ ?_ ?_
              · rw [fd_of e2]; rfl
              · rw [on8.1 46 (by omega) (by omega), upd_eq]
              · unfold sub; omega
          · rw [fd_of e2]; rfl
          · rw [on8.1 54 (by omega) (by omega), upd_ne _ _ (by decide), upd_ne _ _ (by decide), upd_eq, rt.2.2.1]
            exact op_S tr ho
      · refine fin ?_ ?_
        · have := c_op (L := L) (xs := xs) (zf := zf) (w := w) (k := ke + 2 + k) y.1.1
          rw [vS_6, decide_eq_false ho, show ke + 2 + k + 1 = ke + 3 + k from by omega] at this
          exact this
        · have := q325 (w := w) (k := kr + k) hT y
          rw [decide_eq_false ho, show kr + k + 2 = kr + 2 + k from by omega] at this
          exact this
    · obtain ⟨⟨v, p, r⟩, h57, _⟩ := y
      refine fin ?_ ?_
      · have := c_op (L := L) (xs := xs) (zf := zf) (w := w) (k := ke + 2 + k) p
        rw [r.2.1, show ke + 2 + k + 1 = ke + 3 + k from by omega] at this
        exact this
      · rw [show kr + 2 + k = kr + k + 2 from by omega]
        exact z325 (k := kr + k) h57
end OPS
