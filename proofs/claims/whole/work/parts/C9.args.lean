/-! ARGUMENTS. -/
section AG
variable {L : Nat} {xs : Nat → Int32} {zf : Value} {w k k2 : Nat} {cx : Nat → Nat} {F : Nat → Nat → Int32} {N : Nat → Int64} {q : List Value} {h0 h h' h1 h2 : rm_H} {s0 s s' s1 s2 : rS} {g0 g g' g1 g2 : Nat → Nat} {t0 ts ts' ts1 ts2 : List Nat} {p n m c1 c2 cap A ke kr : Nat} {R : Nat → Int32} {J : Int64} {fp : Nat → Option Value} {ks : List (Nat → Nat)} {pt vr x i1 : Int32} {v : Nat → Int32}
/-- behind a refused '(' the class still reads one -/
theorem z_argt (hw : 2 ≤ w) (z : ZC cx F q h v x g ts pt vr) (hp : nW h p) (e : fd h 12 p 11 = some .null) (i2 : Int32) : ∃ h' pt', b134_23 L xs zf (dM L xs zf w (k + 8)) w (some (cx 7)) (some p) (some (cx 14)) i2 1 h = some (none, h') ∧ ZC cx F q h' v x g ts pt' vr ∧ nW h' p ∧ (∀ j, j ≠ 11 → fd h' 12 p j = fd h 12 p j) ∧ fr (fun y => y = cx 0 ∨ y = cx 8 ∨ y = p) h h' ∧ h'.length ≤ h.length + 3 ∧ zh h' ≤ zh h + 100 := by
  obtain ⟨w', rfl⟩ : ∃ w', w = w' + 2 := ⟨w - 2, by omega⟩
  have hpl := nW_lt hp
  have npc : ∀ y, y = cx 0 ∨ y = cx 8 → p ≠ y := by
    intro y hy e
    obtain ⟨fs, q1, _⟩ := id hp
    rcases hy with hy | hy
    · rw [e, hy, pC_r z.1] at q1; cases q1
    · rw [e, hy, z.2.2.1] at q1; cases q1
  obtain ⟨h2, pt', b1, b2, b3, b4, b5⟩ := z_expr (L := L) (xs := xs) (zf := zf) (w := w' + 2) (k := k + 2) (by omega) z (i2 + 1)
  have z2 : ZC cx F q (h2 ++ [nd0 1 (v 7)]) v x g ts pt' vr := ZC_ap (Or.inl (nd0_5 _ _)) b2
  have f2 : fr (fun y => y = cx 0 ∨ y = cx 8) h (h2 ++ [nd0 1 (v 7)]) := fr_trans b3 (fr_app _ _) (fun _ _ y => y)
  have np : ¬ (p = cx 0 ∨ p = cx 8) := fun y => y.elim (npc _ (Or.inl rfl)) (npc _ (Or.inr rfl))
  have e11 := fd_old f2 e np
  have e2 : pW (h2 ++ [nd0 1 (v 7)]) (21 + h.length) p [] 0 := Or.inl ⟨e11, rfl, rfl⟩
  have hx : oK (h2 ++ [nd0 1 (v 7)]) (21 + h2.length) := nW_oK (nW_new _ _)
  have len : (h2 ++ [nd0 1 (v 7)]).length = h.length + 1 := by
    rw [List.length_append, b4]; rfl
  have l11 := (aL_lt z.2.2.2.1).1
  obtain ⟨h3, l, ar, cap', c1, c2, c3, c4, c5, c6, c7, c8, c9, c10, c11, c12, c13, c14⟩ := ap_of (L := L) (xs := xs) (zf := zf) (w := w' + 2) (k := k + 1) z2.1 z2.2.2 (nW_fr f2 np hp) e2 (fun y hy => (List.not_mem_nil hy).elim) hx (by simp) ⟨l11, by omega, by omega⟩
  have ar5 : ar = 5 := by
    rcases c14 with ⟨u, _⟩ | ⟨_, u⟩
    · rw [e11] at u; cases u
    · exact u
  have z3 : ZC cx F q h3 v x g ts pt' vr := ⟨c4, z.2.1, c5⟩
  obtain ⟨h4, d1, d2, d3⟩ := y_skipF (L := L) (xs := xs) (zf := zf) (w := w' + 2) (k := k + 4) c4 10 (by rw [z.2.1.2.1]; decide)
  have z4 := ZC_r d3 z3 d2
  obtain ⟨h5, e1, e2', e3⟩ := z_take (L := L) (xs := xs) (zf := zf) (w := w' + 2) (k := k + 4) z4.2.1 z4.1 8 (by decide)
  have np0 : p ≠ cx 0 := npc _ (Or.inl rfl)
  refine ⟨h5, pt', ?_, ZC_r e3 z4 e2', nW_st (nW_st c6 d3 np0) e3 np0, fun j hj => ?_, ?_, ?_, ?_⟩
  · unfold b134_23
    rw [b134_28]
    refine ifn (by decide) (ifn (by decide) (ift (by decide) ?_))
    unfold b134_54
    refine bse (a := (some (21 + h2.length), h2 ++ [nd0 1 (v 7)])) (by rw [c_pv z.1, va_s, b1]; rfl) ?_
    refine bse (a := h3) ?_ ?_
    · obtain ⟨fs, q1, _⟩ := nW_fr f2 np hp
      rw [hc_v q1 (by decide), show va_rf (some (21 + h2.length)) = .ref (21 + h2.length) from rfl, c1]
      rfl
    refine bse (a := ((0 : Int32), h4)) (by rw [c_pv c4, d1]; rfl) ?_
    rw [b134_28]
    refine ift (show mx_f1 .eq 0 = true by decide) ?_
    unfold b134_80
    exact bse (a := h5) (by rw [c_pv d2, e1]; rfl) rfl
  · rw [fd_st e3 np0, fd_st d3 np0, c7 j hj]
    obtain ⟨fs, q1, _⟩ := id hp
    rw [fd_of (fr_old f2 q1 np), fd_of q1]
  · refine fr_trans (fr_trans (fr_trans (fr_mono f2 (fun y _ u => ?_)) (fr_21 c8) (fun y hy u => ?_)) d3.1 (fun _ _ u => Or.inl u)) e3.1 (fun _ _ u => Or.inl u)
    · rcases u with u | u
      · exact Or.inl u
      · exact Or.inr (Or.inl u)
    · obtain ⟨u, u21⟩ := u
      rcases u with u | u | u
      · exact Or.inr (Or.inr u)
      · omega
      · omega
  · rw [e3.2.1, d3.2.1]
    omega
  · have cl : cap' ≤ 2 * (0 + 1) + 10 := by
      rcases c2 with ⟨_, q2, _⟩ | ⟨l2, ar2, _, q2, _⟩
      · exact absurd q2 (by simp)
      · obtain ⟨mc, _, _, q3, _⟩ := q2
        exact q3
    rw [zh_nd, b5] at c12
    rw [e3.2.2, d3.2.2]
    omega
theorem op_skipF {c T : Int32} (hp : sgP c T) (z : FLT cx F N q h s g ts) : ∃ h', dM L xs zf w (k + 4) 118 [.ref (cx 7), .int T] h = some (some (.int 0), h') ∧ rM w (k2 + 2) 309 [.ref 36, .int c] s = some (some (.int 0), s) ∧ OPR cx F N q h s g ts h' s g ts ∧ FLT cx F N q h' s g ts ∧ st1 (cx 0) h h' := by
  have n1 := hp.2.2.2.1
  obtain ⟨⟨v, p, r⟩, h1, rt, ⟨pt, vr, ch⟩, cs, b⟩ := id z
  obtain ⟨h2, d1, d2, d3⟩ := y_skipF (L := L) (xs := xs) (zf := zf) (w := w) (k := k) p T (by rw [r.2.1]; exact fun u => n1 u.symm)
  have y : FLT cx F N q h2 s g ts := FL_r d3 p d2 r h1 rt ch cs b
  exact ⟨h2, d1, z309 (k := k2) c h1, OPR_0 (Or.inr y) (fun u => (sy_no u y).elim) d3 (rF_refl _) rfl rfl rfl rfl rfl rfl (Nat.le_refl _), y, d3⟩
/-- the reference takes an argument -/
theorem r_50 {i1 : Int32} {j : Nat} {K : Int32 → Int32 → Int32 → Int32 → rS → Option rA} {b : Bool} {s1 s2 : rS} (e1 : rM w (k + 3) 320 [.ref 36, .int (i1 + 1)] s = some (some (.int (Int32.ofNat m)), s1)) (hm : m < 4400) (hn : n < 4400) (hj : j < 4400) (e2 : rM w (k + 3) 309 [.ref 36, .int 44] (lkP s1 true n m j) = some (some (.int (rd_01 b)), s2)) : s324_50 (rM w (k + 3)) w K (Int32.ofNat n) i1 (Int32.ofNat j) s = K (Int32.ofNat n) i1 (rd_01 b) (Int32.ofNat m) s2 := by
  unfold s324_50
  rw [e1]
  show ((rM w (k + 3) 323 [.ref 36, .int (Int32.ofNat n), .int (Int32.ofNat m)] s1).bind rxI).bind _ = _
  rw [q323 (k := k + 2) hm]
  show (rs_aI (rs_wA s1 49 m (Int32.ofNat n)) 52 (Int32.ofNat n)).bind _ = _
  rw [nA (q := 52) (by omega) hn]
  show (rs_sI (rs_wA s1 49 m (Int32.ofNat n)) 52 (Int32.ofNat n) (s1.2.1 52 n + 1)).bind _ = _
  rw [nWt (q := 52) (by omega) hn]
  by_cases j0 : j = 0
  · subst j0
    show (rs_sI (rs_wA (rs_wA s1 49 m (Int32.ofNat n)) 52 n (s1.2.1 52 n + 1)) 45 (Int32.ofNat n) (Int32.ofNat m)).bind _ = _
    rw [nWt (q := 45) (by omega) hn]
    show s324_99 (rM w (k + 3)) w K (Int32.ofNat n) i1 (Int32.ofNat m) (lkP s1 true n m 0) = _
    unfold s324_99
    rw [e2]
    rfl
  · have ne : mx_f1 .ne (Int32.ofNat j) = true := by
      rw [f1_ne]
      apply decide_eq_true
      intro u
      have u2 := congrArg Int32.toInt u
      rw [of_int (by omega), i0] at u2
      omega
    have e3 : lkP s1 true n m j = rs_wA (rs_wA (rs_wA s1 49 m (Int32.ofNat n)) 52 n (s1.2.1 52 n + 1)) 48 j (Int32.ofNat m) := by
      unfold lkP
      rw [if_pos rfl, if_neg j0, if_neg j0]
    rw [e3] at e2
    show (if mx_f1 .ne (Int32.ofNat j) = true then _ else _) = _
    rw [if_pos ne, nWt (q := 48) (by omega) hj]
    show s324_99 (rM w (k + 3)) w K (Int32.ofNat n) i1 (Int32.ofNat m) _ = _
    unfold s324_99
    rw [e2]
    rfl
/-- the class takes one -/
theorem c_54 {i1 i5 : Int32} {x : Nat} {K : Option Nat → Option Nat → Option Nat → Int32 → Int32 → Int32 → rm_H → Option dR} {b : Bool} {h1 h2 h3 : rm_H} {v v2 : Nat → Int32} (p0 : pC h cx F v) (e1 : dM L xs zf w k 123 [.ref (cx 7), .ref (cx 14), .int (i1 + 1)] h = some (some (.ref x), h1)) (np : nW h1 p) (e2 : dM L xs zf w k 135 [.ref p, .ref x] h1 = some (none, h2)) (p2 : pC h2 cx F v2) (e3 : dM L xs zf w k 118 [.ref (cx 7), .int 10] h2 = some (some (.int (rd_01 b)), h3)) : b134_54 L xs zf (dM L xs zf w k) w K (some (cx 7)) (some p) (some (cx 14)) i1 i5 h = K (some (cx 7)) (some p) (some (cx 14)) i1 (rd_01 b) (i5 + 1) h3 := by
  unfold b134_54
  rw [c_pv p0, va_s, e1]
  obtain ⟨fs, ep, _⟩ := np
  show ((dcV L xs (dM L xs zf w k) 135 [12] (some p) [.ref x] h1).bind dxV).bind _ = _
  rw [hc_v ep (by decide), e2]
  show ((dcV L xs (dM L xs zf w k) 118 [8] (some (cx 7)) [.int 10] h2).bind dxI).bind _ = _
  rw [c_pv p2, e3]
  rfl
/-- one argument of both, and a comma -/
theorem x_ar1 (hT : TF cx F N) (hA : 2 ≤ A ∧ A ≤ 2000) (IH : IHx L xs zf w cx F N q A (ke + 8) (kr + 3) 123 320 (i1 + 1)) (hn : n < g0 4) (hg0 : 1 ≤ g0 4) (hp0 : p < 21 + h0.length) (hbl : bl cx (21 + h0.length)) (a : OPA cx F N q p n 2 (59 + 8 * ks.length) (4 * cap) h0 s0 g0 t0 h s g ts) (hg6 : g 6 ≤ 2100) (hl : ks.length ≤ 6) (j : AJ L xs (0, A / 20 + 1) cx F N q true R J fp p n h0 g0 h s g ts ks cap) : ∃ b h4 s4 g4 ts4 ks4 cap4, (∀ K i5, b134_54 L xs zf (dM L xs zf w (ke + 8)) w K (some (cx 7)) (some p) (some (cx 14)) i1 i5 h = K (some (cx 7)) (some p) (some (cx 14)) i1 (rd_01 b) (i5 + 1) h4) ∧ (∀ K, s324_50 (rM w (kr + 3)) w K (Int32.ofNat n) i1 (Int32.ofNat (lst ks)) s = K (Int32.ofNat n) i1 (rd_01 b) (Int32.ofNat (lst ks4)) s4) ∧ OPA cx F N q p n (if b = true then 10 else 0) (if b = true then 88 else 8) 0 h0 s0 g0 t0 h4 s4 g4 ts4 ∧ AJ L xs (0, A / 20 + 1) cx F N q true R J fp p n h0 g0 h4 s4 g4 ts4 ks4 cap4 ∧ ks4.length = ks.length + 1 ∧ (b = true → SY cx F N q h4 s4 g4 ts4) ∧ (SY cx F N q h4 s4 g4 ts4 → SY cx F N q h s g ts) ∧ (g4 6 ≤ A ∨ g4 6 ≤ g 6 + 2) ∧ 10 ≤ cap4 := by
  obtain ⟨h1, s1, g1, ts1, x, m, ec, er, op1, sl, nx, xl, nl, nr⟩ := IH 0 0 h s g ts a.1 (by omega)
  have ec : dM L xs zf w (ke + 8) 123 [.ref (cx 7), .ref (cx 14), .int (i1 + 1)] h = some (some (.ref x), h1) := ec
  have er : rM w (kr + 3) 320 [.ref 36, .int (i1 + 1)] s = some (some (.int (Int32.ofNat m)), s1) := er
  have aa := OPA_op a op1
  have ag := a.2.2.2.2.2.1
  have al := a.2.2.1.1
  have og := op1.2.2.2.2.2.1
  obtain ⟨h2, cap', d1, d2, d3, d4⟩ := AJ_add (L := L) (xs := xs) (zf := zf) (w := w) (k := ke + 1) (c1 := 0) (c2 := 56 + 8 * ks.length) hn hg0 hp0 hbl (OPA_le aa (by omega) (by omega)) a.1 op1 ag.2 al j nx nl (by omega) (fun u => (nr u).2)
  have n1 := n_lt hT op1.1
  have hT1 := hT.1
  have lj : lst ks < 4400 := by
    rcases l_cc ks with e | ⟨ini, a0, e⟩
    · rw [e]
      show (0 : Nat) < 4400
      omega
    · rw [e, lst_app]
      have := j.2.2.2.2.1 a0 (by rw [e]; simp)
      omega
  obtain ⟨v0, p0⟩ := op_pC a.1
  obtain ⟨v2, p2⟩ := op_pC d2.1
  have np1 := (nW_op a.1 op1 j.1).1
  have lks : ∀ a0 : Nat → Nat, (ks ++ [a0]).length = ks.length + 1 := fun a0 => by rw [List.length_append]; rfl
  have c10 : 10 ≤ cap' ∧ cap' ≤ 2 * ks.length + 12 := by
    have e := pW_cap d3.2.2.1
    rw [List.length_map, lks] at e
    rcases e with ⟨e, _⟩ | e | ⟨e, _⟩
    · simp at e
    · omega
    · simp at e
  have mm : lst (ks ++ [prt x m (g 4) (g1 4) (21 + h.length) (21 + h1.length)]) = m := lst_app _
  rcases d2.1 with y | y
  · obtain ⟨b, h4, s4, g4, e1, e2, op4, y4, g40, w4, s4e, y41, y42, y43, y44, y45, y46⟩ := op_skip (L := L) (xs := xs) (zf := zf) (w := w) (k := ke + 4) (k2 := kr + 1) hT P44 (Or.inl y)
    refine ⟨b, h4, s4, g4, ts1, _, cap', fun K i5 => c_54 p0 ec np1 d1 p2 e1, fun K => ?_, ?_, AJ_keep op4 (Or.inl y) hbl (by omega) d3, lks _, fun _ => (y4 y).1, fun u => (op1.2.1 (d4 (op4.2.1 u).1)).1, by omega, c10.1⟩
    · rw [mm]
      exact r_50 (k := kr) er (by omega) (by omega) lj e2
    · have aa2 := OPA_le (e1 := 0) (e2 := 8) (f2 := 0) d2 (Nat.le_refl _) (by omega)
      cases b with
      | true =>
        have := OPA_tok aa2 op4 w4 g40 y42 y46
        exact OPA_le this (by decide) (by decide)
      | false => exact OPA_op aa2 op4
  · obtain ⟨h4, e1, e2, op4, y4, w4⟩ := op_skipF (L := L) (xs := xs) (zf := zf) (w := w) (k := ke + 4) (k2 := kr + 1) P44 y
    refine ⟨false, h4, _, g1, ts1, _, cap', fun K i5 => c_54 p0 ec np1 d1 p2 e1, fun K => ?_, ?_, AJ_keep op4 (Or.inr y) hbl (by omega) d3, lks _, fun u => absurd u (by decide), fun u => (op1.2.1 (d4 (op4.2.1 u).1)).1, by omega, c10.1⟩
    · rw [mm]
      exact r_50 (b := false) (k := kr) er (by omega) (by omega) lj e2
    · have aa2 := OPA_le (e1 := 0) (e2 := 8) (f2 := 0) d2 (Nat.le_refl _) (by omega)
      exact OPA_op aa2 op4
end AG
