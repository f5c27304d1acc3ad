/-! STATEMENTS: if and while. -/
section IF
variable {L : Nat} {xs : Nat → Int32} {zf : Value} {w k k2 i : Nat} {cx : Nat → Nat} {F : Nat → Nat → Int32} {N : Nat → Int64} {q : List Value} {h h' h1 h2 : rm_H} {s s' s1 s2 : rS} {g g' g1 g2 : Nat → Nat} {ts ts' ts1 ts2 : List Nat} {v : Nat → Int32} {A ke kr c1 c2 : Nat} {i1 : Int32}
/-- else -/
theorem op_else (hT : TF cx F N) (z : SY cx F N q h s g ts ∨ FLT cx F N q h s g ts) : ∃ b h' g', dM L xs zf w (k + 4) 118 [.ref (cx 7), .int 27] h = some (some (.int (rd_01 b)), h') ∧ rM w (k2 + 1) 303 [.ref 36, .int 7] s = some (some (.int (rd_01 b)), s) ∧ OPR cx F N q h s g ts h' (if b = true then nxS s (g 0) else s) g' ts ∧ st1 (cx 0) h h' ∧ (g' 1 = g 1 ∧ g' 2 = g 2 ∧ g' 3 = g 3 ∧ g' 4 = g 4 ∧ g' 5 = g 5 ∧ g' 6 = g 6) := by
  rcases z with z | z
  · obtain ⟨⟨p, ⟨a1, a2, a3, a4⟩, rt, ch, ⟨c1, c2, c3, c4⟩, b1, b2, b3, b4⟩, g6⟩ := id z
    have hl : g 0 ≤ 2000 := by have := hT.1; omega
    obtain ⟨⟨f5, _, tr⟩, _⟩ := hT.2.2 (g 0) b1
    have r3 := q303 (w := w) (k := k2) 7 a1 c1 hl
    rw [rt.1, rt.2.2.1] at r3
    by_cases t : ctk cx F (g 0) = 27
    · have hlt : g 0 < cx 16 := w_pass hT z 27 t (by decide) (by decide)
      obtain ⟨h1, d1, d2, d3⟩ := y_skipT (L := L) (xs := xs) (zf := zf) (w := w) (k := k) hT hlt p 27 t
      rw [decide_eq_true ((wd_iff tr Q7).mpr t)] at r3
      have y := SY_nx z hlt d2 d3
      exact ⟨true, h1, _, d1, r3, OPR_0 (Or.inl y) (fun _ => z) d3 rF_nx rfl rfl rfl rfl rfl rfl (by rw [gu_eq]; omega), d3, rfl, rfl, rfl, rfl, rfl, rfl⟩
    · obtain ⟨h1, d1, d2, d3⟩ := y_skipF (L := L) (xs := xs) (zf := zf) (w := w) (k := k) p 27 t
      rw [decide_eq_false (fun u => t ((wd_iff tr Q7).mp u))] at r3
      have y : SY cx F N q h1 s g ts := ⟨⟨d2, ⟨a1, a2, a3, a4⟩, rt, CH_r p d3 ch, ⟨c1, c2, c3, c4⟩, b1, b2, b3, b4⟩, g6.1, TSI_w g6.2 (pC_r p) (by decide) d3 rfl rfl rfl rfl⟩
      exact ⟨false, h1, g, d1, r3, OPR_0 (Or.inl y) (fun _ => z) d3 (rF_refl _) rfl rfl rfl rfl rfl rfl (Nat.le_refl _), d3, rfl, rfl, rfl, rfl, rfl, rfl⟩
  · obtain ⟨⟨v, p, r⟩, h1, rt, ⟨pt, vr, ch⟩, cs, b⟩ := id z
    obtain ⟨h2, d1, d2, d3⟩ := y_skipF (L := L) (xs := xs) (zf := zf) (w := w) (k := k) p 27 (by rw [r.2.1]; decide)
    have y : FLT cx F N q h2 s g ts := FL_r d3 p d2 r h1 rt ch cs b
    exact ⟨false, h2, g, d1, z303 (k := k2) 7 h1, OPR_0 (Or.inr y) (fun u => (sy_no u y).elim) d3 (rF_refl _) rfl rfl rfl rfl rfl rfl (Nat.le_refl _), d3, rfl, rfl, rfl, rfl, rfl, rfl⟩
/-- an if -/
theorem NR_16 {zz d lo hi pl ph n p : Nat} (rg : 1 ≤ lo ∧ lo ≤ n ∧ n < hi ∧ pl ≤ p ∧ p < ph) (f0 : fd h 12 p 0 = some (.int (Int32.ofNat 16))) (r44 : s.2.1 44 n = Int32.ofNat (wK 16)) (f1 : fd h 12 p 1 = some (.int (s.2.1 50 n))) (hk : ∀ c ∈ kids 16, kd h s (NRq L xs h s (kC 16 c.1, zz)) lo hi pl ph n p c) (he : ∃ a b a2 b2, kd h s (NRq L xs h s (0, zz)) lo a pl b n p (8, 45, false) ∧ kd h s (NRq L xs h s (1, zz)) a a2 b b2 n p (9, 46, false) ∧ ((fd h 12 p 10 = some .null ∧ s.2.1 47 n = 0 ∧ a2 ≤ hi ∧ b2 ≤ ph) ∨ kd h s (NRq L xs h s (1, zz)) a2 hi b2 ph n p (10, 47, false))) (f12 : (fd h 12 p 12).isSome = true) : NR L xs h s (2, zz + 1) (d + 1) lo hi pl ph n p := ⟨rg, 16, ⟨by omega, by omega, f0, r44, f1, Or.inr (Or.inr ⟨rfl, by omega⟩), fun z => by omega⟩, fun z => by omega, fun c hc => (by rw [if_neg (by rw [(show ∀ c ∈ kids 16, c.2.2 = false by decide) c hc]; decide)]; exact hk c hc), fun _ => he, fun z => by omega, fun z => by omega, fun z => by omega, fun z => by omega, fun z => by omega, fun z => by omega, fun z => by omega, fun z => by omega, fun z => by omega, fun z => by omega, f12⟩
/-- the cell of an if or while -/
abbrev ifC (W : Nat) (pl : Int32) (x y : Nat) (e : Value) : rm_E := .inr (12, [.int (Int32.ofNat W), .int pl, .ref 9, .int pl, .int 0, .null, .null, .null, .ref x, .ref y, e, .null, .int 0])
/-- condition and body -/
theorem x_139a {W : Nat} {c : Int32} (hT : TF cx F N) (hA : A ≤ 2000) (IH : IHx L xs zf w cx F N q A (ke + 4) (kr + 3) 123 320 (i1 + 1)) (IB : IHx L xs zf w cx F N q A (ke + 4) (kr + 3) 119 317 (i1 + 1)) (z : SY cx F N q h s g ts) (hlt : g 0 < cx 16) (hWk : Int32.ofNat (wK W) ≠ 8 ∧ Int32.ofNat (wK W) ≠ 20) : ∃ h7 s7 g7 ts7 x m x6 m6 a6 b6,
    (∀ r, (if mx_f2 .ne (Int32.ofNat W) 16 = true then b139_78 L xs zf (dM L xs zf w (ke + 4 + k)) w (some (21 + h.length)) h7 else ((dcV L xs (dM L xs zf w (ke + 4 + k)) 118 [8] (some (cx 7)) [.int 27] h7).bind dxI).bind fun x35 => if mx_f1 .eq x35.1 = true then b139_78 L xs zf (dM L xs zf w (ke + 4 + k)) w (some (21 + h.length)) x35.2 else ((dcV L xs (dM L xs zf w (ke + 4 + k)) 119 [8] (some (cx 7)) [.ref (cx 14), .int (i1 + 1)] x35.2).bind dxR).bind fun p40 => (dpF p40.2 10 [12] (some (21 + h.length)) (va_rf p40.1)).bind fun h44 => b139_78 L xs zf (dM L xs zf w (ke + 4 + k)) w (some (21 + h.length)) h44) = some r → dM L xs zf w (ke + 5 + k) 139 [.ref (cx 7), .int (Int32.ofNat W), .ref (cx 14), .int i1] h = some r)
    ∧ (∀ r, (if mx_f2 .eq c 8 = true then s318_145 (rM w (kr + 3 + k)) w (Int32.ofNat (g 4)) s7 else ((rM w (kr + 3 + k) 303 [.ref 36, .int 7] s7).bind rxI).bind fun x37 => if mx_f1 .ne x37.1 = true then (rs_pI x37.2 56 ((x37.2.1 56) + 1)).bind fun s43 => ((rM w (kr + 3 + k) 317 [.ref 36, .int (i1 + 1)] s43).bind rxI).bind fun x48 => ((rM w (kr + 3 + k) 323 [.ref 36, .int (Int32.ofNat (g 4)), .int x48.1] x48.2).bind rxI).bind fun x53 => (rs_sI x53.2 47 (Int32.ofNat (g 4)) x53.1).bind fun s58 => rrI (some .int) (Int32.ofNat (g 4)) s58 else s318_145 (rM w (kr + 3 + k)) w (Int32.ofNat (g 4)) x37.2) = some r → s318_84 (rM w (kr + 3 + k)) w i1 (s.2.1 41 (g 0)) c (Int32.ofNat (wK W)) (nxS s (g 0)) = some r)
    ∧ OPC cx F N q 9 67 h s g ts h7 s7 g7 ts7 ∧ hc h7 (21 + h.length) = some (ifC W (cpl cx F (g 0)) x x6 .null) ∧ g7 6 ≤ A + 4 ∧ g 4 < g7 4 ∧ a6 ≤ g7 4 ∧ b6 ≤ 21 + h7.length
    ∧ (SY cx F N q h7 s7 g7 ts7 → g 0 < g7 0 ∧ onR s7 (g 4) (upd (upd (fun r => ndV r (Int32.ofNat (wK W)) (F 5 (g 0))) 45 (Int32.ofNat m)) 46 (Int32.ofNat m6)) 0 ∧ KD L xs (0, A / 20 + 1) h7 s7 (g 4) m x (g 4 + 1) a6 (21 + h.length + 1) b6 ∧ KD L xs (1, A / 20 + 1) h7 s7 (g 4) m6 x6 a6 (g7 4) b6 (21 + h7.length)) := by
  have c4 := z.1.2.2.2.2.1.2.2.2
  have g6 := z.2
  have nl0 := n_lt hT (Or.inl z)
  obtain ⟨h2, a1, p1, sy2, oc2, on2, a3, l2⟩ := SY_ns (L := L) (xs := xs) (zf := zf) (w := w) (k := ke + 1 + k) hT z hlt (Int32.ofNat W) (Int32.ofNat (wK W)) hWk
  have op2 := oc2.1
  have q0 : gu (gu g 0 (g 0 + 1)) 4 (g 4 + 1) 0 = g 0 + 1 := rfl
  have q4 : gu (gu g 0 (g 0 + 1)) 4 (g 4 + 1) 4 = g 4 + 1 := rfl
  have q6 : gu (gu g 0 (g 0 + 1)) 4 (g 4 + 1) 6 = g 6 := rfl
  obtain ⟨h4, s4, g4, ts4, x, m, ec, er, op4, sl, nx, xl, nl, nr⟩ := IH k k h2 _ _ ts (Or.inl sy2) (by omega)
  have cp4 := on_keep (Or.inl sy2) op4 a3
  have o4 := op4.2.2.2.2.2.1
  have hm2 : SY cx F N q h4 s4 g4 ts4 → g 4 + 1 ≤ m := fun u => by have := (NR_rg _ _ _ _ _ _ _ _ (nr u).2.2).2.1; omega
  obtain ⟨h5, d1, d2, d3, d4, d5, op5, f45, f54⟩ := op_lnk (w := w) (x := x) (f := 8) (r := 45) (n := g 4) (m := m) hT (OPR_trans op2 op4) cp4 (Nat.le_refl _) (by omega) rfl (by omega) (by omega) (Nat.le_refl _) nl (fun u => by have := hm2 u; omega) (by omega)
  obtain ⟨v5, p5⟩ := op_pC op5.1
  obtain ⟨h6, s6, g6', ts6, x6, m6, ec6, er6, op6, sl6, nx6, xl6, nl6, nr6⟩ := IB k k h5 _ _ ts4 op5.1 (by omega)
  have cp6 := on_keep op5.1 op6 d2
  have o6 := op6.2.2.2.2.2.1
  have hm6 : SY cx F N q h6 s6 g6' ts6 → g4 4 ≤ m6 := fun u => (NR_rg _ _ _ _ _ _ _ _ (nr6 u).2.2).2.1
  obtain ⟨h7, e1, e2, e3, e4, e5, op7, f67, f76⟩ := op_lnk (w := w) (x := x6) (f := 9) (r := 46) (n := g 4) (m := m6) hT (OPR_trans op5 op6) cp6 (Nat.le_refl _) (by omega) rfl (by omega) (by omega) (Nat.le_refl _) nl6 (fun u => by have := hm6 u; omega) (by omega)
  have l5 := d3.2.1
  have l7 := e3.2.1
  have le24 := op4.2.2.1.1
  have le56 := op6.2.2.1.1
  refine ⟨h7, _, g6', ts6, x, m, x6, m6, g4 4, 21 + h4.length, fun r hr => ?_, fun r hr => ?_, OPC_st (OPC_trans (OPC_st (OPC_trans oc2 op4) d3 op5) op6) e3 op7, e2, by omega, by omega, by omega, by omega, fun u => ?_⟩
  · rw [show ke + 5 + k = ke + 4 + k + 1 from by omega, e139]
    show b139_0 L xs zf (dM L xs zf w (ke + 4 + k)) w (some (cx 7)) (Int32.ofNat W) (some (cx 14)) i1 h = _
    unfold b139_0
    refine c_mk z.1.1 (Int32.ofNat W) ?_ ?_
    · have := nd_new (L := L) (xs := xs) (zf := zf) (w := w) (k := ke + 3 + k) (h := h) (Int32.ofNat W) (vS cx F (g 0) 7)
      rw [show ke + 3 + k + 1 = ke + 4 + k from by omega] at this
      exact this
    rw [vS_7]
    refine bse (c_in p1) (bse (a := h2) (by rw [c_rv p1, show ke + 4 + k = ke + 1 + k + 3 from by omega, a1]; rfl) ?_)
    refine bse (a := (some x, h4)) (by rw [c_pv sy2.1.1, va_s, ec]; rfl) ?_
    refine bse d1 ?_
    refine bse (a := (some x6, h6)) (by rw [c_pv p5, va_s, ec6]; rfl) ?_
    exact bse e1 hr
  · unfold s318_84
    refine bse (a := (Int32.ofNat (g 4), stN s (g 4) (g 0) (Int32.ofNat (wK W)))) (by rw [show kr + 3 + k = kr + 2 + k + 1 from by omega, q316n z.1.2.2.2.2.1.2.1 (by omega)]; rfl) ?_
    refine bse (a := (Int32.ofNat m, s4)) (by rw [er]; rfl) ?_
    refine bse (a := (Int32.ofNat m, rs_wA s4 49 m (Int32.ofNat (g 4)))) (by rw [show kr + 3 + k = kr + 2 + k + 1 from by omega, d4]; rfl) ?_
    refine bse d5 ?_
    refine bse (a := (Int32.ofNat m6, s6)) (by rw [er6]; rfl) ?_
    refine bse (a := (Int32.ofNat m6, rs_wA s6 49 m6 (Int32.ofNat (g 4)))) (by rw [show kr + 3 + k = kr + 2 + k + 1 from by omega, e4]; rfl) ?_
    exact bse e5 hr
  · have u6 := f76 u
    have u5 := (op6.2.1 u6).1
    have u4 := f54 u5
    obtain ⟨v1, v48, v2⟩ := nr u4
    obtain ⟨v61, v648, v62⟩ := nr6 u6
    have rg := NR_rg _ _ _ _ _ _ _ _ v2
    have rg6 := NR_rg _ _ _ _ _ _ _ _ v62
    have on7 := lk_on (r := 46) (m := m6) (by omega) (onR_keep op6 u6 (by omega) (lk_on (r := 45) (m := m) (by omega) (onR_keep op4 u4 (by omega) on2)))
    have K5 := KD_new (n := g 4) (r := 45) v2 d3 cp4 (by omega) (by omega) (by omega)
    have K6 := KD_keep op6 u6 K5 (by omega) (bl_le (sy_cx (Or.inl z)) (by omega))
    have K7 := KD_lk (r := 46) (m2 := m6) K6 e3 cp6 (by omega) (by omega) (by omega) (by omega)
    have J7 := KD_new (n := g 4) (r := 46) v62 e3 cp6 (by omega) (by omega) (by omega)
    rw [q4, l2] at K7
    rw [l5, ← l7] at J7
    exact ⟨by omega, on7, K7, J7⟩
end IF
