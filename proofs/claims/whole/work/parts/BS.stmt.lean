/-! STATEMENTS: a word, an expression, a semicolon; if and while. -/
/-- a step of both that leaves credit for c1 cells and c2 slots -/
def OPC (cx : Nat → Nat) (F : Nat → Nat → Int32) (N : Nat → Int64) (q : List Value) (c1 c2 : Nat) (h : rm_H) (s : rS) (g : Nat → Nat) (ts : List Nat) (h' : rm_H) (s' : rS) (g' : Nat → Nat) (ts' : List Nat) : Prop := OPR cx F N q h s g ts h' s' g' ts' ∧ h'.length + 10 * g 0 + g 6 + c1 ≤ h.length + 10 * g' 0 + g' 6 ∧ zh h' + 4 * g 2 + 80 * g 0 + 8 * g 6 + c2 ≤ zh h + 4 * g' 2 + 80 * g' 0 + 8 * g' 6
/-- what both have of a statement -/
def STR (L : Nat) (xs : Nat → Int32) (cx : Nat → Nat) (F : Nat → Nat → Int32) (N : Nat → Int64) (q : List Value) (A : Nat) (h : rm_H) (s : rS) (g : Nat → Nat) (ts : List Nat) (rc : Option dR) (rr : Option rA) : Prop := ∃ h' s' g' ts' x n, rc = some (some (.ref x), h') ∧ rr = some (some (.int (Int32.ofNat n)), s') ∧ OPC cx F N q 2 11 h s g ts h' s' g' ts' ∧ g' 6 ≤ A ∧ nW h' x ∧ 21 + h.length ≤ x ∧ n < g' 4 ∧ (SY cx F N q h' s' g' ts' → g 0 < g' 0 ∧ s'.2.1 48 n = 0 ∧ NR L xs h' s' (2, A / 20 + 1) (g' 4 - g 4) (g 4) (g' 4) (21 + h.length) (21 + h'.length) n x)
section SM
variable {L : Nat} {xs : Nat → Int32} {zf : Value} {w k i : Nat} {cx : Nat → Nat} {F : Nat → Nat → Int32} {N : Nat → Int64} {q : List Value} {h h' h1 h2 : rm_H} {s s' s1 s2 : rS} {g g' g1 g2 : Nat → Nat} {ts ts' ts1 ts2 : List Nat} {v : Nat → Int32} {A ke kr c1 c2 : Nat} {i1 : Int32}
theorem OPC_trans (a : OPC cx F N q c1 c2 h s g ts h1 s1 g1 ts1) (b : OPR cx F N q h1 s1 g1 ts1 h2 s2 g2 ts2) : OPC cx F N q c1 c2 h s g ts h2 s2 g2 ts2 := by
  refine ⟨OPR_trans a.1 b, ?_, ?_⟩
  · have := a.2.1
    have := b.2.2.2.2.2.2.1
    omega
  · have := a.2.2
    have := b.2.2.2.2.2.2.2.1
    omega
theorem OPC_st {p : Nat} (a : OPC cx F N q c1 c2 h s g ts h1 s1 g1 ts1) (wp : st1 p h1 h2) (o : OPR cx F N q h s g ts h2 s2 g1 ts1) : OPC cx F N q c1 c2 h s g ts h2 s2 g1 ts1 := by
  refine ⟨o, ?_, ?_⟩
  · rw [wp.2.1]; exact a.2.1
  · rw [wp.2.2]; exact a.2.2
theorem OPC_le {d1 d2 : Nat} (a : OPC cx F N q c1 c2 h s g ts h1 s1 g1 ts1) (e1 : d1 ≤ c1) (e2 : d2 ≤ c2) : OPC cx F N q d1 d2 h s g ts h1 s1 g1 ts1 := by
  refine ⟨a.1, ?_, ?_⟩
  · have := a.2.1
    omega
  · have := a.2.2
    omega
/-- the reference has passed token i and made node n -/
def stN (s : rS) (n i : Nat) (kk : Int32) : rS := ndS (nxS s i) n kk (s.2.1 41 i)
theorem stN_rF {n : Nat} {kk : Int32} : rF s (stN s n i kk) := rF_trans (rF_w (by omega)) rF_nd
theorem stN_sX {n : Nat} {kk : Int32} : sX s (stN s n i kk) n := sX_trans sX_w (sX_nd (Nat.le_refl _)) (Nat.le_refl _)
theorem stN_yA {n : Nat} {kk : Int32} : yA s (stN s n i kk) := by
  refine yA_of rfl (fun p h1 h2 => ?_) ?_
  · funext j
    show (ndS (nxS s i) n kk (s.2.1 41 i)).2.1 p j = _
    rw [nd_get, if_neg (by omega)]
    rfl
  · funext j
    show (ndS (nxS s i) n kk (s.2.1 41 i)).2.2 61 j = _
    rw [nd_getJ, if_neg (by omega)]
    rfl
/-- both make a node of a statement at its word -/
theorem SY_ns (hT : TF cx F N) (z : SY cx F N q h s g ts) (hlt : g 0 < cx 16) (W kk : Int32) (hk : kk ≠ 8 ∧ kk ≠ 20) : ∃ h2, dM L xs zf w (k + 3) 92 [.ref (cx 0)] (h ++ [nd0 W (cpl cx F (g 0))]) = some (none, h2) ∧ pC (h ++ [nd0 W (cpl cx F (g 0))]) cx F (vS cx F (g 0)) ∧ SY cx F N q h2 (stN s (g 4) (g 0) kk) (gu (gu g 0 (g 0 + 1)) 4 (g 4 + 1)) ts ∧ OPC cx F N q 9 67 h s g ts h2 (stN s (g 4) (g 0) kk) (gu (gu g 0 (g 0 + 1)) 4 (g 4 + 1)) ts ∧ onR (stN s (g 4) (g 0) kk) (g 4) (fun r => ndV r kk (F 5 (g 0))) 0 ∧ hc h2 (21 + h.length) = some (nd0 W (cpl cx F (g 0))) ∧ h2.length = h.length + 1 := by
  obtain ⟨⟨p, ⟨a1, a2, a3, a4⟩, rt, ch0, ⟨c1, c2, c3, c4⟩, b1, b2, b3, b4⟩, g6⟩ := id z
  have p1 : pC (h ++ [nd0 W (cpl cx F (g 0))]) cx F (vS cx F (g 0)) := pC_ap p
  obtain ⟨h2, d1, d2, d3⟩ := y_adv (L := L) (xs := xs) (zf := zf) (w := w) (k := k) hT hlt p1
  have l2 : h2.length = h.length + 1 := by rw [d3.2.1, List.length_append]; rfl
  have y2 : zh h2 = zh h + 13 := by rw [d3.2.2, zh_nd]
  have hne : 21 + h.length ≠ cx 0 := by have := hc_lt (pC_r p); omega
  have sy : SY cx F N q h2 (stN s (g 4) (g 0) kk) (gu (gu g 0 (g 0 + 1)) 4 (g 4 + 1)) ts := by
    refine ⟨⟨d2, ⟨a1, a2, a3, a4⟩, rT_F stN_rF rt, CH_g (g := g) rfl rfl rfl (CH_r p1 d3 (CH_ap (Or.inl (nd0_5 _ _)) ch0)), ⟨rfl, rfl, c3, ?_⟩, ?_⟩, g6.1, TSI_n g6.2 (fr_trans (fr_app (fun y => y = cx 0) _) d3.1 (fun _ _ u => u)) (cx0_10 p) (nD_st (nD_ap (fun _ z => by cases z)) d3) (tR_sX stN_sX) (yA_n c3 (by have := hT.1; omega) stN_yA) (Nat.le_refl _) (Nat.le_succ _) rfl (fun n n1 n2 => ?_)⟩
    rotate_left 2
    · have n3 : n < g 4 + 1 := n2
      have n4 : n = g 4 := by omega
      have e44 : (stN s (g 4) (g 0) kk).2.1 44 (g 4) = kk := by
        show (ndS (nxS s (g 0)) (g 4) kk (s.2.1 41 (g 0))).2.1 44 (g 4) = _
        rw [nd_get, if_pos ⟨rfl, by omega, by omega⟩]
        rfl
      rw [n4, e44]
      exact hk
    · show 1 ≤ g 4 + 1
      omega
    · show g 0 + 1 ≤ _ ∧ _ ≤ g 0 + 1 ∧ g 4 + 1 ≤ (g 0 + 1) + 2 ∧ g 5 + 2 ≤ g 0 + 1
      omega
  refine ⟨h2, d1, p1, sy, ⟨⟨Or.inl sy, fun _ => ⟨z, stN_sX, stN_yA⟩, fr_trans (fr_app _ _) d3.1 (fun _ _ u => Or.inl u), Or.inl rfl, stN_rF, ?_⟩, ?_⟩, ⟨fun r h1 h2 => ?_, ?_⟩, st1_old d3 (hc_new _) hne, l2⟩
  · show (g 0 ≤ g 0 + 1 ∧ g 4 ≤ g 4 + 1) ∧ h2.length + 10 * g 0 + g 6 ≤ h.length + 10 * (g 0 + 1) + g 6 ∧ zh h2 + 4 * g 2 + 80 * g 0 + 8 * g 6 ≤ zh h + 4 * g 2 + 80 * (g 0 + 1) + 8 * g 6 ∧ g 4 + 1 + g 0 + g 6 ≤ g 4 + (g 0 + 1) + g 6
    omega
  · show h2.length + 10 * g 0 + g 6 + 9 ≤ h.length + 10 * (g 0 + 1) + g 6 ∧ zh h2 + 4 * g 2 + 80 * g 0 + 8 * g 6 + 67 ≤ zh h + 4 * g 2 + 80 * (g 0 + 1) + 8 * g 6
    omega
  · show (ndS (nxS s (g 0)) (g 4) kk (s.2.1 41 (g 0))).2.1 r (g 4) = _
    rw [nd_get, if_pos ⟨rfl, h1, h2⟩, rt.2.1]
  · show (ndS (nxS s (g 0)) (g 4) kk (s.2.1 41 (g 0))).2.2 56 (g 4) = _
    rw [nd_getJ, if_pos ⟨rfl, rfl⟩]
/-- the reference at a word of a statement -/
theorem r_318 {r : rA} {c T : Int32} (hT : TF cx F N) (z : SY cx F N q h s g ts) (hq : wdP c T) (t : ctk cx F (g 0) = T) (hr : s318_36 (rM w k) w i1 (s.2.1 41 (g 0)) c s = some r) : rM w (k + 1) 318 [.ref 36, .int i1] s = some r := by
  obtain ⟨⟨p, ⟨a1, a2, a3, a4⟩, rt, ch, ⟨c1, c2, c3, c4⟩, b1, b2, b3, b4⟩, g6⟩ := id z
  have hl : g 0 ≤ 2000 := by have := hT.1; omega
  obtain ⟨⟨f5, _, tr⟩, _⟩ := hT.2.2 (g 0) b1
  obtain ⟨d1, d2⟩ := (wd_iff tr hq).mpr t
  rw [y318]
  show s318_0 (rM w k) w i1 s = _
  unfold s318_0
  refine bse (aT (by omega) c1 hl) (bse (aT (by omega) c1 hl) (ifn (by rw [rt.1, d1]; decide) (bse (aT (by omega) c1 hl) ?_)))
  rw [rt.2.2.1, d2]
  exact hr
theorem q316n {n : Nat} {kk : Int32} (hn : s.1 10 = Int32.ofNat n) (hl : n < 4400) : rM w (k + 1) 316 [.ref 36, .int kk, .int (s.2.1 41 i)] (nxS s i) = some (some (.int (Int32.ofNat n)), stN s n i kk) := q316 (s := nxS s i) kk (s.2.1 41 i) hn hl
/-- a word, an expression, a semicolon -/
theorem x_140 {W : Nat} {T c : Int32} (hT : TF cx F N) (hA : A ≤ 2000) (IH : IHx L xs zf w cx F N q A (ke + 4) (kr + 3) 123 320 (i1 + 1)) (z : SY cx F N q h s g ts) (hW : (W = 19 ∧ T = 29 ∧ c = 10) ∨ (W = 18 ∧ T = 30 ∧ c = 9) ∨ (W = 20 ∧ T = 31 ∧ c = 11)) (t : ctk cx F (g 0) = T) : STR L xs cx F N q (A + 20) h s g ts (dM L xs zf w (ke + 6 + k) 121 [.ref (cx 7), .ref (cx 14), .int i1] h) (rM w (kr + 4 + k) 318 [.ref 36, .int i1] s) := by
  have hlt := w_pass hT z T t (by rcases hW with e | e | e <;> rw [e.2.1] <;> decide) (by rcases hW with e | e | e <;> rw [e.2.1] <;> decide)
  have c4 := z.1.2.2.2.2.1.2.2.2
  have g6 := z.2
  have f5 := (hT.2.2 (g 0) z.1.2.2.2.2.2.1).1.1
  have nl0 := n_lt hT (Or.inl z)
  obtain ⟨h2, a1, p1, sy2, oc2, on2, a3, l2⟩ := SY_ns (L := L) (xs := xs) (zf := zf) (w := w) (k := ke + 1 + k) hT z hlt (Int32.ofNat W) (Int32.ofNat (wK W)) (wk_k W (by omega) (by omega) (by omega))
  have op2 := oc2.1
  have q0 : gu (gu g 0 (g 0 + 1)) 4 (g 4 + 1) 0 = g 0 + 1 := rfl
  have q4 : gu (gu g 0 (g 0 + 1)) 4 (g 4 + 1) 4 = g 4 + 1 := rfl
  have q6 : gu (gu g 0 (g 0 + 1)) 4 (g 4 + 1) 6 = g 6 := rfl
  obtain ⟨h4, s4, g4, ts4, x, m, ec, er, op4, sl, nx, xl, nl, nr⟩ := IH k k h2 _ _ ts (Or.inl sy2) (by omega)
  have cp4 := on_keep (Or.inl sy2) op4 a3
  have o4 := op4.2.2.2.2.2.1
  have hm2 : SY cx F N q h4 s4 g4 ts4 → g 4 + 1 ≤ m := fun u => by have := (NR_rg _ _ _ _ _ _ _ _ (nr u).2.2).2.1; omega
  obtain ⟨h5, d1, d2, d3, d4, d5, op5, f45, f54⟩ := op_lnk (w := w) (x := x) (f := 8) (r := 45) (n := g 4) (m := m) hT (OPR_trans op2 op4) cp4 (Nat.le_refl _) (by omega) rfl (by omega) (by omega) (Nat.le_refl _) nl (fun u => by have := hm2 u; omega) (by omega)
  obtain ⟨v5, p5⟩ := op_pC op5.1
  obtain ⟨h6, s6, g6', e61, e62, op6, n6, w6, s6e, y61, y62, y63, y64, y65, y66⟩ := op_need (L := L) (xs := xs) (zf := zf) (w := w) (k := ke + k) (k2 := kr + k) hT P59 op5.1
  have cp6 := on_keep op5.1 op6 d2
  have l6 := w6.2.1
  have l5 := d3.2.1
  have le34 := op4.2.2.1.1
  have hlt6 := hc_lt cp6
  refine ⟨h6, s6, g6', ts4, 21 + h.length, g 4, ?_, ?_, OPC_le (OPC_trans (OPC_st (OPC_trans oc2 op4) d3 op5) op6) (by omega) (by omega), by omega, nW_of (o := none) cp6 rfl rfl rfl, Nat.le_refl _, by omega, fun u => ?_⟩
  · have c140 : dM L xs zf w (ke + 5 + k) 140 [.ref (cx 7), .int (Int32.ofNat W), .ref (cx 14), .int i1] h = some (some (.ref (21 + h.length)), h6) := by
      rw [show ke + 5 + k = ke + k + 4 + 1 from by omega, e140]
      show b140_0 L xs zf (dM L xs zf w (ke + k + 4)) w (some (cx 7)) (Int32.ofNat W) (some (cx 14)) i1 h = _
      unfold b140_0
      refine c_mk z.1.1 (Int32.ofNat W) (nd_new (k := ke + k + 3) (Int32.ofNat W) (vS cx F (g 0) 7)) ?_
      rw [vS_7]
      refine bse (c_in p1) (bse (a := h2) (by rw [c_rv p1, show ke + k + 4 = ke + 1 + k + 3 from by omega, a1]; rfl) ?_)
      refine bse (a := (some x, h4)) (by rw [c_pv sy2.1.1, va_s, show ke + k + 4 = ke + 4 + k from by omega, ec]; rfl) ?_
      refine bse d1 ?_
      exact bse (a := h6) (by rw [c_pv p5, e61]; rfl) rfl
    rw [show ke + 6 + k = ke + 5 + k + 1 from by omega, e121]
    show b121_0 L xs zf (dM L xs zf w (ke + 5 + k)) w (some (cx 7)) (some (cx 14)) i1 h = _
    unfold b121_0
    refine bse (c_in z.1.1) (bse (c_I z.1.1 6 (by omega)) ?_)
    rw [vS_6, t]
    rcases hW with ⟨e1, e2, _⟩ | ⟨e1, e2, _⟩ | ⟨e1, e2, _⟩ <;> subst e1 <;> subst e2
    · exact ifn (by decide) (ifn (by decide) (ifn (by decide) (ifn (by decide) (ifn (by decide) (ift rfl (bse (a := (some (21 + h.length), h6)) (by rw [c_pv z.1.1, va_s, show (19 : Int32) = Int32.ofNat 19 from rfl, c140]; rfl) rfl))))))
    · exact ifn (by decide) (ifn (by decide) (ifn (by decide) (ifn (by decide) (ifn (by decide) (ifn (by decide) (ift rfl (bse (a := (some (21 + h.length), h6)) (by rw [c_pv z.1.1, va_s, show (18 : Int32) = Int32.ofNat 18 from rfl, c140]; rfl) rfl)))))))
    · exact ifn (by decide) (ifn (by decide) (ifn (by decide) (ifn (by decide) (ifn (by decide) (ifn (by decide) (ifn (by decide) (ift rfl (bse (a := (some (21 + h.length), h6)) (by rw [c_pv z.1.1, va_s, show (20 : Int32) = Int32.ofNat 20 from rfl, c140]; rfl) rfl))))))))
  · have r234 : s318_234 (rM w (kr + 3 + k)) w i1 (s.2.1 41 (g 0)) (Int32.ofNat (wK W)) (nxS s (g 0)) = some (some (.int (Int32.ofNat (g 4))), s6) := by
      unfold s318_234
      refine bse (a := (Int32.ofNat (g 4), stN s (g 4) (g 0) (Int32.ofNat (wK W)))) (by rw [show kr + 3 + k = kr + 2 + k + 1 from by omega, q316n z.1.2.2.2.2.1.2.1 (by omega)]; rfl) ?_
      refine bse (a := (Int32.ofNat m, s4)) (by rw [er]; rfl) ?_
      refine bse (a := (Int32.ofNat m, rs_wA s4 49 m (Int32.ofNat (g 4)))) (by rw [show kr + 3 + k = kr + 2 + k + 1 from by omega, d4]; rfl) ?_
      refine bse d5 ?_
      exact bse (a := s6) (by rw [show kr + 3 + k = kr + k + 3 from by omega, e62]; rfl) rfl
    rw [show kr + 4 + k = kr + 3 + k + 1 from by omega]
    rcases hW with ⟨e1, e2, e3⟩ | ⟨e1, e2, e3⟩ | ⟨e1, e2, e3⟩ <;> subst e1 <;> subst e2 <;> subst e3
    · refine r_318 hT z Q10 t ?_
      unfold s318_36 s318_199
      exact ift (by decide) (ifn (by decide) (ift (by decide) (ifn (by decide) (ift (by decide) (bse (pI_nx nl0.2.2.2) (ift (by decide) (ifn (by decide) r234)))))))
    · refine r_318 hT z Q9 t ?_
      unfold s318_36 s318_199
      exact ift (by decide) (ifn (by decide) (ift (by decide) (ift (by decide) (bse (pI_nx nl0.2.2.2) (ifn (by decide) r234)))))
    · refine r_318 hT z Q11 t ?_
      unfold s318_36 s318_199
      exact ift (by decide) (ifn (by decide) (ift (by decide) (ifn (by decide) (ifn (by decide) (ifn (by decide) (bse (pI_nx nl0.2.2.2) (ift (by decide) (ift (by decide) r234))))))))
  · have o6 := op6.2.2.2.2.2.1
    have u5 := (op6.2.1 u).1
    have u4 := f54 u5
    obtain ⟨v1, v48, v2⟩ := nr u4
    have rg := NR_rg _ _ _ _ _ _ _ _ v2
    have on6 := onR_keep op6 u (by omega) (lk_on (r := 45) (m := m) (by omega) (onR_keep op4 u4 (by omega) on2))
    have K5 := KD_new (n := g 4) (r := 45) v2 d3 cp4 (by omega) (by omega) (by omega)
    have K6 := KD_keep op6 u K5 (by omega) (bl_le (sy_cx (Or.inl z)) (by omega))
    refine ⟨by omega, by rw [on6.1 48 (by omega) (by omega), upd_ne _ _ (by decide)]; rfl, ?_⟩
    obtain ⟨d, hd⟩ : ∃ d, g6' 4 - g 4 = d + 1 := ⟨g6' 4 - g 4 - 1, by omega⟩
    rw [hd]
    have cvt : ∀ q, q = (2 : Nat) → NR L xs h6 s6 (q, (A + 20) / 20 + 1) (d + 1) (g 4) (g6' 4) (21 + h.length) (21 + h6.length) (g 4) (21 + h.length) → NR L xs h6 s6 (2, (A + 20) / 20 + 1) (d + 1) (g 4) (g6' 4) (21 + h.length) (21 + h6.length) (g 4) (21 + h.length) := fun q e x => e ▸ x
    refine cvt (W / 14 * 2) (by omega) ?_
    refine NR_K (W := W) ⟨c4, Nat.le_refl _, by omega, Nat.le_refl _, hlt6⟩ (by omega) ?_ ?_ ?_ ?_ (fun c hc => ?_) (by rw [fd_of cp6]; rfl) (fun z => by omega)
    · rw [fd_of cp6]; rfl
    · rw [on6.1 44 (by omega) (by omega), upd_ne _ _ (by decide)]; rfl
    · rw [fd_of cp6, on6.1 50 (by omega) (by omega), upd_ne _ _ (by decide)]
      show some (Value.int (cpl cx F (g 0))) = some (Value.int (F 5 (g 0)))
      rw [f5]
    · rw [fd_of cp6]; rfl
    · have : c = (8, 45, false) := by
        rcases hW with ⟨e1, _⟩ | ⟨e1, _⟩ | ⟨e1, _⟩ <;> subst e1 <;> simpa [kids] using hc
      subst this
      have hk0 : kC W ((8, 45, false) : Nat × Nat × Bool).1 = 0 := by
        rcases hW with ⟨e1, _⟩ | ⟨e1, _⟩ | ⟨e1, _⟩ <;> subst e1 <;> rfl
      rw [hk0]
      refine kd_of (KD_lz K6 (by omega)) ?_ ?_ ?_
      · rw [fd_of cp6]; rfl
      · rw [on6.1 45 (by omega) (by omega), upd_eq]
      · unfold sub; omega
end SM
