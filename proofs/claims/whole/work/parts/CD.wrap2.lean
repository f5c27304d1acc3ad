/-! BEHIND A DOT OR '!': a NAME, and what stands before it becomes a part. -/
/-- the reference has made node n of kind W around m, named at token i -/
def wrS (s : rS) (n m i W r : Nat) : rS := lkS (rs_wA (rs_wB (rs_w (ndS s n (Int32.ofNat W) (s.2.1 50 m)) 24 (s.1 24 + 1)) 56 n (s.2.2 43 i)) 51 n (s.2.1 41 i)) r n m
section WP
variable {L : Nat} {xs : Nat → Int32} {zf : Value} {w k k2 i : Nat} {cx : Nat → Nat} {F : Nat → Nat → Int32} {N : Nat → Int64} {q : List Value} {hb h h' h1 h2 : rm_H} {sb s s' s1 s2 : rS} {gb g g' g1 g2 : Nat → Nat} {tb ts ts' ts1 ts2 : List Nat} {v : Nat → Int32} {A ke kr n m W r x : Nat} {i1 : Int32}
/-- is this sign there -/
theorem op_at {c T : Int32} (hT : TF cx F N) (hp : sgP c T) (z : SY cx F N q h s g ts ∨ FLT cx F N q h s g ts) : ∃ b v, pC h cx F v ∧ (v 6 = T ↔ b = true) ∧ (∀ k, rM w (k + 1) 310 [.ref 36, .int c] s = some (some (.int (rd_01 b)), s)) ∧ (SY cx F N q h s g ts → (ctk cx F (g 0) = T ↔ b = true)) ∧ (FLT cx F N q h s g ts → b = false) := by
  have n1 := hp.2.2.2.1
  rcases z with z | z
  · obtain ⟨⟨p, ⟨a1, a2, a3, a4⟩, rt, ch, ⟨c1, c2, c3, c4⟩, b1, b2, b3, b4⟩, g6⟩ := id z
    have hl : g 0 ≤ 2000 := by have := hT.1; omega
    obtain ⟨⟨f5, _, tr⟩, _⟩ := hT.2.2 (g 0) b1
    refine ⟨decide (ctk cx F (g 0) = T), vS cx F (g 0), p, by rw [vS_6, decide_eq_true_iff], fun k => ?_, fun _ => by rw [decide_eq_true_iff], fun y => (sy_no z y).elim⟩
    rw [q310 c a1 c1 hl, rt.1, rt.2.2.1]
    by_cases t : ctk cx F (g 0) = T
    · rw [decide_eq_true t, decide_eq_true ((sg_iff tr hp).mpr t)]
    · rw [decide_eq_false t, decide_eq_false (fun u => t ((sg_iff tr hp).mp u))]
  · obtain ⟨⟨v, p, r⟩, h1, rt, ⟨pt, vr, ch⟩, cs, b⟩ := id z
    exact ⟨false, v, p, ⟨fun u => absurd (r.2.1.symm.trans u) (fun e => n1 e.symm), fun u => absurd u (by decide)⟩, fun k => z310 c h1, fun y => (sy_no y z).elim, fun _ => rfl⟩
theorem wrS_rF (hr : r = 45 ∨ r = 46) : rF s (wrS s n m i W r) := rF_trans (rF_trans (rF_trans (rF_trans rF_nd (rF_w (by omega))) (rF_B (by omega))) (rF_A (by omega))) (lk_rF (by omega))
theorem nd_yA {kk f : Int32} : yA s (ndS s n kk f) := by
  refine yA_of rfl (fun r h1 h2 => ?_) ?_
  · funext j; rw [nd_get, if_neg (by omega)]
  · funext j; rw [nd_getJ, if_neg (by omega)]
theorem nd_sA {kk f : Int32} {lo hi rt : Nat} (hn : hi ≤ n) : sA s (ndS s n kk f) lo hi rt := fun j h1 h2 => ⟨fun r _ => by rw [nd_get, if_neg (by omega)], by rw [nd_getJ, if_neg (by omega)], fun _ => ⟨by rw [nd_get, if_neg (by omega)], by rw [nd_get, if_neg (by omega)]⟩, fun _ => by rw [nd_get, if_neg (by omega)]⟩
theorem nd_on {kk f : Int32} : onR (ndS s n kk f) n (fun r => ndV r kk f) 0 := ⟨fun r h1 h2 => by rw [nd_get, if_pos ⟨rfl, h1, h2⟩], by rw [nd_getJ, if_pos ⟨rfl, rfl⟩]⟩
theorem wrS_yA (hr : r = 45 ∨ r = 46) : yA s (wrS s n m i W r) := by
  unfold wrS
  refine yA_trans (yA_trans (yA_trans (yA_trans nd_yA (s1 := ndS s n (Int32.ofNat W) (s.2.1 50 m)) (s2 := rs_w (ndS s n (Int32.ofNat W) (s.2.1 50 m)) 24 (s.1 24 + 1)) (yA_2 rfl rfl)) yA_B) (yA_A (by omega))) (lk_yA (by omega))
theorem wrS_sX {b : Nat} (hn : b ≤ n) (hm : b ≤ m) : sX s (wrS s n m i W r) b := sX_trans (sX_trans (sX_trans (sX_trans (sX_nd hn) sX_w (Nat.le_refl _)) (sX_B hn) (Nat.le_refl _)) (sX_A hn) (Nat.le_refl _)) (sX_trans (sX_A hm) (sX_A hn) (Nat.le_refl _)) (Nat.le_refl _)
theorem wrS_tR (hr : r = 45 ∨ r = 46) : tR s (wrS s n m i W r) n := tR_trans (tR_sX (sX_trans (sX_trans (sX_trans (sX_nd (Nat.le_refl _)) sX_w (Nat.le_refl _)) (sX_B (Nat.le_refl _)) (Nat.le_refl _)) (sX_A (Nat.le_refl _)) (Nat.le_refl _))) (lk_tR (by omega)) (Nat.le_refl _)
theorem wrS_sA {lo hi : Nat} (hn : hi ≤ n) : sA s (wrS s n m i W r) lo hi m := by
  unfold wrS
  exact sA_trans (sA_trans (sA_trans (sA_trans (nd_sA hn) (s1 := ndS s n (Int32.ofNat W) (s.2.1 50 m)) (s2 := rs_w (ndS s n (Int32.ofNat W) (s.2.1 50 m)) 24 (s.1 24 + 1)) (sA_1 rfl)) (sA_B (Or.inr hn))) (sA_A (by omega))) (sA_trans (sA_A (Or.inr (Or.inr ⟨rfl, Or.inr rfl⟩))) (sA_A (by omega)))
theorem wrS_on (hmn : m ≠ n) : onR (wrS s n m i W r) n (upd (upd (fun r => ndV r (Int32.ofNat W) (s.2.1 50 m)) 51 (s.2.1 41 i)) r (Int32.ofNat m)) (s.2.2 43 i) := by
  unfold wrS
  refine lk_on hmn ?_
  have o1 : onR (rs_wB (rs_w (ndS s n (Int32.ofNat W) (s.2.1 50 m)) 24 (s.1 24 + 1)) 56 n (s.2.2 43 i)) n (fun r => ndV r (Int32.ofNat W) (s.2.1 50 m)) (s.2.2 43 i) := ⟨fun r h1 h2 => (nd_on (s := s) (kk := Int32.ofNat W) (f := s.2.1 50 m)).1 r h1 h2, by rw [wB_get, if_pos ⟨rfl, rfl⟩]⟩
  have o2 := onR_A (i := 51) (j := n) (y := s.2.1 41 i) o1
  rw [if_pos rfl] at o2
  exact o2
/-- the reference makes it -/
theorem r_90 {s0 : Int32} {K : Int32 → Int32 → rS → Option rA} (hl : i ≤ 2000) (hn : s.1 10 = Int32.ofNat n) (hn2 : n < 4400) (hm : m < 4400) : s321_90 (rM w (k + 1)) w K i1 (Int32.ofNat m) (Int32.ofNat i) s0 (Int32.ofNat W) s = if mx_f1 .eq s0 = true then K i1 (Int32.ofNat n) (wrS s n m i W 45) else ((rM w (k + 1) 324 [.ref 36, .int (Int32.ofNat n), .int i1] (wrS s n m i W 46)).bind rxV).bind fun s48 => K i1 (Int32.ofNat n) s48 := by
  unfold s321_90
  rw [nA (q := 50) (by omega) hm]
  show ((rM w (k + 1) 316 [.ref 36, .int (Int32.ofNat W), .int (s.2.1 50 m)] s).bind rxI).bind _ = _
  rw [q316 (k := k) _ _ hn hn2]
  show (rs_aJ (rs_w (ndS s n (Int32.ofNat W) (s.2.1 50 m)) 24 (s.1 24 + 1)) 43 (Int32.ofNat i)).bind _ = _
  rw [aTn hl]
  show (rs_sJ (rs_w (ndS s n (Int32.ofNat W) (s.2.1 50 m)) 24 (s.1 24 + 1)) 56 (Int32.ofNat n) ((ndS s n (Int32.ofNat W) (s.2.1 50 m)).2.2 43 i)).bind _ = _
  rw [show (ndS s n (Int32.ofNat W) (s.2.1 50 m)).2.2 43 i = s.2.2 43 i from by rw [nd_getJ, if_neg (by omega)], nWJ hn2]
  show (rs_aI (rs_wB (rs_w (ndS s n (Int32.ofNat W) (s.2.1 50 m)) 24 (s.1 24 + 1)) 56 n (s.2.2 43 i)) 41 (Int32.ofNat i)).bind _ = _
  rw [aTi (by omega) hl]
  show (rs_sI (rs_wB (rs_w (ndS s n (Int32.ofNat W) (s.2.1 50 m)) 24 (s.1 24 + 1)) 56 n (s.2.2 43 i)) 51 (Int32.ofNat n) ((ndS s n (Int32.ofNat W) (s.2.1 50 m)).2.1 41 i)).bind _ = _
  rw [show (ndS s n (Int32.ofNat W) (s.2.1 50 m)).2.1 41 i = s.2.1 41 i from by rw [nd_get, if_neg (by omega)], nWt (q := 51) (by omega) hn2]
  show (if mx_f1 .eq s0 = true then ((rM w (k + 1) 323 [.ref 36, .int (Int32.ofNat n), .int (Int32.ofNat m)] _).bind rxI).bind _ else ((rM w (k + 1) 323 [.ref 36, .int (Int32.ofNat n), .int (Int32.ofNat m)] _).bind rxI).bind _) = _
  rw [q323 (k := k) hm]
  by_cases e : mx_f1 .eq s0 = true
  · rw [if_pos e, if_pos e]
    show (rs_sI (rs_wA (rs_wA (rs_wB (rs_w (ndS s n (Int32.ofNat W) (s.2.1 50 m)) 24 (s.1 24 + 1)) 56 n (s.2.2 43 i)) 51 n (s.2.1 41 i)) 49 m (Int32.ofNat n)) 45 (Int32.ofNat n) (Int32.ofNat m)).bind _ = _
    rw [nWt (q := 45) (by omega) hn2]
    rfl
  · rw [if_neg e, if_neg e]
    show (rs_sI (rs_wA (rs_wA (rs_wB (rs_w (ndS s n (Int32.ofNat W) (s.2.1 50 m)) 24 (s.1 24 + 1)) 56 n (s.2.2 43 i)) 51 n (s.2.1 41 i)) 49 m (Int32.ofNat n)) 46 (Int32.ofNat n) (Int32.ofNat m)).bind _ = _
    rw [nWt (q := 46) (by omega) hn2]
    rfl
/-- the class's cell -/
abbrev wrN (W pl : Int32) (nm : Nat) (pn : Int32) (x : Nat) : List Value := [.int W, .int pl, .ref nm, .int pn, .int 0, .null, .ref x, .null, .null, .null, .null, .null, .int 0]
/-- both make it: from a state without a fault, over the sign and the NAME -/
theorem op_wr {zz : Nat × Nat} {nm : Nat} {pn : Int32} (hT : TF cx F N) (hW : W = 10 ∨ W = 11 ∨ W = 12) (hr : r = 45 ∨ r = 46) (a : OPR cx F N q hb sb gb tb h s g ts) (y : SY cx F N q h s g ts) (nx : nW h x) (xl : 21 + hb.length ≤ x) (nl : m < g 4) (vN : NR L xs h s zz (g 4 - gb 4) (gb 4) (g 4) (21 + hb.length) (21 + h.length) m x) (b : OPC cx F N q 10 80 h s g ts h2 s2 g2 ts) (e2 : s2.2 = s.2) (e4 : g2 4 = g 4) (e6 : g2 6 = g 6) (e0 : g 0 + 1 ≤ g2 0) : ∃ h3 h4 h5, dM L xs zf w (k + 3) 137 [.ref (cx 7), .int (Int32.ofNat W), .ref x] h2 = some (some (.ref (21 + h2.length)), h3) ∧ dpF h3 2 [12] (some (21 + h2.length)) (.ref nm) = some h4 ∧ dpF h4 3 [12] (some (21 + h2.length)) (.int pn) = some h5 ∧ OPR cx F N q hb sb gb tb h5 (wrS s2 (g 4) m i W r) (gu g2 4 (g 4 + 1)) ts ∧ (SY cx F N q h5 (wrS s2 (g 4) m i W r) (gu g2 4 (g 4 + 1)) ts → SY cx F N q h2 s2 g2 ts) ∧ hc h5 (21 + h2.length) = some (.inr (12, wrN (Int32.ofNat W) (s.2.1 50 m) nm pn x)) ∧ fr (fun y => y = x ∨ y = cx 8) h2 h5 ∧ h5.length = h2.length + 1 ∧ (SY cx F N q h5 (wrS s2 (g 4) m i W r) (gu g2 4 (g 4 + 1)) ts → KD L xs zz h5 (wrS s2 (g 4) m i W r) (g 4) m x (gb 4) (g 4) (21 + hb.length) (21 + h.length) ∧ fd h5 12 x 7 = some (.ref (21 + h2.length))) := by
  have rg := NR_rg _ _ _ _ _ _ _ _ vN
  have xlt := nW_lt nx
  have l2 := b.1.2.2.1.1
  have hpl : fd h 12 x 1 = some (.int (s.2.1 50 m)) := NR_pl vN
  obtain ⟨nx2, fdx⟩ := nW_op (Or.inl y) b.1 nx
  have hpl2 : fd h2 12 x 1 = some (.int (s.2.1 50 m)) := (fdx 1).trans hpl
  have bb := b.2
  obtain ⟨m1, m2, m3, m4, m5, m6, m7, m8, m9⟩ := a
  have n10 := n_10 b.1.1
  have g4y := y.1.2.2.2.2.2.2.2.1
  have x8 : ∀ ci fs, ci ≠ 12 → hc h2 x ≠ some (.inr (ci, fs)) := by
    intro ci fs hci e
    obtain ⟨gs, ex, _⟩ := id nx2
    rw [e] at ex
    cases ex
    exact hci rfl
  -- what the class does, whatever its counts
  have cls : ∀ (v : Nat → Int32) (pt vr : Int32), pC h2 cx F v → CH cx q h2 g2 ts pt vr → ∃ h3 h4 h5, dM L xs zf w (k + 3) 137 [.ref (cx 7), .int (Int32.ofNat W), .ref x] h2 = some (some (.ref (21 + h2.length)), h3) ∧ dpF h3 2 [12] (some (21 + h2.length)) (.ref nm) = some h4 ∧ dpF h4 3 [12] (some (21 + h2.length)) (.int pn) = some h5 ∧ pC h5 cx F v ∧ CH cx q h5 g2 ts (pt + 1) vr ∧ hc h5 (21 + h2.length) = some (.inr (12, wrN (Int32.ofNat W) (s.2.1 50 m) nm pn x)) ∧ fr (fun y => y = x ∨ y = cx 8) h2 h5 ∧ h5.length = h2.length + 1 ∧ zh h5 = zh h2 + 13 ∧ fd h5 12 x 7 = some (.ref (21 + h2.length)) ∧ cA h2 h5 (21 + hb.length) (21 + h.length) x := by
    intro v pt vr p ch
    obtain ⟨h3, d1, d2, d3, d4, d5, d6, d7, d8, d9, d10⟩ := c_137 (L := L) (xs := xs) (zf := zf) (w := w) (k := k + 1) (Int32.ofNat W) p ch nx2 hpl2
    obtain ⟨h4, e1, e2, e3⟩ := pF_ex (j := 2) (cis := [12]) (v := .ref nm) (u := .ref 9) d4 rfl (by decide) rfl (by decide)
    have e2 : hc h4 (21 + h2.length) = some (.inr (12, wrN (Int32.ofNat W) (s.2.1 50 m) nm (s.2.1 50 m) x)) := e2
    obtain ⟨h5, f1, f2, f3⟩ := pF_ex (j := 3) (cis := [12]) (v := .int pn) (u := .int (s.2.1 50 m)) e2 rfl (by decide) rfl (by decide)
    have px : x ≠ 21 + h2.length := by omega
    have fd5 : ∀ j, fd h5 12 x j = fd h3 12 x j := fun j => by rw [fd_st f3 px, fd_st e3 px]
    have ff : fr (fun y => y = x ∨ y = cx 8) h2 h5 := fr_trans (fr_trans d8 e3.1 (fun r hr u => by omega)) f3.1 (fun r hr u => by omega)
    have bly := sy_cx (Or.inl (m2 y).1)
    refine ⟨h3, h4, h5, d1, e1, f1, pC_w e2 (by decide) f3 (pC_w d4 (by decide) e3 d2), CH_w e2 (by decide) f3 (CH_w d4 (by decide) e3 d3), f2, ff, by rw [f3.2.1, e3.2.1, d9], by rw [f3.2.2, e3.2.2, d10], by rw [fd5 7]; exact d6, ?_⟩
    exact cA_x p ch nx2 (fun j hj => (fd5 j).trans (d7 j hj)) (fr_mono ff (fun _ _ u => u.elim Or.inl (fun u => Or.inr (Or.inr u)))) ⟨bly.1, bly.2.1⟩
  have g4g : gu g2 4 (g 4 + 1) 4 = g 4 + 1 := rfl
  rcases b.1.1 with z | z
  · obtain ⟨⟨p, ⟨a1, a2, a3, a4⟩, rt, ch, ⟨c1, c2, c3, c4⟩, b1, b2, b3, b4⟩, g62⟩ := id z
    obtain ⟨h3, h4, h5, d1, d2, d3, d4, d5, d6, d7, d8, d9, d10, d11⟩ := cls _ _ _ p ch
    have hP5 : ∀ d fs, hc h2 d = some (.inr (10, fs)) → ¬ (d = x ∨ d = cx 8) := by
      intro d fs ed u
      rcases u with u | u
      · exact x8 10 fs (by decide) (u ▸ ed)
      · rw [u, ch.1] at ed; cases ed
    have sy : SY cx F N q h5 (wrS s2 (g 4) m i W r) (gu g2 4 (g 4 + 1)) ts := by
      refine ⟨⟨d4, ⟨a1, a2, a3, a4⟩, rT_F (wrS_rF hr) rt, CH_g (g := g2) rfl rfl rfl d5, ⟨c1, rfl, c3, ?_⟩, ?_⟩, g62.1, TSI_n g62.2 d7 hP5 (nD_1 (by omega) d6 (fun _ z => by cases z)) (by rw [e4]; exact wrS_tR hr) (yA_n c3 (by have := hT.1; omega) (wrS_yA hr)) (Nat.le_refl _) (by show g2 4 ≤ g 4 + 1; omega) rfl (fun n n1 n2 => ?_)⟩
      rotate_left 2
      · have n3 : n < g 4 + 1 := n2
        have n4 : n = g 4 := by omega
        have k := (wrS_on (s := s2) (n := g 4) (m := m) (i := i) (W := W) (r := r) (by omega)).1 44 (by omega) (by omega)
        rw [upd_ne _ _ (by omega), upd_ne _ _ (by decide)] at k
        have k : (wrS s2 (g 4) m i W r).2.1 44 (g 4) = Int32.ofNat W := k
        rw [n4, k]
        rcases hW with e | e | e <;> subst e <;> decide
      · show 1 ≤ g 4 + 1
        omega
      · show g2 0 ≤ _ ∧ _ ≤ g2 0 ∧ g 4 + 1 ≤ g2 0 + 2 ∧ g2 5 + 2 ≤ g2 0
        omega
    refine ⟨h3, h4, h5, d1, d2, d3, ⟨Or.inl sy, fun _ => ⟨(m2 y).1, sX_trans (sX_trans (m2 y).2.1 (b.1.2.1 z).2.1 m6.2) (wrS_sX m6.2 rg.2.1) (Nat.le_refl _), yA_trans (yA_trans (m2 y).2.2 (b.1.2.1 z).2.2) (wrS_yA hr)⟩, ?_, ?_, rF_trans (rF_trans m5 b.1.2.2.2.2.1) (wrS_rF hr), ?_⟩, fun _ => z, d6, d7, d8, fun _ => ⟨⟨?_, lk_49 (by omega)⟩, d10⟩⟩
    · exact fr_trans (OPR_trans ⟨m1, m2, m3, m4, m5, m6, m7, m8, m9⟩ b.1).2.2.1 d7 (fun y hy u => by
        rcases u with u | u
        · omega
        · exact Or.inr (Or.inl u))
    · exact (OPR_trans ⟨m1, m2, m3, m4, m5, m6, m7, m8, m9⟩ b.1).2.2.2.1
    · show (gb 0 ≤ g2 0 ∧ gb 4 ≤ g 4 + 1) ∧ h5.length + 10 * gb 0 + gb 6 ≤ hb.length + 10 * g2 0 + g2 6 ∧ zh h5 + 4 * gb 2 + 80 * gb 0 + 8 * gb 6 ≤ zh hb + 4 * g2 2 + 80 * g2 0 + 8 * g2 6 ∧ g 4 + 1 + gb 0 + gb 6 ≤ gb 4 + g2 0 + g2 6
      omega
    · refine NR_fr d7 (wrS_yA hr) _ _ _ _ _ _ _ _ (NR_keep b.1 z vN (Nat.le_refl _) (sy_cx (Or.inl (m2 y).1))) d11 (wrS_sA (Nat.le_refl _))
  · obtain ⟨⟨v, p, rr⟩, h57, rt, ⟨pt, vr, ch⟩, cs, bd⟩ := id z
    obtain ⟨h3, h4, h5, d1, d2, d3, d4, d5, d6, d7, d8, d9, d10, d11⟩ := cls _ _ _ p ch
    have fl : FLT cx F N q h5 (wrS s2 (g 4) m i W r) (gu g2 4 (g 4 + 1)) ts := by
      refine ⟨⟨v, d4, rr⟩, h57, rT_F (wrS_rF hr) rt, ⟨_, _, CH_g (g := g2) rfl rfl rfl d5⟩, ⟨cs.1, rfl, cs.2.2.1, ?_⟩, ?_⟩
      · show 1 ≤ g 4 + 1
        omega
      · show g2 0 ≤ _ ∧ _ ≤ g2 0 + g2 6 ∧ g 4 + 1 ≤ g2 0 + 2 + g2 6
        omega
    refine ⟨h3, h4, h5, d1, d2, d3, ⟨Or.inr fl, fun u => (sy_no u fl).elim, ?_, ?_, rF_trans (rF_trans m5 b.1.2.2.2.2.1) (wrS_rF hr), ?_⟩, fun u => (sy_no u fl).elim, d6, d7, d8, fun u => (sy_no u fl).elim⟩
    · exact fr_trans (OPR_trans ⟨m1, m2, m3, m4, m5, m6, m7, m8, m9⟩ b.1).2.2.1 d7 (fun y hy u => by
        rcases u with u | u
        · omega
        · exact Or.inr (Or.inl u))
    · exact (OPR_trans ⟨m1, m2, m3, m4, m5, m6, m7, m8, m9⟩ b.1).2.2.2.1
    · show (gb 0 ≤ g2 0 ∧ gb 4 ≤ g 4 + 1) ∧ h5.length + 10 * gb 0 + gb 6 ≤ hb.length + 10 * g2 0 + g2 6 ∧ zh h5 + 4 * gb 2 + 80 * gb 0 + 8 * gb 6 ≤ zh hb + 4 * g2 2 + 80 * g2 0 + 8 * g2 6 ∧ g 4 + 1 + gb 0 + gb 6 ≤ gb 4 + g2 0 + g2 6
      omega
end WP
