/-! BOTH PARSERS SIDE BY SIDE: one step of both, without a fault or behind one. -/
def SY (cx : Nat → Nat) (F : Nat → Nat → Int32) (N : Nat → Int64) (q : List Value) (h : rm_H) (s : rS) (g : Nat → Nat) (ts : List Nat) : Prop := SYN cx F N q h s g ts ∧ g 6 = 0 ∧ TSI cx h s g ts
/-- from one state of both to the next -/
def OPR (cx : Nat → Nat) (F : Nat → Nat → Int32) (N : Nat → Int64) (q : List Value) (h : rm_H) (s : rS) (g : Nat → Nat) (ts : List Nat) (h' : rm_H) (s' : rS) (g' : Nat → Nat) (ts' : List Nat) : Prop :=
  (SY cx F N q h' s' g' ts' ∨ FLT cx F N q h' s' g' ts') ∧ (SY cx F N q h' s' g' ts' → SY cx F N q h s g ts ∧ sX s s' (g 4) ∧ yA s s')
  ∧ fr (M4 cx (g 1)) h h' ∧ (g' 1 = g 1 ∨ 21 + h.length ≤ g' 1) ∧ rF s s' ∧ (g 0 ≤ g' 0 ∧ g 4 ≤ g' 4)
  ∧ h'.length + 10 * g 0 + g 6 ≤ h.length + 10 * g' 0 + g' 6
  ∧ zh h' + 4 * g 2 + 80 * g 0 + 8 * g 6 ≤ zh h + 4 * g' 2 + 80 * g' 0 + 8 * g' 6
  ∧ g' 4 + g 0 + g 6 ≤ g 4 + g' 0 + g' 6
section SD
variable {L : Nat} {xs : Nat → Int32} {zf : Value} {w k k2 : Nat} {cx : Nat → Nat} {F : Nat → Nat → Int32} {N : Nat → Int64} {q : List Value} {h h' h1 h2 : rm_H} {s s' s1 s2 : rS} {g g' g1 g2 : Nat → Nat} {ts ts' ts1 ts2 : List Nat} {v : Nat → Int32}
theorem sy_no (z : SY cx F N q h s g ts) (f : FLT cx F N q h s g ts) : False := by
  have a := z.1.2.1.1
  rw [f.2.1] at a
  exact absurd a (by decide)
theorem sX_of (e : s'.2 = s.2) (nd : Nat) : sX s s' nd := fun i _ => ⟨fun p _ _ => by rw [e], by rw [e]⟩
theorem yA_2 (e : s'.2 = s.2) (h26 : s'.1 26 = s.1 26) : yA s s' := yA_of h26 (fun p _ _ => by rw [e]) (by rw [e])
theorem OPR_refl (z : SY cx F N q h s g ts ∨ FLT cx F N q h s g ts) : OPR cx F N q h s g ts h s g ts := ⟨z, fun y => ⟨y, sX_refl _, yA_refl _⟩, fr_refl _ _, Or.inl rfl, rF_refl _, ⟨Nat.le_refl _, Nat.le_refl _⟩, Nat.le_refl _, Nat.le_refl _, Nat.le_refl _⟩
theorem OPR_trans (a : OPR cx F N q h s g ts h1 s1 g1 ts1) (b : OPR cx F N q h1 s1 g1 ts1 h2 s2 g2 ts2) : OPR cx F N q h s g ts h2 s2 g2 ts2 := by
  obtain ⟨a1, a2, a3, a4, a5, a6, a7, a8, a9⟩ := a
  obtain ⟨b1, b2, b3, b4, b5, b6, b7, b8, b9⟩ := b
  refine ⟨b1, fun z => ?_, fr_trans a3 b3 (fun p hp u => ?_), ?_, rF_trans a5 b5, by omega, by omega, by omega, by omega⟩
  · obtain ⟨y1, y2, y3⟩ := b2 z
    obtain ⟨x1, x2, x3⟩ := a2 y1
    exact ⟨x1, sX_trans x2 y2 a6.2, yA_trans x3 y3⟩
  · rcases u with u | u | u | u | u
    · exact Or.inl u
    · exact Or.inr (Or.inl u)
    · exact Or.inr (Or.inr (Or.inl u))
    · exact Or.inr (Or.inr (Or.inr (Or.inl u)))
    · rcases a4 with e | e
      · exact Or.inr (Or.inr (Or.inr (Or.inr (u.trans e))))
      · omega
  · have := a3.1
    omega
/-- the reader alone is moved -/
theorem OPR_0 (st : SY cx F N q h' s' g' ts ∨ FLT cx F N q h' s' g' ts) (b : SY cx F N q h' s' g' ts → SY cx F N q h s g ts) (wr : st1 (cx 0) h h') (rf : rF s s') (e2 : s'.2 = s.2) (h26 : s'.1 26 = s.1 26) (g1 : g' 1 = g 1) (g2 : g' 2 = g 2) (g4 : g' 4 = g 4) (g6 : g' 6 = g 6) (g0 : g 0 ≤ g' 0) : OPR cx F N q h s g ts h' s' g' ts := by
  have l := wr.2.1
  have y := wr.2.2
  exact ⟨st, fun z => ⟨b z, sX_of e2 _, yA_2 e2 h26⟩, fr_mono wr.1 (fun _ _ u => Or.inl u), Or.inl g1, rf, ⟨g0, by omega⟩, by omega, by omega, by omega⟩
theorem SY_nx (z : SY cx F N q h s g ts) (hlt : g 0 < cx 16) (hP : pC h' cx F (vS cx F (g 0 + 1))) (wr : st1 (cx 0) h h') : SY cx F N q h' (nxS s (g 0)) (gu g 0 (g 0 + 1)) ts := by
  obtain ⟨⟨p, ⟨a1, a2, a3, a4⟩, rt, ch, ⟨c1, c2, c3, c4⟩, b1, b2, b3, b4⟩, g6⟩ := z
  refine ⟨⟨?_, ⟨a1, a2, a3, a4⟩, rt, CH_g (g := g) rfl rfl rfl (CH_r p wr ch), ⟨?_, c2, c3, c4⟩, ?_⟩, g6.1, TSI_w g6.2 (pC_r p) (by decide) wr rfl rfl rfl rfl⟩
  · rw [gu_eq]; exact hP
  · rw [gu_eq]; exact w_eq _ _ _
  · show gu g 0 (g 0 + 1) 0 ≤ _ ∧ _ ≤ gu g 0 (g 0 + 1) 0 ∧ g 4 ≤ gu g 0 (g 0 + 1) 0 + 2 ∧ g 5 + 2 ≤ gu g 0 (g 0 + 1) 0
    rw [gu_eq]
    omega
theorem SY_st (hT : TF cx F N) (z : SY cx F N q h s g ts) (hP : pC h' cx F v) (hr : rfd v (cpl cx F (g 0))) (wr : st1 (cx 0) h h') : FLT cx F N q h' (stS s (g 0)) g ts := by
  obtain ⟨⟨p, ⟨a1, a2, a3, a4⟩, rt, ch, ⟨c1, c2, c3, c4⟩, b1, b2, b3, b4⟩, g6⟩ := z
  refine ⟨⟨v, hP, ?_⟩, rfl, rt, ⟨_, _, CH_r p wr ch⟩, ⟨c1, c2, c3, c4⟩, b1, by omega, by omega⟩
  show rfd v (s.2.1 41 (g 0))
  rw [rt.2.1, (hT.2.2 _ b1).1.1]
  exact hr
theorem FL_r (wr : st1 (cx 0) h h') {pt vr : Int32} (p : pC h cx F v) (p' : pC h' cx F v) (r : rfd v (s.1 58)) (h1 : s.1 57 = 1) (rt : rTk F N s) (ch : CH cx q h g ts pt vr) (cs : CS s g) (b : g 0 ≤ cx 16 ∧ ts.length ≤ g 0 + g 6 ∧ g 4 ≤ g 0 + 2 + g 6) : FLT cx F N q h' s g ts := ⟨⟨v, p', r⟩, h1, rt, ⟨pt, vr, CH_r p wr ch⟩, cs, b⟩
theorem rF_nx {t : Nat} : rF s (nxS s t) := rF_w (by omega)
theorem rF_st {t : Nat} : rF s (stS s t) := rF_trans (rF_w (by omega)) (rF_w (by omega))
/-- a sign that must be there -/
theorem op_need {c T : Int32} (hT : TF cx F N) (hp : sgP c T) (z : SY cx F N q h s g ts ∨ FLT cx F N q h s g ts) : ∃ h' s' g', dM L xs zf w (k + 4) 109 [.ref (cx 7), .int T] h = some (none, h') ∧ rM w (k2 + 3) 308 [.ref 36, .int c] s = some (none, s') ∧ OPR cx F N q h s g ts h' s' g' ts ∧ (SY cx F N q h' s' g' ts → ctk cx F (g 0) = T ∧ g' 0 = g 0 + 1) ∧ st1 (cx 0) h h' ∧ s'.2 = s.2 ∧ (g' 1 = g 1 ∧ g' 2 = g 2 ∧ g' 3 = g 3 ∧ g' 4 = g 4 ∧ g' 5 = g 5 ∧ g' 6 = g 6) := by
  have n1 := hp.2.2.2.1
  rcases z with z | z
  · obtain ⟨⟨p, ⟨a1, a2, a3, a4⟩, rt, ch, ⟨c1, c2, c3, c4⟩, b1, b2, b3, b4⟩, g6⟩ := id z
    have hl : g 0 ≤ 2000 := by have := hT.1; omega
    obtain ⟨⟨f5, _, tr⟩, _⟩ := hT.2.2 (g 0) b1
    have r8 := q308 (w := w) (k := k2) c a1 c1 hl
    rw [rt.1, rt.2.2.1] at r8
    by_cases t : ctk cx F (g 0) = T
    · have hlt : g 0 < cx 16 := tk_lt hT b1 (by rw [t]; exact hp.2.2.1) (by rw [t]; exact n1)
      obtain ⟨h1, d1, d2, d3⟩ := y_takeT (L := L) (xs := xs) (zf := zf) (w := w) (k := k) hT hlt p T t
      rw [if_pos ((sg_iff tr hp).mpr t)] at r8
      have y := SY_nx z hlt d2 d3
      refine ⟨h1, _, _, d1, r8, OPR_0 (Or.inl y) (fun _ => z) d3 rF_nx rfl rfl rfl rfl rfl rfl ?_, fun _ => ⟨t, gu_eq _ _ _⟩, d3, rfl, rfl, rfl, rfl, rfl, rfl, rfl⟩
      rw [gu_eq]; omega
    · obtain ⟨h1, v, d1, d2, d3, d4⟩ := y_takeF (L := L) (xs := xs) (zf := zf) (w := w) (k := k) hT b1 p T t
      rw [if_neg (fun u => t ((sg_iff tr hp).mp u))] at r8
      have y := SY_st hT z d2 d3 d4
      exact ⟨h1, _, g, d1, r8, OPR_0 (Or.inr y) (fun _ => z) d4 rF_st rfl rfl rfl rfl rfl rfl (Nat.le_refl _), fun u => (sy_no u y).elim, d4, rfl, rfl, rfl, rfl, rfl, rfl, rfl⟩
  · obtain ⟨⟨v, p, r⟩, h1, rt, ⟨pt, vr, ch⟩, cs, b⟩ := id z
    have hl : g 0 ≤ 2000 := by have := hT.1; omega
    obtain ⟨h2, d1, d2, d3⟩ := z_take (L := L) (xs := xs) (zf := zf) (w := w) (k := k) r p T n1
    have y : FLT cx F N q h2 s g ts := FL_r d3 p d2 r h1 rt ch cs b
    exact ⟨h2, s, g, d1, z308 (k := k2) c h1 cs.1 hl, OPR_0 (Or.inr y) (fun u => (sy_no u y).elim) d3 (rF_refl _) rfl rfl rfl rfl rfl rfl (Nat.le_refl _), fun u => (sy_no u y).elim, d3, rfl, rfl, rfl, rfl, rfl, rfl, rfl⟩
/-- a sign that may be there -/
theorem op_skip {c T : Int32} (hT : TF cx F N) (hp : sgP c T) (z : SY cx F N q h s g ts ∨ FLT cx F N q h s g ts) : ∃ b h' s' g', dM L xs zf w (k + 4) 118 [.ref (cx 7), .int T] h = some (some (.int (rd_01 b)), h') ∧ rM w (k2 + 2) 309 [.ref 36, .int c] s = some (some (.int (rd_01 b)), s') ∧ OPR cx F N q h s g ts h' s' g' ts ∧ (SY cx F N q h s g ts → SY cx F N q h' s' g' ts ∧ b = decide (ctk cx F (g 0) = T)) ∧ g' 0 = g 0 + (if b = true then 1 else 0) ∧ st1 (cx 0) h h' ∧ s'.2 = s.2 ∧ (g' 1 = g 1 ∧ g' 2 = g 2 ∧ g' 3 = g 3 ∧ g' 4 = g 4 ∧ g' 5 = g 5 ∧ g' 6 = g 6) := by
  have n1 := hp.2.2.2.1
  rcases z with z | z
  · obtain ⟨⟨p, ⟨a1, a2, a3, a4⟩, rt, ch, ⟨c1, c2, c3, c4⟩, b1, b2, b3, b4⟩, g6⟩ := id z
    have hl : g 0 ≤ 2000 := by have := hT.1; omega
    obtain ⟨⟨f5, _, tr⟩, _⟩ := hT.2.2 (g 0) b1
    have r8 := q309 (w := w) (k := k2) c a1 c1 hl
    rw [rt.1, rt.2.2.1] at r8
    by_cases t : ctk cx F (g 0) = T
    · have hlt : g 0 < cx 16 := tk_lt hT b1 (by rw [t]; exact hp.2.2.1) (by rw [t]; exact n1)
      obtain ⟨h1, d1, d2, d3⟩ := y_skipT (L := L) (xs := xs) (zf := zf) (w := w) (k := k) hT hlt p T t
      rw [if_pos ((sg_iff tr hp).mpr t), decide_eq_true ((sg_iff tr hp).mpr t)] at r8
      have y := SY_nx z hlt d2 d3
      refine ⟨true, h1, _, _, d1, r8, OPR_0 (Or.inl y) (fun _ => z) d3 rF_nx rfl rfl rfl rfl rfl rfl ?_, fun _ => ⟨y, (decide_eq_true t).symm⟩, gu_eq _ _ _, d3, rfl, rfl, rfl, rfl, rfl, rfl, rfl⟩
      rw [gu_eq]; omega
    · obtain ⟨h1, d1, d2, d3⟩ := y_skipF (L := L) (xs := xs) (zf := zf) (w := w) (k := k) p T t
      rw [if_neg (fun u => t ((sg_iff tr hp).mp u)), decide_eq_false (fun u => t ((sg_iff tr hp).mp u))] at r8
      have y : SY cx F N q h1 s g ts := ⟨⟨d2, ⟨a1, a2, a3, a4⟩, rt, CH_r p d3 ch, ⟨c1, c2, c3, c4⟩, b1, b2, b3, b4⟩, g6.1, TSI_w g6.2 (pC_r p) (by decide) d3 rfl rfl rfl rfl⟩
      exact ⟨false, h1, s, g, d1, r8, OPR_0 (Or.inl y) (fun _ => z) d3 (rF_refl _) rfl rfl rfl rfl rfl rfl (Nat.le_refl _), fun _ => ⟨y, (decide_eq_false t).symm⟩, rfl, d3, rfl, rfl, rfl, rfl, rfl, rfl, rfl⟩
  · obtain ⟨⟨v, p, r⟩, h1, rt, ⟨pt, vr, ch⟩, cs, b⟩ := id z
    obtain ⟨h2, d1, d2, d3⟩ := y_skipF (L := L) (xs := xs) (zf := zf) (w := w) (k := k) p T (by rw [r.2.1]; exact fun u => n1 u.symm)
    have y : FLT cx F N q h2 s g ts := FL_r d3 p d2 r h1 rt ch cs b
    exact ⟨false, h2, s, g, d1, z309 (k := k2) c h1, OPR_0 (Or.inr y) (fun u => (sy_no u y).elim) d3 (rF_refl _) rfl rfl rfl rfl rfl rfl (Nat.le_refl _), fun u => (sy_no u z).elim, rfl, d3, rfl, rfl, rfl, rfl, rfl, rfl, rfl⟩
/-- a NAME or a TITLE (x 2, c 1 or x 3, c 3) -/
theorem op_word {c x : Int32} (hT : TF cx F N) (hx : (x = 2 ∧ c = 1) ∨ (x = 3 ∧ c = 3)) (z : SY cx F N q h s g ts ∨ FLT cx F N q h s g ts) : ∃ nm h' s' g', dM L xs zf w (k + 8) 94 [.ref (cx 7), .int x] h = some (some (.ref nm), h') ∧ rM w (k2 + 3) 307 [.ref 36, .int c] s = some (some (.int (Int32.ofNat (g 0))), s') ∧ OPR cx F N q h s g ts h' s' g' ts ∧ (SY cx F N q h' s' g' ts → ctk cx F (g 0) = x ∧ g' 0 = g 0 + 1 ∧ nS L xs h' nm (N (g 0))) ∧ fr (fun y => y = cx 0) h h' ∧ s'.2 = s.2 ∧ (g' 1 = g 1 ∧ g' 2 = g 2 ∧ g' 3 = g 3 ∧ g' 4 = g 4 ∧ g' 5 = g 5 ∧ g' 6 = g 6) := by
  have h23 : x = 2 ∨ x = 3 := hx.elim (fun u => Or.inl u.1) (fun u => Or.inr u.1)
  have n1 : x ≠ 1 := by rcases h23 with e | e <;> subst e <;> decide
  rcases z with z | z
  · obtain ⟨⟨p, ⟨a1, a2, a3, a4⟩, rt, ch, ⟨c1, c2, c3, c4⟩, b1, b2, b3, b4⟩, g6⟩ := id z
    have hl : g 0 ≤ 2000 := by have := hT.1; omega
    obtain ⟨⟨f5, _, tr⟩, _⟩ := hT.2.2 (g 0) b1
    have si : F 4 (g 0) = c ↔ ctk cx F (g 0) = x := by
      rcases hx with ⟨e1, e2⟩ | ⟨e1, e2⟩ <;> subst e1 <;> subst e2
      · exact (so_iff tr).1
      · exact (so_iff tr).2.1
    have r7 := q307 (w := w) (k := k2) c a1 c1 hl
    rw [rt.1] at r7
    by_cases t : ctk cx F (g 0) = x
    · obtain ⟨nm, h1, d1, hlt, d2, d3, d4, d5, d6, d7⟩ := y_twT (L := L) (xs := xs) (zf := zf) (w := w) (k := k) hT b1 p x t h23
      rw [if_pos (si.mpr t)] at r7
      have y : SY cx F N q h1 (nxS s (g 0)) (gu g 0 (g 0 + 1)) ts := by
        refine ⟨⟨?_, ⟨a1, a2, a3, a4⟩, rt, CH_g (g := g) rfl rfl rfl (CH_fr p d4 d5 ch), ⟨?_, c2, c3, c4⟩, ?_⟩, g6.1, TSI_0 g6.2 d4 (cx0_10 p) d6.2 rfl rfl rfl rfl⟩
        · rw [gu_eq]; exact d2
        · rw [gu_eq]; exact w_eq _ _ _
        · show gu g 0 (g 0 + 1) 0 ≤ _ ∧ _ ≤ gu g 0 (g 0 + 1) 0 ∧ g 4 ≤ gu g 0 (g 0 + 1) 0 + 2 ∧ g 5 + 2 ≤ gu g 0 (g 0 + 1) 0
          rw [gu_eq]
          omega
      refine ⟨nm, h1, _, _, d1, r7, ⟨Or.inl y, fun _ => ⟨z, sX_of rfl _, yA_2 rfl rfl⟩, fr_mono d4 (fun _ _ u => Or.inl u), Or.inl rfl, rF_nx, ?_⟩, fun _ => ⟨t, gu_eq _ _ _, d3⟩, d4, rfl, rfl, rfl, rfl, rfl, rfl, rfl⟩
      show (g 0 ≤ gu g 0 (g 0 + 1) 0 ∧ g 4 ≤ g 4) ∧ h1.length + 10 * g 0 + g 6 ≤ h.length + 10 * gu g 0 (g 0 + 1) 0 + g 6 ∧ zh h1 + 4 * g 2 + 80 * g 0 + 8 * g 6 ≤ zh h + 4 * g 2 + 80 * gu g 0 (g 0 + 1) 0 + 8 * g 6 ∧ g 4 + g 0 + g 6 ≤ g 4 + gu g 0 (g 0 + 1) 0 + g 6
      rw [gu_eq]
      omega
    · obtain ⟨h1, v, d1, d2, d3, d4⟩ := y_twF (L := L) (xs := xs) (zf := zf) (w := w) (k := k + 6) hT b1 p x t
      rw [if_neg (fun u => t (si.mp u))] at r7
      have y := SY_st hT z d2 d3 d4
      exact ⟨9, h1, _, g, d1, r7, OPR_0 (Or.inr y) (fun _ => z) d4 rF_st rfl rfl rfl rfl rfl rfl (Nat.le_refl _), fun u => (sy_no u y).elim, d4.1, rfl, rfl, rfl, rfl, rfl, rfl, rfl⟩
  · obtain ⟨⟨v, p, r⟩, h1, rt, ⟨pt, vr, ch⟩, cs, b⟩ := id z
    have hl : g 0 ≤ 2000 := by have := hT.1; omega
    obtain ⟨h2, d1, d2, d3⟩ := z_tw (L := L) (xs := xs) (zf := zf) (w := w) (k := k + 6) r p x n1
    have y : FLT cx F N q h2 s g ts := FL_r d3 p d2 r h1 rt ch cs b
    exact ⟨9, h2, s, g, d1, z307 (k := k2) c h1 cs.1 hl, OPR_0 (Or.inr y) (fun u => (sy_no u y).elim) d3 (rF_refl _) rfl rfl rfl rfl rfl rfl (Nat.le_refl _), fun u => (sy_no u y).elim, d3.1, rfl, rfl, rfl, rfl, rfl, rfl, rfl⟩
end SD
