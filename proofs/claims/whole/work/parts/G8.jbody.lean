/-! BOTH CHECK: every step and block, one level more; all levels. -/
section JBD
variable {L : Nat} {xs : Nat → Int32} {zf : Value} {w C Sc M Pl Ph LO HI nk m lv n p q i d lo hi k k2 z z2 W ke kr ke2 kr2 l px q0 q1 pl ph how pl2 ph2 lo0 pl0 : Nat} {cx : Nat → Nat} {hB h h1 h2 : rm_H} {s0 s s1 s2 : rS} {pt vr gn gn1 a b a1 b1 x y rc t v : Int32} {mv : Value} {ds dx kl ml es : List Nat} {G gx : List scN} {u u1 u2 : Nat → Nat} {A B A1 B1 : Nat → Int32} {f f' : Nat → Int64} {sl ty sl' ty' : Nat → Int32}
/-- the result of the method whose body it is -/
theorem bJ_res (bj : bJ L xs hB s0 nk kl M m) (h75 : s0.2.1 75 m ≠ -1) : ∃ d tr, m < 72 ∧ fd hB 11 M 8 = some (.ref d) ∧ fd hB 10 d 7 = some (.int (cT tr)) ∧ tyc s0 (s0.2.1 75 m) tr := by
  obtain ⟨⟨m72, _, _, _, _, _, _, _, _, _, _, _, _, _, _, _, _, _, _, _, mr⟩, _⟩ := bj
  rcases mr with ⟨z, _⟩ | ⟨d, t, y1, y2, y3, _⟩
  · exact absurd z h75
  · exact ⟨d, t, m72, y1, y2, y3⟩
theorem ps_s (jc : JCX L xs w cx M hB s0 nk m LO HI kl ml) (pe : PEz L xs zf w cx C Sc M pt vr mv hB s0 nk m LO HI z) (pb : PBz L xs zf w cx C Sc M pt vr mv hB s0 nk m LO HI z) : PSz L xs zf w cx C Sc M pt vr mv hB s0 nk m LO HI (z + 1) := by
  intro d lo hi pl ph n p e hLO hHI hPL
  cases d with
  | zero => exact e.elim
  | succ d =>
    obtain ⟨⟨r0, r1, r2, r3, r4⟩, W, ⟨w1, w2, w3, w4, w5, w6, w7⟩, e1, e2, e3, e4, e5, e6, e7, e8, e9, e10, e11, e12, e13, e14⟩ := e
    have j0 := jc.1
    have bj := jc.2.1
    have c7 := jc.2.2.2.2.2.2.1
    have c8 := jc.2.2.2.2.2.2.2
    have W15 : 15 ≤ W := by
      rcases w6 with ⟨q, _⟩ | ⟨q, _⟩ | ⟨_, q⟩
      · exact absurd q (by decide)
      · exact absurd q (by decide)
      · exact q
    have hn : n < 4400 := by omega
    refine ⟨fun how hh hr => ?_, by omega, hn, r1, r2, ⟨r3, r4⟩, ⟨_, w5⟩, W, W15, w2, w3, w4⟩
    have fin : ∀ z' ke kr, z' ≤ z + 1 → JS L xs zf w cx C Sc M pt vr mv hB s0 nk m pl ph LO HI z' how p n lo hi ke kr → ke ≤ 8 + 5 * (z + 1) → kr ≤ 8 + 5 * (z + 1) → JS L xs zf w cx C Sc M pt vr mv hB s0 nk m pl ph LO HI (z + 1) how p n lo hi (8 + 5 * (z + 1)) (8 + 5 * (z + 1)) := fun z' ke kr hz js h1 h2 => JS_le js (Nat.le_refl _) (Nat.le_refl _) hz h1 h2
    have cs : W = 15 ∨ W = 16 ∨ W = 17 ∨ W = 18 ∨ W = 19 ∨ W = 20 ∨ W = 21 ∨ W = 22 := by omega
    rcases cs with q | q | q | q | q | q | q | q
    · -- var
      subst q
      obtain ⟨m1, x1, lo', hi', pl', ph', y1, y2, y3, y4, ⟨s1, s2, s3, s4, s5, s6⟩, _⟩ := e2 (8, 45, false) (by decide)
      have y4 : NRz L xs hB s0 z 0 (hi' - lo') lo' hi' pl' ph' m1 x1 := y4
      obtain ⟨W', _, _, v1, v2, _⟩ := NR_h (zc := (0, z)) y4
      have rg := NR_rg (0, z) _ _ _ _ _ _ _ y4
      obtain ⟨d0, g1, g2, g3, g4⟩ := e10 rfl
      obtain ⟨td, t1, t2, t3⟩ := jc.2.2.2.1 d0 n ⟨Nat.le_trans hPL.1 g2, Nat.lt_of_lt_of_le g3 hPL.2⟩ g4 (by omega) (by omega) w4
      obtain ⟨⟨nq, f1, f2⟩, f3, f4, _⟩ := g4
      exact fin z _ _ (by omega) (js_20 (JV_le (x_171 jc pe y4 (by omega) (by omega) (by omega)) s3 s4 (Nat.le_refl _) (Nat.le_refl _) (Nat.le_refl _)) w3 y1 g1 v2 f1 f2 f3 f4 t1 t2 t3 w4 y2 ⟨by omega, by omega⟩ hn s1 s2 s5 r1 r2 (by omega) hHI hLO (fun j j1 j2 j3 j4 => jc.2.2.2.2.1 n j (by omega) (by omega) w4 j1 j2 j3 j4) (by omega) (by omega) (by omega)) (by omega) (by omega)
    · -- if
      subst q
      obtain ⟨a1, b1, a2, b2, k1, k2, k3⟩ := e3 rfl
      obtain ⟨m1, x1, lo1, hi1, pl1, ph1, y1, y2, y3, y4, ⟨s1, s2, s3, s4, s5, s6⟩, _⟩ := k1
      obtain ⟨m2, x2, lo2, hi2, pl2, ph2, z1, z2, z3, z4, ⟨t1, t2, t3, t4, t5, t6⟩, _⟩ := k2
      have y4 : NRz L xs hB s0 z 0 (hi1 - lo1) lo1 hi1 pl1 ph1 m1 x1 := y4
      have z4 : NRz L xs hB s0 z 1 (hi2 - lo2) lo2 hi2 pl2 ph2 m2 x2 := z4
      have rg := NR_rg (0, z) _ _ _ _ _ _ _ y4
      have rg2 := NR_rg (1, z) _ _ _ _ _ _ _ z4
      rcases k3 with ⟨n1, n2, n3, n4⟩ | k3
      · have ji := JI_le (pl := pl) (ph := ph) (ke2 := 10 + 5 * z) (kr2 := 9 + 5 * z) (x_211 jc pe y4 (by omega) (by omega) (by omega)) s3 (by omega) (Nat.le_refl _) (Nat.le_refl _) (Nat.le_refl _)
        have bq := BQ_le (pl := pl) (ph := ph) (ke2 := 10 + 5 * z) (kr2 := 9 + 5 * z) (pb _ _ _ _ _ _ _ z4 (by omega) (by omega) (by omega) 0 (by omega) (fun z => absurd z (by decide))) (by omega) (by omega) (Nat.le_refl _) (by omega) (by omega)
        exact fin z _ _ (by omega) (js_21a ji bq j0 bj w3 y1 z1 n1 w4 y2 z2 n2 ⟨by omega, by omega⟩ hn s1 (by omega) (by omega) (by omega) r1 r2 s5 t5 hLO hHI (by omega)) (by omega) (by omega)
      · obtain ⟨m3, x3, lo3, hi3, pl3, ph3, u1, u2, u3, u4, ⟨f1, f2, f3, f4, f5, f6⟩, _⟩ := k3
        have u4 : NRz L xs hB s0 z 1 (hi3 - lo3) lo3 hi3 pl3 ph3 m3 x3 := u4
        have rg3 := NR_rg (1, z) _ _ _ _ _ _ _ u4
        have ji := JI_le (pl := pl) (ph := ph) (ke2 := 10 + 5 * z) (kr2 := 9 + 5 * z) (x_211 jc pe y4 (by omega) (by omega) (by omega)) s3 (by omega) (Nat.le_refl _) (Nat.le_refl _) (Nat.le_refl _)
        have bq := BQ_le (pl := pl) (ph := ph) (ke2 := 10 + 5 * z) (kr2 := 9 + 5 * z) (pb _ _ _ _ _ _ _ z4 (by omega) (by omega) (by omega) 0 (by omega) (fun z => absurd z (by decide))) (by omega) (by omega) (Nat.le_refl _) (by omega) (by omega)
        have be := BQ_le (pl := pl) (ph := ph) (ke2 := 10 + 5 * z) (kr2 := 9 + 5 * z) (pb _ _ _ _ _ _ _ u4 (by omega) (by omega) (by omega) 0 (by omega) (fun z => absurd z (by decide))) (by omega) (by omega) (Nat.le_refl _) (by omega) (by omega)
        exact fin z _ _ (by omega) (js_21b ji bq be j0 bj w3 y1 z1 u1 w4 y2 z2 u2 ⟨by omega, by omega⟩ hn s1 (by omega) (by omega) (by omega) (by omega) r1 r2 s5 t5 f5 hLO hHI (by omega)) (by omega) (by omega)
    · -- while
      subst q
      obtain ⟨a1, b1, k1, k2⟩ := e12 (by omega)
      obtain ⟨m1, x1, lo1, hi1, pl1, ph1, y1, y2, y3, y4, ⟨s1, s2, s3, s4, s5, s6⟩, _⟩ := k1
      obtain ⟨m2, x2, lo2, hi2, pl2, ph2, z1, z2, z3, z4, ⟨t1, t2, t3, t4, t5, t6⟩, _⟩ := k2
      have y4 : NRz L xs hB s0 z 0 (hi1 - lo1) lo1 hi1 pl1 ph1 m1 x1 := y4
      have z4 : NRz L xs hB s0 z 1 (hi2 - lo2) lo2 hi2 pl2 ph2 m2 x2 := z4
      have rg := NR_rg (0, z) _ _ _ _ _ _ _ y4
      have rg2 := NR_rg (1, z) _ _ _ _ _ _ _ z4
      have ji := JI_le (pl := pl) (ph := ph) (ke2 := 10 + 5 * z) (kr2 := 9 + 5 * z) (x_211 jc pe y4 (by omega) (by omega) (by omega)) s3 (by omega) (Nat.le_refl _) (Nat.le_refl _) (Nat.le_refl _)
      have bq := BQ_le (pl := pl) (ph := ph) (ke2 := 10 + 5 * z) (kr2 := 9 + 5 * z) (pb _ _ _ _ _ _ _ z4 (by omega) (by omega) (by omega) 0 (by omega) (fun z => absurd z (by decide))) (by omega) (by omega) (Nat.le_refl _) (by omega) (by omega)
      exact fin z _ _ (by omega) (js_22 ji bq j0 bj w3 w5 y1 z1 w4 y2 z2 ⟨by omega, by omega⟩ hn s1 (by omega) (by omega) (by omega) r1 r2 s5 t5 hLO hHI (by omega) (by omega)) (by omega) (by omega)
    · -- print
      subst q
      obtain ⟨m1, x1, lo', hi', pl', ph', y1, y2, y3, y4, ⟨s1, s2, s3, s4, s5, s6⟩, _⟩ := e2 (8, 45, false) (by decide)
      have y4 : NRz L xs hB s0 z 0 (hi' - lo') lo' hi' pl' ph' m1 x1 := y4
      have rg := NR_rg (0, z) _ _ _ _ _ _ _ y4
      exact fin z _ _ (by omega) (js_23 (JI_le (x_211 jc pe y4 (by omega) (by omega) (by omega)) s3 s4 (Nat.le_refl _) (Nat.le_refl _) (Nat.le_refl _)) w3 y1 w4 y2 ⟨by omega, by omega⟩ hn s1 s2 (by omega) (by omega)) (by omega) (by omega)
    · -- return
      subst q
      obtain ⟨m1, x1, lo', hi', pl', ph', y1, y2, y3, y4, ⟨s1, s2, s3, s4, s5, s6⟩, _⟩ := e2 (8, 45, false) (by decide)
      have y4 : NRz L xs hB s0 z 0 (hi' - lo') lo' hi' pl' ph' m1 x1 := y4
      obtain ⟨W', _, _, v1, v2, _⟩ := NR_h (zc := (0, z)) y4
      have rg := NR_rg (0, z) _ _ _ _ _ _ _ y4
      by_cases h1 : how = 1
      · subst h1
        obtain ⟨dd, tr, m72, g1, g2, g3⟩ := bJ_res bj (hr rfl)
        exact fin z _ _ (by omega) (js_24 (JV_le (x_171 jc pe y4 (by omega) (by omega) (by omega)) s3 s4 (Nat.le_refl _) (Nat.le_refl _) (Nat.le_refl _)) w3 y1 v2 w4 y2 ⟨by omega, by omega⟩ hn m72 g1 g2 g3 s1 s2 (by omega) (by omega) (by omega)) (by omega) (by omega)
      · exact fin z _ _ (by omega) (js_no w3 w5 w4 (Or.inl ⟨rfl, rfl, h1⟩) hh ⟨_, y2⟩ hn) (by omega) (by omega)
    · -- give
      subst q
      obtain ⟨m1, x1, lo', hi', pl', ph', y1, y2, y3, y4, ⟨s1, s2, s3, s4, s5, s6⟩, _⟩ := e2 (8, 45, false) (by decide)
      have y4 : NRz L xs hB s0 z 0 (hi' - lo') lo' hi' pl' ph' m1 x1 := y4
      have rg := NR_rg (0, z) _ _ _ _ _ _ _ y4
      by_cases h1 : how = 2
      · subst h1
        exact fin z _ _ (by omega) (js_25 (JV_le (x_171 jc pe y4 (by omega) (by omega) (by omega)) s3 s4 (Nat.le_refl _) (Nat.le_refl _) (Nat.le_refl _)) w3 y1 w4 y2 ⟨by omega, by omega⟩ hn s1 s2 (by omega) (by omega)) (by omega) (by omega)
      · exact fin z _ _ (by omega) (js_no w3 w5 w4 (Or.inr ⟨rfl, rfl, h1⟩) hh ⟨_, y2⟩ hn) (by omega) (by omega)
    · -- put
      subst q
      obtain ⟨ka, kb, k1, k2⟩ := e12 (by omega)
      obtain ⟨x1, m1, x2, m2, g1, g2, g3, g4, g5, g6, g7⟩ := xj_put jc pe k1 k2 hLO hHI hPL
      exact fin z _ _ (by omega) (js_26 (g7 false) w3 g1 g2 w4 g3 g4 g5 g6 hn) (by omega) (by omega)
    · -- an expression
      subst q
      obtain ⟨m1, x1, lo', hi', pl', ph', y1, y2, y3, y4, ⟨s1, s2, s3, s4, s5, s6⟩, _⟩ := e2 (8, 45, false) (by decide)
      have y4 : NRz L xs hB s0 z 0 (hi' - lo') lo' hi' pl' ph' m1 x1 := y4
      have rg := NR_rg (0, z) _ _ _ _ _ _ _ y4
      exact fin z _ _ (by omega) (js_27 (JX_le (x_172 jc pe y4 (by omega) (by omega) (by omega)) s3 s4 (Nat.le_refl _) (Nat.le_refl _) (Nat.le_refl _)) w3 y1 w4 y2 ⟨by omega, by omega⟩ hn s1 s2 (by omega) (by omega)) (by omega) (by omega)
theorem pb_s (jc : JCX L xs w cx M hB s0 nk m LO HI kl ml) (ps : PSz L xs zf w cx C Sc M pt vr mv hB s0 nk m LO HI z) : PBz L xs zf w cx C Sc M pt vr mv hB s0 nk m LO HI (z + 1) := by
  intro d lo hi pl ph n p e hLO hHI hPL how hh hr
  cases d with
  | zero => exact e.elim
  | succ d =>
    obtain ⟨⟨r0, r1, r2, r3, r4⟩, W, ⟨w1, w2, w3, w4, w5, w6, w7⟩, e1, e2, e3, e4, e5, e6, _⟩ := e
    have c7 := jc.2.2.2.2.2.2.1
    have c8 := jc.2.2.2.2.2.2.2
    have W14 : W = 14 := by
      rcases w6 with ⟨q, _⟩ | ⟨_, q⟩ | ⟨q, _⟩
      · exact absurd q (by decide)
      · exact q
      · exact absurd q (by decide)
    subst W14
    obtain ⟨es, g1, g2, g3, g4⟩ := e5 rfl
    have g2 : sq s0 (fun lo hi pl ph n p => NRz L xs hB s0 z 2 (hi - lo) lo hi pl ph n p) hi ph n p lo pl es (s0.2.1 45 n) := g2
    have sr : sq s0 (SR L xs zf w cx C Sc M pt vr mv hB s0 nk m LO HI z (8 + 5 * z) (8 + 5 * z)) hi ph n p lo pl es (s0.2.1 45 n) := sq_im (lo0 := LO) (pl0 := pl) (fun lo' hi' pl' ph' m x e4 => by have rg := NR_rg (2, z) _ _ _ _ _ _ _ e4; omega) (fun lo' hi' pl' ph' m x e4 g1 g2 g3 _ => ps _ _ _ _ _ _ _ e4 g1 (by omega) (by omega)) es lo pl _ hLO (Nat.le_refl _) g2
    have jb := j_166 (how := how) g1 w5 g4 g3 sr w4 (by omega) (by omega) r1 r2 hLO hHI (by omega) hh hr (by omega)
    exact BQ_le (z := z) (ke := 8 + 5 * z + 1) (kr := 8 + 5 * z + 1) ⟨jb, by omega, r1, r2, by omega, by omega, pl, ph, es, _, g1, g3, sq_h (fun lo' hi' pl' ph' m x e4 => by
      obtain ⟨W', _, _, y1, y2, _⟩ := NR_h (zc := (2, z)) e4
      exact ⟨_, _, y2, y1⟩) es _ _ _ g2, w5, g4⟩ (Nat.le_refl _) (Nat.le_refl _) (by omega) (by omega) (by omega)
/-- all of a body -/
theorem p_all (jc : JCX L xs w cx M hB s0 nk m LO HI kl ml) : ∀ z, PEz L xs zf w cx C Sc M pt vr mv hB s0 nk m LO HI z ∧ PBz L xs zf w cx C Sc M pt vr mv hB s0 nk m LO HI z ∧ PSz L xs zf w cx C Sc M pt vr mv hB s0 nk m LO HI z
  | 0 => ⟨fun _ _ _ _ _ _ _ e => e.elim, fun _ _ _ _ _ _ _ e => e.elim, fun _ _ _ _ _ _ _ e => e.elim⟩
  | z + 1 => by
    obtain ⟨h1, h2, h3⟩ := p_all jc z
    exact ⟨pe_s jc h1 h2, pb_s jc h3, ps_s jc h1 h2⟩
end JBD
