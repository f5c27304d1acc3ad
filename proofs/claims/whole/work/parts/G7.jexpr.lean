/-! BOTH CHECK: every expression, one level more. -/
section JEX
variable {L : Nat} {xs : Nat → Int32} {zf : Value} {w C Sc M Pl Ph LO HI nk m lv n p q i d lo hi k k2 z z2 W ke kr ke2 kr2 l px q0 q1 pl ph how pl2 ph2 lo0 pl0 : Nat} {cx : Nat → Nat} {hB h h1 h2 : rm_H} {s0 s s1 s2 : rS} {pt vr gn gn1 a b a1 b1 x y rc t v : Int32} {mv : Value} {ds dx kl ml es : List Nat} {G gx : List scN} {u u1 u2 : Nat → Nat} {A B A1 B1 : Nat → Int32} {f f' : Nat → Int64} {sl ty sl' ty' : Nat → Int32}
theorem AO_le (e : AO L xs zf w cx C Sc M pt vr mv hB s0 nk m Pl Ph LO HI z p n lo hi es ke kr) (hz : z ≤ z2) : AO L xs zf w cx C Sc M pt vr mv hB s0 nk m Pl Ph LO HI z2 p n lo hi es ke kr := fun j j2 h s ds G lv gn b u A B ck hlz fv p53 hz => e j j2 h s ds G lv gn b u A B ck (by omega) fv p53 hz
theorem pe_s (jc : JCX L xs w cx M hB s0 nk m LO HI kl ml) (pe : PEz L xs zf w cx C Sc M pt vr mv hB s0 nk m LO HI z) (pb : PBz L xs zf w cx C Sc M pt vr mv hB s0 nk m LO HI z) : PEz L xs zf w cx C Sc M pt vr mv hB s0 nk m LO HI (z + 1) := by
  intro d
  induction d with
  | zero => intro lo hi pl ph n p e; exact e.elim
  | succ d ih =>
    intro lo hi pl ph n p e hLO hHI hPL
    have e' := e
    obtain ⟨⟨r0, r1, r2, r3, r4⟩, W, ⟨w1, w2, w3, w4, w5, w6, w7⟩, e1, e2, e3, e4, e5, e6, e7, e8, e9, e10, e11, e12, e13, e14⟩ := e
    have j0 := jc.1
    have bj := jc.2.1
    have c7 := jc.2.2.2.2.2.2.1
    have c8 := jc.2.2.2.2.2.2.2
    have W13 := W13_of w6
    unfold wK at w4
    rw [if_pos W13] at w4
    have hn : n < 4400 := by omega
    have prim : ∀ z' ke kr, z' ≤ z + 1 → W ≤ 9 → JX L xs zf w cx C Sc M pt vr mv hB s0 nk m pl ph LO HI z' 174 343 p n lo hi ke kr → ke ≤ 8 + 5 * (z + 1) → kr ≤ 8 + 5 * (z + 1) → JW L xs zf w cx C Sc M pt vr mv hB s0 nk m pl ph LO HI (z + 1) p n lo hi (8 + 5 * (z + 1)) (8 + 5 * (z + 1)) := by
      intro z' ke kr hz' h9 jx h1 h2
      exact jw_0 (JX_le jx (Nat.le_refl _) (Nat.le_refl _) hz' h1 h2) (e1 h9) w4 (by omega) hn (by omega) (by omega) (by omega)
    -- a link
    have link : ∀ (fn : Nat) (l xc lo' hi' pl' ph' hl : Nat) (es : List Nat), 10 ≤ W → NRz L xs hB s0 (z + 1) 0 d lo' hi' pl' ph' l xc → fd hB 12 p 6 = some (.ref xc) → (if W = 11 ∨ W = 12 then s0.2.1 46 n else s0.2.1 45 n) = Int32.ofNat l → s0.2.1 49 l = Int32.ofNat n → sub lo hi pl ph n p lo' hi' pl' ph' → fd hB 12 xc 7 = some (.ref p) → l < n → xc < p → (n < hl ∧ hl ≤ hi ∧ (W = 13 → hl = hi) ∧ (W ≠ 13 → hl = n + 1)) → (W = 11 ∨ W = 12 → AO L xs zf w cx C Sc M pt vr mv hB s0 nk m (p + 1) ph LO HI (z + 1) p n (n + 1) hi es (8 + 5 * (z + 1)) (8 + 5 * (z + 1))) → LK L xs zf w cx C Sc M pt vr mv hB s0 nk m pl ph LO HI (z + 1) p n W l lo hl es (8 + 5 * (z + 1)) (8 + 5 * (z + 1)) → (∀ (ds : List Nat) (f : Nat → Int64) (sl ty : Nat → Int32) (rc a b : Int32), rc = 0 ∨ rc = 1 → ∀ (j : Nat) (h : rm_H) (u : Nat → Nat) (t : Int32), EV L xs cx C Sc M pt vr mv ds f sl ty rc a b kl hB h u → (W = 11 ∨ W = 12 → aTy h es) → u 2 + 3 * (hl - n) ≤ 9000 → ∃ t' h' u', (dcV L xs (dM L xs zf w (8 + 5 * (z + 1) + j)) 202 [13] (some C) [va_rf (some p), .int t] h).bind dxI = some (t', h') ∧ ZR L xs cx C Sc M pl ph pt vr mv ds f sl ty rc a b h u (3 * (hl - n)) h' u') → JW L xs zf w cx C Sc M pt vr mv hB s0 nk m pl ph LO HI (z + 1) p n lo hi (8 + 5 * (z + 1)) (8 + 5 * (z + 1)) := by
      intro fn l xc lo' hi' pl' ph' hl es h10 c4 e6' r4x r49 sb e7' hln hxp hhl ao lk zup
      obtain ⟨s1, s2, s3, s4, s5, s6⟩ := sb
      have rg := NR_rg (0, z + 1) _ _ _ _ _ _ _ c4
      exact jw_s j0 bj (ih lo' hi' pl' ph' l xc c4 (by omega) (by omega) (by omega)) w3 e6' e7' hxp w4 ⟨h10, W13⟩ r4x r49 (by omega) hln hn s1 (by omega) (by omega) r2 hHI hLO s3 (by omega) (by omega) hhl ao lk (fun ds f sl ty rc a b hrc => zE (zf := zf) (cx := cx) (C := C) (Sc := Sc) (M := M) (pt := pt) (vr := vr) (mv := mv) (ds := ds) (f := f) (sl := sl) (ty := ty) (a := a) (b := b) (kl := kl) c8 hrc (fun d v y1 y2 ed => jc.2.2.2.2.2.1 d v ⟨Nat.le_trans (Nat.le_trans hPL.1 s3) y1, Nat.lt_of_lt_of_le y2 (Nat.le_trans s4 hPL.2)⟩ ed) (z + 1) d lo' hi' pl' ph' l xc c4 (Nat.le_refl _) (Nat.le_refl _) (by omega)) zup (by omega) c8 s4
    have cs : W = 1 ∨ W = 2 ∨ W = 3 ∨ W = 4 ∨ W = 5 ∨ W = 6 ∨ W = 7 ∨ W = 8 ∨ W = 9 ∨ W = 10 ∨ W = 11 ∨ W = 12 ∨ W = 13 := by omega
    rcases cs with q | q | q | q | q | q | q | q | q | q | q | q | q
    · subst q
      exact prim (z + 1) _ _ (Nat.le_refl _) (by omega) (j_1 w3 (e7 rfl) w4 hn (by omega)) (by omega) (by omega)
    · subst q
      exact prim (z + 1) _ _ (Nat.le_refl _) (by omega) (j_2 w3 w4 hn (by omega)) (by omega) (by omega)
    · subst q
      exact prim (z + 1) _ _ (Nat.le_refl _) (by omega) (j_3 j0 bj w3 w5 w4 hn (by omega)) (by omega) (by omega)
    · subst q
      obtain ⟨⟨q, y1, y2⟩, y3⟩ := e6 (by omega)
      exact prim (z + 1) _ _ (Nat.le_refl _) (by omega) (j_4 w3 y1 y2 y3 w4 hn r1 r2 (by omega)) (by omega) (by omega)
    · subst q
      obtain ⟨⟨q, y1, y2⟩, y3⟩ := e6 (by omega)
      exact prim (z + 1) _ _ (Nat.le_refl _) (by omega) (j_5 w3 y1 y2 y3 w4 hn r1 r2 (by omega)) (by omega) (by omega)
    · subst q
      obtain ⟨m1, x1, lo', hi', pl', ph', y1, y2, y3, y4, ⟨s1, s2, s3, s4, s5, _⟩, _⟩ := e2 (8, 45, false) (by decide)
      have y4 : NRz L xs hB s0 z 0 (hi' - lo') lo' hi' pl' ph' m1 x1 := y4
      obtain ⟨W', _, _, v1, v2, _⟩ := NR_h (zc := (0, z)) y4
      have rg := NR_rg (0, z) _ _ _ _ _ _ _ y4
      exact prim z _ _ (by omega) (by omega) (j_6 (W' := 0) (JX_le (x_172 jc pe y4 (by omega) (by omega) (by omega)) s3 s4 (Nat.le_refl _) (Nat.le_refl _) (Nat.le_refl _)) w3 y1 v2 w4 y2 ⟨by omega, by omega⟩ hn (by omega) (by omega) s1 s2 (by omega)) (by omega) (by omega)
    · subst q
      obtain ⟨ka, kb, k1, k2⟩ := e12 (by omega)
      obtain ⟨x1, m1, x2, m2, g1, g2, g3, g4, g5, g6, g7⟩ := xj_put jc pe k1 k2 hLO hHI hPL
      exact prim z _ _ (by omega) (by omega) (j_7 (g7 true) w3 g1 g2 w4 g3 g4 g5 g6 hn (by omega) (by omega)) (by omega) (by omega)
    · subst q
      obtain ⟨es, g1, g2, g3, g4⟩ := e4 (by omega)
      obtain ⟨d0, v1, v2, v3, v4, v5, _⟩ := e9 rfl
      exact prim z _ _ (by omega) (by omega) (j_8 (y1 := 0) j0 bj w3 w5 v1 v5 (jc.2.2.1 d0 n ⟨Nat.le_trans hPL.1 v2, Nat.lt_of_lt_of_le v3 hPL.2⟩ v4 (by omega) (by omega) w4) g1 g4 g3 w4 hn r2 r1 (by omega) (by omega) (by omega) hHI hLO (by omega) (xj_args jc pe g2 (by omega) hHI (by omega))) (by omega) (by omega)
    · subst q
      obtain ⟨m1, x1, lo', hi', pl', ph', y1, y2, y3, y4, ⟨s1, s2, s3, s4, s5, _⟩, _⟩ := e2 (8, 45, false) (by decide)
      have y4 : NRz L xs hB s0 z 1 (hi' - lo') lo' hi' pl' ph' m1 x1 := y4
      have bq := pb _ _ _ _ _ _ _ y4 (by omega) (by omega) (by omega) 2 (by omega) (fun z => absurd z (by decide))
      exact prim (z + 1) _ _ (Nat.le_refl _) (by omega) (j_9 (BQ_le bq s3 s4 (Nat.le_refl _) (Nat.le_refl _) (Nat.le_refl _)) (by omega) w3 y1 w4 y2 hn s1 s2 r1 r2 s5 (by omega)) (by omega) (by omega)
    · subst q
      obtain ⟨m1, x1, lo', hi', pl', ph', y1, y2, y3, y4, sb, y5⟩ := e2 (6, 45, true) (by decide)
      obtain ⟨y51, y52, y53⟩ := y5 rfl
      have y4 : NRz L xs hB s0 (z + 1) 0 d lo' hi' pl' ph' m1 x1 := y4
      obtain ⟨W', _, _, v1, v2, _⟩ := NR_h (zc := (0, z + 1)) y4
      have rg := NR_rg (0, z + 1) _ _ _ _ _ _ _ y4
      obtain ⟨⟨qn, f1, f2⟩, f3⟩ := e6 (by omega)
      refine link 0 m1 x1 lo' hi' pl' ph' (n + 1) [] (by omega) y4 y1 y2 y3 sb y51 y52 y53 ⟨by omega, by omega, fun z => by omega, fun _ => rfl⟩ (fun z => by omega) (lk_10 j0 w3 y1 v2 f1 f2 f3 w4 y2 ⟨by omega, by omega⟩ hn r1 (by omega) (by omega) (by omega)) (fun ds f sl ty rc a b hrc j h u t ev _ hz => ?_)
      obtain ⟨t', h', u', m1, m2⟩ := zu_10 (pl := pl) (ph := ph) (ke := 8 + 5 * (z + 1)) (zf := zf) (w := w) (j := j) ev w3 y1 v2 f1 f2 f3 (by omega) (by omega) (by omega) t
      exact ⟨t', h', u', m1, ZR_le m2 (by omega)⟩
    · subst q
      obtain ⟨m1, x1, lo', hi', pl', ph', y1, y2, y3, y4, sb, y5⟩ := e2 (6, 46, true) (by decide)
      obtain ⟨y51, y52, y53⟩ := y5 rfl
      have y4 : NRz L xs hB s0 (z + 1) 0 d lo' hi' pl' ph' m1 x1 := y4
      obtain ⟨W', _, _, v1, v2, _, v3, v4⟩ := NR_h (zc := (0, z + 1)) y4
      have wl := W13_of v3
      unfold wK at v4
      rw [if_pos wl] at v4
      have rg := NR_rg (0, z + 1) _ _ _ _ _ _ _ y4
      obtain ⟨⟨qn, f1, f2⟩, f3⟩ := e6 (by omega)
      obtain ⟨es, g1, g2, g3, g4⟩ := e4 (by omega)
      refine link 0 m1 x1 lo' hi' pl' ph' (n + 1) es (by omega) y4 y1 y2 y3 sb y51 y52 y53 ⟨by omega, by omega, fun z => by omega, fun _ => rfl⟩ (fun _ => AO_le (z := z) (ao_of j0 bj g1 w5 g4 (ke := 10 + 5 * z) (kr := 10 + 5 * z) (by omega) hn hHI (by omega) (by omega) (by omega) (xj_args jc pe g2 (by omega) hHI (by omega)) (by omega) (by omega)) (by omega)) (lk_11 j0 w3 w5 y1 v2 (by rw [v1, v4]) f1 f2 f3 g1 g4 g3 w4 y2 ⟨by omega, by omega⟩ hn r1 (by omega) (by omega) (by omega)) (fun ds f sl ty rc a b hrc j h u t ev at' hz => ?_)
      obtain ⟨t', h', u', m1, m2⟩ := zu_11 (pl := pl) (ph := ph) (ke := 8 + 5 * (z + 1)) (zf := zf) (w := w) (j := j) ev w3 w5 y1 v1 v2 f1 f2 f3 g1 g4 (at' (Or.inl rfl)) (by omega) (by omega) (by omega) t
      exact ⟨t', h', u', m1, ZR_le m2 (by omega)⟩
    · subst q
      obtain ⟨m1, x1, lo', hi', pl', ph', y1, y2, y3, y4, sb, y5⟩ := e2 (6, 46, true) (by decide)
      obtain ⟨y51, y52, y53⟩ := y5 rfl
      have y4 : NRz L xs hB s0 (z + 1) 0 d lo' hi' pl' ph' m1 x1 := y4
      obtain ⟨W', _, _, v1, v2, _⟩ := NR_h (zc := (0, z + 1)) y4
      have rg := NR_rg (0, z + 1) _ _ _ _ _ _ _ y4
      obtain ⟨⟨qn, f1, f2⟩, f3⟩ := e6 (by omega)
      obtain ⟨es, g1, g2, g3, g4⟩ := e4 (by omega)
      refine link 0 m1 x1 lo' hi' pl' ph' (n + 1) es (by omega) y4 y1 y2 y3 sb y51 y52 y53 ⟨by omega, by omega, fun z => by omega, fun _ => rfl⟩ (fun _ => AO_le (z := z) (ao_of j0 bj g1 w5 g4 (ke := 10 + 5 * z) (kr := 10 + 5 * z) (by omega) hn hHI (by omega) (by omega) (by omega) (xj_args jc pe g2 (by omega) hHI (by omega)) (by omega) (by omega)) (by omega)) (lk_12 j0 w3 w5 y1 v2 f1 f2 f3 g1 g4 g3 w4 y2 ⟨by omega, by omega⟩ hn r1 (by omega) (by omega) (by omega)) (fun ds f sl ty rc a b hrc j h u t ev at' hz => ?_)
      obtain ⟨t', h', u', m1, m2⟩ := zu_12 (pl := pl) (ph := ph) (ke := 8 + 5 * (z + 1)) (zf := zf) (w := w) (j := j) ev w3 w5 y1 v2 f1 f2 f3 g1 g4 (at' (Or.inr rfl)) (by omega) (by omega) (by omega) t
      exact ⟨t', h', u', m1, ZR_le m2 (by omega)⟩
    · subst q
      obtain ⟨m1, x1, lo', hi', pl', ph', y1, y2, y3, y4, sb, y5⟩ := e2 (6, 45, true) (by decide)
      obtain ⟨y51, y52, y53⟩ := y5 rfl
      have y4 : NRz L xs hB s0 (z + 1) 0 d lo' hi' pl' ph' m1 x1 := y4
      obtain ⟨W', _, _, v1, v2, _⟩ := NR_h (zc := (0, z + 1)) y4
      have rg := NR_rg (0, z + 1) _ _ _ _ _ _ _ y4
      obtain ⟨op, o1, o2⟩ := e8 rfl
      obtain ⟨m2, x2, lo2, hi2, pl2, ph2, z1, z2, z3, z4, ⟨t1, t2, t3, t4, t5, t6⟩, _⟩ := e13 rfl
      have z4 : NRz L xs hB s0 z 0 (hi2 - lo2) lo2 hi2 pl2 ph2 m2 x2 := z4
      obtain ⟨W2, _, _, g1, g2, _⟩ := NR_h (zc := (0, z)) z4
      have rg2 := NR_rg (0, z) _ _ _ _ _ _ _ z4
      refine link 0 m1 x1 lo' hi' pl' ph' hi [] (by omega) y4 y1 y2 y3 sb y51 y52 y53 ⟨r2, Nat.le_refl _, fun _ => rfl, fun z => absurd rfl z⟩ (fun z => by omega) (lk_13 (JX_le (z2 := z + 1) (pl := pl) (ph := ph) (x_172 jc pe z4 (by omega) (by omega) (by omega)) (by omega) (by omega) (by omega) (Nat.le_refl _) (Nat.le_refl _)) w3 y1 z1 v2 g2 o1 o2 w4 y2 z2 ⟨by omega, by omega⟩ ⟨by omega, by omega⟩ hn (by omega) (by omega) (by omega) t2 r1 (by omega) (by omega) (by omega)) (fun ds f sl ty rc a b hrc j h u t ev _ hz => ?_)
      obtain ⟨len, l1, l2⟩ := zE (Pl := pl) (Ph := ph) (zf := zf) (cx := cx) (C := C) (Sc := Sc) (M := M) (pt := pt) (vr := vr) (mv := mv) (ds := ds) (f := f) (sl := sl) (ty := ty) (a := a) (b := b) (kl := kl) c8 hrc (fun d v y1 y2 ed => jc.2.2.2.2.2.1 d v ⟨Nat.le_trans hPL.1 y1, Nat.lt_of_lt_of_le y2 hPL.2⟩ ed) z _ lo2 hi2 pl2 ph2 m2 x2 z4 (by omega) (by omega) (by omega)
      obtain ⟨t', h', u', n1, n2⟩ := zu_13 (ke2 := 8 + 5 * (z + 1)) (j := j) (zx_172 l2 (by omega) g2) ev w3 y1 v2 z1 g2 o1 (by omega) (by omega) (by omega) t
      exact ⟨t', h', u', n1, ZR_le n2 (by omega)⟩
end JEX
