/-! BOTH CHECK: all Nodes of a body, by their nesting: what is known, parts. -/
/-- what stands while a body is checked -/
def JCX (L : Nat) (xs : Nat → Int32) (w : Nat) (cx : Nat → Nat) (M : Nat) (hB : rm_H) (s0 : rS) (nk m LO HI : Nat) (kl ml : List Nat) : Prop := JE L xs cx hB s0 nk kl ml ∧ bJ L xs hB s0 nk kl M m ∧ (∀ d n, cx 8 ≤ d ∧ d < cx 20 → nwD L xs hB s0 d n → LO ≤ n → n < HI → s0.2.1 44 n = 8 → nwJ hB s0 nk d n) ∧ (∀ d n, cx 8 ≤ d ∧ d < cx 20 → vrD L xs hB s0 d n → LO ≤ n → n < HI → s0.2.1 44 n = 20 → ∃ td, fd hB 10 d 7 = some (.int (cT td)) ∧ tyc s0 (s0.2.1 54 n) td ∧ vT s0 nk td) ∧ (∀ n j, LO ≤ n → n < HI → s0.2.1 44 n = 20 → LO ≤ j → j < HI → j ≠ n → s0.2.1 44 j = 20 → s0.2.1 53 j ≠ s0.2.1 53 n) ∧ (∀ d v, cx 8 ≤ d ∧ d < cx 20 → fd hB 10 d 6 = some v → ∃ x, fd hB 10 d 7 = some (.int x)) ∧ HI ≤ 4400 ∧ 4600 ≤ w
def PEz (L : Nat) (xs : Nat → Int32) (zf : Value) (w : Nat) (cx : Nat → Nat) (C Sc M : Nat) (pt vr : Int32) (mv : Value) (hB : rm_H) (s0 : rS) (nk m LO HI z : Nat) : Prop := ∀ d lo hi pl ph n p, NRz L xs hB s0 z 0 d lo hi pl ph n p → LO ≤ lo → hi ≤ HI → cx 8 ≤ pl ∧ ph ≤ cx 20 → JW L xs zf w cx C Sc M pt vr mv hB s0 nk m pl ph LO HI z p n lo hi (8 + 5 * z) (8 + 5 * z)
def PBz (L : Nat) (xs : Nat → Int32) (zf : Value) (w : Nat) (cx : Nat → Nat) (C Sc M : Nat) (pt vr : Int32) (mv : Value) (hB : rm_H) (s0 : rS) (nk m LO HI z : Nat) : Prop := ∀ d lo hi pl ph n p, NRz L xs hB s0 z 1 d lo hi pl ph n p → LO ≤ lo → hi ≤ HI → cx 8 ≤ pl ∧ ph ≤ cx 20 → ∀ how, how ≤ 2 → (how = 1 → s0.2.1 75 m ≠ -1) → BQ L xs zf w cx C Sc M pt vr mv hB s0 nk m pl ph LO HI z how p n lo hi (8 + 5 * z) (8 + 5 * z)
def PSz (L : Nat) (xs : Nat → Int32) (zf : Value) (w : Nat) (cx : Nat → Nat) (C Sc M : Nat) (pt vr : Int32) (mv : Value) (hB : rm_H) (s0 : rS) (nk m LO HI z : Nat) : Prop := ∀ d lo hi pl ph n p, NRz L xs hB s0 z 2 d lo hi pl ph n p → LO ≤ lo → hi ≤ HI → cx 8 ≤ pl ∧ ph ≤ cx 20 → SR L xs zf w cx C Sc M pt vr mv hB s0 nk m LO HI z (8 + 5 * z) (8 + 5 * z) lo hi pl ph n p
section JAL
variable {L : Nat} {xs : Nat → Int32} {zf : Value} {w C Sc M Pl Ph LO HI nk m lv n p q i d lo hi k k2 z z2 W ke kr ke2 kr2 l px q0 q1 pl ph how pl2 ph2 lo0 pl0 : Nat} {cx : Nat → Nat} {hB h h1 h2 : rm_H} {s0 s s1 s2 : rS} {pt vr gn gn1 a b a1 b1 x y rc t v : Int32} {mv : Value} {ds dx kl ml es : List Nat} {G gx : List scN} {u u1 u2 : Nat → Nat} {A B A1 B1 : Nat → Int32} {f f' : Nat → Int64} {sl ty sl' ty' : Nat → Int32}
theorem sq_im {R R' : Nat → Nat → Nat → Nat → Nat → Nat → Prop} (rg : ∀ lo' hi' pl' ph' m x, R lo' hi' pl' ph' m x → lo' ≤ hi' ∧ pl' ≤ ph') (IH : ∀ lo' hi' pl' ph' m x, R lo' hi' pl' ph' m x → lo0 ≤ lo' → hi' ≤ hi → pl0 ≤ pl' → ph' ≤ ph → R' lo' hi' pl' ph' m x) : ∀ (es : List Nat) (lo pl : Nat) (x : Int32), lo0 ≤ lo → pl0 ≤ pl → sq s R hi ph n p lo pl es x → sq s R' hi ph n p lo pl es x
  | [], _, _, _, _, _, e => e
  | e0 :: r, lo, pl, x, h1, h2, e => by
    obtain ⟨m, lo', hi', pl', ph', e1, e2, e3, ⟨e4, e5, e6, e7, e8, e9⟩, e10⟩ := e
    have q := rg _ _ _ _ _ _ e3
    exact ⟨m, lo', hi', pl', ph', e1, e2, IH _ _ _ _ _ _ e3 (by omega) e5 (by omega) e7, ⟨e4, e5, e6, e7, e8, e9⟩, sq_im rg IH r hi' ph' _ (by omega) (by omega) e10⟩
theorem JS_le (e : JS L xs zf w cx C Sc M pt vr mv hB s0 nk m pl2 ph2 LO HI z how p n lo hi ke kr) (h1 : pl ≤ pl2) (h2 : ph2 ≤ ph) (hz : z ≤ z2) (hk : ke ≤ ke2) (hk2 : kr ≤ kr2) : JS L xs zf w cx C Sc M pt vr mv hB s0 nk m pl ph LO HI z2 how p n lo hi ke2 kr2 := by
  intro j j2 h s ds G lv gn b u A B ck hlz fv p53 hz
  obtain ⟨t, h', s', q1, q2, a', b', u', o1, o2⟩ := e (ke2 - ke + j) (kr2 - kr + j2) h s ds G lv gn b u A B ck (by omega) fv p53 hz
  rw [show ke + (ke2 - ke + j) = ke2 + j from by omega] at q1
  rw [show kr + (kr2 - kr + j2) = kr2 + j2 from by omega] at q2
  exact ⟨t, h', s', q1, q2, a', b', u', wF_mono o1 h1 h2, o2⟩
theorem W13_of {zz : Nat} (e : cW 0 zz) : zz ≤ 13 := by
  rcases e with ⟨_, q⟩ | ⟨q, _⟩ | ⟨q, _⟩
  · exact q
  · exact absurd q (by decide)
  · exact absurd q (by decide)
/-- an expression that is a part, by both -/
theorem x_172 (jc : JCX L xs w cx M hB s0 nk m LO HI kl ml) (pe : PEz L xs zf w cx C Sc M pt vr mv hB s0 nk m LO HI z) (e : NRz L xs hB s0 z 0 d lo hi pl ph n p) (h1 : LO ≤ lo) (h2 : hi ≤ HI) (h3 : cx 8 ≤ pl ∧ ph ≤ cx 20) : JX L xs zf w cx C Sc M pt vr mv hB s0 nk m pl ph LO HI z 172 339 p n lo hi (9 + 5 * z) (9 + 5 * z) := by
  obtain ⟨_, _, _, _, _, _, c7, c8⟩ := jc
  obtain ⟨W, _, _, _, y2, _⟩ := NR_h (zc := (0, z)) e
  have rg := NR_rg (0, z) _ _ _ _ _ _ _ e
  have q := j_172 (pe _ _ _ _ _ _ _ e h1 h2 h3) y2 (by omega) (by omega) (by omega) c8
  rw [show 8 + 5 * z + 1 = 9 + 5 * z from by omega] at q
  exact q
theorem x_171 (jc : JCX L xs w cx M hB s0 nk m LO HI kl ml) (pe : PEz L xs zf w cx C Sc M pt vr mv hB s0 nk m LO HI z) (e : NRz L xs hB s0 z 0 d lo hi pl ph n p) (h1 : LO ≤ lo) (h2 : hi ≤ HI) (h3 : cx 8 ≤ pl ∧ ph ≤ cx 20) : JV L xs zf w cx C Sc M pt vr mv hB s0 nk m pl ph LO HI z p n lo hi (10 + 5 * z) (10 + 5 * z) := by
  have q0 := x_172 jc pe e h1 h2 h3
  obtain ⟨_, _, _, _, _, _, c7, c8⟩ := jc
  obtain ⟨W, _, _, y1, y2, _, y3, y4⟩ := NR_h (zc := (0, z)) e
  have w13 := W13_of y3
  have rg := NR_rg (0, z) _ _ _ _ _ _ _ e
  unfold wK at y4
  rw [if_pos w13] at y4
  have q := j_171 q0 y1 y2 y4 (by omega) (by omega) (by omega) (by omega)
  rw [show 9 + 5 * z + 1 = 10 + 5 * z from by omega] at q
  exact q
theorem x_211 (jc : JCX L xs w cx M hB s0 nk m LO HI kl ml) (pe : PEz L xs zf w cx C Sc M pt vr mv hB s0 nk m LO HI z) (e : NRz L xs hB s0 z 0 d lo hi pl ph n p) (h1 : LO ≤ lo) (h2 : hi ≤ HI) (h3 : cx 8 ≤ pl ∧ ph ≤ cx 20) : JI L xs zf w cx C Sc M pt vr mv hB s0 nk m pl ph LO HI z p n lo hi (10 + 5 * z) (9 + 5 * z) := by
  have q0 := x_172 jc pe e h1 h2 h3
  obtain ⟨_, _, _, _, _, _, c7, c8⟩ := jc
  obtain ⟨W, _, _, y1, y2, _, y3, y4⟩ := NR_h (zc := (0, z)) e
  have rg := NR_rg (0, z) _ _ _ _ _ _ _ e
  have q := j_211 q0 y2 (by omega) (by omega) (by omega)
  rw [show 9 + 5 * z + 1 = 10 + 5 * z from by omega] at q
  exact q
/-- the same behind a fault -/
theorem z_172 (jc : JCX L xs w cx M hB s0 nk m LO HI kl ml) (e : NRz L xs hB s0 z 0 d lo hi pl ph n p) (h2 : hi ≤ HI) (h3 : cx 8 ≤ pl ∧ ph ≤ cx 20) (ds : List Nat) (f : Nat → Int64) (sl ty : Nat → Int32) (rc a b : Int32) (hrc : rc = 0 ∨ rc = 1) : ZX L xs zf w cx C Sc M pl ph pt vr mv ds f sl ty rc a b kl hB 172 p (3 * (hi - lo)) (9 + 5 * z) := by
  obtain ⟨_, _, _, _, _, c6, c7, c8⟩ := jc
  obtain ⟨len, l1, l2⟩ := zE (zf := zf) (cx := cx) (C := C) (Sc := Sc) (M := M) (pt := pt) (vr := vr) (mv := mv) (ds := ds) (f := f) (sl := sl) (ty := ty) (a := a) (b := b) (kl := kl) c8 hrc (fun d v y1 y2 ed => c6 d v ⟨Nat.le_trans h3.1 y1, Nat.lt_of_lt_of_le y2 h3.2⟩ ed) z d lo hi pl ph n p e (Nat.le_refl _) (Nat.le_refl _) (by omega)
  obtain ⟨W, _, _, _, y2, _⟩ := NR_h (zc := (0, z)) e
  exact ZX_le (zx_172 l2 (by omega) y2) (Nat.le_refl _) (by omega)
theorem z_171 (jc : JCX L xs w cx M hB s0 nk m LO HI kl ml) (e : NRz L xs hB s0 z 0 d lo hi pl ph n p) (h2 : hi ≤ HI) (h3 : cx 8 ≤ pl ∧ ph ≤ cx 20) (ds : List Nat) (f : Nat → Int64) (sl ty : Nat → Int32) (rc a b : Int32) (hrc : rc = 0 ∨ rc = 1) : ZX L xs zf w cx C Sc M pl ph pt vr mv ds f sl ty rc a b kl hB 171 p (3 * (hi - lo)) (10 + 5 * z) := by
  obtain ⟨W, _, _, y1, y2, _⟩ := NR_h (zc := (0, z)) e
  exact ZX_le (zx_171 (z_172 jc e h2 h3 ds f sl ty rc a b hrc) y1 y2 (by omega)) (Nat.le_refl _) (by omega)
/-- an argument -/
theorem x_ar (jc : JCX L xs w cx M hB s0 nk m LO HI kl ml) (pe : PEz L xs zf w cx C Sc M pt vr mv hB s0 nk m LO HI z) (e : NRz L xs hB s0 z 0 d lo hi pl ph n p) (h1 : LO ≤ lo) (h2 : hi ≤ HI) (h3 : cx 8 ≤ pl ∧ ph ≤ cx 20) : AR L xs zf w cx C Sc M pt vr mv hB s0 nk m LO HI z (10 + 5 * z) (10 + 5 * z) kl lo hi pl ph n p := by
  have c7 := jc.2.2.2.2.2.2.1
  obtain ⟨W, _, _, y1, y2, y3, _⟩ := NR_h (zc := (0, z)) e
  have rg := NR_rg (0, z) _ _ _ _ _ _ _ e
  exact ⟨x_171 jc pe e h1 h2 h3, fun ds f sl ty rc a b hrc => z_171 jc e h2 h3 ds f sl ty rc a b hrc, by omega, by omega, rg.2.1, rg.2.2.1, y2, y3, rg.2.2.2.1, rg.2.2.2.2⟩
theorem xj_args (jc : JCX L xs w cx M hB s0 nk m LO HI kl ml) (pe : PEz L xs zf w cx C Sc M pt vr mv hB s0 nk m LO HI z) (e : sq s0 (fun lo hi pl ph n p => NRz L xs hB s0 z 0 (hi - lo) lo hi pl ph n p) hi ph n p lo pl es x) (h1 : LO ≤ lo) (h2 : hi ≤ HI) (h3 : cx 8 ≤ pl ∧ ph ≤ cx 20) : sq s0 (AR L xs zf w cx C Sc M pt vr mv hB s0 nk m LO HI z (10 + 5 * z) (10 + 5 * z) kl) hi ph n p lo pl es x :=
  sq_im (lo0 := LO) (pl0 := pl) (fun lo' hi' pl' ph' m x e4 => by have rg := NR_rg (0, z) _ _ _ _ _ _ _ e4; omega) (fun lo' hi' pl' ph' m x e4 g1 g2 g3 _ => x_ar jc pe e4 g1 (by omega) (by omega)) es lo pl x h1 (Nat.le_refl _) e
/-- a place is given a value -/
theorem xj_put {a' b' : Nat} (jc : JCX L xs w cx M hB s0 nk m LO HI kl ml) (pe : PEz L xs zf w cx C Sc M pt vr mv hB s0 nk m LO HI z) (k1 : kd hB s0 (fun lo hi pl ph n p => NRz L xs hB s0 z 0 (hi - lo) lo hi pl ph n p) lo a' pl b' n p (8, 45, false)) (k2 : kd hB s0 (fun lo hi pl ph n p => NRz L xs hB s0 z 0 (hi - lo) lo hi pl ph n p) a' hi b' ph n p (9, 46, false)) (hLO : LO ≤ lo) (hHI : hi ≤ HI) (hPL : cx 8 ≤ pl ∧ ph ≤ cx 20) : ∃ px l pv nv, fd hB 12 p 8 = some (.ref px) ∧ fd hB 12 p 9 = some (.ref pv) ∧ s0.2.1 45 n = Int32.ofNat l ∧ s0.2.1 46 n = Int32.ofNat nv ∧ (1 ≤ l ∧ l < 4400) ∧ (1 ≤ nv ∧ nv < 4400) ∧ ∀ sw, JP L xs zf w cx C Sc M pt vr mv hB s0 nk m pl ph LO HI z px l pv nv lo hi (11 + 5 * z) (11 + 5 * z) sw := by
  have j0 := jc.1
  have bj := jc.2.1
  have c7 := jc.2.2.2.2.2.2.1
  have c8 := jc.2.2.2.2.2.2.2
  obtain ⟨m1, x1, lo1, hi1, pl1, ph1, y1, y2, y3, y4, ⟨s1, s2, s3, s4, s5, s6⟩, _⟩ := k1
  obtain ⟨m2, x2, lo2, hi2, pl2, ph2, z1, z2, z3, z4, ⟨t1, t2, t3, t4, t5, t6⟩, _⟩ := k2
  have y4 : NRz L xs hB s0 z 0 (hi1 - lo1) lo1 hi1 pl1 ph1 m1 x1 := y4
  have z4 : NRz L xs hB s0 z 0 (hi2 - lo2) lo2 hi2 pl2 ph2 m2 x2 := z4
  obtain ⟨W, v0, _, v1, v2, _, v3, v4⟩ := NR_h (zc := (0, z)) y4
  obtain ⟨W2, _, _, g1, g2, _⟩ := NR_h (zc := (0, z)) z4
  have rg1 := NR_rg (0, z) _ _ _ _ _ _ _ y4
  have rg2 := NR_rg (0, z) _ _ _ _ _ _ _ z4
  have w13 := W13_of v3
  unfold wK at v4
  rw [if_pos w13] at v4
  -- the target's own parts
  have tg : (W = 4 ∨ W = 10 → (∃ q, fd hB 12 x1 2 = some (.ref q) ∧ nS L xs hB q (s0.2.2 56 m1)) ∧ fd hB 12 x1 3 = some (.int (s0.2.1 51 m1))) ∧ (W = 4 → s0.2.1 51 m1 = s0.2.1 50 m1) ∧ (W = 10 → ∃ px l loa hia pla pha, fd hB 12 x1 6 = some (.ref px) ∧ fd hB 12 px 1 = some (.int (s0.2.1 50 l)) ∧ s0.2.1 45 m1 = Int32.ofNat l ∧ 1 ≤ l ∧ l < 4400 ∧ lo ≤ loa ∧ loa ≤ hia ∧ hia ≤ m1 ∧ pl ≤ pla ∧ pha ≤ ph ∧ JX L xs zf w cx C Sc M pt vr mv hB s0 nk m pla pha LO HI z 172 339 px l loa hia (9 + 5 * z) (10 + 5 * z) ∧ ∀ (ds : List Nat) (f : Nat → Int64) (sl ty : Nat → Int32) (rc a b : Int32), rc = 0 ∨ rc = 1 → ZX L xs zf w cx C Sc M pla pha pt vr mv ds f sl ty rc a b kl hB 172 px (3 * (hia - loa)) (9 + 5 * z)) := by
    cases z with
    | zero => exact y4.elim
    | succ z' =>
      obtain ⟨dd, hdd⟩ : ∃ dd, hi1 - lo1 = dd + 1 := ⟨hi1 - lo1 - 1, by omega⟩
      have y4' := y4
      rw [hdd] at y4'
      obtain ⟨_, Wt, ⟨_, a2, a3, _⟩, _, b2, _, _, _, b6, _, _, _, _, b11, _⟩ := y4'
      have eW : Wt = W := by
        rw [a3] at v1
        have v1 := Value.int.inj (Option.some.inj v1)
        have v1' := congrArg Int32.toInt v1
        rw [of_int (by omega), of_int (by omega)] at v1'
        omega
      subst eW
      refine ⟨fun q => b6 (by omega), fun q => b11 q, fun q => ?_⟩
      subst q
      obtain ⟨m3, x3, lo3, hi3, pl3, ph3, c1, c2, c3, c4, ⟨d1, d2, d3, d4, d5, _⟩, c6⟩ := b2 (6, 45, true) (by decide)
      obtain ⟨c61, c62, c63⟩ := c6 rfl
      have c4 : NRz L xs hB s0 (z' + 1) 0 dd lo3 hi3 pl3 ph3 m3 x3 := c4
      obtain ⟨W3, _, _, g1, g2, _⟩ := NR_h (zc := (0, z' + 1)) c4
      have rg3 := NR_rg (0, z' + 1) _ _ _ _ _ _ _ c4
      exact ⟨x3, m3, lo3, hi3, pl3, ph3, c1, g2, c2, by omega, by omega, by omega, by omega, by omega, by omega, by omega, JX_le (x_172 jc pe c4 (by omega) (by omega) (by omega)) (Nat.le_refl _) (Nat.le_refl _) (Nat.le_refl _) (Nat.le_refl _) (by omega), fun ds f sl ty rc a b hrc => z_172 jc c4 (by omega) (by omega) ds f sl ty rc a b hrc⟩
  refine ⟨x1, m1, x2, m2, y1, z1, y2, z2, ⟨by omega, by omega⟩, ⟨by omega, by omega⟩, fun sw j j2 h s ds G lv gn b u A B e hlz fv p53 hz => ?_⟩
  have jv := x_171 jc pe z4 (by omega) (by omega) (by omega)
  have q := j_186 (ka := 9 + 5 * z) (kr := 10 + 5 * z) (pl := pl) (ph := ph) (lo := lo) (hi := hi) (LO := LO) (HI := HI) j0 bj (by rw [show 9 + 5 * z + 1 = 10 + 5 * z from by omega]; exact jv) g2 (by omega) v1 v4 w13 v2 (by omega) (by omega) (by omega) (by omega) (by omega) (by omega) (by omega) hLO hHI tg.1 tg.2.1 tg.2.2 (by omega) (by omega) (by omega) sw j j2 e hlz fv p53 hz
  rw [show 9 + 5 * z + 2 = 11 + 5 * z from by omega, show 10 + 5 * z + 1 = 11 + 5 * z from by omega] at q
  exact q
end JAL
