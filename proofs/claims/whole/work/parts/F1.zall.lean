/-! BEHIND A FAULT: all expressions, by the measure of their Nodes. -/
section ZE
variable {L : Nat} {xs : Nat → Int32} {zf : Value} {w k C Sc M Pl Ph pl ph lo hi K p p0 n n1 n2 m ke ke2 len q0 q1 : Nat} {cx : Nat → Nat} {hB h h1 h2 : rm_H} {s : rS} {pt vr gn rc a b x y t : Int32} {mv : Value} {ds kl es : List Nat} {f : Nat → Int64} {sl ty : Nat → Int32} {u u1 u2 : Nat → Nat} {A B : Nat → Int32}
theorem DW_le (e : DW L xs zf w cx C Sc M pl ph pt vr mv ds f sl ty rc a b kl hB p len n ke) (hn : n ≤ n2) (hk : ke ≤ ke2) : DW L xs zf w cx C Sc M pl ph pt vr mv ds f sl ty rc a b kl hB p len n2 ke2 := by
  intro la j h u N hla ev hz hN
  obtain ⟨t, h', u', r1, r2⟩ := e la (ke2 - ke + j) h u N hla ev (by omega) hN
  rw [show ke + (ke2 - ke + j) = ke2 + j from by omega] at r1
  exact ⟨t, h', u', r1, ZR_le r2 hn⟩
/-- what every Node has -/
theorem NR_h {zc : Nat × Nat} {d : Nat} (e : NR L xs hB s zc d lo hi pl ph n p) : ∃ W, 1 ≤ W ∧ W ≤ 22 ∧ fd hB 12 p 0 = some (.int (Int32.ofNat W)) ∧ fd hB 12 p 1 = some (.int (s.2.1 50 n)) ∧ (fd hB 12 p 12).isSome = true ∧ cW zc.1 W ∧ s.2.1 44 n = Int32.ofNat (wK W) := by
  obtain ⟨c, z⟩ := zc
  cases z with
  | zero => exact e.elim
  | succ z =>
    cases d with
    | zero => exact e.elim
    | succ d =>
      obtain ⟨_, W, ⟨w1, w2, w3, w4, w5, w6, _⟩, _, _, _, _, _, _, _, _, _, _, _, _, _, e14⟩ := e
      exact ⟨W, w1, w2, w3, w5, e14, w6, w4⟩
/-- the costs of arguments -/
theorem sq_c {Q : Nat → Nat → Nat → Nat → Nat → Nat → Prop} (H : ∀ lo' hi' pl' ph' m x, Q lo' hi' pl' ph' m x → Pl ≤ pl' → ph' ≤ Ph → hi' ≤ hi → lo' < hi' ∧ ZX L xs zf w cx C Sc M Pl Ph pt vr mv ds f sl ty rc a b kl hB 171 x (3 * (hi' - lo')) ke ∧ (∃ s, fd hB 12 x 1 = some (.int s)) ∧ (fd hB 12 x 12).isSome = true ∧ pl' ≤ x ∧ x < ph') (hPh : ph ≤ Ph) : ∀ (es : List Nat) (lo pl : Nat) (x : Int32), Pl ≤ pl → lo ≤ hi → sq s Q hi ph n p lo pl es x → ∃ c : Nat → Nat, (∀ i e0, es[i]? = some e0 → ZX L xs zf w cx C Sc M Pl Ph pt vr mv ds f sl ty rc a b kl hB 171 e0 (c i) ke) ∧ (∀ e0 ∈ es, (∃ s, fd hB 12 e0 1 = some (.int s)) ∧ (fd hB 12 e0 12).isSome = true ∧ Pl ≤ e0 ∧ e0 < Ph) ∧ c 0 + c 1 + c 2 + c 3 + c 4 + c 5 ≤ 3 * (hi - lo) := by
  intro es
  induction es with
  | nil => intro lo pl x _ _ _; exact ⟨fun _ => 0, fun i e0 he => by simp at he, fun e0 he => (List.not_mem_nil he).elim, by show 0 + 0 + 0 + 0 + 0 + 0 ≤ _; omega⟩
  | cons y r ih =>
    intro lo pl x hpl hlo e
    obtain ⟨m, lo', hi', pl', ph', e1, e2, e3, ⟨e4, e5, e6, e7, _, _⟩, e8⟩ := e
    obtain ⟨g0, g1, g2, g3, g4, g5⟩ := H _ _ _ _ _ _ e3 (by omega) (by omega) e5
    obtain ⟨c, c1, c2, c3⟩ := ih hi' ph' _ (by omega) e5 e8
    refine ⟨fun i => if i = 0 then 3 * (hi' - lo') else c (i - 1), fun i e0 he => ?_, fun e0 he => ?_, ?_⟩
    · cases i with
      | zero =>
        rw [List.getElem?_cons_zero] at he
        cases he
        exact g1
      | succ i =>
        rw [List.getElem?_cons_succ] at he
        exact c1 i e0 he
    · rcases List.mem_cons.mp he with q | q
      · subst q
        exact ⟨g2, g3, by omega, by omega⟩
      · exact c2 e0 q
    · show 3 * (hi' - lo') + c 0 + c 1 + c 2 + c 3 + c 4 ≤ 3 * (hi - lo)
      omega
theorem sq_h {Q : Nat → Nat → Nat → Nat → Nat → Nat → Prop} (H : ∀ lo' hi' pl' ph' m x, Q lo' hi' pl' ph' m x → ∃ s w0, fd hB 12 x 1 = some (.int s) ∧ fd hB 12 x 0 = some (.int w0)) : ∀ (es : List Nat) (lo pl : Nat) (x : Int32), sq s Q hi ph n p lo pl es x → ∀ e0 ∈ es, ∃ s w0, fd hB 12 e0 1 = some (.int s) ∧ fd hB 12 e0 0 = some (.int w0) := by
  intro es
  induction es with
  | nil => intro lo pl x _ e0 he; exact (List.not_mem_nil he).elim
  | cons y r ih =>
    intro lo pl x e e0 he
    obtain ⟨m, lo', hi', pl', ph', e1, e2, e3, _, e8⟩ := e
    rcases List.mem_cons.mp he with q | q
    · subst q
      exact H _ _ _ _ _ _ e3
    · exact ih _ _ _ e8 e0 q
/-- the parts of a block, as they are met behind a fault -/
theorem NR_blk {z d : Nat} (e : NR L xs hB s (1, z) d lo hi pl ph n p) : ∃ q0 q1 es s1 s3, pts hB q0 q1 p es ∧ es.length ≤ 2000 ∧ (∀ e0 ∈ es, ∃ s w0, fd hB 12 e0 1 = some (.int s) ∧ fd hB 12 e0 0 = some (.int w0)) ∧ fd hB 12 p 1 = some (.int s1) ∧ fd hB 12 p 3 = some (.int s3) := by
  cases z with
  | zero => exact e.elim
  | succ z =>
    cases d with
    | zero => exact e.elim
    | succ d =>
      obtain ⟨_, W, ⟨w1, w2, w3, w4, w5, w6, _⟩, _, _, _, _, e5, _⟩ := e
      have hW : W = 14 := by
        rcases w6 with ⟨q, _⟩ | ⟨_, q⟩ | ⟨q, _⟩
        · exact absurd (show (_ : Nat) = _ from q) (by simp)
        · exact q
        · exact absurd (show (_ : Nat) = _ from q) (by simp)
      obtain ⟨es, g1, g2, g3, g4⟩ := e5 hW
      refine ⟨pl, ph, es, _, _, g1, g3, sq_h (fun lo' hi' pl' ph' m x e4 => ?_) es _ _ _ g2, w5, g4⟩
      obtain ⟨W', _, _, y1, y2, _⟩ := NR_h (zc := (2, z)) e4
      exact ⟨_, _, y2, y1⟩
/-- behind a fault every expression is walked without harm -/
theorem zE (hw : 4600 ≤ w) (hrc : rc = 0 ∨ rc = 1) (hD : ∀ d v, Pl ≤ d → d < Ph → fd hB 10 d 6 = some v → ∃ x, fd hB 10 d 7 = some (.int x)) : ∀ z d lo hi pl ph n p, NRz L xs hB s z 0 d lo hi pl ph n p → Pl ≤ pl → ph ≤ Ph → hi ≤ 4400 → ∃ len, len < hi - lo ∧ DW L xs zf w cx C Sc M Pl Ph pt vr mv ds f sl ty rc a b kl hB p len (3 * (hi - lo)) (8 + 5 * z) := by
  intro z
  induction z with
  | zero => intro d lo hi pl ph n p e; exact e.elim
  | succ z iz =>
    -- parts that are no links
    have I172 : ∀ lo hi pl ph n p, NRq L xs hB s (0, z) lo hi pl ph n p → Pl ≤ pl → ph ≤ Ph → hi ≤ 4400 → ZX L xs zf w cx C Sc M Pl Ph pt vr mv ds f sl ty rc a b kl hB 172 p (3 * (hi - lo)) (9 + 5 * z) := by
      intro lo hi pl ph n p e h1 h2 h3
      obtain ⟨len, l1, l2⟩ := iz _ lo hi pl ph n p e h1 h2 h3
      obtain ⟨W, _, _, _, y2, _⟩ := NR_h (zc := (0, z)) e
      exact ZX_le (zx_172 l2 (by omega) y2) (Nat.le_refl _) (by omega)
    have I171 : ∀ lo hi pl ph n p, NRq L xs hB s (0, z) lo hi pl ph n p → Pl ≤ pl → ph ≤ Ph → hi ≤ 4400 → ZX L xs zf w cx C Sc M Pl Ph pt vr mv ds f sl ty rc a b kl hB 171 p (3 * (hi - lo)) (10 + 5 * z) := by
      intro lo hi pl ph n p e h1 h2 h3
      obtain ⟨W, _, _, y1, y2, _⟩ := NR_h (zc := (0, z)) e
      exact ZX_le (zx_171 (I172 lo hi pl ph n p e h1 h2 h3) y1 y2 (by omega)) (Nat.le_refl _) (by omega)
    -- arguments
    have IA : ∀ lo hi pl ph n p es x, sq s (NRq L xs hB s (0, z)) hi ph n p lo pl es x → Pl ≤ pl → ph ≤ Ph → hi ≤ 4400 → lo ≤ hi → ∃ c : Nat → Nat, (∀ i e0, es[i]? = some e0 → ZX L xs zf w cx C Sc M Pl Ph pt vr mv ds f sl ty rc a b kl hB 171 e0 (c i) (10 + 5 * z)) ∧ (∀ e0 ∈ es, (∃ s, fd hB 12 e0 1 = some (.int s)) ∧ (fd hB 12 e0 12).isSome = true ∧ Pl ≤ e0 ∧ e0 < Ph) ∧ c 0 + c 1 + c 2 + c 3 + c 4 + c 5 ≤ 3 * (hi - lo) := by
      intro lo hi pl ph n p es x e h1 h2 h3 h4
      refine sq_c (fun lo' hi' pl' ph' m x e4 g1 g2 g3 => ?_) h2 es lo pl x h1 h4 e
      obtain ⟨W, _, _, y1, y2, y3, _⟩ := NR_h (zc := (0, z)) e4
      have rg := NR_rg (0, z) _ _ _ _ _ _ _ e4
      exact ⟨by omega, I171 _ _ _ _ _ _ e4 g1 g2 (by omega), ⟨_, y2⟩, y3, rg.2.2.2.1, rg.2.2.2.2⟩
    intro d
    induction d with
    | zero => intro lo hi pl ph n p e; exact e.elim
    | succ d ih =>
      intro lo hi pl ph n p e hpl hph hhi
      obtain ⟨⟨r0, r1, r2, r3, r4⟩, W, ⟨w1, w2, w3, w4, w5, w6, _⟩, e1, e2, e3, e4, e5, e6, e7, e8, e9, e10, e11, e12, e13, e14⟩ := e
      have W13 : W ≤ 13 := by
        rcases w6 with ⟨_, q⟩ | ⟨q, _⟩ | ⟨q, _⟩
        · exact q
        · exact absurd (show (_ : Nat) = _ from q) (by simp)
        · exact absurd (show (_ : Nat) = _ from q) (by simp)
      have prim : ∀ nn kk, W ≤ 9 → ZX L xs zf w cx C Sc M Pl Ph pt vr mv ds f sl ty rc a b kl hB 174 p nn kk → nn ≤ 3 * (hi - lo) → kk ≤ 8 + 5 * (z + 1) → ∃ len, len < hi - lo ∧ DW L xs zf w cx C Sc M Pl Ph pt vr mv ds f sl ty rc a b kl hB p len (3 * (hi - lo)) (8 + 5 * (z + 1)) := by
        intro nn kk h9 zx h1 h2
        exact ⟨0, by omega, dw_0 (ZX_le zx h1 h2) (e1 h9)⟩
      have cs : W = 1 ∨ W = 2 ∨ W = 3 ∨ W = 4 ∨ W = 5 ∨ W = 6 ∨ W = 7 ∨ W = 8 ∨ W = 9 ∨ W = 10 ∨ W = 11 ∨ W = 12 ∨ W = 13 := by omega
      rcases cs with q | q | q | q | q | q | q | q | q | q | q | q | q
      · subst q
        exact prim _ _ (by omega) (zx_174_12 (Or.inl rfl) w3 e7) (by omega) (by omega)
      · subst q
        exact prim _ _ (by omega) (zx_174_12 (nv := 0) (Or.inr rfl) w3 (fun z => by omega)) (by omega) (by omega)
      · subst q
        exact prim _ _ (by omega) (zx_174 (Or.inl ⟨rfl, rfl⟩) w3 (zx_177 w5)) (by omega) (by omega)
      · subst q
        obtain ⟨⟨q, y1, y2⟩, y3⟩ := e6 (by omega)
        exact prim _ _ (by omega) (zx_174 (Or.inr (Or.inl ⟨rfl, rfl⟩)) w3 (zx_179 y1 y2 y3 (by omega))) (by omega) (by omega)
      · subst q
        obtain ⟨⟨q, y1, y2⟩, y3⟩ := e6 (by omega)
        exact prim _ _ (by omega) (zx_174 (Or.inr (Or.inr (Or.inl ⟨rfl, rfl⟩))) w3 (zx_184 y1 y2 y3 (by omega))) (by omega) (by omega)
      · subst q
        obtain ⟨m, x, lo', hi', pl', ph', y1, y2, y3, y4, ⟨s1, s2, s3, s4, s5, _⟩, _⟩ := e2 (8, 45, false) (by decide)
        have y4 : NRq L xs hB s (0, z) lo' hi' pl' ph' m x := y4
        obtain ⟨W', _, _, v1, v2, _⟩ := NR_h (zc := (0, z)) y4
        have rg := NR_rg (0, z) _ _ _ _ _ _ _ y4
        exact prim _ _ (by omega) (zx_174 (Or.inr (Or.inr (Or.inr (Or.inl ⟨rfl, rfl⟩)))) w3 (zx_185 (I172 _ _ _ _ _ _ y4 (by omega) (by omega) (by omega)) y1 v2 (by omega))) (by omega) (by omega)
      · subst q
        obtain ⟨ka, kb, k1, k2⟩ := e12 (by omega)
        obtain ⟨m, x, lo', hi', pl', ph', y1, y2, y3, y4, ⟨s1, s2, s3, s4, s5, _⟩, _⟩ := k1
        obtain ⟨m2, x2, lo2, hi2, pl2, ph2, z1, z2, z3, z4, ⟨t1, t2, t3, t4, t5, _⟩, _⟩ := k2
        have y4 : NRz L xs hB s z 0 (hi' - lo') lo' hi' pl' ph' m x := y4
        have z4 : NRq L xs hB s (0, z) lo2 hi2 pl2 ph2 m2 x2 := z4
        obtain ⟨W', v0, _, v1, v2, _, v3, _⟩ := NR_h (zc := (0, z)) y4
        obtain ⟨W2, _, _, u1, u2, _⟩ := NR_h (zc := (0, z)) z4
        have rg := NR_rg (0, z) _ _ _ _ _ _ _ y4
        have rg2 := NR_rg (0, z) _ _ _ _ _ _ _ z4
        have W'13 : W' ≤ 13 := by
          rcases v3 with ⟨_, q⟩ | ⟨q, _⟩ | ⟨q, _⟩
          · exact q
          · exact absurd (show (_ : Nat) = _ from q) (by simp)
          · exact absurd (show (_ : Nat) = _ from q) (by simp)
        -- the target's own parts
        have tg : (W' = 4 ∨ W' = 10 → ∃ q c spl, fd hB 12 x 2 = some (.ref q) ∧ nS L xs hB q c ∧ fd hB 12 x 3 = some (.int spl)) ∧ (W' = 10 → ∃ pa s1, fd hB 12 x 6 = some (.ref pa) ∧ fd hB 12 pa 1 = some (.int s1) ∧ ZX L xs zf w cx C Sc M Pl Ph pt vr mv ds f sl ty rc a b kl hB 172 pa (3 * (hi' - lo')) (9 + 5 * z)) := by
          cases z with
          | zero => exact y4.elim
          | succ z' =>
            obtain ⟨dd, hdd⟩ : ∃ dd, hi' - lo' = dd + 1 := ⟨hi' - lo' - 1, by omega⟩
            have y4' := y4
            rw [hdd] at y4'
            obtain ⟨_, Wt, ⟨_, a2, a3, _⟩, _, b2, _, _, _, b6, _⟩ := y4'
            have eW : Wt = W' := by
              rw [a3] at v1
              have v1 := Value.int.inj (Option.some.inj v1)
              have v1' := congrArg Int32.toInt v1
              rw [of_int (by omega), of_int (by omega)] at v1'
              omega
            subst eW
            refine ⟨fun q => ?_, fun q => ?_⟩
            · obtain ⟨⟨qq, g1, g2⟩, g3⟩ := b6 (by omega)
              exact ⟨qq, _, _, g1, g2, g3⟩
            · subst q
              obtain ⟨m3, x3, lo3, hi3, pl3, ph3, c1, c2, c3, c4, ⟨d1, d2, d3, d4, d5, _⟩, c6⟩ := b2 (6, 45, true) (by decide)
              have c4 : NRz L xs hB s (z' + 1) 0 dd lo3 hi3 pl3 ph3 m3 x3 := c4
              obtain ⟨W3, _, _, g1, g2, _⟩ := NR_h (zc := (0, z' + 1)) c4
              obtain ⟨len, l1, l2⟩ := iz dd lo3 hi3 pl3 ph3 m3 x3 c4 (by omega) (by omega) (by omega)
              have q9 : 3 * (hi3 - lo3) ≤ 3 * (hi' - lo') := Nat.mul_le_mul_left 3 (Nat.le_trans (Nat.sub_le_sub_right d2 lo3) (Nat.sub_le_sub_left d1 hi'))
              exact ⟨x3, _, c1, g2, ZX_le (zx_172 l2 (by omega) g2) q9 (by omega)⟩
        refine prim (3 * (hi2 - lo2) + (3 * (hi' - lo') + 1)) (10 + 5 * z + 1 + 1) (by omega) (zx_174_7 w3 y1 z1 (fun j h u ev hz => ?_)) (by omega) (by omega)
        have ew : ∀ c : Nat, (Int32.ofNat W' = Int32.ofNat c) → c < 20 → W' = c := by
          intro c hc h20
          have := congrArg Int32.toInt hc
          rw [of_int (by omega), of_int (by omega)] at this
          omega
        exact zx_186 (I171 _ _ _ _ _ _ z4 (by omega) (by omega) (by omega)) v1 v2 u2 (fun q => tg.1 (q.elim (fun q => Or.inl (ew 4 q (by omega))) (fun q => Or.inr (ew 10 q (by omega))))) (fun q => by
          obtain ⟨pa, s1, g1, g2, g3⟩ := tg.2 (ew 10 q (by omega))
          exact ⟨pa, s1, g1, g2, ZX_le g3 (Nat.le_refl _) (by omega)⟩) (by omega) (by omega) j ev hz 1
      · subst q
        obtain ⟨es, g1, g2, g3, g4⟩ := e4 (by omega)
        obtain ⟨d0, v1, v2, v3, v4, v5, _⟩ := e9 rfl
        obtain ⟨x7, hx7⟩ := hD d0 _ (Nat.le_trans hpl v2) (Nat.lt_of_lt_of_le v3 hph) v4.1
        obtain ⟨c, c1, c2, c3⟩ := IA (n + 1) hi (p + 1) ph n p es _ g2 (by omega) hph hhi (by omega)
        refine prim (3 * (hi - (n + 1)) + 1) (10 + 5 * z + 2 + 1) (by omega) (zx_174 (mi := 198) (Or.inr (Or.inr (Or.inr (Or.inr (Or.inl ⟨rfl, rfl⟩))))) w3 (fun j h u ev hz => ?_)) (by omega) (by omega)
        obtain ⟨h', u', b1, b2, b3⟩ := zx_173 g1 w5 g4 c1 c2 (by omega) (by omega) j ev (by omega)
        have ev' := EV_s ev b2
        have ub : u' 2 ≤ u 2 + (c 0 + c 1 + c 2 + c 3 + c 4 + c 5) := b2.2.2.2.2
        obtain ⟨t', h2, u2, m1, m2⟩ := zk_198 (c0 := 0) (pl := Pl) (ph := Ph) (k := 5 + 5 * z + j) (zf := zf) (w := w) ev' (by omega) g1 g4 b3 w5 v5 v1 hx7 (by omega) (h0 := h) (by rw [show 5 + 5 * z + j + 6 = 10 + 5 * z + 1 + j from by omega]; exact b1) (zk_v ev.1)
        rw [show 5 + 5 * z + j + 7 = 10 + 5 * z + 2 + j from by omega] at m1
        exact ⟨t', h2, u2, m1, ZR_le (ZR_trans b2 m2) (by omega)⟩
      · subst q
        obtain ⟨m, x, lo', hi', pl', ph', y1, y2, y3, y4, _⟩ := e2 (8, 45, false) (by decide)
        have y4 : NRz L xs hB s z 1 (hi' - lo') lo' hi' pl' ph' m x := y4
        obtain ⟨q0, q1, es, s1, s3, b1, b2, b3, b4, b5⟩ := NR_blk (z := z) y4
        refine prim 0 (6 + 1) (by omega) (zx_174 (mi := 201) (Or.inr (Or.inr (Or.inr (Or.inr (Or.inr ⟨rfl, rfl⟩))))) w3 (fun j h u ev hz => ?_)) (by omega) (by omega)
        obtain ⟨t', h', m1, m2⟩ := zx_201 (pl := Pl) (ph := Ph) (zf := zf) (w := w) (k := j) ev y1 b1 b2 b3 b4 b5 hrc (by omega)
        rw [show j + 6 = 6 + j from by omega] at m1
        exact ⟨t', h', u, m1, m2⟩
      · subst q
        obtain ⟨m, x, lo', hi', pl', ph', y1, y2, y3, y4, ⟨s1, s2, s3, s4, s5, _⟩, y6⟩ := e2 (6, 45, true) (by decide)
        have y4 : NRz L xs hB s (z + 1) 0 d lo' hi' pl' ph' m x := y4
        obtain ⟨y7, y8, y9⟩ := y6 rfl
        have rg := NR_rg (0, z + 1) _ _ _ _ _ _ _ y4
        obtain ⟨len, l1, l2⟩ := ih lo' hi' pl' ph' m x y4 (by omega) (by omega) (by omega)
        obtain ⟨W', _, _, v1, v2, _⟩ := NR_h (zc := (0, z + 1)) y4
        obtain ⟨⟨qq, g1, g2⟩, g3⟩ := e6 (by omega)
        refine ⟨len + 1, by omega, DW_le (dw_s (W := 10) (n1 := 0) (n2 := 1) (Q := fun _ => True) (fun _ _ _ _ _ => trivial) l2 w3 y1 y7 y9 (by omega) (fun j h u ev hz => ⟨h, u, fun q => by omega, fun _ => rfl, ZR_refl ev.1, trivial⟩) (by omega) (fun j h u t ev _ hz => ?_)) (by omega) (Nat.le_refl _)⟩
        obtain ⟨t', h', u', m1, m2⟩ := zk_203 (pl := Pl) (ph := Ph) (k := 5 + 5 * z + j) (zf := zf) (w := w) ev.1 ev.2.2.2.2 (by omega) ev.2.1 (ev.2.2.2.1.1 _ _ _ (by decide) y1) (ev.2.2.2.1.1 _ _ _ (by decide) v2) (ev.2.2.2.1.1 _ _ _ (by decide) g1) (ev.2.2.2.1.2.2.1 _ _ g2) (ev.2.2.2.1.1 _ _ _ (by decide) g3) t (by omega)
        refine ⟨t', h', u', ?_, m2⟩
        rw [show 8 + 5 * (z + 1) + j = 5 + 5 * z + j + 7 + 1 from by omega]
        exact zx_202 (Or.inl ⟨rfl, rfl⟩) ev w3 m1
      · subst q
        obtain ⟨es, f1, f2, f3, f4⟩ := e4 (by omega)
        obtain ⟨c, c1, c2, c3⟩ := IA (n + 1) hi (p + 1) ph n p es _ f2 (by omega) hph hhi (by omega)
        obtain ⟨m, x, lo', hi', pl', ph', y1, y2, y3, y4, ⟨s1, s2, s3, s4, s5, _⟩, y6⟩ := e2 (6, 46, true) (by decide)
        have y4 : NRz L xs hB s (z + 1) 0 d lo' hi' pl' ph' m x := y4
        obtain ⟨y7, y8, y9⟩ := y6 rfl
        have rg := NR_rg (0, z + 1) _ _ _ _ _ _ _ y4
        obtain ⟨len, l1, l2⟩ := ih lo' hi' pl' ph' m x y4 (by omega) (by omega) (by omega)
        obtain ⟨W', _, _, v1, v2, _⟩ := NR_h (zc := (0, z + 1)) y4
        obtain ⟨⟨qq, g1, g2⟩, g3⟩ := e6 (by omega)
        refine ⟨len + 1, by omega, DW_le (dw_s (W := 11) (n1 := 3 * (hi - (n + 1))) (n2 := 1) (Q := fun h => aTy h es) (fun _ _ _ h1 h2 => aTy_w h1 h2) l2 w3 y1 y7 y9 (by omega) (fun j h u ev hz => ?_) (by omega) (fun j h u t ev at' hz => ?_)) (by omega) (Nat.le_refl _)⟩
        · obtain ⟨h', u', b1, b2, b3⟩ := zx_173 f1 w5 f4 c1 c2 (by omega) (by omega) (2 + j) ev (by omega)
          rw [show 10 + 5 * z + 1 + (2 + j) = 8 + 5 * (z + 1) + j from by omega] at b1
          exact ⟨h', u', fun _ => b1, fun q => absurd (Or.inl rfl) q, ZR_le b2 (by omega), b3⟩
        · have nb := ev.2.2.2.1
          have f1' : pts h pl ph p es := by
            rcases f1 with ⟨z1, z2⟩ | ⟨l, ar, cap, z1, z2, z3⟩
            · exact Or.inl ⟨nb.1 _ _ _ (by decide) z1, z2⟩
            · exact Or.inr ⟨l, ar, cap, nb.1 _ _ _ (by decide) z1, nb.2.1 _ _ _ _ z2, z3⟩
          obtain ⟨t', h', u', m1, m2⟩ := zk_204 (pl := Pl) (ph := Ph) (k := 5 + 5 * z + j) (zf := zf) (w := w) ev.1 ev.2.2.2.2 (by omega) ev.2.1 (nb.1 _ _ _ (by decide) w5) (nb.1 _ _ _ (by decide) y1) (nb.1 _ _ _ (by decide) v1) (nb.1 _ _ _ (by decide) v2) (nb.1 _ _ _ (by decide) g1) (nb.2.2.1 _ _ g2) (nb.1 _ _ _ (by decide) g3) f1' f4 at' t (by omega)
          refine ⟨t', h', u', ?_, m2⟩
          rw [show 8 + 5 * (z + 1) + j = 5 + 5 * z + j + 7 + 1 from by omega]
          exact zx_202 (Or.inr (Or.inl ⟨rfl, rfl⟩)) ev w3 m1
      · subst q
        obtain ⟨es, f1, f2, f3, f4⟩ := e4 (by omega)
        obtain ⟨c, c1, c2, c3⟩ := IA (n + 1) hi (p + 1) ph n p es _ f2 (by omega) hph hhi (by omega)
        obtain ⟨m, x, lo', hi', pl', ph', y1, y2, y3, y4, ⟨s1, s2, s3, s4, s5, _⟩, y6⟩ := e2 (6, 46, true) (by decide)
        have y4 : NRz L xs hB s (z + 1) 0 d lo' hi' pl' ph' m x := y4
        obtain ⟨y7, y8, y9⟩ := y6 rfl
        have rg := NR_rg (0, z + 1) _ _ _ _ _ _ _ y4
        obtain ⟨len, l1, l2⟩ := ih lo' hi' pl' ph' m x y4 (by omega) (by omega) (by omega)
        obtain ⟨W', _, _, v1, v2, _⟩ := NR_h (zc := (0, z + 1)) y4
        obtain ⟨⟨qq, g1, g2⟩, g3⟩ := e6 (by omega)
        refine ⟨len + 1, by omega, DW_le (dw_s (W := 12) (n1 := 3 * (hi - (n + 1))) (n2 := 1) (Q := fun h => aTy h es) (fun _ _ _ h1 h2 => aTy_w h1 h2) l2 w3 y1 y7 y9 (by omega) (fun j h u ev hz => ?_) (by omega) (fun j h u t ev at' hz => ?_)) (by omega) (Nat.le_refl _)⟩
        · obtain ⟨h', u', b1, b2, b3⟩ := zx_173 f1 w5 f4 c1 c2 (by omega) (by omega) (2 + j) ev (by omega)
          rw [show 10 + 5 * z + 1 + (2 + j) = 8 + 5 * (z + 1) + j from by omega] at b1
          exact ⟨h', u', fun _ => b1, fun q => absurd (Or.inr rfl) q, ZR_le b2 (by omega), b3⟩
        · have nb := ev.2.2.2.1
          have f1' : pts h pl ph p es := by
            rcases f1 with ⟨z1, z2⟩ | ⟨l, ar, cap, z1, z2, z3⟩
            · exact Or.inl ⟨nb.1 _ _ _ (by decide) z1, z2⟩
            · exact Or.inr ⟨l, ar, cap, nb.1 _ _ _ (by decide) z1, nb.2.1 _ _ _ _ z2, z3⟩
          obtain ⟨t', h', u', m1, m2⟩ := zk_207 (pl := Pl) (ph := Ph) (k := 5 + 5 * z + j) (zf := zf) (w := w) ev.1 ev.2.2.2.2 (by omega) ev.2.1 (nb.1 _ _ _ (by decide) w5) (nb.1 _ _ _ (by decide) y1) (nb.1 _ _ _ (by decide) v2) (nb.1 _ _ _ (by decide) g1) (nb.2.2.1 _ _ g2) (nb.1 _ _ _ (by decide) g3) f1' f4 at' t (by omega)
          refine ⟨t', h', u', ?_, m2⟩
          rw [show 8 + 5 * (z + 1) + j = 5 + 5 * z + j + 7 + 1 from by omega]
          exact zx_202 (Or.inr (Or.inr (Or.inl ⟨rfl, rfl⟩))) ev w3 m1
      · subst q
        obtain ⟨m, x, lo', hi', pl', ph', y1, y2, y3, y4, ⟨s1, s2, s3, s4, s5, _⟩, y6⟩ := e2 (6, 45, true) (by decide)
        obtain ⟨m2, x2, lo2, hi2, pl2, ph2, z1, z2, z3, z4, ⟨t1, t2, t3, t4, t5, _⟩, _⟩ := e13 rfl
        have y4 : NRz L xs hB s (z + 1) 0 d lo' hi' pl' ph' m x := y4
        have z4 : NRq L xs hB s (0, z) lo2 hi2 pl2 ph2 m2 x2 := z4
        obtain ⟨y7, y8, y9⟩ := y6 rfl
        have rg := NR_rg (0, z + 1) _ _ _ _ _ _ _ y4
        have rg2 := NR_rg (0, z) _ _ _ _ _ _ _ z4
        obtain ⟨len, l1, l2⟩ := ih lo' hi' pl' ph' m x y4 (by omega) (by omega) (by omega)
        obtain ⟨W', _, _, v1, v2, _⟩ := NR_h (zc := (0, z + 1)) y4
        obtain ⟨W2, _, _, u1, u2, _⟩ := NR_h (zc := (0, z)) z4
        obtain ⟨op, o1, o2⟩ := e8 rfl
        refine ⟨len + 1, by omega, DW_le (dw_s (W := 13) (n1 := 0) (n2 := 3 * (hi2 - lo2) + 1) (Q := fun _ => True) (fun _ _ _ _ _ => trivial) l2 w3 y1 y7 y9 (by omega) (fun j h u ev hz => ⟨h, u, fun q => by omega, fun _ => rfl, ZR_refl ev.1, trivial⟩) (by omega) (fun j h u t ev _ hz => ?_)) (by omega) (Nat.le_refl _)⟩
        obtain ⟨t', h', u', m1, m2⟩ := zx_208 (I172 _ _ _ _ _ _ z4 (by omega) (by omega) (by omega)) y1 v2 z1 u2 o1 (by omega) (2 + j) ev hz t
        refine ⟨t', h', u', ?_, m2⟩
        rw [show 8 + 5 * (z + 1) + j = 9 + 5 * z + 1 + (2 + j) + 1 from by omega]
        exact zx_202 (Or.inr (Or.inr (Or.inr ⟨rfl, rfl⟩))) ev w3 m1
end ZE
