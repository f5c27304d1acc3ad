/-! A METHOD'S BODY, by both. -/
/-- what the reference's body of method m leaves alone -/
def rMd (s s' : rS) (m : Nat) : Prop := (∀ j, j ≠ 10 → j ≠ 24 → j ≠ 25 → j ≠ 26 → j ≠ 56 → j ≠ 57 → j ≠ 58 → j ≠ 59 → s'.1 j = s.1 j) ∧ (∀ p, (p < 44 ∨ 60 < p) → p ≠ 76 → s'.2.1 p = s.2.1 p) ∧ (∀ i, i ≠ m → s'.2.1 76 i = s.2.1 76 i) ∧ ∀ p, p ≠ 56 → p ≠ 61 → s'.2.2 p = s.2.2 p
section BD2
variable {L : Nat} {xs : Nat → Int32} {zf : Value} {w k k2 m c : Nat} {cx : Nat → Nat} {F : Nat → Nat → Int32} {N : Nat → Int64} {q qm : List Value} {h h' h1 : rm_H} {s s' s1 : rS} {g g' : Nat → Nat} {ts : List Nat} {M : Nat} {v : Nat → Int32} {pt vr : Int32}
/-- within a body: its method, its first node, its parameters -/
abbrev cxM (cx : Nat → Nat) (M b c : Nat) : Nat → Nat := gu (gu (gu cx 14 M) 18 b) 19 c
theorem CH_in {b c2 : Nat} (hM : hc h M = some (.inr (11, qm.set 10 (.int (Int32.ofNat c))))) (hq : qm.length = 14) (e : CH cx q h g ts pt vr) : CH (cxM cx M b c2) qm h (gu g 3 c) ts pt vr := ⟨e.1, e.2.1, e.2.2.1, e.2.2.2.1, Or.inr ⟨hq, hM⟩⟩
theorem CH_out {b c2 : Nat} (h14 : cx 14 = 0) (e : CH (cxM cx M b c2) qm h g ts pt vr) : CH cx q h g ts pt vr := ⟨e.1, e.2.1, e.2.2.1, e.2.2.2.1, Or.inl h14⟩
theorem SY_out {b c2 : Nat} (h14 : cx 14 = 0) (z : SY (cxM cx M b c2) F N qm h s g ts) : SY cx F N q h s g ts := by
  obtain ⟨⟨p, ⟨t1, t2, _, t4⟩, rt, ch, cs, b⟩, g6⟩ := z
  exact ⟨⟨p, ⟨t1, t2, fun hh => absurd h14 hh, t4⟩, rt, CH_out h14 ch, cs, b⟩, g6.1, g6.2.1, g6.2.2.1, g6.2.2.2.1, g6.2.2.2.2.1, fun hh => absurd h14 hh⟩
theorem FLT_out {b c2 : Nat} (h14 : cx 14 = 0) (z : FLT (cxM cx M b c2) F N qm h s g ts) : FLT cx F N q h s g ts := by
  obtain ⟨⟨v, p, r⟩, t, rt, ⟨pt, vr, ch⟩, cs, b⟩ := z
  exact ⟨⟨v, p, r⟩, t, rt, ⟨pt, vr, CH_out h14 ch⟩, cs, b⟩
/-- the reference has made the body's node n -/
def boS (s : rS) (n : Nat) (x f : Int32) : rS := ndS (rs_w s 59 x) n 31 f
theorem boS_rF {n : Nat} {x f : Int32} : rF s (boS s n x f) := rF_trans (rF_w (by omega)) rF_nd
theorem boS_sX {n : Nat} {x f : Int32} : sX s (boS s n x f) n := sX_trans sX_w (sX_nd (Nat.le_refl _)) (Nat.le_refl _)
theorem boS_yA {n : Nat} {x f : Int32} : yA s (boS s n x f) := yA_trans (s1 := rs_w s 59 x) (yA_2 rfl rfl) nd_yA
theorem t76 : ∀ p, 70 ≤ p → p ≤ 76 → rs_t p = (0, 72, false) := by
  intro p h1 h2
  have : p = 70 ∨ p = 71 ∨ p = 72 ∨ p = 73 ∨ p = 74 ∨ p = 75 ∨ p = 76 := by omega
  rcases this with e | e | e | e | e | e | e <;> subst e <;> decide
theorem t77 : rs_t 77 = (0, 73, false) := by decide
theorem mWt {p i : Nat} {x : Int32} (hp : 70 ≤ p ∧ p ≤ 76) (hi : i < 72) : rs_sI s p (Int32.ofNat i) x = some (rs_wA s p i x) := sI_at (by omega) (t76 p hp.1 hp.2) hi (by omega)
theorem mR7 {i : Nat} (hi : i < 73) : rs_aI s 77 (Int32.ofNat i) = some (s.2.1 77 i) := aI_at (by omega) t77 hi (by omega)
theorem mW7 {i : Nat} {x : Int32} (hi : i < 73) : rs_sI s 77 (Int32.ofNat i) x = some (rs_wA s 77 i x) := sI_at (by omega) t77 hi (by omega)
/-- the body is linked -/
def blS (s : rS) (b cc m : Nat) : rS := rs_wA (rs_wA (rs_wA (rs_wA s 45 b (Int32.ofNat cc)) 49 cc (Int32.ofNat b)) 54 b (Int32.ofNat m)) 76 m (Int32.ofNat b)
theorem blS_sX {b cc nd : Nat} (hb : nd ≤ b) (hc : nd ≤ cc) : sX s (blS s b cc m) nd := fun i hi => ⟨fun p h1 h2 => by unfold blS; rw [wA_get, if_neg (by omega), wA_get, if_neg (by omega), wA_get, if_neg (by omega), wA_get, if_neg (by omega)], rfl⟩
theorem blS_sA {b cc lo hi : Nat} (hb : b < lo ∨ hi ≤ b) : sA s (blS s b cc m) lo hi cc := by
  intro i h1 h2
  unfold blS
  refine ⟨fun q hq => ?_, rfl, fun hr => ⟨?_, ?_⟩, fun _ => ?_⟩ <;> rw [wA_get, if_neg (by omega), wA_get, if_neg (by omega), wA_get, if_neg (by omega), wA_get, if_neg (by omega)]
theorem blS_yA {b cc : Nat} : yA s (blS s b cc m) := by
  unfold blS
  exact yA_trans (yA_trans (yA_trans (yA_A (by omega)) (yA_A (by omega))) (yA_A (by omega))) (yA_A (by omega))
theorem r_228 {b cc t : Nat} {f x : Int32} {s5 : rS} (hm : m < 72) (hb : b < 4400) (hc : cc < 4400) (ht : s.1 56 = Int32.ofNat t) (hl : t ≤ 2000) (hn : s.1 10 = Int32.ofNat b) (hx : s.1 52 - s.2.1 77 m = x) (hf : s.2.1 41 t = f) (e17 : rM w (k + 1) 317 [.ref 36, .int 1] (boS s b x f) = some (some (.int (Int32.ofNat cc)), s5)) : s314_228 (rM w (k + 1)) w (Int32.ofNat m) s = some (none, blS s5 b cc m) := by
  unfold s314_228
  rw [mR7 (by omega), Option.bind_some, hx]
  show (rs_aI (rs_w s 59 x) 41 ((rs_w s 59 x).1 56)).bind _ = _
  rw [aT (s := rs_w s 59 x) (t := t) (by omega) ht hl, Option.bind_some, show (rs_w s 59 x).2.1 41 t = f from hf, show (rM w (k + 1) 316 [.ref 36, .int 31, .int f] (rs_w s 59 x)).bind rxI = some (Int32.ofNat b, boS s b x f) from by rw [q316 (k := k) (s := rs_w s 59 x) (n := b) 31 f hn hb]; rfl, Option.bind_some, show (rM w (k + 1) 317 [.ref 36, .int 1] (boS s b x f)).bind rxI = some (Int32.ofNat cc, s5) from by rw [e17]; rfl, Option.bind_some, nWt (q := 45) (by omega) hb, Option.bind_some, nA (q := 45) (by omega) hb, Option.bind_some, show (rs_wA s5 45 b (Int32.ofNat cc)).2.1 45 b = Int32.ofNat cc from by rw [wA_get, if_pos ⟨rfl, rfl⟩], nWt (q := 49) (by omega) hc, Option.bind_some, nWt (q := 54) (by omega) hb, Option.bind_some, mWt (by omega) hm, Option.bind_some]
  rfl
theorem SY_s3 {s2 : rS} (rt : rTk F N s2) (e1 : s2.1 = s.1) (re : rQ s s2) (z : SY cx F N q h s g ts) : SY cx F N q h s2 g ts := by
  obtain ⟨⟨p1, t1, _, ch, cs, b⟩, g6⟩ := z
  exact ⟨⟨p1, by rw [e1]; exact t1, rt, by rw [e1]; exact ch, CS_1 e1 cs, b⟩, g6.1, TSI_e g6.2 re⟩
theorem FLT_s3 {s2 : rS} (rt : rTk F N s2) (e1 : s2.1 = s.1) (z : FLT cx F N q h s g ts) : FLT cx F N q h s2 g ts := by
  obtain ⟨⟨v, p1, r⟩, t1, _, ch, cs, b⟩ := z
  exact ⟨⟨v, p1, by rw [e1]; exact r⟩, by rw [e1]; exact t1, rt, ch, CS_1 e1 cs, b⟩
/-- a step of both where declarations are read; nodes are counted elsewhere -/
def OPY (P : Nat → Prop) (cx : Nat → Nat) (F : Nat → Nat → Int32) (N : Nat → Int64) (q : List Value) (c1 c2 d2 : Nat) (h : rm_H) (s : rS) (g : Nat → Nat) (ts : List Nat) (h' : rm_H) (s' : rS) (g' : Nat → Nat) (ts' : List Nat) : Prop :=
  (SY cx F N q h' s' g' ts' ∨ FLT cx F N q h' s' g' ts') ∧ (SY cx F N q h' s' g' ts' → SY cx F N q h s g ts ∧ sX s s' (g 4) ∧ yA s s')
  ∧ fr (fun y => M4 cx (g 1) y ∨ P y) h h' ∧ (g' 1 = g 1 ∨ 21 + h.length ≤ g' 1) ∧ (g 0 ≤ g' 0 ∧ g 4 ≤ g' 4)
  ∧ h'.length + 10 * g 0 + g 6 + c1 ≤ h.length + 10 * g' 0 + g' 6
  ∧ zh h' + 4 * g 2 + 80 * g 0 + 8 * g 6 + c2 ≤ zh h + 4 * g' 2 + 80 * g' 0 + 8 * g' 6 + d2
theorem OPY_X {P : Nat → Prop} {c1 c2 : Nat} {ts' : List Nat} (a : OPX P cx F N q c1 c2 h s g ts h' s' g' ts') : OPY P cx F N q c1 c2 0 h s g ts h' s' g' ts' := by
  obtain ⟨a1, a2, a3, a4, a5, a6, a7, a8⟩ := a
  exact ⟨a1, a2, a3, a4, a5, a6, a7⟩
theorem OPY_le {P : Nat → Prop} {c1 c2 d2 e1 e2 f2 : Nat} {ts' : List Nat} (a : OPY P cx F N q c1 c2 d2 h s g ts h' s' g' ts') (l1 : e1 ≤ c1) (l2 : e2 + d2 ≤ c2 + f2) : OPY P cx F N q e1 e2 f2 h s g ts h' s' g' ts' := by
  obtain ⟨a1, a2, a3, a4, a5, a6, a7⟩ := a
  exact ⟨a1, a2, a3, a4, a5, by omega, by omega⟩
theorem OPY_trans {P Q : Nat → Prop} {c1 c2 d2 e1 e2 f2 : Nat} {g1 g2 : Nat → Nat} {ts1 ts2 : List Nat} {h2 : rm_H} {s2 : rS} (a : OPY P cx F N q c1 c2 d2 h s g ts h1 s1 g1 ts1) (b : OPY Q cx F N q e1 e2 f2 h1 s1 g1 ts1 h2 s2 g2 ts2) (hQ : ∀ y, y < 21 + h.length → Q y → P y) : OPY P cx F N q (c1 + e1) (c2 + e2) (d2 + f2) h s g ts h2 s2 g2 ts2 := by
  obtain ⟨a1, a2, a3, a4, a5, a6, a7⟩ := a
  obtain ⟨b1, b2, b3, b4, b5, b6, b7⟩ := b
  refine ⟨b1, fun z => ?_, fr_trans a3 b3 (fun y hy u => ?_), ?_, by omega, by omega, by omega⟩
  · obtain ⟨y1, y2, y3⟩ := b2 z
    obtain ⟨x1, x2, x3⟩ := a2 y1
    exact ⟨x1, sX_trans x2 y2 a5.2, yA_trans x3 y3⟩
  · rcases u with u | u
    · left
      rcases u with u | u | u | u | u
      · exact Or.inl u
      · exact Or.inr (Or.inl u)
      · exact Or.inr (Or.inr (Or.inl u))
      · exact Or.inr (Or.inr (Or.inr (Or.inl u)))
      · rcases a4 with e | e
        · exact Or.inr (Or.inr (Or.inr (Or.inr (u.trans e))))
        · omega
    · exact Or.inr (hQ y hy u)
  · have := a3.1
    omega
/-- a body -/
theorem op_body (hT : TF cx F N) (hw : 2100 ≤ w) (h14 : cx 14 = 0) (z : SY cx F N q h s g ts ∨ FLT cx F N q h s g ts) (hg : g 6 ≤ 2100) (hM : hc h M = some (.inr (11, qm.set 10 (.int (Int32.ofNat c))))) (hq : qm.length = 14) (hc16 : c ≤ 16) (hm : m < 72) (hsy : SY cx F N q h s g ts → g 4 ≤ g 0 + 1 ∧ s.1 52 - s.2.1 77 m = Int32.ofNat c) : ∃ h1 h' s' g' ts' B cc nl, dM L xs zf w (200 + k) 119 [.ref (cx 7), .ref M, .int 1] h = some (some (.ref B), h1) ∧ dpF h1 9 [11] (some M) (.ref B) = some h' ∧ s314_228 (rM w (99 + k2)) w (Int32.ofNat m) s = some (none, s') ∧ OPY (fun y => y = M) cx F N q 0 0 0 h s g ts h' s' g' ts' ∧ (g' 6 ≤ 962 ∨ g' 6 ≤ g 6 + 3) ∧ rMd s s' m ∧ hc h' M = some (.inr (11, (qm.set 10 (.int (Int32.ofNat nl))).set 9 (.ref B))) ∧ nW h' B ∧ (∀ l2 ar2 cap2 es2, l2 ≠ cx 11 → aL h l2 ar2 cap2 es2 → aL h' l2 ar2 cap2 es2) ∧ (SY cx F N q h' s' g' ts' → g 0 < g' 0 ∧ (nl ≤ 16 ∧ c ≤ nl ∧ ∀ n, g 4 + 1 ≤ n → n < g' 4 → s'.2.1 44 n = 20 → ∃ sl, sl < nl ∧ s'.2.1 53 n = Int32.ofNat sl ∧ c ≤ sl ∧ sl < 16 ∧ ∀ n', g 4 + 1 ≤ n' → n' < n → s'.2.1 44 n' = 20 → (s'.2.1 53 n').toInt < (s'.2.1 53 n).toInt) ∧ s'.2.1 76 m = Int32.ofNat (g 4) ∧ g 4 < g' 4 ∧ s'.2.1 44 (g 4) = 31 ∧ s'.2.1 45 (g 4) = Int32.ofNat cc ∧ s'.2.1 49 cc = Int32.ofNat (g 4) ∧ s'.2.1 54 (g 4) = Int32.ofNat m ∧ NR L xs h' s' (1, 49) (g' 4 - (g 4 + 1)) (g 4 + 1) (g' 4) (21 + h.length) (21 + h'.length) cc B) := by
  have nl0 := n_lt hT z
  have hMl := hc_lt hM
  have hMg := hc_ge hM
  have n10 := n_10 z
  generalize hf : s.2.1 41 (g 0) = f
  generalize hx : s.1 52 - s.2.1 77 m = x at hsy
  -- both go in
  have ent : ∃ G6, (SY (cxM cx M (g 4 + 1) c) F N qm h (boS s (g 4) x f) (gu (gu (gu g 3 c) 4 (g 4 + 1)) 6 G6) ts ∨ FLT (cxM cx M (g 4 + 1) c) F N qm h (boS s (g 4) x f) (gu (gu (gu g 3 c) 4 (g 4 + 1)) 6 G6) ts) ∧ g 6 ≤ G6 ∧ G6 ≤ g 6 + 1 ∧ (SY (cxM cx M (g 4 + 1) c) F N qm h (boS s (g 4) x f) (gu (gu (gu g 3 c) 4 (g 4 + 1)) 6 G6) ts → SY cx F N q h s g ts) := by
    rcases z with z | z
    · obtain ⟨⟨p, ⟨a1, a2, a3, a4⟩, rt, ch, ⟨c1, c2, c3, c4⟩, b1, b2, b3, b4⟩, g6⟩ := id z
      obtain ⟨s1, s2⟩ := hsy z
      refine ⟨g 6, Or.inl ⟨⟨p, ⟨a1, a2, fun _ => s2, hc16⟩, rT_F boS_rF rt, CH_g (g := gu g 3 c) rfl rfl rfl (CH_in hM hq ch), ⟨c1, rfl, c3, ?_⟩, ?_⟩, g6.1, ?_⟩, Nat.le_refl _, by omega, fun _ => z⟩
      · show 1 ≤ g 4 + 1
        omega
      · show g 0 ≤ cx 16 ∧ _ ≤ g 0 ∧ g 4 + 1 ≤ g 0 + 2 ∧ g 5 + 2 ≤ g 0
        omega
      · have t0 := TSI_n (g1 := gu g 4 (g 4 + 1)) g6.2 (fr_refl (fun _ => False) h) (fun _ _ _ z => z) (nD_0 rfl) (tR_sX (boS_sX (x := x) (f := f))) (yA_n c3 (by have := hT.1; omega) boS_yA) (Nat.le_refl _) (Nat.le_succ _) rfl (fun n n1 n2 => by
          have n3 : n < g 4 + 1 := n2
          have n4 : n = g 4 := by omega
          have e44 : (boS s (g 4) x f).2.1 44 (g 4) = 31 := by
            show (ndS (rs_w s 59 x) (g 4) 31 f).2.1 44 (g 4) = _
            rw [nd_get, if_pos ⟨rfl, by omega, by omega⟩]
            rfl
          rw [n4, e44]
          decide)
        exact ⟨t0.1, t0.2.1, t0.2.2.1, t0.2.2.2.1, fun _ => ⟨Nat.le_refl _, fun n n1 n2 => by
          have n1 : g 4 + 1 ≤ n := n1
          have n2 : n < g 4 + 1 := n2
          omega⟩⟩
    · obtain ⟨⟨v, p, r⟩, t, rt, ⟨pt, vr, ch⟩, cs, b⟩ := id z
      have fl : FLT (cxM cx M (g 4 + 1) c) F N qm h (boS s (g 4) x f) (gu (gu (gu g 3 c) 4 (g 4 + 1)) 6 (g 6 + 1)) ts := by
        refine ⟨⟨v, p, r⟩, t, rT_F boS_rF rt, ⟨pt, vr, CH_g (g := gu g 3 c) rfl rfl rfl (CH_in hM hq ch)⟩, ⟨cs.1, rfl, cs.2.2.1, ?_⟩, ?_⟩
        · show 1 ≤ g 4 + 1
          omega
        · show g 0 ≤ cx 16 ∧ _ ≤ g 0 + (g 6 + 1) ∧ g 4 + 1 ≤ g 0 + 2 + (g 6 + 1)
          omega
      exact ⟨g 6 + 1, Or.inr fl, by omega, by omega, fun u => (sy_no u fl).elim⟩
  obtain ⟨G6, st, hG1, hG2, hG3⟩ := ent
  have hT' : TF (cxM cx M (g 4 + 1) c) F N := hT
  have EX := x_body (L := L) (xs := xs) (zf := zf) (q := qm) hT' hw (show cxM cx M (g 4 + 1) c 14 ≠ 0 by show M ≠ 0; omega) k k2 h (boS s (g 4) x f) (gu (gu (gu g 3 c) 4 (g 4 + 1)) 6 G6) ts st (by show G6 ≤ 2200; omega)
  obtain ⟨h1, s5, g5, ts5, B, cc, ec, er, op, sl, nB, xl, nl, nr⟩ := EX
  have nl5 := n_lt hT' op.1
  have q0 : gu (gu (gu g 3 c) 4 (g 4 + 1)) 6 G6 0 = g 0 := rfl
  have q1 : gu (gu (gu g 3 c) 4 (g 4 + 1)) 6 G6 1 = g 1 := rfl
  have q2 : gu (gu (gu g 3 c) 4 (g 4 + 1)) 6 G6 2 = g 2 := rfl
  have q4 : gu (gu (gu g 3 c) 4 (g 4 + 1)) 6 G6 4 = g 4 + 1 := rfl
  have q6 : gu (gu (gu g 3 c) 4 (g 4 + 1)) 6 G6 6 = G6 := rfl
  -- the method's cell
  have cM : hc h1 M = some (.inr (11, qm.set 10 (.int (Int32.ofNat (g5 3))))) := by
    have main : ∀ pt vr, CH (cxM cx M (g 4 + 1) c) qm h1 g5 ts5 pt vr → hc h1 M = some (.inr (11, qm.set 10 (.int (Int32.ofNat (g5 3))))) := by
      intro pt vr ch
      rcases ch.2.2.2.2 with e | ⟨_, e⟩
      · have e : M = 0 := e
        omega
      · exact e
    rcases op.1 with y | y
    · exact main _ _ y.1.2.2.2.1
    · obtain ⟨_, _, _, ⟨pt, vr, ch⟩, _⟩ := y
      exact main _ _ ch
  have q9 : ∃ u, (qm.set 10 (.int (Int32.ofNat (g5 3))))[9]? = some u := ⟨_, List.getElem?_eq_getElem (by rw [List.length_set]; omega)⟩
  obtain ⟨u9, q9⟩ := q9
  obtain ⟨h', d1, d2, d3⟩ := pF_ex (j := 9) (cis := [11]) (v := .ref B) cM q9 (by decide) rfl (by decide)
  have toS : SY (cxM cx M (g 4 + 1) c) F N qm h1 s5 g5 ts5 → SY cx F N q h' (blS s5 (g 4) cc m) g5 ts5 := by
    intro y
    have k31 : s5.2.1 44 (g 4) = 31 := by
      rw [((op.2.1 y).2.1 (g 4) (Nat.lt_succ_self _)).1 44 (by omega) (by omega)]
      show (ndS (rs_w s 59 x) (g 4) 31 f).2.1 44 (g 4) = _
      rw [nd_get, if_pos ⟨rfl, by omega, by omega⟩]
      rfl
    obtain ⟨⟨p1, t1, rt, ch, cs, b⟩, g6⟩ := SY_out (q := q) h14 y
    have tr : tR s5 (blS s5 (g 4) cc m) (g5 4) := by
      unfold blS
      refine tR_trans (tR_trans (tR_trans (tR_A (by decide) (fun _ => ⟨Or.inr (by decide), Or.inr (by decide)⟩)) (tR_A (by decide) (fun _ => ⟨Or.inr (by decide), Or.inr (by decide)⟩)) (Nat.le_refl _)) (tR_A (by decide) (fun _ => ⟨Or.inl ?_, Or.inr (by decide)⟩)) (Nat.le_refl _)) (tR_A (by decide) (fun _ => ⟨Or.inr (by decide), Or.inr (by decide)⟩)) (Nat.le_refl _)
      show (rs_wA (rs_wA s5 45 (g 4) (Int32.ofNat cc)) 49 cc (Int32.ofNat (g 4))).2.1 44 (g 4) ≠ 8
      rw [wA_ne _ _ _ (by decide), wA_ne _ _ _ (by decide), k31]
      decide
    have row : ∀ p, 57 ≤ p → p ≤ 59 → (blS s5 (g 4) cc m).2.1 p = s5.2.1 p := fun p h1 h2 => by
      unfold blS
      rw [wA_ne _ _ _ (by omega), wA_ne _ _ _ (by omega), wA_ne _ _ _ (by omega), wA_ne _ _ _ (by omega)]
    exact ⟨⟨pC_w cM (by decide) d3 p1, t1, rt, CH_w0 h14 cM (by decide) d3 ch, cs, b⟩, g6.1, TSI_wr g6.2 cM (by decide) d3 tr (fun y _ => ⟨by rw [row 57 (by omega) (by omega)], by rw [row 58 (by omega) (by omega)], by rw [row 59 (by omega) (by omega)], rfl⟩) rfl rfl rfl⟩
  have toF : FLT (cxM cx M (g 4 + 1) c) F N qm h1 s5 g5 ts5 → FLT cx F N q h' (blS s5 (g 4) cc m) g5 ts5 := by
    intro y
    obtain ⟨⟨v, p1, rr⟩, t1, rt, ⟨pt, vr, ch⟩, cs, b⟩ := FLT_out (q := q) h14 y
    exact FLT_s3 (s := s5) rt rfl ⟨⟨v, pC_w cM (by decide) d3 p1, rr⟩, t1, rt, ⟨pt, vr, CH_w0 h14 cM (by decide) d3 ch⟩, cs, b⟩
  have bk : SY cx F N q h' (blS s5 (g 4) cc m) g5 ts5 → SY (cxM cx M (g 4 + 1) c) F N qm h1 s5 g5 ts5 := fun y => by
    rcases op.1 with u | u
    · exact u
    · exact (sy_no y (toF u)).elim
  have l' := d3.2.1
  have y' := d3.2.2
  have og := op.2.2.2.2.2.1
  have o7 := op.2.2.2.2.2.2.1
  have o8 := op.2.2.2.2.2.2.2.1
  have rfo := op.2.2.2.2.1
  have ccge : SY (cxM cx M (g 4 + 1) c) F N qm h1 s5 g5 ts5 → g 4 + 1 ≤ cc := fun u => by
    have := (NR_rg _ _ _ _ _ _ _ _ (nr u).2.2).2.1
    omega
  have len1 := op.2.2.1.1
  refine ⟨h1, h', blS s5 (g 4) cc m, g5, ts5, B, cc, g5 3, ec, d1, ?_, ⟨op.1.elim (fun u => Or.inl (toS u)) (fun u => Or.inr (toF u)), fun u => ?_, ?_, ?_, ⟨by omega, by omega⟩, by omega, by omega⟩, by omega, ⟨fun j h1 h2 h3 h4 h5 h6 h7 h8 => ?_, fun p hp hp6 => ?_, fun i hi => ?_, fun p hp1 hp2 => ?_⟩, d2, ?_, fun l2 ar2 cap2 es2 n2 e => ?_, fun u => ?_⟩
  · have := r_228 (w := w) (k := 98 + k2) (m := m) (b := g 4) (cc := cc) (t := g 0) (f := f) (x := x) (s := s) (s5 := s5) hm (by omega) (by omega) nl0.2.2.2 nl0.1 n10 hx hf (by rw [show 98 + k2 + 1 = 99 + k2 from by omega]; exact er)
    rw [show 98 + k2 + 1 = 99 + k2 from by omega] at this
    exact this
  · have u5 := bk u
    obtain ⟨x1, x2, x3⟩ := op.2.1 u5
    refine ⟨hG3 x1, ?_, yA_trans (yA_trans boS_yA x3) blS_yA⟩
    have cg := ccge u5
    exact sX_trans (sX_trans boS_sX x2 (by omega)) (blS_sX (Nat.le_refl _) (by omega)) (Nat.le_refl _)
  · refine fr_trans (fr_mono op.2.2.1 (fun y _ u => ?_)) d3.1 (fun _ _ u => Or.inr u)
    rcases u with u | u | u | u | u
    · exact Or.inl (Or.inl u)
    · exact Or.inl (Or.inr (Or.inl u))
    · exact Or.inl (Or.inr (Or.inr (Or.inl u)))
    · exact Or.inr u
    · exact Or.inl (Or.inr (Or.inr (Or.inr (Or.inr u))))
  · exact op.2.2.2.1
  · show s5.1 j = _
    rw [rfo.1 j h1 h2 h3 h4 h5 h6 h7 h8, boS_rF.1 j h1 h2 h3 h4 h5 h6 h7 h8]
  · have r5 : s5.2.1 p = s.2.1 p := by
      rw [rfo.2.1 p (by omega), boS_rF.2.1 p (by omega)]
    unfold blS
    rw [wA_ne _ _ _ hp6, wA_ne _ _ _ (by omega), wA_ne _ _ _ (by omega), wA_ne _ _ _ (by omega), r5]
  · unfold blS
    rw [wA_get, if_neg (fun u => hi u.2), wA_ne _ _ _ (by omega), wA_ne _ _ _ (by omega), wA_ne _ _ _ (by omega), rfo.2.1 76 (by omega), boS_rF.2.1 76 (by omega)]
  · show s5.2.2 p = _
    rw [rfo.2.2 p hp1 hp2, boS_rF.2.2 p hp1 hp2]
  · obtain ⟨fs, eB, eB2⟩ := id nB
    have BM : B ≠ M := fun e => by rw [e, cM] at eB; cases eB
    exact nW_st nB d3 BM
  · refine aL_st cM (by decide) d3 ?_
    exact aL_op (cx := cxM cx M (g 4 + 1) c) (g := gu (gu (gu g 3 c) 4 (g 4 + 1)) 6 G6) st op.2.2.1 e n2
  · have u5 := bk u
    obtain ⟨v1, v48, vN⟩ := nr u5
    have rg := NR_rg _ _ _ _ _ _ _ _ vN
    obtain ⟨x1, x2, x3⟩ := op.2.1 u5
    have bo : ∀ r, 44 ≤ r → r ≤ 55 → s5.2.1 r (g 4) = ndV r 31 f := by
      intro r h1 h2
      rw [(x2 (g 4) (by omega)).1 r h1 h2]
      show (ndS (rs_w s 59 x) (g 4) 31 f).2.1 r (g 4) = _
      rw [nd_get, if_pos ⟨rfl, h1, h2⟩]
    have g16 : g5 3 ≤ 16 := u5.1.2.1.2.2.2
    obtain ⟨v5, vv⟩ := u5.2.2.2.2.2.2 (show M ≠ 0 by omega)
    refine ⟨by omega, ⟨g16, v5, fun n n1 n2 e => ?_⟩, ?_, by omega, ?_, ?_, ?_, ?_, ?_⟩
    · have r44 : (blS s5 (g 4) cc m).2.1 44 = s5.2.1 44 := by
        unfold blS
        rw [wA_ne _ _ _ (by omega), wA_ne _ _ _ (by omega), wA_ne _ _ _ (by omega), wA_ne _ _ _ (by omega)]
      have r53 : (blS s5 (g 4) cc m).2.1 53 = s5.2.1 53 := by
        unfold blS
        rw [wA_ne _ _ _ (by omega), wA_ne _ _ _ (by omega), wA_ne _ _ _ (by omega), wA_ne _ _ _ (by omega)]
      rw [r44] at e
      rw [r53, r44]
      exact vv n n1 n2 e
    · unfold blS
      rw [wA_get, if_pos ⟨rfl, rfl⟩]
    · unfold blS
      rw [wA_get, if_neg (by omega), wA_get, if_neg (by omega), wA_get, if_neg (by omega), wA_get, if_neg (by omega), bo 44 (by omega) (by omega)]
      rfl
    · unfold blS
      rw [wA_get, if_neg (by omega), wA_get, if_neg (by omega), wA_get, if_neg (by omega), wA_get, if_pos ⟨rfl, rfl⟩]
    · unfold blS
      rw [wA_get, if_neg (by omega), wA_get, if_neg (by omega), wA_get, if_pos ⟨rfl, rfl⟩]
    · unfold blS
      rw [wA_get, if_neg (by omega), wA_get, if_pos ⟨rfl, rfl⟩]
    · rw [l']
      exact NR_lk vN d3 cM (Or.inr (by omega)) (blS_sA (by omega)) blS_yA
end BD2
