/-! NODES THAT ARE OPEN: what is written to them, what stays of their parts. -/
section OPN
variable {L : Nat} {xs : Nat → Int32} {zf : Value} {w k : Nat} {cx : Nat → Nat} {F : Nat → Nat → Int32} {N : Nat → Int64} {q : List Value} {h h' h1 h2 : rm_H} {s s' s1 s2 : rS} {g g' g1 g2 : Nat → Nat} {ts ts' ts1 ts2 : List Nat} {v : Nat → Int32} {d lo hi pl ph n m p x : Nat}
/-- the parser's own places lie below what is made -/
def bl (cx : Nat → Nat) (b : Nat) : Prop := cx 0 < b ∧ cx 8 < b ∧ cx 11 < b ∧ cx 14 < b
theorem bl_le {b c : Nat} (e : bl cx b) (hc : b ≤ c) : bl cx c := by
  unfold bl at e ⊢
  omega
theorem ch_cx {pt vr : Int32} (p : pC h cx F v) (ch : CH cx q h g ts pt vr) : bl cx (21 + h.length) := by
  refine ⟨hc_lt (pC_r p), hc_lt ch.1, (aL_lt ch.2.1).1, ?_⟩
  rcases ch.2.2.2.2 with e | ⟨_, e⟩
  · omega
  · exact hc_lt e
theorem sy_cx (z : SY cx F N q h s g ts ∨ FLT cx F N q h s g ts) : bl cx (21 + h.length) := by
  rcases z with z | z
  · exact ch_cx z.1.1 z.1.2.2.2.1
  · obtain ⟨⟨v, p, _⟩, _, _, ⟨pt, vr, ch⟩, _⟩ := z
    exact ch_cx p ch
theorem NR_keep {zz : Nat × Nat} (b : OPR cx F N q h s g ts h' s' g' ts') (y : SY cx F N q h' s' g' ts') (hN : NR L xs h s zz d lo hi pl ph n x) (hhi : hi ≤ g 4) (hpl : bl cx pl) : NR L xs h' s' zz d lo hi pl ph n x := by
  obtain ⟨y1, y2, y3⟩ := b.2.1 y
  exact NR_fr b.2.2.1 y3 zz d lo hi pl ph n x hN (cA_M4 y1.1.1 y1.1.2.2.2.1 b.2.2.1 hpl) (fun i h1 h2 => ⟨fun q hq => (y2 i (by omega)).1 q (by omega) (by omega), (y2 i (by omega)).2, fun _ => ⟨(y2 i (by omega)).1 48 (by omega) (by omega), (y2 i (by omega)).1 49 (by omega) (by omega)⟩, fun _ => (y2 i (by omega)).1 53 (by omega) (by omega)⟩)
/-- another object is written -/
theorem NR_lk {zz : Nat × Nat} {ci : Nat} {fs : List Value} (hN : NR L xs h s zz d lo hi pl ph m x) (wp : st1 p h h') (hp : hc h p = some (.inr (ci, fs))) (hp2 : ph ≤ p ∨ p < pl) (sa : sA s s' lo hi m) (hY : yA s s') : NR L xs h' s' zz d lo hi pl ph m x := by
  refine NR_fr wp.1 hY zz d lo hi pl ph m x hN (cA_of wp.1 (fun y cj gs h1 h2 _ z => by omega) (fun l ar cap es _ _ e h5 z => ?_)) sa
  obtain ⟨mc, _, _, _, e3⟩ := e
  rcases e3 with ⟨e3, _⟩ | ⟨f0, e3, _⟩
  · exact h5 e3
  · rw [z, hp] at e3
    cases e3
theorem sA_refl (s : rS) (lo hi r : Nat) : sA s s lo hi r := fun _ _ _ => ⟨fun _ _ => rfl, rfl, fun _ => ⟨rfl, rfl⟩, fun _ => rfl⟩
theorem sA_trans {r : Nat} (a : sA s s1 lo hi r) (b : sA s1 s2 lo hi r) : sA s s2 lo hi r := by
  intro i h1 h2
  obtain ⟨a1, a2, a3, a4⟩ := a i h1 h2
  obtain ⟨b1, b2, b3, b4⟩ := b i h1 h2
  exact ⟨fun q hq => (b1 q hq).trans (a1 q hq), b2.trans a2, fun hr => ⟨(b3 hr).1.trans (a3 hr).1, (b3 hr).2.trans (a3 hr).2⟩, fun hk => (b4 ((a1 44 (by omega)).trans hk)).trans (a4 hk)⟩
/-- a row of another node; the root's parent or next -/
theorem sA_A {r i j : Nat} {y : Int32} (hj : j < lo ∨ hi ≤ j ∨ (j = r ∧ (i = 48 ∨ i = 49))) : sA s (rs_wA s i j y) lo hi r := by
  intro c h1 h2
  refine ⟨fun q hq => ?_, rfl, fun hr => ⟨?_, ?_⟩, fun _ => ?_⟩
  · rw [wA_get, if_neg (by omega)]
  · rw [wA_get, if_neg (by omega)]
  · rw [wA_get, if_neg (by omega)]
  · rw [wA_get, if_neg (by omega)]
theorem sA_B {r j : Nat} {y : Int64} (hj : j < lo ∨ hi ≤ j) : sA s (rs_wB s 56 j y) lo hi r := by
  intro c h1 h2
  exact ⟨fun _ _ => rfl, by rw [wB_get, if_neg (by omega)], fun _ => ⟨rfl, rfl⟩, fun _ => rfl⟩
theorem sA_1 {r : Nat} (e : s'.2 = s.2) : sA s s' lo hi r := fun i _ _ => ⟨fun _ _ => by rw [e], by rw [e], fun _ => ⟨by rw [e], by rw [e]⟩, fun _ => by rw [e]⟩
theorem yA_A {i j : Nat} {y : Int32} (hi : i < 57 ∨ 59 < i) : yA s (rs_wA s i j y) := yA_of rfl (fun p _ _ => wA_ne _ _ _ (by omega)) rfl
theorem yA_B {j : Nat} {y : Int64} : yA s (rs_wB s 56 j y) := yA_of rfl (fun _ _ _ => rfl) (wB_ne _ _ _ (by decide))
theorem CS_1 (e : s'.1 = s.1) (c : CS s g) : CS s' g := by
  unfold CS at c ⊢
  rw [e]
  exact c
/-- a new Node is written, and rows of new nodes -/
theorem OPR_lnk {fs : List Value} (a : OPR cx F N q h s g ts h1 s1 g1 ts1) (wp : st1 p h1 h2) (hp : hc h1 p = some (.inr (12, fs))) (hp2 : 21 + h.length ≤ p) (rf : rF s1 s2) (e1 : s2.1 = s1.1) (ex : SY cx F N q h1 s1 g1 ts1 → sX s1 s2 (g 4) ∧ yA s1 s2) (tr : SY cx F N q h1 s1 g1 ts1 → tR s1 s2 (g1 4)) (hT : TF cx F N) : OPR cx F N q h s g ts h2 s2 g1 ts1 ∧ (SY cx F N q h1 s1 g1 ts1 → SY cx F N q h2 s2 g1 ts1) ∧ (SY cx F N q h2 s2 g1 ts1 → SY cx F N q h1 s1 g1 ts1) := by
  obtain ⟨a1, a2, a3, a4, a5, a6, a7, a8, a9⟩ := a
  have f1 : SY cx F N q h1 s1 g1 ts1 → SY cx F N q h2 s2 g1 ts1 := by
    intro z
    have ty := (ex z).2
    have tz := tr z
    obtain ⟨⟨p1, t1, rt, ch, cs, b⟩, g6⟩ := z
    have hT1 := hT.1
    refine ⟨⟨pC_w hp (by decide) wp p1, by rw [e1]; exact t1, rT_F rf rt, ?_, CS_1 e1 cs, b⟩, g6.1, TSI_wr g6.2 hp (by decide) wp tz (yA_n cs.2.2.1 (by omega) ty) rfl rfl rfl⟩
    rw [e1]
    exact CH_w hp (by decide) wp ch
  have f2 : FLT cx F N q h1 s1 g1 ts1 → FLT cx F N q h2 s2 g1 ts1 := by
    intro z
    obtain ⟨⟨v, p1, r⟩, t1, rt, ⟨pt, vr, ch⟩, cs, b⟩ := z
    exact ⟨⟨v, pC_w hp (by decide) wp p1, by rw [e1]; exact r⟩, by rw [e1]; exact t1, rT_F rf rt, ⟨pt, vr, CH_w hp (by decide) wp ch⟩, CS_1 e1 cs, b⟩
  have f3 : SY cx F N q h2 s2 g1 ts1 → SY cx F N q h1 s1 g1 ts1 := by
    intro z
    rcases a1 with y | y
    · exact y
    · exact (sy_no z (f2 y)).elim
  have l := wp.2.1
  have y := wp.2.2
  refine ⟨⟨a1.elim (fun z => Or.inl (f1 z)) (fun z => Or.inr (f2 z)), fun z => ?_, fr_trans a3 wp.1 (fun r hr u => by omega), a4, rF_trans a5 rf, a6, by omega, by omega, a9⟩, f1, f3⟩
  obtain ⟨b1, b2, b3⟩ := a2 (f3 z)
  obtain ⟨c1, c2⟩ := ex (f3 z)
  exact ⟨b1, sX_trans b2 c1 (Nat.le_refl _), yA_trans b3 c2⟩
theorem rF_lk {i j : Nat} {y : Int32} (hi : 44 ≤ i ∧ i ≤ 55) : rF s (rs_wA s i j y) := rF_A (by omega)
/-- a Node that is open: its cell and its node's rows -/
def onR (s : rS) (n : Nat) (R : Nat → Int32) (J : Int64) : Prop := (∀ r, 44 ≤ r → r ≤ 55 → s.2.1 r n = R r) ∧ s.2.2 56 n = J
theorem onR_keep {R : Nat → Int32} {J : Int64} (b : OPR cx F N q h s g ts h' s' g' ts') (y : SY cx F N q h' s' g' ts') (hn : n < g 4) (o : onR s n R J) : onR s' n R J := by
  obtain ⟨_, y2, _⟩ := b.2.1 y
  exact ⟨fun r h1 h2 => ((y2 n hn).1 r h1 h2).trans (o.1 r h1 h2), (y2 n hn).2.trans o.2⟩
theorem on_keep {fs : List Value} (z : SY cx F N q h s g ts ∨ FLT cx F N q h s g ts) (b : OPR cx F N q h s g ts h' s' g' ts') (hp : hc h p = some (.inr (12, fs))) : hc h' p = some (.inr (12, fs)) := by
  refine fr_old b.2.2.1 hp (fun u => ?_)
  have main : ∀ (v : Nat → Int32) (pt vr : Int32), pC h cx F v → CH cx q h g ts pt vr → False := by
    intro v pt vr p1 ch
    rcases u with u | u | u | u | u
    · rw [u, pC_r p1] at hp; cases hp
    · rw [u, ch.1] at hp; cases hp
    · obtain ⟨mc, e, _⟩ := ch.2.1
      rw [u, e] at hp; cases hp
    · rcases ch.2.2.2.2 with e | ⟨_, e⟩
      · have := hc_ge hp
        omega
      · rw [u, e] at hp; cases hp
    · obtain ⟨mc, _, _, _, e3⟩ := ch.2.1
      rcases e3 with ⟨e3, _⟩ | ⟨f0, e3, _⟩
      · have := hc_ge hp
        omega
      · rw [u, e3] at hp; cases hp
  rcases z with z | z
  · exact main _ _ _ z.1.1 z.1.2.2.2.1
  · obtain ⟨⟨v, p1, _⟩, _, _, ⟨pt, vr, ch⟩, _⟩ := z
    exact main _ _ _ p1 ch
theorem onR_A {R : Nat → Int32} {J : Int64} {i j : Nat} {y : Int32} (o : onR s n R J) : onR (rs_wA s i j y) n (if j = n then upd R i y else R) J := by
  refine ⟨fun r h1 h2 => ?_, o.2⟩
  rw [wA_get]
  by_cases hj : j = n
  · rw [if_pos hj]
    by_cases hr : r = i
    · rw [if_pos ⟨hr, hj.symm⟩, hr, upd_eq]
    · rw [if_neg (fun u => hr u.1), upd_ne _ _ hr]
      exact o.1 r h1 h2
  · rw [if_neg hj, if_neg (fun u => hj u.2.symm)]
    exact o.1 r h1 h2
end OPN
