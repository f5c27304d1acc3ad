/-! A NODE THAT IS OPEN TAKES PARTS: from state to state of both, but for Node p and node n. -/
def sXn (s s' : rS) (nd n : Nat) : Prop := ∀ i, i < nd → i ≠ n → (∀ p, 44 ≤ p → p ≤ 55 → s'.2.1 p i = s.2.1 p i) ∧ s'.2.2 56 i = s.2.2 56 i
def OPA (cx : Nat → Nat) (F : Nat → Nat → Int32) (N : Nat → Int64) (q : List Value) (p n c1 c2 d2 : Nat) (h : rm_H) (s : rS) (g : Nat → Nat) (ts : List Nat) (h' : rm_H) (s' : rS) (g' : Nat → Nat) (ts' : List Nat) : Prop :=
  (SY cx F N q h' s' g' ts' ∨ FLT cx F N q h' s' g' ts') ∧ (SY cx F N q h' s' g' ts' → SY cx F N q h s g ts ∧ sXn s s' (g 4) n ∧ yA s s')
  ∧ fr (fun y => M4 cx (g 1) y ∨ y = p) h h' ∧ (g' 1 = g 1 ∨ 21 + h.length ≤ g' 1) ∧ rF s s' ∧ (g 0 ≤ g' 0 ∧ g 4 ≤ g' 4)
  ∧ h'.length + 10 * g 0 + g 6 + c1 ≤ h.length + 10 * g' 0 + g' 6
  ∧ zh h' + 4 * g 2 + 80 * g 0 + 8 * g 6 + c2 ≤ zh h + 4 * g' 2 + 80 * g' 0 + 8 * g' 6 + d2
  ∧ g' 4 + g 0 + g 6 ≤ g 4 + g' 0 + g' 6
section OA
variable {L : Nat} {xs : Nat → Int32} {zf : Value} {w k : Nat} {cx : Nat → Nat} {F : Nat → Nat → Int32} {N : Nat → Int64} {q : List Value} {hb h h' h1 h2 : rm_H} {sb s s' s1 s2 : rS} {gb g g' g1 g2 : Nat → Nat} {tb ts ts' ts1 ts2 : List Nat} {p n c1 c2 d2 nd : Nat}
theorem sXn_of (a : sX s s' nd) : sXn s s' nd n := fun i hi _ => a i hi
theorem sXn_trans {nd2 : Nat} (a : sXn s s1 nd n) (b : sXn s1 s2 nd2 n) (hn : nd ≤ nd2) : sXn s s2 nd n := fun i hi hne => ⟨fun p h1 h2 => ((b i (by omega) hne).1 p h1 h2).trans ((a i hi hne).1 p h1 h2), (b i (by omega) hne).2.trans (a i hi hne).2⟩
theorem sXn_A {r i : Nat} {x : Int32} (hi : nd ≤ i ∨ i = n) : sXn s (rs_wA s r i x) nd n := fun j hj hne => ⟨fun y h1 h2 => by rw [wA_get, if_neg (by omega)], rfl⟩
theorem fr_21 {P : Nat → Prop} (a : fr P h h1) : fr (fun y => P y ∧ 21 ≤ y) h h1 := by
  refine ⟨a.1, fun p hp hn => ?_, a.2.2⟩
  by_cases h21 : 21 ≤ p
  · exact a.2.1 p hp (fun z => hn ⟨z, h21⟩)
  · unfold hc
    rw [if_neg h21, if_neg h21]
theorem OPA_refl (z : SY cx F N q h s g ts ∨ FLT cx F N q h s g ts) : OPA cx F N q p n 0 0 0 h s g ts h s g ts := ⟨z, fun y => ⟨y, sXn_of (sX_refl _), yA_refl _⟩, fr_refl _ _, Or.inl rfl, rF_refl _, ⟨Nat.le_refl _, Nat.le_refl _⟩, by omega, by omega, by omega⟩
theorem OPA_le {e1 e2 f2 : Nat} (a : OPA cx F N q p n c1 c2 d2 h s g ts h1 s1 g1 ts1) (l1 : e1 ≤ c1) (l2 : e2 + d2 ≤ c2 + f2) : OPA cx F N q p n e1 e2 f2 h s g ts h1 s1 g1 ts1 := by
  obtain ⟨a1, a2, a3, a4, a5, a6, a7, a8, a9⟩ := a
  exact ⟨a1, a2, a3, a4, a5, a6, by omega, by omega, a9⟩
theorem OPA_oc {e1 e2 : Nat} (a : OPA cx F N q p n c1 c2 d2 h s g ts h1 s1 g1 ts1) (b0 : OPC cx F N q e1 e2 h1 s1 g1 ts1 h2 s2 g2 ts2) : OPA cx F N q p n (c1 + e1) (c2 + e2) d2 h s g ts h2 s2 g2 ts2 := by
  obtain ⟨a1, a2, a3, a4, a5, a6, a7, a8, a9⟩ := a
  obtain ⟨⟨b1, b2, b3, b4, b5, b6, b7, b8, b9⟩, b10, b11⟩ := b0
  refine ⟨b1, fun z => ?_, fr_trans a3 b3 (fun y hy u => ?_), ?_, rF_trans a5 b5, by omega, by omega, by omega, by omega⟩
  · obtain ⟨y1, y2, y3⟩ := b2 z
    obtain ⟨x1, x2, x3⟩ := a2 y1
    exact ⟨x1, sXn_trans x2 (sXn_of y2) a6.2, yA_trans x3 y3⟩
  · left
    rcases u with u | u | u | u | u
    · exact Or.inl u
    · exact Or.inr (Or.inl u)
    · exact Or.inr (Or.inr (Or.inl u))
    · exact Or.inr (Or.inr (Or.inr (Or.inl u)))
    · rcases a4 with e | e
      · exact Or.inr (Or.inr (Or.inr (Or.inr (u.trans e))))
      · omega
  · have := a3.1
    omega
theorem OPC_0 (b : OPR cx F N q h s g ts h1 s1 g1 ts1) : OPC cx F N q 0 0 h s g ts h1 s1 g1 ts1 := ⟨b, b.2.2.2.2.2.2.1, b.2.2.2.2.2.2.2.1⟩
theorem OPA_op (a : OPA cx F N q p n c1 c2 d2 h s g ts h1 s1 g1 ts1) (b : OPR cx F N q h1 s1 g1 ts1 h2 s2 g2 ts2) : OPA cx F N q p n c1 c2 d2 h s g ts h2 s2 g2 ts2 := OPA_le (OPA_oc a (OPC_0 b)) (by omega) (by omega)
/-- a token is passed: its credit -/
theorem OPA_tok (a : OPA cx F N q p n c1 c2 d2 h s g ts h1 s1 g1 ts1) (b : OPR cx F N q h1 s1 g1 ts1 h2 s2 g2 ts2) (st : st1 (cx 0) h1 h2) (e0 : g2 0 = g1 0 + 1) (e2 : g2 2 = g1 2) (e6 : g2 6 = g1 6) : OPA cx F N q p n (c1 + 10) (c2 + 80) d2 h s g ts h2 s2 g2 ts2 := by
  have l := st.2.1
  have y := st.2.2
  exact OPA_oc a ⟨b, by omega, by omega⟩
/-- the open Node is new to the base -/
theorem OPR_OPA (a : OPR cx F N q hb sb gb tb h s g ts) (b0 : OPA cx F N q p n c1 c2 d2 h s g ts h1 s1 g1 ts1) (hp : 21 + hb.length ≤ p) (hn : gb 4 ≤ n) (hc : d2 ≤ c2) : OPR cx F N q hb sb gb tb h1 s1 g1 ts1 := by
  obtain ⟨a1, a2, a3, a4, a5, a6, a7, a8, a9⟩ := a
  obtain ⟨b1, b2, b3, b4, b5, b6, b7, b8, b9⟩ := b0
  refine ⟨b1, fun z => ?_, fr_trans a3 b3 (fun y hy u => ?_), ?_, rF_trans a5 b5, by omega, by omega, by omega, by omega⟩
  · obtain ⟨y1, y2, y3⟩ := b2 z
    obtain ⟨x1, x2, x3⟩ := a2 y1
    exact ⟨x1, sX_trans x2 (fun i hi => y2 i (by omega) (by omega)) (Nat.le_refl _), yA_trans x3 y3⟩
  · rcases u with u | u
    · rcases u with u | u | u | u | u
      · exact Or.inl u
      · exact Or.inr (Or.inl u)
      · exact Or.inr (Or.inr (Or.inl u))
      · exact Or.inr (Or.inr (Or.inr (Or.inl u)))
      · rcases a4 with e | e
        · exact Or.inr (Or.inr (Or.inr (Or.inr (u.trans e))))
        · omega
    · omega
  · have := a3.1
    omega
theorem OPC_OPA {e1 e2 : Nat} (a : OPC cx F N q e1 e2 hb sb gb tb h s g ts) (b0 : OPA cx F N q p n c1 c2 d2 h s g ts h1 s1 g1 ts1) (hp : 21 + hb.length ≤ p) (hn : gb 4 ≤ n) (hc : d2 ≤ c2) : OPC cx F N q e1 e2 hb sb gb tb h1 s1 g1 ts1 := by
  refine ⟨OPR_OPA a.1 b0 hp hn hc, ?_, ?_⟩
  · have := a.2.1
    have := b0.2.2.2.2.2.2.1
    omega
  · have := a.2.2
    have := b0.2.2.2.2.2.2.2.1
    omega
theorem SY_s2 (rf : rF s s2) (e1 : s2.1 = s.1) (re : rQ s s2) (z : SY cx F N q h s g ts) : SY cx F N q h s2 g ts := by
  obtain ⟨⟨p1, t1, rt, ch, cs, b⟩, g6⟩ := z
  exact ⟨⟨p1, by rw [e1]; exact t1, rT_F rf rt, by rw [e1]; exact ch, CS_1 e1 cs, b⟩, g6.1, TSI_e g6.2 re⟩
theorem FLT_s2 (rf : rF s s2) (e1 : s2.1 = s.1) (z : FLT cx F N q h s g ts) : FLT cx F N q h s2 g ts := by
  obtain ⟨⟨v, p1, r⟩, t1, rt, ch, cs, b⟩ := z
  exact ⟨⟨v, p1, by rw [e1]; exact r⟩, by rw [e1]; exact t1, rT_F rf rt, ch, CS_1 e1 cs, b⟩
/-- a part is added to the list behind Node p -/
theorem OPA_ap {l ar cap cap' : Nat} (a : OPA cx F N q p n (c1 + 2) (c2 + 3) (4 * cap) hb sb gb tb h s g ts) (f : fr (fun y => y = p ∨ y = l ∨ y = ar) h h2) (hl : 21 + hb.length ≤ l) (har : ar = 5 ∨ 21 + hb.length ≤ ar) (len : h2.length ≤ h.length + 2) (zz : zh h2 + 4 * cap ≤ zh h + 4 * cap' + 3) (rf : rF s s2) (e1 : s2.1 = s.1) (toS : SY cx F N q h s g ts → SY cx F N q h2 s g ts) (toF : FLT cx F N q h s g ts → FLT cx F N q h2 s g ts) (ex : SY cx F N q h s g ts → sXn s s2 (gb 4) n ∧ yA s s2) (re : rQ s s2) : OPA cx F N q p n c1 c2 (4 * cap') hb sb gb tb h2 s2 g ts ∧ (SY cx F N q h2 s2 g ts → SY cx F N q h s g ts) ∧ (SY cx F N q h s g ts → SY cx F N q h2 s2 g ts) := by
  obtain ⟨a1, a2, a3, a4, a5, a6, a7, a8, a9⟩ := a
  have bk : SY cx F N q h2 s2 g ts → SY cx F N q h s g ts := by
    intro y
    rcases a1 with u | u
    · exact u
    · exact (sy_no y (FLT_s2 rf e1 (toF u))).elim
  refine ⟨⟨a1.elim (fun u => Or.inl (SY_s2 rf e1 re (toS u))) (fun u => Or.inr (FLT_s2 rf e1 (toF u))), fun y => ?_, fr_trans a3 (fr_21 f) (fun y hy u => ?_), a4, rF_trans a5 rf, a6, by omega, by omega, a9⟩, bk, fun u => SY_s2 rf e1 re (toS u)⟩
  · obtain ⟨x1, x2, x3⟩ := a2 (bk y)
    obtain ⟨y1, y2⟩ := ex (bk y)
    exact ⟨x1, sXn_trans x2 y1 (Nat.le_refl _), yA_trans x3 y2⟩
  · obtain ⟨u, h21⟩ := u
    rcases u with u | u | u
    · exact Or.inr u
    · omega
    · omega
/-- what was there before is not touched -/
theorem KD_opa {zz : Nat × Nat} {r m x lo hi pl ph : Nat} {fs : List Value} (b : OPA cx F N q p n c1 c2 d2 h s g ts h1 s1 g1 ts1) (y : SY cx F N q h1 s1 g1 ts1) (hp : hc h p = some (.inr (12, fs))) (hpp : p < pl ∨ ph ≤ p) (hnn : n < lo ∨ hi ≤ n) (K : KD L xs zz h s r m x lo hi pl ph) (hhi : hi ≤ g 4) (hpl : bl cx pl) : KD L xs zz h1 s1 r m x lo hi pl ph := by
  obtain ⟨y1, y2, y3⟩ := b.2.1 y
  have rg := NR_rg _ _ _ _ _ _ _ _ K.1
  have keep : ∀ i, lo ≤ i → i < hi → (∀ p, 44 ≤ p → p ≤ 55 → s1.2.1 p i = s.2.1 p i) ∧ s1.2.2 56 i = s.2.2 56 i := fun i h1 h2 => y2 i (by omega) (by omega)
  refine ⟨NR_fr b.2.2.1 y3 _ _ lo hi pl ph m x K.1 ?_ (fun i h1 h2 => ⟨fun q hq => (keep i h1 h2).1 q (by omega) (by omega), (keep i h1 h2).2, fun _ => ⟨(keep i h1 h2).1 48 (by omega) (by omega), (keep i h1 h2).1 49 (by omega) (by omega)⟩, fun _ => (keep i h1 h2).1 53 (by omega) (by omega)⟩), by rw [(keep m (by omega) (by omega)).1 49 (by omega) (by omega)]; exact K.2⟩
  -- the class's cells
  obtain ⟨c1', c2', c3', c4', c5'⟩ := y1.1.2.2.2.1
  obtain ⟨mc, k1, k2, k2', k3⟩ := id c2'
  obtain ⟨l0, l8, l11, l14⟩ := hpl
  have ng : ∀ y ci fs, hc h y = some (.inr (ci, fs)) → y ≠ g 1 := by
    intro y ci fs e z
    subst z
    rcases k3 with ⟨z, _⟩ | ⟨f0, z, _⟩
    · have := hc_ge e; omega
    · rw [e] at z; cases z
  refine cA_of b.2.2.1 (fun y ci fs h1 h2 e z => ?_) (fun l ar cap es h1 h2 e h5 z => ?_)
  · have := ng y ci fs e
    rcases z with z | z
    · rcases z with z | z | z | z | z <;> omega
    · omega
  · obtain ⟨mc2, e1, _, _, e3⟩ := e
    have arr : ∀ ci fs, hc h ar ≠ some (.inr (ci, fs)) := by
      intro ci fs y
      rcases e3 with ⟨e3, _⟩ | ⟨f0, e3, _⟩
      · exact h5 e3
      · rw [e3] at y; cases y
    rcases z with z | z
    · rcases z with z | z | z | z | z
      · exact arr _ _ (z ▸ pC_r y1.1.1)
      · exact arr _ _ (z ▸ c1')
      · exact arr _ _ (z ▸ k1)
      · rcases c5' with c5 | ⟨_, c6⟩
        · rcases e3 with ⟨e3, _⟩ | ⟨f0, e3, _⟩
          · exact h5 e3
          · have := hc_ge e3
            omega
        · exact arr _ _ (z ▸ c6)
      · subst z
        rcases c4'.2 _ _ _ _ _ e1 k1 with z | z
        · exact h5 z
        · omega
    · exact arr _ _ (z ▸ hp)
end OA
