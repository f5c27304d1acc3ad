/-! A KIND: what it leaves alone. -/
/-- what the reading of Kind kk leaves alone: Kinds before it, fields before f, methods before m, parameters before np -/
def rKd (s s' : rS) (kk f m np : Nat) : Prop := (∀ j, j ≠ 10 → j ≠ 24 → j ≠ 25 → j ≠ 26 → j ≠ 32 → j ≠ 38 → j ≠ 42 → j ≠ 52 → j ≠ 56 → j ≠ 57 → j ≠ 58 → j ≠ 59 → s'.1 j = s.1 j) ∧ (∀ p, p < 44 ∨ 81 < p → s'.2.1 p = s.2.1 p) ∧ (∀ p i, 62 ≤ p → p ≤ 66 → i < kk → s'.2.1 p i = s.2.1 p i) ∧ (∀ i, i < f → s'.2.2 67 i = s.2.2 67 i ∧ s'.2.1 68 i = s.2.1 68 i ∧ s'.2.1 69 i = s.2.1 69 i) ∧ (∀ p i, 70 ≤ p → p ≤ 77 → i < m → s'.2.1 p i = s.2.1 p i) ∧ (∀ p, p ≠ 56 → p ≠ 61 → p ≠ 62 → p ≠ 67 → p ≠ 78 → p ≠ 79 → s'.2.2 p = s.2.2 p) ∧ (∀ i, i < kk → s'.2.2 62 i = s.2.2 62 i) ∧ (∀ i, i < m → s'.2.2 78 i = s.2.2 78 i) ∧ ∀ i, i < np → s'.2.2 79 i = s.2.2 79 i ∧ s'.2.1 80 i = s.2.1 80 i ∧ s'.2.1 81 i = s.2.1 81 i
section KD
variable {L : Nat} {xs : Nat → Int32} {zf : Value} {w k k2 kk i f m m' np np' : Nat} {cx : Nat → Nat} {F : Nat → Nat → Int32} {N : Nat → Int64} {q : List Value} {h h' h1 h2 : rm_H} {s s' s1 s2 : rS} {g g' : Nat → Nat} {ts : List Nat} {K nm a10 c10 A B : Nat} {v : Nat → Int32} {pt vr pl ac ix : Int32} {ml : List Nat} {P : Nat → Prop}
theorem rKd_trans (a : rKd s s1 kk f m np) (b : rKd s1 s2 kk f m np) : rKd s s2 kk f m np := by
  obtain ⟨a1, a2, a3, a4, a5, a6, a7, a8, a9⟩ := a
  obtain ⟨b1, b2, b3, b4, b5, b6, b7, b8, b9⟩ := b
  exact ⟨fun j h1 h2 h3 h4 h5 h6 h7 h8 h9 h10 h11 h12 => (b1 j h1 h2 h3 h4 h5 h6 h7 h8 h9 h10 h11 h12).trans (a1 j h1 h2 h3 h4 h5 h6 h7 h8 h9 h10 h11 h12), fun p hp => (b2 p hp).trans (a2 p hp), fun p i h1 h2 h3 => (b3 p i h1 h2 h3).trans (a3 p i h1 h2 h3), fun i hi => ⟨(b4 i hi).1.trans (a4 i hi).1, (b4 i hi).2.1.trans (a4 i hi).2.1, (b4 i hi).2.2.trans (a4 i hi).2.2⟩, fun p i h1 h2 h3 => (b5 p i h1 h2 h3).trans (a5 p i h1 h2 h3), fun p h1 h2 h3 h4 h5 h6 => (b6 p h1 h2 h3 h4 h5 h6).trans (a6 p h1 h2 h3 h4 h5 h6), fun i hi => (b7 i hi).trans (a7 i hi), fun i hi => (b8 i hi).trans (a8 i hi), fun i hi => ⟨(b9 i hi).1.trans (a9 i hi).1, (b9 i hi).2.1.trans (a9 i hi).2.1, (b9 i hi).2.2.trans (a9 i hi).2.2⟩⟩
theorem rKd_h (a : rKh s s' kk) : rKd s s' kk f m np := by
  obtain ⟨a1, a2, a3, a4, a5⟩ := a
  exact ⟨fun j _ _ _ h4 h5 _ _ _ h9 h10 h11 _ => a1 j h4 h5 h9 h10 h11, fun p hp => a2 p (by omega) (by omega) (by omega), fun p i _ _ hi => a3 p i (by omega), fun i _ => ⟨by rw [a4 67 (by decide)], by rw [a2 68 (by decide) (by decide) (by decide)], by rw [a2 69 (by decide) (by decide) (by decide)]⟩, fun p i h1 h2 _ => by rw [a2 p (by omega) (by omega) (by omega)], fun p _ _ h3 _ _ _ => a4 p h3, fun i hi => a5 i (by omega), fun i _ => by rw [a4 78 (by decide)], fun i _ => ⟨by rw [a4 79 (by decide)], by rw [a2 80 (by decide) (by decide) (by decide)], by rw [a2 81 (by decide) (by decide) (by decide)]⟩⟩
theorem rKd_f (a : rFl s s' f) : rKd s s' kk f m np := by
  obtain ⟨a1, a2, a3, a4⟩ := a
  exact ⟨fun j _ _ _ h4 _ h6 _ _ h9 h10 h11 _ => a1 j h4 h6 h9 h10 h11, fun p hp => a2 p (by omega) (by omega) (by omega), fun p i h1 h2 _ => by rw [a2 p (by omega) (by omega) (by omega)], a4, fun p i h1 h2 _ => by rw [a2 p (by omega) (by omega) (by omega)], fun p _ h2 _ h4 _ _ => a3 p h2 h4, fun i _ => by rw [a3 62 (by decide) (by decide)], fun i _ => by rw [a3 78 (by decide) (by decide)], fun i _ => ⟨by rw [a3 79 (by decide) (by decide)], by rw [a2 80 (by omega) (by decide) (by decide)], by rw [a2 81 (by omega) (by decide) (by decide)]⟩⟩
theorem fe_get {p i : Nat} : (feS s kk).2.1 p i = if p = 65 ∧ i = kk then s.1 42 else if p = 64 ∧ i = kk + 1 then s.1 38 else s.2.1 p i := by
  unfold feS
  rw [wA_get, wA_get]
theorem rKd_fe : rKd s (feS s kk) kk f m np := by
  have e2 : (feS s kk).2.2 = s.2.2 := rfl
  refine ⟨fun _ _ _ _ _ _ _ _ _ _ _ _ _ => rfl, fun p hp => ?_, fun p i h1 h2 hi => ?_, fun i _ => ⟨rfl, ?_, ?_⟩, fun p i h1 h2 _ => ?_, fun _ _ _ _ _ _ _ => rfl, fun _ _ => rfl, fun _ _ => rfl, fun i _ => ⟨rfl, ?_, ?_⟩⟩
  · funext i; rw [fe_get, if_neg (by omega), if_neg (by omega)]
  all_goals rw [fe_get, if_neg (by omega), if_neg (by omega)]
theorem rKd_m (a : rMm s s' m' np') (hm : m ≤ m') (hn : np ≤ np') : rKd s s' kk f m np := by
  obtain ⟨a1, a2, a3, a4, a5, a6, a7⟩ := a
  refine ⟨fun j h1 h2 h3 h4 _ _ h7 h8 h9 h10 h11 h12 => a1 j h1 h2 h3 h4 h7 h8 h9 h10 h11 h12, fun p hp => a2 p (by omega), fun p i h1 h2 _ => by rw [a2 p (by omega)], fun i _ => ⟨by rw [a5 67 (by decide) (by decide) (by decide) (by decide)], by rw [a2 68 (by omega)], by rw [a2 69 (by omega)]⟩, fun p i h1 h2 h3 => ?_, fun p h1 h2 _ _ h5 h6 => a5 p h1 h2 h5 h6, fun i _ => by rw [a5 62 (by decide) (by decide) (by decide) (by decide)], fun i hi => a6 i (by omega), fun i hi => a7 i (by omega)⟩
  by_cases e : p = 77
  · rw [e]; exact a4 i (by omega) (by omega)
  · exact a3 p i h1 (by omega) (by omega)
theorem rKd_l (a : rMl s s' m' np' kk) (hm : m ≤ m') (hn : np ≤ np') : rKd s s' kk f m np := by
  obtain ⟨a1, a2, a3, a4, a5, a6, a7⟩ := a
  refine ⟨fun j h1 h2 h3 h4 _ _ h7 h8 h9 h10 h11 h12 => a1 j h1 h2 h3 h4 h7 h8 h9 h10 h11 h12, fun p hp => a2 p (by omega), fun p i h1 h2 hi => ?_, fun i _ => ⟨by rw [a5 67 (by decide) (by decide) (by decide) (by decide)], by rw [a2 68 (by omega)], by rw [a2 69 (by omega)]⟩, fun p i h1 h2 h3 => a4 p i h1 h2 (by omega), fun p h1 h2 _ _ h5 h6 => a5 p h1 h2 h5 h6, fun i _ => by rw [a5 62 (by decide) (by decide) (by decide) (by decide)], fun i hi => a6 i (by omega), fun i hi => a7 i (by omega)⟩
  by_cases e : p = 65
  · rw [e]; exact a3 i (by omega)
  · rw [a2 p (by omega)]
theorem OPY_refl (z : SY cx F N q h s g ts ∨ FLT cx F N q h s g ts) : OPY P cx F N q 0 0 0 h s g ts h s g ts := ⟨z, fun u => ⟨u, fun _ _ => ⟨fun _ _ _ => rfl, rfl⟩, yA_of rfl (fun _ _ _ => rfl) rfl⟩, ⟨Nat.le_refl _, fun _ _ _ => rfl, fun _ _ fs e => ⟨fs, e, fun _ => rfl⟩, fun _ x e => ⟨x, e, fun _ => rfl⟩⟩, Or.inl rfl, ⟨Nat.le_refl _, Nat.le_refl _⟩, by omega, by omega⟩
/-- the reference writes where the fields end -/
theorem op_fe (z : SY cx F N q h s g ts ∨ FLT cx F N q h s g ts) : OPY P cx F N q 0 0 0 h s g ts h (feS s kk) g ts := by
  have rt : rTk F N s := z.elim (fun u => u.1.2.2.1) (fun u => u.2.2.1)
  have rt1 : rTk F N (feS s kk) := by
    obtain ⟨t1, t2, t3, t4⟩ := rt
    have r := (rKd_fe (s := s) (kk := kk) (f := 0) (m := 0) (np := 0)).2.1
    exact ⟨(r 40 (by omega)).trans t1, (r 41 (by omega)).trans t2, (r 42 (by omega)).trans t3, t4⟩
  refine ⟨z.elim (fun u => Or.inl (SY_sc (s := s) rt1 (fun _ _ => rfl) (rQ_trans (rQ_A (p := 64) (by omega)) (rQ_A (p := 65) (by omega))) u)) (fun u => Or.inr (FLT_sc rt1 (fun _ _ => rfl) u)), fun u => ⟨SY_sc (s := feS s kk) rt (fun _ _ => rfl) (rQ_sym (rQ_trans (rQ_A (p := 64) (by omega)) (rQ_A (p := 65) (by omega)))) u, fun j _ => ⟨fun p h1 h2 => ?_, rfl⟩, yA_of rfl (fun p h1 h2 => ?_) rfl⟩, ⟨Nat.le_refl _, fun _ _ _ => rfl, fun _ _ fs e => ⟨fs, e, fun _ => rfl⟩, fun _ x e => ⟨x, e, fun _ => rfl⟩⟩, Or.inl rfl, ⟨Nat.le_refl _, Nat.le_refl _⟩, by omega, by omega⟩
  · rw [fe_get, if_neg (by omega), if_neg (by omega)]
  · funext i; rw [fe_get, if_neg (by omega), if_neg (by omega)]
/-- a maker leaves what lies between alone -/
theorem Pok_mk {fs0 : List Value} (ch : CH cx q h g ts pt vr) (hK : hc h K = some (.inr (9, fs0))) (e10 : aL h (cx 10) a10 c10 ml) (h1 : K < A ∨ B ≤ K) (h2 : cx 10 < A ∨ B ≤ cx 10) : Pok h (fun y => y = K ∨ y = cx 10 ∨ (y = a10 ∧ 21 ≤ y)) A B := by
  have arr : ∀ {l ar cap es}, aL h l ar cap es → 21 ≤ ar → ∀ ci fs, hc h ar ≠ some (.inr (ci, fs)) := by
    intro l ar cap es e h21 ci fs y
    obtain ⟨mc, _, _, _, e3⟩ := e
    rcases e3 with ⟨e3, _⟩ | ⟨f0, e3, _⟩
    · omega
    · rw [e3] at y; cases y
  obtain ⟨_, _, _, uu, _⟩ := ch
  have lst : ∀ {l ar cap es}, aL h l ar cap es → ∃ mc, hc h l = some (.inr (5, [.ref ar, .int (Int32.ofNat es.length), .int mc])) := fun e => ⟨_, e.choose_spec.1⟩
  refine ⟨fun y ci fs hy e => ?_, fun l ar cap es l1 l2 e h5 hy => ?_⟩
  · rcases hy with u | u | ⟨u, u21⟩
    · rw [u, hK] at e; cases e
      exact ⟨Or.inr rfl, by omega⟩
    · obtain ⟨mc, e0⟩ := lst e10
      rw [u, e0] at e; cases e
      exact ⟨Or.inl rfl, by omega⟩
    · exact absurd e (u ▸ arr e10 (by omega) ci fs)
  · have ge : 21 ≤ ar := by
      obtain ⟨mc, _, _, _, e3⟩ := e
      rcases e3 with ⟨e3, _⟩ | ⟨f0, e3, _⟩
      · exact absurd e3 h5
      · exact hc_ge e3
    obtain ⟨mc, e0⟩ := lst e
    rcases hy with u | u | ⟨u, u21⟩
    · exact arr e ge _ _ (u ▸ hK)
    · obtain ⟨mc1, e1⟩ := lst e10
      exact arr e ge _ _ (u ▸ e1)
    · obtain ⟨mc1, e1⟩ := lst e10
      subst u
      rcases uu.2 _ _ _ _ _ e0 e1 with z | z
      · exact h5 z
      · omega
end KD
