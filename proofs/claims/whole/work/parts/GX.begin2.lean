/-! STEPS AND EXPRESSIONS BEGIN AT A POINT. -/
section FSL
variable {s : rS} {A B : Nat → Int32} {m F lo hi np : Nat}
/-- p is given the value of e -/
theorem STC {f fu q p e t lv a b : Nat} {sw : Bool} {G : List scN} {g g' : Int32} {St : List stE} {K : Nat} (hf : f ≤ F) (hq : 1 ≤ q ∧ q < 4400) (eK : s.2.1 44 q = Int32.ofNat K) (hK : K = (if sw = true then 7 else 26)) (pk : PKA s lo hi q) (e45 : s.2.1 45 q = Int32.ofNat p) (hp : 1 ≤ p ∧ p < 4400) (e46 : s.2.1 46 q = Int32.ofNat e) (he : 1 ≤ e ∧ e < 4400)
    (hN : ∀ i' g1 St', PTs s A B sw (fun g2 t2 St2 => g2 = g' ∧ t2 = t ∧ St2 = St ∧ i' + 1 = b) i' q lv G g1 St' → PTf s A B m F lo hi fu i' q lv G g1 St') (hsw : sw = false → ∀ i' g1 St', PTs s A B sw (fun g2 t2 St2 => g2 = g' ∧ St2 = St ∧ i' + 1 = b) i' q lv G g1 St' → PTf s A B m F lo hi fu i' q lv G g1 St')
    (st : ST s (s.2.1 53) A B (TU s (s.2.1 53) A B m f).1 sw lv G g p e t g' a b) : ∃ (t0 : Nat) (g1 : Int32) (c : Nat), (TU s (s.2.1 53) A B m f).1 lv G g e t0 g1 a c ∧ (CT s A B m F lo hi (fu + 1)).1 e c lv G g1 t0 St := by
  obtain ⟨tv, g1, c, ⟨t0, q0, vl⟩, h⟩ := st
  have k46 : k46 K = true := by rw [hK]; cases sw <;> rfl
  have k45' : k45 K = true := by rw [hK]; cases sw <;> rfl
  have K31 : K ≤ 31 := by rw [hK]; cases sw <;> decide
  have K7 : K = 7 ∨ K = 26 := by rw [hK]; cases sw <;> decide
  obtain ⟨e49, _⟩ := pka_46 pk eK (by omega) k46 he.2 e46
  obtain ⟨p49, _⟩ := pka_45 pk eK (by omega) k45' hp.2 e45
  refine ⟨t0, g1, c, q0, q, e49, hq.1, hq.2, pk, n30_of q0, K, eK, K31, ?_⟩
  rcases h with ⟨h4, hb, i, x, x1, x2, x3, x4, x5, x6, x7, x8, x9, x10⟩ | ⟨h10, l, ta, k, f0, fi, tf, d, l1, l2, l3, l4, l5, l6, l7, l8, l9, l10, l11, l12, l13, l14, l15⟩
  · have e10 : s.2.1 44 p ≠ 10 := by rw [h4]; decide
    refine Or.inr (Or.inl ⟨Or.inr (Or.inr (Or.inr (Or.inr ⟨K7, e46, p, e45, hp.1, hp.2, e10⟩))), tv, vl, ?_⟩)
    exact hN c g1 _ ⟨p, e45, hp.1, hp.2, Or.inl ⟨h4, tv, i, x, St, rfl, x1, x4, x5, x6, by rw [x3]; exact x7, x9, x10, x8.symm, x3, rfl, hb.symm⟩⟩
  · have hpq : p ≠ q := by
      intro z
      rw [z, eK] at h10
      have : ∀ K, K ≤ 31 → Int32.ofNat K = 10 → K = 10 := by decide
      have := this K K31 h10
      omega
    have hpe : p < e := pka_7 pk eK K7 hp.2 he.2 e45 e46
    refine Or.inr (Or.inr (Or.inr (Or.inl ⟨l, ta, d, g', tv, Or.inr (Or.inr ⟨K7, e46, p, e45, hp.1, hp.2, h10, l1, p49, hpq, by omega⟩), l2, l3, TUF hf l4, vl, ?_⟩)))
    cases hs : sw with
    | true =>
      subst hs
      exact hN d g' _ ⟨p, e45, hp.1, hp.2, Or.inr ⟨h10, tv, ta, _, k, f0, fi, tf, t, St, rfl, l6, l7, l8, l9, l10, l11, l12, l13, l14, l15, rfl, rfl, rfl, l5.symm⟩⟩
    | false =>
      subst hs
      exact hsw rfl d g' _ ⟨p, e45, hp.1, hp.2, Or.inr ⟨h10, tv, ta, _, k, f0, fi, tf, t, St, rfl, l6, l7, l8, l9, l10, l11, l12, l13, l14, l15, rfl, rfl, l5.symm⟩⟩
theorem FSt {f u e c lv how tg a : Nat} {G G' : List scN} {g g1 : Int32} {St : List stE} (ih : FEr s A B m F lo hi np f) (hf : f ≤ F) (hu : u + 2 * f ≤ 2 * F + 4) (ds : DSL s lo hi np) (he : 1 ≤ e ∧ e < 4400) (go : GO s lo hi np lv G) (pk : PKA s lo hi e) (xs : XS s (s.2.1 53) A B m (TU s (s.2.1 53) A B m f).1 (TU s (s.2.1 53) A B m f).2 lv G g e how G' tg g1 a c) (af : AFT s A B m F lo hi u e c lv G' g1 tg St) :
    ∃ q lv', fI s (f + 3) e q ∧ lv ≤ lv' ∧ PT s A B m F lo hi a q lv' G g St := by
  obtain ⟨K, l, eK, e45, l1, l2, x⟩ := xs
  have up : ∀ q, K < 32 → (K ≠ 7 ∧ K ≠ 9 ∧ K ≠ 11 ∧ K ≠ 12 ∧ K ≠ 26) → fI s (f + 2) l q → fI s (f + 3) e q := by
    intro q h1 h2 h3
    have := fP_d he.2 eK h1 h2
    rw [e45] at this
    exact fI_part this l2 l1 h3
  by_cases hk : K = 20 ∨ K = 21 ∨ K = 22 ∨ K = 23 ∨ K = 24 ∨ K = 25 ∨ K = 26 ∨ K = 27
  · have afS : K ≠ 24 → K ≠ 25 → SC s A B m F lo hi u e c lv G' g1 St := by
      intro h1 h2
      have t : ∀ K, K < 32 → (Int32.ofNat K = 24 → K = 24) ∧ (Int32.ofNat K = 25 → K = 25) := by decide
      rcases af with h | h | h
      · exact h.2.2
      · exact absurd ((t K (by omega)).1 (eK.symm.trans h.1)) h1
      · exact absurd ((t K (by omega)).2 (eK.symm.trans h.1)) h2
    have one : K = 20 ∨ K = 21 ∨ K = 22 ∨ K = 23 ∨ K = 24 ∨ K = 25 ∨ K = 27 → ∀ (t0 : Nat) (g2 : Int32) (c1 : Nat), (TU s (s.2.1 53) A B m f).1 lv G g l t0 g2 a c1 → EC s A B m F lo hi l c1 lv G g2 t0 St → ∃ q lv', fI s (f + 3) e q ∧ lv ≤ lv' ∧ PT s A B m F lo hi a q lv' G g St := by
      intro hK t0 g2 c1 q ec
      have k45' : ∀ K, K < 32 → (K = 20 ∨ K = 21 ∨ K = 22 ∨ K = 23 ∨ K = 24 ∨ K = 25 ∨ K = 27) → k45 K = true := by decide
      obtain ⟨_, pkl⟩ := pka_45 pk eK (by omega) (k45' K (by omega) hK) l2 e45
      obtain ⟨q', lv', h1, h2, h3⟩ := ih lv G g l t0 g2 a c1 St l1 l2 go pkl q ec
      exact ⟨q', lv', up q' (by omega) (by omega) h1, h2, h3⟩
    have e49 : K = 20 ∨ K = 21 ∨ K = 22 ∨ K = 23 ∨ K = 24 ∨ K = 25 ∨ K = 27 → s.2.1 49 l = Int32.ofNat e := by
      intro hK
      have k45' : ∀ K, K < 32 → (K = 20 ∨ K = 21 ∨ K = 22 ∨ K = 23 ∨ K = 24 ∨ K = 25 ∨ K = 27) → k45 K = true := by decide
      exact (pka_45 pk eK (by omega) (k45' K (by omega) hK) l2 e45).1
    rcases hk with rfl | rfl | rfl | rfl | rfl | rfl | rfl | rfl
    · obtain ⟨tv, td, sl, c1, g1', ⟨t0, q, vl⟩, ty, nm, fit, esl, s16, eG, eg, _, eb, a1, b1⟩ := x
      obtain ⟨fu, sc⟩ := afS (by decide) (by decide)
      subst eb
      subst eG
      subst eg
      exact one (by decide) t0 g1' c1 q ⟨fu + 1, e, e49 (by decide), he.1, he.2, pk, n30_of q, 20, eK, by decide, Or.inr (Or.inl ⟨Or.inl rfl, tv, vl, ⟨he.1, he.2⟩, 20, eK, by decide, tv, td, sl, St, rfl, ty, fit, esl, s16, ⟨new_sl ds go pk eK s16 esl nm, pka_rg pk⟩, a1, b1, u, sc⟩)⟩
    · obtain ⟨eG, _, r, c1, d, x, g1', g2, r46, r1, r2, q, a18, q2, alt⟩ := x
      obtain ⟨fu, sc⟩ := afS (by decide) (by decide)
      subst eG
      refine one (by decide) 1 g1' c1 q ⟨fu + 1, e, e49 (by decide), he.1, he.2, pk, n30_of q, 21, eK, by decide, Or.inl ⟨Or.inr (Or.inl rfl), ⟨he.1, he.2⟩, 21, eK, by decide, u, f, r, d, x, g2, _, St, hu, hf, pk, rfl, r46, r1, r2, a18, q2, ?_⟩⟩
      rcases alt with ⟨z1, z2, z3, z4⟩ | ⟨e', y, g3, z1, z2, z3, z4, z5, z6, z7, z8⟩
      · subst z2
        subst z4
        exact Or.inl ⟨z1, z3, sc⟩
      · subst z8
        exact Or.inr ⟨e', y, c, g3, z1, z2, z3, z4, z5, z6, z7, sc⟩
    · obtain ⟨eG, _, r, c1, d, x, g2, r46, r1, r2, q, a18, b18, q2, a20, b20, eb, gw⟩ := x
      obtain ⟨fu, sc⟩ := afS (by decide) (by decide)
      subst eG
      subst eb
      exact one (by decide) 1 g1 c1 q ⟨fu + 1, e, e49 (by decide), he.1, he.2, pk, n30_of q, 22, eK, by decide, Or.inl ⟨Or.inr (Or.inr (Or.inl rfl)), ⟨he.1, he.2⟩, 22, eK, by decide, u, f, l, r, a, d, x, g, g2, _, St, hu, hf, pk, rfl, e45, l1, l2, r46, r1, r2, a18, b18, TUF hf q, q2, a20, b20, gl_w gw, sc⟩⟩
    · obtain ⟨eG, _, c1, q, eb, a1, b1⟩ := x
      obtain ⟨fu, sc⟩ := afS (by decide) (by decide)
      subst eG
      subst eb
      exact one (by decide) 1 g1 c1 q ⟨fu + 1, e, e49 (by decide), he.1, he.2, pk, n30_of q, 23, eK, by decide, Or.inl ⟨Or.inr (Or.inr (Or.inr (Or.inl rfl))), ⟨he.1, he.2⟩, 23, eK, by decide, _, St, rfl, a1, b1, u, sc⟩⟩
    · obtain ⟨eG, _, _, tv, c1, tr, ⟨t0, q, vl⟩, ty, fit, eb, a1, b1⟩ := x
      have hz : lv = 0 ∧ St = [] := by
        rcases af with h | h | h
        · exact absurd eK h.1
        · exact h.2
        · rw [eK] at h
          exact absurd h.1 (by decide)
      obtain ⟨z1, z2⟩ := hz
      subst z1
      subst z2
      exact one (by decide) t0 g1 c1 q ⟨0 + 1, e, e49 (by decide), he.1, he.2, pk, n30_of q, 24, eK, by decide, Or.inr (Or.inl ⟨Or.inr (Or.inl rfl), tv, vl, ⟨he.1, he.2⟩, 24, eK, by decide, tv, tr, rfl, rfl, ty, fit, a1, b1⟩)⟩
    · obtain ⟨eG, _, c1, ⟨t0, q, vl⟩, eb, a1, b1⟩ := x
      subst eG
      subst eb
      rcases af with h | h | ⟨_, c', R, lv0, Go, gx, y1, y2, y3, y4, y5, y6, y7, y8, fu, y9⟩
      · exact absurd eK h.2.1
      · rw [eK] at h
        exact absurd h.1 (by decide)
      · exact one (by decide) t0 g1 c1 q ⟨fu + 1, e, e49 (by decide), he.1, he.2, pk, n30_of q, 25, eK, by decide, Or.inr (Or.inl ⟨Or.inr (Or.inr (Or.inl rfl)), tg, vl, ⟨he.1, he.2⟩, 25, eK, by decide, tg, c', R, lv0, Go, gx, St, rfl, a1, b1, y1, y2, y3, y4, y5, y6, y7, y8, y9⟩)⟩
    · obtain ⟨eG, _, r, y, r46, r1, r2, st⟩ := x
      obtain ⟨fu, sc⟩ := afS (by decide) (by decide)
      subst eG
      obtain ⟨t0, g2, c1, q, ec⟩ := STC (sw := false) (K := 26) (fu := fu) (St := St) hf he eK rfl pk e45 ⟨l1, l2⟩ r46 ⟨r1, r2⟩ (fun i' g3 St' pt => by
        refine ⟨he, 26, eK, by decide, ?_⟩
        obtain ⟨p, p1, p2, p3, ⟨p4, tv, j, xx, St0, q1, q2, q3, q4, q5, q6, q7, q8, q9, q10, q11, q12⟩ | ⟨p4, tv, ta, pl, k, f0, fi, tf, t, St0, q1, q2, q3, q4, q5, q6, q7, q8, q9, q10, q11, q12, q13, q14, q15⟩⟩ := pt
        · subst q9 q11 q12
          exact ⟨p, p1, p2, p3, Or.inl ⟨p4, tv, j, xx, _, q1, q2, q3, q4, q5, q6, q7, q8, u, sc⟩⟩
        · subst q12 q14 q15
          exact ⟨p, p1, p2, p3, Or.inr ⟨p4, tv, ta, pl, k, f0, fi, tf, t, _, q1, q2, q3, q4, q5, q6, q7, q8, q9, q10, q11, u, sc⟩⟩) (fun _ i' g3 St' pt => by
        refine ⟨he, 26, eK, by decide, ?_⟩
        obtain ⟨p, p1, p2, p3, ⟨p4, tv, j, xx, St0, q1, q2, q3, q4, q5, q6, q7, q8, q9, q11, q12⟩ | ⟨p4, tv, ta, pl, k, f0, fi, tf, t, St0, q1, q2, q3, q4, q5, q6, q7, q8, q9, q10, q11, q12, q14, q15⟩⟩ := pt
        · subst q9 q11 q12
          exact ⟨p, p1, p2, p3, Or.inl ⟨p4, tv, j, xx, _, q1, q2, q3, q4, q5, q6, q7, q8, u, sc⟩⟩
        · subst q12 q14 q15
          exact ⟨p, p1, p2, p3, Or.inr ⟨p4, tv, ta, pl, k, f0, fi, tf, t, _, q1, q2, q3, q4, q5, q6, q7, q8, q9, q10, q11, u, sc⟩⟩) st
      obtain ⟨_, pkr⟩ := pka_46 pk eK (by decide) rfl r2 r46
      obtain ⟨q', lv', h1, h2, h3⟩ := ih lv _ g r t0 g2 a c1 St r1 r2 go pkr q ⟨_, ec⟩
      refine ⟨q', lv', ?_, h2, h3⟩
      have := fP_7 he.2 (Or.inr eK)
      rw [r46] at this
      exact fI_part this r2 r1 h1
    · obtain ⟨eG, _, t, c1, q, eb, a1, b1⟩ := x
      obtain ⟨fu, sc⟩ := afS (by decide) (by decide)
      subst eG
      subst eb
      exact one (by decide) t g1 c1 q ⟨fu + 1, e, e49 (by decide), he.1, he.2, pk, n30_of q, 27, eK, by decide, Or.inl ⟨Or.inr (Or.inr (Or.inr (Or.inr (Or.inl rfl)))), ⟨he.1, he.2⟩, 27, eK, by decide, t, _, St, rfl, a1, b1, u, sc⟩⟩
  · exfalso
    revert x
    split <;> first | omega | exact id
end FSL
