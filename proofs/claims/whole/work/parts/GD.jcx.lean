/-! BOTH CHECK ALL BODIES: what a body needs, out of what was declared. -/
theorem cT_ob : ∀ k, k < 8 → ∀ c, c < 5 → cT (8 * (k + 1) + c) = tO 5 (Int32.ofNat k) (Int32.ofNat c) ∧ rTp (8 * (k + 1) + c) = Int32.ofNat (8 * (k + 1) + c) ∧ dTy (8 * (k + 1) + c) = true ∧ tO 5 (Int32.ofNat k) (Int32.ofNat c) ≠ 0 := by decide +kernel
theorem cT_ac : ∀ k, k < 8 → cT (8 * (k + 1) + 5) = tO 3 (Int32.ofNat k) 2 ∧ rTp (8 * (k + 1) + 5) = Int32.ofNat (8 * (k + 1) + 5) ∧ dTy (8 * (k + 1) + 5) = true := by decide +kernel
theorem tO_2 : ∀ k, k < 8 → tO 5 (Int32.ofNat k) 2 = cT (8 * (k + 1) + 2) := by decide +kernel
section JCO
variable {L : Nat} {xs : Nat → Int32} {w M nk m k K lo hi gn d n y c : Nat} {cx : Nat → Nat} {h h' : rm_H} {s s' : rS} {kl ml : List Nat} {bn cp cq tq : Int32} {oc : Option Int64}
theorem dDat_g (g : gH L xs h h') (e : dDat L xs h d bn oc cp cq tq) : dDat L xs h' d bn oc cp cq tq := by
  obtain ⟨e1, e2⟩ := e
  have k := g.1.2.2.2.1 d
  refine ⟨k _ _ e1, ?_⟩
  rcases e2 with ⟨z1, z2⟩ | ⟨t, x, z1, z2, z3, z4, z5, z6⟩
  · exact Or.inl ⟨z1, k _ _ z2⟩
  · exact Or.inr ⟨t, x, z1, k _ _ z2, g.1.2.2.1 _ _ z3, k _ _ z4, k _ _ z5, fun q => k _ _ (z6 q)⟩
theorem dyK_k (rk : rK s s') : dyK s' nk y = dyK s nk y := by
  have r57 : s'.2.1 57 = s.2.1 57 := rk_r rk (by decide)
  have r58 : s'.2.1 58 = s.2.1 58 := rk_r rk (by decide)
  have r59 : s'.2.1 59 = s.2.1 59 := rk_r rk (by decide)
  have r66 : s'.2.1 66 = s.2.1 66 := rk_r rk (by decide)
  have r61 : s'.2.2 61 = s.2.2 61 := rk.2.2 61 (by decide)
  have r62 : s'.2.2 62 = s.2.2 62 := rk.2.2 62 (by decide)
  unfold dyK dyC dyP dkF
  rw [r57, r58, r59, r66, r61, r62]
/-- the type of a Decl, at a later heap -/
theorem dt_of (dt : DTY L xs cx h s nk) (hl : cx 20 ≤ 21 + h.length) (g : gH L xs h h') (f : fr (fun q => cx 8 ≤ q) h h') (hd : cx 8 ≤ d ∧ d < cx 20) (e : dDat L xs h' d bn oc cp cq tq) : fd h' 10 d 7 = some (.int (dkF s nk bn oc cp cq tq).1) ∧ (dkF s nk bn oc cp cq tq).2 = none := by
  obtain ⟨fs, e1, _⟩ := fd_c e.1
  obtain ⟨fs0, e2⟩ := fr_back f e1 (by omega)
  obtain ⟨bn', c', cp', cq', tq', z1, z2, z3⟩ := dt d fs0 hd.1 hd.2 e2
  have q := dkF_uq (s := s) (nk := nk) (dDat_g g z1) e
  rw [q] at z2 z3
  exact ⟨g.1.2.2.2.1 _ _ _ z2, z3⟩
/-- what is behind new -/
theorem nw_of (dc : DCX L xs w cx h s nk gn kl ml) (g : gH L xs h h') (f : fr (fun q => cx 8 ≤ q) h h') (rk : rK s s') (hd : cx 8 ≤ d ∧ d < cx 20) (e : nwD L xs h' s' d n) (n1 : 1 ≤ n) (n2 : n < gn) (v53 : s'.2.1 53 n = s.2.1 53 n) (e44 : s'.2.1 44 n = 8) : nwJ h' s' nk d n := by
  obtain ⟨je, _, dt, mk, _, _, k66, _, _, hl, _⟩ := dc
  have nk8 : nk ≤ 8 := je.2.2.1
  have r44 : s'.2.1 44 = s.2.1 44 := rk_r rk (by decide)
  have r66 : s'.2.1 66 = s.2.1 66 := rk_r rk (by decide)
  have r56 : s'.2.2 56 = s.2.2 56 := rk.2.2 56 (by decide)
  obtain ⟨d7, dn⟩ := dt_of dt hl g f hd (nwD_dat e)
  have m53 := mk n n1 n2 (by rw [← r44]; exact e44)
  obtain ⟨_, tq, _, _, _, e5⟩ := e
  unfold dkF at d7 dn
  rw [r56] at d7 dn
  dsimp only at d7 dn
  cases hk : kF (s.2.2 62) (s.2.2 56 n) nk 0 with
  | none =>
    rw [hk] at dn
    cases dn
  | some k =>
    have kl' : k < nk := by have := (kF_some hk).2.1; omega
    rw [hk] at d7 dn m53
    dsimp only at d7 dn
    refine ⟨k, ?_⟩
    rcases k66 k kl' with z | z
    · rw [if_pos z] at d7 dn
      by_cases c1 : s'.2.1 54 n = -1
      · rw [if_pos c1, if_neg (show ¬ (1 : Int32) = 0 by decide)] at d7
        refine ⟨8 * (k + 1) + 2, kl', by rw [v53, m53]; rfl, by rw [d7, ← tO_2 k (by omega)], Or.inr ⟨by rw [r66]; exact z, 2, by decide, rfl, by rw [if_pos c1]; rfl⟩⟩
      · rcases e5 with ⟨e5, _⟩ | ⟨c, e5, e6, _⟩
        · exact absurd e5 c1
        · rw [if_neg c1, e6] at d7
          exact ⟨8 * (k + 1) + c, kl', by rw [v53, m53]; rfl, by rw [d7, (cT_ob k (by omega) c e5).1], Or.inr ⟨by rw [r66]; exact z, c, e5, rfl, by rw [if_neg c1]; exact e6⟩⟩
    · have z0 : ¬ s.2.1 66 k = 0 := by rw [z]; decide
      rw [if_neg z0] at d7 dn
      by_cases c1 : s'.2.1 54 n = -1
      · rw [if_pos c1] at d7
        exact ⟨8 * (k + 1) + 5, kl', by rw [v53, m53]; rfl, by rw [d7, (cT_ac k (by omega)).1], Or.inl ⟨by rw [r66]; exact z, rfl⟩⟩
      · rw [if_neg c1] at dn
        cases dn
/-- a type that is written -/
theorem ty_of3 (nk8 : nk ≤ 8) (dt : DTY L xs cx h s nk) (tcs : ∀ y : Nat, (y : Int) < (s.1 26).toInt → y < 2000 ∧ tcR s nk (dyK s nk y).1 (s.2.1 60 y)) (hl : cx 20 ≤ 21 + h.length) (g : gH L xs h h') (f : fr (fun q => cx 8 ≤ q) h h') (rk : rK s s') (hd : cx 8 ≤ d ∧ d < cx 20) (e : tyD L xs h' s' d y) (hy : (y : Int) < (s'.1 26).toInt) : ∃ td, fd h' 10 d 7 = some (.int (cT td)) ∧ tyc s' (Int32.ofNat y) td ∧ vT s' nk td := by
  have r60 : s'.2.1 60 = s.2.1 60 := rk_r rk (by decide)
  obtain ⟨d7, dn⟩ := dt_of dt hl g f hd (tyD_dat e).1
  rw [rk.1 26 (by omega)] at hy
  obtain ⟨y2, tc⟩ := tcs y hy
  have dk : dkF s nk 0 (dyC s' y) (dyP s' y) (s'.2.1 58 y) (s'.2.1 59 y) = dyK s nk y := by
    have r57 : s'.2.1 57 = s.2.1 57 := rk_r rk (by decide)
    have r58 : s'.2.1 58 = s.2.1 58 := rk_r rk (by decide)
    have r59 : s'.2.1 59 = s.2.1 59 := rk_r rk (by decide)
    have r61 : s'.2.2 61 = s.2.2 61 := rk.2.2 61 (by decide)
    unfold dyK dyC dyP
    rw [r57, r58, r59, r61]
  rw [dk] at d7 dn
  rcases tc with ⟨_, z2⟩ | ⟨z1, z2⟩ | ⟨k, kl', ⟨z1, z2, z3⟩ | ⟨z1, c, z2, z3, z4⟩⟩
  · exfalso
    -- a type without fault is not 0
    unfold dyK dkF at z2 dn
    cases hc : dyC s y with
    | none =>
      rw [hc] at z2
      exact absurd (show (1 : Int32) = 0 from z2) (by decide)
    | some x =>
      rw [hc] at z2 dn
      dsimp only at z2 dn
      cases hk : kF (s.2.2 62) x nk 0 with
      | none =>
        rw [hk] at dn
        cases dn
      | some k =>
        have kl' : k < nk := by have := (kF_some hk).2.1; omega
        rw [hk] at z2 dn
        dsimp only at z2 dn
        by_cases c0 : s.2.1 66 k = 0
        · rw [if_pos c0] at z2 dn
          by_cases c1 : dyP s y = -1
          · rw [if_pos c1, if_pos rfl] at dn
            cases dn
          · rw [if_neg c1] at z2
            rcases (tyD_dat e).2 with q | q | ⟨c, q1, q2⟩
            · rw [rk_r rk (by decide)] at q
              unfold dyC at hc
              rw [if_pos q] at hc
              cases hc
            · rw [rk_r rk (by decide)] at q
              unfold dyP at c1
              rw [if_pos q] at c1
              exact c1 rfl
            · rw [rk_r rk (by decide)] at q2
              have : dyP s y = Int32.ofNat c := by
                unfold dyP
                rw [q2, if_neg]
                have : ∀ c, c < 5 → ¬ Int32.ofNat c = 5 := by decide
                exact this c q1
              rw [this] at z2
              exact (cT_ob k (by omega) c q1).2.2.2 z2
        · rw [if_neg c0] at z2 dn
          by_cases c1 : dyP s y = -1
          · rw [if_pos c1] at z2
            have : ∀ k, k < 8 → tO 3 (Int32.ofNat k) 2 ≠ 0 := by decide +kernel
            exact this k (by omega) z2
          · rw [if_neg c1] at dn
            cases dn
  · exact ⟨1, by rw [d7, z2]; rfl, ⟨y, y2, rfl, by rw [r60, z1]; rfl, by decide⟩, vT_1⟩
  · obtain ⟨q1, q2, q3⟩ := cT_ac k (by omega)
    refine ⟨8 * (k + 1) + 5, by rw [d7, z3, q1], ⟨y, y2, rfl, by rw [r60, z2, q2], q3⟩, dTy_g q3, fun _ => ⟨by omega, Or.inr ⟨by omega, ?_⟩⟩⟩
    rw [show (8 * (k + 1) + 5) / 8 - 1 = k from by omega, rk_r rk (by decide)]
    exact z1
  · obtain ⟨q1, q2, q3, _⟩ := cT_ob k (by omega) c z2
    refine ⟨8 * (k + 1) + c, by rw [d7, z4, q1], ⟨y, y2, rfl, by rw [r60, z3, q2], q3⟩, dTy_g q3, fun _ => ⟨by omega, Or.inl ⟨by omega, ?_⟩⟩⟩
    rw [show (8 * (k + 1) + c) / 8 - 1 = k from by omega, rk_r rk (by decide)]
    exact z1
theorem ty_of2 (dc : DCX L xs w cx h s nk gn kl ml) (g : gH L xs h h') (f : fr (fun q => cx 8 ≤ q) h h') (rk : rK s s') (hd : cx 8 ≤ d ∧ d < cx 20) (e : tyD L xs h' s' d y) (hy : (y : Int) < (s'.1 26).toInt) : ∃ td, fd h' 10 d 7 = some (.int (cT td)) ∧ tyc s' (Int32.ofNat y) td ∧ vT s' nk td := by
  obtain ⟨je, _, dt, _, tcs, _, _, _, _, hl, _⟩ := dc
  exact ty_of3 je.2.2.1 dt tcs hl g f rk hd e hy
theorem JCX_of (dc : DCX L xs w cx h s nk gn kl ml) (hm : ml[m]? = some M) (mf : MF L xs cx h s gn ml.length m M lo hi c) (g : gH L xs h h') (f : fr (fun q => cx 8 ≤ q) h h') (rk : rK s s') (v53 : ∀ i, lo ≤ i → i < hi → s'.2.1 53 i = s.2.1 53 i) : JCX L xs w cx M h' s' nk m lo hi kl ml := by
  obtain ⟨pl, ph, Bn, bb, _, _, _, _, _, f6, f7, f8, _, _, _, f12, _⟩ := id mf
  have dD := dc.2.2.2.2.2.1
  have g29 := dc.2.2.2.2.2.2.2.1
  have r44 : s'.2.1 44 = s.2.1 44 := rk_r rk (by decide)
  have r54 : s'.2.1 54 = s.2.1 54 := rk_r rk (by decide)
  refine ⟨JE_g g rk dc.1, bJ_g g rk (dc.2.1 m M hm), fun d n hd e n1 n2 e44 => nw_of dc g f rk hd e (by omega) (by omega) (v53 n n1 n2) e44, fun d n hd e n1 n2 e44 => ?_, fun n j n1 n2 n3 j1 j2 jn j3 => ?_, fun d v hd ed => ?_, by omega, dc.2.2.2.2.2.2.2.2.1⟩
  · obtain ⟨_, _, _, y, y1, y2, y3⟩ := e
    rw [y1]
    exact ty_of2 dc g f rk hd y3 y2
  · rw [r44] at n3 j3
    rw [v53 n n1 n2, v53 j j1 j2]
    by_cases q : j < n
    · exact f12 n j j1 q n2 n3 j3
    · exact fun z => f12 j n n1 (by omega) j2 j3 n3 z.symm
  · obtain ⟨fs, e1, _⟩ := fd_c ed
    obtain ⟨fs0, e2⟩ := fr_back f e1 (by have := dc.2.2.2.2.2.2.2.2.2.1; omega)
    obtain ⟨_, _, _, _, _, _, z2, _⟩ := dc.2.2.1 d fs0 hd.1 hd.2 e2
    exact ⟨_, g.1.2.2.2.1 _ _ _ z2⟩
end JCO
