/-! ALL TYPES ARE DECLARED BY THE REFERENCE. -/
/-- what is written of type y -/
def dyC (s : rS) (y : Nat) : Option Int64 := if s.2.1 57 y = 6 then none else some (s.2.2 61 y)
def dyP (s : rS) (y : Nat) : Int32 := if s.2.1 57 y = 5 then -1 else s.2.1 57 y
def dyK (s : rS) (nk y : Nat) : Int32 × Option (Int32 × Int32) := dkF s nk 0 (dyC s y) (dyP s y) (s.2.1 58 y) (s.2.1 59 y)
/-- the class's type x is the reference's type r -/
def tcR (s : rS) (nk : Nat) (x r : Int32) : Prop := (r = -1 ∧ x = 0) ∨ (r = 0 ∧ x = 1) ∨ ∃ k, k < nk ∧ ((s.2.1 66 k = 1 ∧ r = Int32.ofNat (8 * (k + 1) + 5) ∧ x = tO 3 (Int32.ofNat k) 2) ∨ (s.2.1 66 k = 0 ∧ ∃ c, c < 5 ∧ r = Int32.ofNat (8 * (k + 1) + c) ∧ x = tO 5 (Int32.ofNat k) (Int32.ofNat c)))
/-- only a fault is noted -/
def nJF (s s' : rS) : Prop := s'.2 = s.2 ∧ ∀ j, j ≠ 57 → j ≠ 58 → s'.1 j = s.1 j
def rmn (S : Int32 → Int32 → Prop) (s : rS) : Prop := mn S (s.1 57) (s.1 58)
/-- the kinds are of a sort -/
def kW (s : rS) (nk : Nat) : Prop := s.1 32 = Int32.ofNat nk ∧ nk ≤ 8 ∧ ∀ j, j < nk → s.2.1 66 j = 0 ∨ s.2.1 66 j = 1
/-- type y is well written -/
def dyW (s : rS) (y : Nat) : Prop := s.2.1 57 y = 6 ∨ s.2.1 57 y = 5 ∨ ∃ c, c < 5 ∧ s.2.1 57 y = Int32.ofNat c
section RTY
variable {w k n nk y : Nat} {s0 s s1 s2 : rS} {S T : Int32 → Int32 → Prop}
theorem nJF_refl : nJF s s := ⟨rfl, fun _ _ _ => rfl⟩
theorem nJF_trans (a : nJF s s1) (b : nJF s1 s2) : nJF s s2 := ⟨b.1.trans a.1, fun j h1 h2 => (b.2 j h1 h2).trans (a.2 j h1 h2)⟩
theorem nJF_dJ (a : nJF s s1) : dJ s s1 := ⟨a.2, fun p _ _ => by rw [a.1], by rw [a.1]⟩
theorem r_noteF (m : rmn S s) (x y : Int32) (hx : 0 < x.toInt) : ∃ s', rM w (k + 1) 329 [.ref 36, .int x, .int y] s = some (none, s') ∧ nJF s s' ∧ (s'.1 57 = (ntF (s.1 57) (s.1 58) (some (x, y))).1 ∧ s'.1 58 = (ntF (s.1 57) (s.1 58) (some (x, y))).2) ∧ rmn (fun u v => S u v ∨ (u = x ∧ v = y)) s' := by
  obtain ⟨s', e1, e2, e3, e4, e5⟩ := r_note (w := w) (k := k) (mn_ge m).1 x y
  refine ⟨s', e1, ⟨e2, e3⟩, ⟨e4, e5⟩, ?_⟩
  unfold rmn
  rw [e4, e5]
  exact mn_nt m hx
theorem kI_ne {j : Nat} (hj : j < 8) : kI (some j) ≠ -1 := by
  have : ∀ j, j < 8 → Int32.ofNat j ≠ -1 := by decide
  exact this j hj
theorem t8 (k c : Nat) : (8 : Int32) * (Int32.ofNat k + 1) + Int32.ofNat c = Int32.ofNat (8 * (k + 1) + c) := by
  rw [show (8 : Int32) = Int32.ofNat 8 from rfl, show (1 : Int32) = Int32.ofNat 1 from rfl, of_add, ← Int32.ofNat_mul, of_add]
theorem r_type (kw : kW s nk) (hy : y < 2000) (yw : dyW s y) (m : rmn S s) (hw : 200 ≤ w) : ∃ s' r, rM w (k + 2) 327 [.ref 36, .int (Int32.ofNat y)] s = some (some (.int r), s') ∧ nJF s s' ∧ rmn (fun u v => S u v ∨ (dyK s nk y).2 = some (u, v)) s' ∧ tcR s nk (dyK s nk y).1 r := by
  obtain ⟨k1, k2, k3⟩ := kw
  have g57 : rs_aI s 57 (Int32.ofNat y) = some (s.2.1 57 y) := aI_at (by decide) rfl hy (by decide)
  have g58 : rs_aI s 58 (Int32.ofNat y) = some (s.2.1 58 y) := aI_at (by decide) rfl hy (by decide)
  have g59 : rs_aI s 59 (Int32.ofNat y) = some (s.2.1 59 y) := aI_at (by decide) rfl hy (by decide)
  have g61 : rs_aJ s 61 (Int32.ofNat y) = some (s.2.2 61 y) := aJ_at (by decide) rfl hy (by decide)
  have note : ∀ (x z : Int32) (q : Int32 × Option (Int32 × Int32)), dyK s nk y = q → q = (0, some (x, z)) → 0 < x.toInt → ∃ s', (((rM w (k + 1) 329 [.ref 36, .int x, .int z] s).bind rxV).bind fun s1 => rrI (some .int) (-1) s1) = some (some (.int (-1)), s') ∧ nJF s s' ∧ rmn (fun u v => S u v ∨ q.2 = some (u, v)) s' ∧ tcR s nk q.1 (-1) := by
    intro x z q e1 e2 hx
    obtain ⟨s', n1, n2, _, n3⟩ := r_noteF (w := w) (k := k) m x z hx
    refine ⟨s', bse (a := s') (by rw [n1]; rfl) rfl, n2, ?_, by rw [e2]; exact Or.inl ⟨rfl, rfl⟩⟩
    refine mn_ext (fun u v => ?_) n3
    rw [e2]
    constructor
    · rintro (q | ⟨q1, q2⟩)
      · exact Or.inl q
      · exact Or.inr (by rw [q1, q2])
    · rintro (q | q)
      · exact Or.inl q
      · cases q
        exact Or.inr ⟨rfl, rfl⟩
  have same : ∀ (r : Int32) (q : Int32 × Option (Int32 × Int32)), q.2 = none → rmn (fun u v => S u v ∨ q.2 = some (u, v)) s := fun r q e => mn_skip m (fun u v z => by rw [e] at z; cases z)
  rw [y327]
  show ∃ s' r, s327_0 (rM w (k + 1)) w (Int32.ofNat y) s = some (some (.int r), s') ∧ _
  unfold s327_0
  by_cases c6 : s.2.1 57 y = 6
  · have e : dyK s nk y = (1, none) := by
      unfold dyK dyC
      rw [if_pos c6]
      rfl
    rw [e]
    refine ⟨s, 0, bse g57 (ifn (by rw [f2_ne, c6]; decide) rfl), nJF_refl, same 0 _ rfl, Or.inr (Or.inl ⟨rfl, rfl⟩)⟩
  · have ec : dyC s y = some (s.2.2 61 y) := if_neg c6
    have fn := r_find (w := w) (k := k) (c := s.2.2 61 y) k1 k2 hw
    have n6 : mx_f2 .ne (s.2.1 57 y) 6 = true := by rw [f2_ne]; exact decide_eq_true c6
    generalize hK : dyK s nk y = q
    have hq := hK
    unfold dyK dkF at hq
    rw [ec] at hq
    dsimp only at hq
    generalize hkf : kF (s.2.2 62) (s.2.2 61 y) nk 0 = kf at fn hq
    cases kf with
    | none =>
      dsimp only at hq
      obtain ⟨s', n1, n2, n3, n4⟩ := note 3 (s.2.1 59 y) q hK hq.symm (by decide)
      refine ⟨s', -1, bse g57 (ift n6 (bse g61 (bse (a := (kI none, s)) (by rw [fn]; rfl) (ifn (show ¬ mx_f2 .ne (kI none) (-1) = true by decide) (bse g59 n1))))), n2, n3, n4⟩
    | some kk =>
      obtain ⟨_, kk2, _, _⟩ := kF_some hkf
      have kk8 : kk < 8 := by omega
      dsimp only at hq
      have g66 : rs_aB s 66 (Int32.ofNat kk) = some (s.2.1 66 kk) := aB_at (by decide) rfl kk8 (by decide)
      have hd : ∀ r : Option rA, (if mx_f2 .ne (s.2.1 57 y) 5 = true then s327_57 (rM w (k + 1)) w (Int32.ofNat y) (Int32.ofNat kk) 0 s else s327_57 (rM w (k + 1)) w (Int32.ofNat y) (Int32.ofNat kk) 1 s) = r → ((rs_aI s 57 (Int32.ofNat y)).bind fun x1 => if mx_f2 .ne x1 6 = true then (rs_aJ s 61 (Int32.ofNat y)).bind fun y4 => ((rM w (k + 1) 328 [.ref 36, .long y4] s).bind rxI).bind fun x6 => if mx_f2 .ne x6.1 (-1) = true then (rs_aI x6.2 57 (Int32.ofNat y)).bind fun x12 => if mx_f2 .ne x12 5 = true then s327_57 (rM w (k + 1)) w (Int32.ofNat y) x6.1 0 x6.2 else s327_57 (rM w (k + 1)) w (Int32.ofNat y) x6.1 1 x6.2 else (rs_aI x6.2 59 (Int32.ofNat y)).bind fun x15 => ((rM w (k + 1) 329 [.ref 36, .int 3, .int x15] x6.2).bind rxV).bind fun s17 => rrI (some .int) (-1) s17 else rrI (some .int) 0 s) = r := by
        intro r e
        refine bsq g57 (itq n6 (bsq g61 (bsq (a := (Int32.ofNat kk, s)) (by rw [fn]; rfl) (itq ?_ (bsq g57 e)))))
        show mx_f2 .ne (kI (some kk)) (-1) = true
        rw [f2_ne]
        exact decide_eq_true (kI_ne kk8)
      by_cases c5 : s.2.1 57 y = 5
      · have ep : dyP s y = -1 := if_pos c5
        rw [ep] at hq
        have p5 : ∀ {A : Type} (x z : A), (if mx_f2 .ne (s.2.1 57 y) 5 = true then x else z) = z := fun x z => by rw [if_neg (by rw [f2_ne, c5]; decide)]
        rcases k3 kk (by omega) with ac | ac
        · rw [if_pos ac, if_pos rfl, if_pos rfl] at hq
          obtain ⟨s', n1, n2, n3, n4⟩ := note 4 (s.2.1 59 y) q hK hq.symm (by decide)
          refine ⟨s', -1, hd _ ?_, n2, n3, n4⟩
          rw [p5]
          unfold s327_57
          refine bse g66 (ifn (by rw [ac]; decide) (ifn (by decide) (bse g59 ?_)))
          exact n1
        · rw [if_neg (by rw [ac]; decide), if_pos rfl] at hq
          refine ⟨s, Int32.ofNat (8 * (kk + 1) + 5), hd _ ?_, nJF_refl, same 0 _ (by rw [← hq]), ?_⟩
          · rw [p5]
            unfold s327_57
            refine bse g66 (ift (by rw [ac]; decide) (ifn (by decide) ?_))
            show some (some (Value.int (8 * (Int32.ofNat kk + 1) + Int32.ofNat 5)), s) = _
            rw [t8]
          · rw [← hq]
            exact Or.inr (Or.inr ⟨kk, by omega, Or.inl ⟨ac, rfl, rfl⟩⟩)
      · have ep : dyP s y = s.2.1 57 y := if_neg c5
        have p5 : ∀ {A : Type} (x z : A), (if mx_f2 .ne (s.2.1 57 y) 5 = true then x else z) = x := fun x z => by rw [if_pos (by rw [f2_ne]; exact decide_eq_true c5)]
        obtain ⟨cc, cc5, ecc⟩ : ∃ c, c < 5 ∧ s.2.1 57 y = Int32.ofNat c := by
          rcases yw with z | z | z
          · exact absurd z c6
          · exact absurd z c5
          · exact z
        have cm1 : ¬ Int32.ofNat cc = -1 := by
          have : ∀ c, c < 5 → ¬ Int32.ofNat c = -1 := by decide
          exact this cc cc5
        rw [ep, ecc, if_neg cm1, if_neg cm1] at hq
        rcases k3 kk (by omega) with ac | ac
        · rw [if_pos ac] at hq
          refine ⟨s, Int32.ofNat (8 * (kk + 1) + cc), hd _ ?_, nJF_refl, same 0 _ (by rw [← hq]), ?_⟩
          · rw [p5]
            unfold s327_57
            refine bse g66 (ift (by rw [ac]; decide) (ift (by decide) (bse g57 ?_)))
            show some (some (Value.int (8 * (Int32.ofNat kk + 1) + s.2.1 57 y)), s) = _
            rw [ecc, t8]
          · rw [← hq]
            exact Or.inr (Or.inr ⟨kk, by omega, Or.inr ⟨ac, cc, cc5, rfl, rfl⟩⟩)
        · rw [if_neg (by rw [ac]; decide)] at hq
          obtain ⟨s', n1, n2, n3, n4⟩ := note 4 (s.2.1 58 y) q hK hq.symm (by decide)
          refine ⟨s', -1, hd _ ?_, n2, n3, n4⟩
          rw [p5]
          unfold s327_57
          refine bse g66 (ifn (by rw [ac]; decide) (ift (by decide) (bse g58 ?_)))
          exact n1
end RTY
