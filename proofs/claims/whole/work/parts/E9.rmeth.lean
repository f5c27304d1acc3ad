/-! ALL METHODS ARE DECLARED BY THE REFERENCE. -/
/-- the end of a parameter's check -/
def pE (E : rE) (K54 : Int32 → Int32 → Int32 → rS → Option rA) (w : Nat) (i1 i2 i3 : Int32) (s : rS) : Option rA :=
  (rs_aI s 81 i3).bind fun x2 =>
  (rs_aI s 60 x2).bind fun x4 =>
  if mx_f1 .eq i2 = true then
    s330_166 E w K54 i1 i2 i3 s
  else
    (rs_aI s 70 i1).bind fun x7 =>
    if mx_f2 .eq x7 1 = true then
      s330_166 E w K54 i1 i2 i3 s
    else
      if mx_f2 .eq x4 (-1) = true then
        s330_166 E w K54 i1 i2 i3 s
      else
        ((E 331 [.int x4] s).bind rxI).bind fun x11 =>
        if mx_f1 .ne x11.1 = true then
          s330_166 E w K54 i1 i2 i3 x11.2
        else
          (rs_aI x11.2 80 i3).bind fun x17 =>
          ((E 329 [.ref 36, .int 4, .int x17] x11.2).bind rxV).bind fun s19 =>
          s330_166 E w K54 i1 i2 i3 s19
section RM
variable {w k n nk : Nat} {s0 sB s s1 s2 : rS} {S T : Int32 → Int32 → Prop}
theorem r_in_p {K54 : Int32 → Int32 → Int32 → rS → Option rA} {z : Int32} {i a : Nat} (hi : i < 440) (hw : 200 ≤ w) : ∀ (m j N : Nat) (s : rS) (S : Int32 → Int32 → Prop), j + m = i → m < N → nJF sB s → rmn S s → ∃ s', s330_74 (rM w (k + 1)) w K54 N (Int32.ofNat a) z (Int32.ofNat i) (Int32.ofNat j) s = pE (rM w (k + 1)) K54 w (Int32.ofNat a) z (Int32.ofNat i) s' ∧ nJF s s' ∧ rmn (fun u v => S u v ∨ rpS (sB.2.2 79) (sB.2.1 80) j i u v) s' := by
  intro m
  induction m with
  | zero =>
    intro j N s S e hN ns p
    obtain ⟨N, rfl⟩ : ∃ M, N = M + 1 := ⟨N - 1, by omega⟩
    refine ⟨s, ?_, nJF_refl, mn_ext (fun u v => ⟨Or.inl, fun z => ?_⟩) p⟩
    · rw [s330_74]
      refine itq ?_ rfl
      rw [f2_ge, of_int (by omega), of_int (by omega)]
      simp
      omega
    · rcases z with z | ⟨⟨j', z1, z2, _⟩, _⟩
      · exact z
      · omega
  | succ m ih =>
    intro j N s S e hN ns p
    obtain ⟨N, rfl⟩ : ∃ M, N = M + 1 := ⟨N - 1, by omega⟩
    have ge : ¬ mx_f2 .ge (Int32.ofNat j) (Int32.ofNat i) = true := by
      rw [f2_ge, of_int (by omega), of_int (by omega)]
      simp
      omega
    have gj : ∀ x, x < 440 → rs_aJ s 79 (Int32.ofNat x) = some (sB.2.2 79 x) := fun x hx => by
      rw [aJ_at (by decide) rfl hx (by decide), ns.1]
    have gi : rs_aI s 80 (Int32.ofNat i) = some (sB.2.1 80 i) := by
      rw [aI_at (by decide) rfl hi (by decide), ns.1]
    have sj : Int32.ofNat j + 1 = Int32.ofNat (j + 1) := of_add j 1
    by_cases c : sB.2.2 79 j = sB.2.2 79 i
    · obtain ⟨s2, n1, n2, _, n3⟩ := r_noteF (w := w) (k := k) p 2 (sB.2.1 80 i) (by decide)
      obtain ⟨s3, r1, r2, r3⟩ := ih (j + 1) N s2 _ (by omega) (by omega) (nJF_trans ns n2) n3
      refine ⟨s3, ?_, nJF_trans n2 r2, mn_ext (fun u v => ?_) r3⟩
      · rw [s330_74]
        refine inq ge (bsq (gj j (by omega)) (bsq (gj i hi) (inq ?_ (bsq gi (bsq (a := s2) (by rw [n1]; rfl) ?_)))))
        · rw [lg_ne]
          simp [c]
        · unfold s330_108
          rw [sj]
          exact r1
      · constructor
        · rintro ((z | ⟨z1, z2⟩) | ⟨⟨j', z1, z2, z3⟩, z4⟩)
          · exact Or.inl z
          · exact Or.inr ⟨⟨j, by omega, by omega, c⟩, z1, z2⟩
          · exact Or.inr ⟨⟨j', by omega, z2, z3⟩, z4⟩
        · rintro (z | ⟨_, z1, z2⟩)
          · exact Or.inl (Or.inl z)
          · exact Or.inl (Or.inr ⟨z1, z2⟩)
    · obtain ⟨s3, r1, r2, r3⟩ := ih (j + 1) N s _ (by omega) (by omega) ns p
      refine ⟨s3, ?_, r2, mn_ext (fun u v => ?_) r3⟩
      · rw [s330_74]
        refine inq ge (bsq (gj j (by omega)) (bsq (gj i hi) (itq ?_ ?_)))
        · rw [lg_ne]
          simp [c]
        · unfold s330_108
          rw [sj]
          exact r1
      · constructor
        · rintro (z | ⟨⟨j', z1, z2, z3⟩, z4⟩)
          · exact Or.inl z
          · exact Or.inr ⟨⟨j', by omega, z2, z3⟩, z4⟩
        · rintro (z | ⟨⟨j', z1, z2, z3⟩, z4⟩)
          · exact Or.inl z
          · refine Or.inr ⟨⟨j', ?_, z2, z3⟩, z4⟩
            have : j' ≠ j := fun y => c (by rw [← y]; exact z3)
            omega
theorem r8 : ∀ k, k < 8 → ∀ c, c < 6 → (¬ mx_f1 .eq (Int32.ofNat (8 * (k + 1) + c)) = true) ∧ (¬ mx_f2 .lt (Int32.ofNat (8 * (k + 1) + c)) 8 = true) ∧ Int32.ofNat (8 * (k + 1) + c) - Int32.ofNat (8 * (k + 1) + c) / 8 * 8 = Int32.ofNat c ∧ Int32.ofNat (8 * (k + 1) + c) ≠ -1 := by decide +kernel
theorem sd3 : ∀ k, k < 8 → sdC (tO 3 (Int32.ofNat k) 2) = 1 ∧ tO 3 (Int32.ofNat k) 2 ≠ 0 := by decide +kernel
theorem sd5 : ∀ k, k < 8 → ∀ c, c < 5 → sdC (tO 5 (Int32.ofNat k) (Int32.ofNat c)) = (if c = 0 ∨ c = 3 then 1 else 0) ∧ tO 5 (Int32.ofNat k) (Int32.ofNat c) ≠ 0 := by decide +kernel
theorem tcR_0 {x r : Int32} (h8 : nk ≤ 8) (e : tcR s nk x r) : r = -1 ↔ x = 0 := by
  rcases e with ⟨e1, e2⟩ | ⟨e1, e2⟩ | ⟨k, hk, ⟨_, e1, e2⟩ | ⟨_, c, hc, e1, e2⟩⟩
  · exact ⟨fun _ => e2, fun _ => e1⟩
  · rw [e1, e2]
    decide
  · rw [e1, e2]
    exact ⟨fun z => absurd z (r8 k (by omega) 5 (by omega)).2.2.2, fun z => absurd z (sd3 k (by omega)).2⟩
  · rw [e1, e2]
    exact ⟨fun z => absurd z (r8 k (by omega) c (by omega)).2.2.2, fun z => absurd z (sd5 k (by omega) c hc).2⟩
theorem r_332 (r : Int32) : rM w (k + 1) 332 [.int r] s = some (some (.int (if mx_f2 .lt r 8 = true then 0 else if mx_f2 .ne (r - r / 8 * 8) 5 = true then 0 else 1)), s) := by
  rw [y332]
  show s332_0 (rM w k) w r s = _
  unfold s332_0
  by_cases a : mx_f2 .lt r 8 = true
  · rw [if_pos a, if_pos a]
    rfl
  · rw [if_neg a, if_neg a]
    by_cases b : mx_f2 .ne (r - r / 8 * 8) 5 = true
    · rw [if_pos b, if_pos b]
      rfl
    · rw [if_neg b, if_neg b]
      rfl
theorem r_333 (r : Int32) : rM w (k + 1) 333 [.int r] s = some (some (.int (if mx_f2 .lt r 8 = true then 0 else if mx_f2 .ge (r - r / 8 * 8) 5 = true then 0 else 1)), s) := by
  rw [y333]
  show s333_0 (rM w k) w r s = _
  unfold s333_0
  by_cases a : mx_f2 .lt r 8 = true
  · rw [if_pos a, if_pos a]
    rfl
  · rw [if_neg a, if_neg a]
    by_cases b : mx_f2 .ge (r - r / 8 * 8) 5 = true
    · rw [if_pos b, if_pos b]
      rfl
    · rw [if_neg b, if_neg b]
      rfl
theorem r_send {x r : Int32} (h8 : nk ≤ 8) (e : tcR s0 nk x r) : (rM w (k + 2) 331 [.int r] s).bind rxI = some (sdC x, s) := by
  rw [y331]
  show (s331_0 (rM w (k + 1)) w r s).bind rxI = _
  have r2 := r_332 (w := w) (k := k) (s := s) r
  have r3 := r_333 (w := w) (k := k) (s := s) r
  have z0 : mx_f1 .eq (0 : Int32) = true := by decide
  have z1 : ¬ mx_f1 .ne (0 : Int32) = true := by decide
  have z2 : mx_f1 .ne (1 : Int32) = true := by decide
  have z3 : ¬ mx_f1 .eq (1 : Int32) = true := by decide
  have core : s331_0 (rM w (k + 1)) w r s = some (some (.int (sdC x)), s) := by
    unfold s331_0
    rcases e with ⟨e1, e2⟩ | ⟨e1, e2⟩ | ⟨kk, hk, ⟨_, e1, e2⟩ | ⟨_, c, hc, e1, e2⟩⟩
    · subst e1 e2
      rw [if_pos (show mx_f2 .lt (-1) 8 = true by decide)] at r2 r3
      exact inq (by decide) (bsq (a := (0, s)) (by rw [r2]; rfl) (inq z1 (bsq (a := (0, s)) (by rw [r3]; rfl) (itq z0 rfl))))
    · subst e1 e2
      rfl
    · obtain ⟨q1, q2, q3, _⟩ := r8 kk (by omega) 5 (by omega)
      subst e1
      rw [if_neg q2, q3, if_neg (by decide)] at r2
      rw [e2, (sd3 kk (by omega)).1]
      exact inq q1 (bsq (a := (1, s)) (by rw [r2]; rfl) (itq z2 rfl))
    · obtain ⟨q1, q2, q3, _⟩ := r8 kk (by omega) c (by omega)
      subst e1
      have c5 : mx_f2 .ne (Int32.ofNat c) 5 = true := by
        have : ∀ c, c < 5 → mx_f2 .ne (Int32.ofNat c) 5 = true := by decide
        exact this c hc
      have g5 : ¬ mx_f2 .ge (Int32.ofNat c) 5 = true := by
        have : ∀ c, c < 5 → ¬ mx_f2 .ge (Int32.ofNat c) 5 = true := by decide
        exact this c hc
      rw [if_neg q2, q3, if_pos c5] at r2
      rw [if_neg q2, q3, if_neg g5] at r3
      rw [e2, (sd5 kk (by omega) c hc).1]
      refine inq q1 (bsq (a := (0, s)) (by rw [r2]; rfl) (inq z1 (bsq (a := (1, s)) (by rw [r3]; rfl) (inq z3 ?_))))
      rw [q3]
      have fin : ∀ c, c < 5 → (mx_f1 .eq (Int32.ofNat c) = decide (c = 0)) ∧ (mx_f2 .ne (Int32.ofNat c) 3 = decide (¬ c = 3)) := by decide
      rw [(fin c hc).1, (fin c hc).2]
      by_cases z0 : c = 0
      · rw [if_pos (decide_eq_true z0), if_pos (Or.inl z0)]
        rfl
      · rw [if_neg (fun z => z0 (of_decide_eq_true z))]
        by_cases z3 : c = 3
        · rw [if_neg (fun z => absurd z3 (of_decide_eq_true z)), if_pos (Or.inr z3)]
          rfl
        · rw [if_pos (decide_eq_true z3), if_neg (fun z => z.elim z0 z3)]
          rfl
  rw [core]
  rfl
/-- the faults of parameters lo to i -/
def spR (s : rS) (nk : Nat) (z : Int32) (a lo i : Nat) (u v : Int32) : Prop := z ≠ 0 ∧ s.2.1 70 a ≠ 1 ∧ ∃ j, lo ≤ j ∧ j < i ∧ pTy s nk j ≠ 0 ∧ sdC (pTy s nk j) = 0 ∧ u = 4 ∧ v = s.2.1 80 j
theorem r_lp_p {a lo b : Nat} {z : Int32} (ha : a < 72) (hb : b ≤ 440) (h8 : nk ≤ 8) (e1 : sB.2.1 77 (a + 1) = Int32.ofNat b) (e0 : sB.2.1 77 a = Int32.ofNat lo) (ty : ∀ i, lo ≤ i → i < b → ∃ y, y < 2000 ∧ sB.2.1 81 i = Int32.ofNat y ∧ tcR sB nk (dyK sB nk y).1 (sB.2.1 60 y)) (hw : 500 ≤ w) : ∀ (m i N : Nat) (s : rS), i + m = b → lo ≤ i → m < N → nJF sB s → rmn (fun u v => S u v ∨ rpA (sB.2.2 79) (sB.2.1 80) lo i u v ∨ spR sB nk z a lo i u v) s → ∃ s', s330_54 (rM w (k + 2)) w N (Int32.ofNat a) z (Int32.ofNat i) s = some (none, s') ∧ nJF s s' ∧ rmn (fun u v => S u v ∨ rpA (sB.2.2 79) (sB.2.1 80) lo b u v ∨ spR sB nk z a lo b u v) s' := by
  intro m
  have g1 : ∀ s, nJF sB s → rs_aI s 77 (Int32.ofNat a + 1) = some (Int32.ofNat b) := fun s ns => by
    rw [show Int32.ofNat a + 1 = Int32.ofNat (a + 1) from of_add a 1, aI_at (by decide) rfl (by omega) (by decide), ns.1, e1]
  have g0 : ∀ s, nJF sB s → rs_aI s 77 (Int32.ofNat a) = some (Int32.ofNat lo) := fun s ns => by
    rw [aI_at (by decide) rfl (by omega) (by decide), ns.1, e0]
  induction m with
  | zero =>
    intro i N s e hlo hN ns p
    obtain ⟨N, rfl⟩ : ∃ M, N = M + 1 := ⟨N - 1, by omega⟩
    have ei : i = b := by omega
    subst ei
    refine ⟨s, ?_, nJF_refl, p⟩
    rw [s330_54]
    refine bsq (g1 s ns) (itq ?_ rfl)
    rw [f2_ge]
    simp
  | succ m ih =>
    intro i N s e hlo hN ns p
    obtain ⟨N, rfl⟩ : ∃ M, N = M + 1 := ⟨N - 1, by omega⟩
    have ge : ¬ mx_f2 .ge (Int32.ofNat i) (Int32.ofNat b) = true := by
      rw [f2_ge, of_int (by omega), of_int (by omega)]
      simp
      omega
    obtain ⟨s2, r1, r2, r3⟩ := r_in_p (w := w) (k := k + 1) (sB := sB) (K54 := s330_54 (rM w (k + 2)) w N) (z := z) (i := i) (a := a) (by omega) (by omega) (i - lo) lo w s _ (by omega) (by omega) ns p
    have ns2 := nJF_trans ns r2
    obtain ⟨y, y1, y2, y3⟩ := ty i hlo (by omega)
    have vy : nn sB 81 i = y := by unfold nn; rw [y2, of_clamp (by omega)]
    have ep : pTy sB nk i = (dyK sB nk y).1 := by unfold pTy; rw [vy]
    have g81 : rs_aI s2 81 (Int32.ofNat i) = some (Int32.ofNat y) := by
      rw [aI_at (by decide) rfl (by omega) (by decide), ns2.1, y2]
    have g60 : rs_aI s2 60 (Int32.ofNat y) = some (sB.2.1 60 y) := by
      rw [aI_at (by decide) rfl (by omega) (by decide), ns2.1]
    have g70 : rs_aI s2 70 (Int32.ofNat a) = some (sB.2.1 70 a) := by
      rw [aI_at (by decide) rfl (by omega) (by decide), ns2.1]
    have si : Int32.ofNat i + 1 = Int32.ofNat (i + 1) := of_add i 1
    -- the next one
    have nxt : ∀ s3 : rS, nJF sB s3 → nJF s s3 → rmn (fun u v => (S u v ∨ rpA (sB.2.2 79) (sB.2.1 80) lo (i + 1) u v) ∨ spR sB nk z a lo (i + 1) u v) s3 → pE (rM w (k + 2)) (s330_54 (rM w (k + 2)) w N) w (Int32.ofNat a) z (Int32.ofNat i) s2 = s330_166 (rM w (k + 2)) w (s330_54 (rM w (k + 2)) w N) (Int32.ofNat a) z (Int32.ofNat i) s3 → ∃ s', s330_54 (rM w (k + 2)) w (N + 1) (Int32.ofNat a) z (Int32.ofNat i) s = some (none, s') ∧ nJF s s' ∧ rmn (fun u v => S u v ∨ rpA (sB.2.2 79) (sB.2.1 80) lo b u v ∨ spR sB nk z a lo b u v) s' := by
      intro s3 n3 m3 p3 ee
      obtain ⟨s4, q1, q2, q3⟩ := ih (i + 1) N s3 (by omega) (by omega) (by omega) n3 (mn_ext (fun u v => or_assoc) p3)
      refine ⟨s4, ?_, nJF_trans m3 q2, q3⟩
      rw [s330_54]
      refine bsq (g1 s ns) (inq ge (bsq (g0 s ns) (r1.trans (ee.trans ?_))))
      unfold s330_166
      rw [si]
      exact q1
    have base : ∀ u v, ((S u v ∨ rpA (sB.2.2 79) (sB.2.1 80) lo i u v ∨ spR sB nk z a lo i u v) ∨ rpS (sB.2.2 79) (sB.2.1 80) lo i u v) ↔ ((S u v ∨ rpA (sB.2.2 79) (sB.2.1 80) lo (i + 1) u v) ∨ spR sB nk z a lo i u v) := by
      intro u v
      rw [rpA_s hlo]
      constructor
      · rintro ((q | q | q) | q)
        · exact Or.inl (Or.inl q)
        · exact Or.inl (Or.inr (Or.inl q))
        · exact Or.inr q
        · exact Or.inl (Or.inr (Or.inr q))
      · rintro ((q | q | q) | q)
        · exact Or.inl (Or.inl q)
        · exact Or.inl (Or.inr (Or.inl q))
        · exact Or.inr q
        · exact Or.inl (Or.inr (Or.inr q))
    have skip : (¬ (z ≠ 0 ∧ sB.2.1 70 a ≠ 1 ∧ pTy sB nk i ≠ 0 ∧ sdC (pTy sB nk i) = 0)) → ∀ u v, ((S u v ∨ rpA (sB.2.2 79) (sB.2.1 80) lo (i + 1) u v) ∨ spR sB nk z a lo i u v) ↔ ((S u v ∨ rpA (sB.2.2 79) (sB.2.1 80) lo (i + 1) u v) ∨ spR sB nk z a lo (i + 1) u v) := by
      intro no u v
      constructor
      · rintro (q | ⟨q1, q2, j, q3, q4, q5⟩)
        · exact Or.inl q
        · exact Or.inr ⟨q1, q2, j, q3, by omega, q5⟩
      · rintro (q | ⟨q1, q2, j, q3, q4, q5, q6, q7, q8⟩)
        · exact Or.inl q
        · refine Or.inr ⟨q1, q2, j, q3, ?_, q5, q6, q7, q8⟩
          by_cases y : j = i
          · rw [y] at q5 q6
            exact absurd ⟨q1, q2, q5, q6⟩ no
          · omega
    have pb : rmn (fun u v => (S u v ∨ rpA (sB.2.2 79) (sB.2.1 80) lo (i + 1) u v) ∨ spR sB nk z a lo i u v) s2 := mn_ext base r3
    by_cases c1 : z = 0
    · exact nxt s2 ns2 r2 (mn_ext (skip (fun q => q.1 c1)) pb) (bsq g81 (bsq g60 (itq (by rw [c1]; decide) rfl)))
    have q1 : ¬ mx_f1 .eq z = true := by rw [f1_eqd]; exact fun q => c1 (of_decide_eq_true q)
    by_cases c2 : sB.2.1 70 a = 1
    · exact nxt s2 ns2 r2 (mn_ext (skip (fun q => q.2.1 c2)) pb) (bsq g81 (bsq g60 (inq q1 (bsq g70 (itq (by rw [c2]; decide) rfl)))))
    have q2 : ¬ mx_f2 .eq (sB.2.1 70 a) 1 = true := by rw [f2_eqd]; exact fun q => c2 (of_decide_eq_true q)
    by_cases c3 : sB.2.1 60 y = -1
    · have x0 := (tcR_0 h8 y3).mp c3
      exact nxt s2 ns2 r2 (mn_ext (skip (fun q => q.2.2.1 (ep.trans x0))) pb) (bsq g81 (bsq g60 (inq q1 (bsq g70 (inq q2 (itq (by rw [c3]; decide) rfl))))))
    have q3 : ¬ mx_f2 .eq (sB.2.1 60 y) (-1) = true := by rw [f2_eqd]; exact fun q => c3 (of_decide_eq_true q)
    have x0 : pTy sB nk i ≠ 0 := fun q => c3 ((tcR_0 h8 y3).mpr (ep.symm.trans q))
    have sn := r_send (w := w) (k := k) (s := s2) h8 y3
    rw [← ep] at sn
    rcases sdC_01 (pTy sB nk i) with y | y
    · rw [y] at sn
      obtain ⟨s3, n1, n2, _, n3⟩ := r_noteF (w := w) (k := k + 1) pb 4 (sB.2.1 80 i) (by decide)
      have g80 : rs_aI s2 80 (Int32.ofNat i) = some (sB.2.1 80 i) := by
        rw [aI_at (by decide) rfl (by omega) (by decide), ns2.1]
      refine nxt s3 (nJF_trans ns2 n2) (nJF_trans r2 n2) (mn_ext (fun u v => ?_) n3) (bsq g81 (bsq g60 (inq q1 (bsq g70 (inq q2 (inq q3 (bsq sn (inq (show ¬ mx_f1 .ne (0 : Int32) = true by decide) (bsq g80 (bsq (a := s3) (by rw [n1]; rfl) rfl))))))))))
      constructor
      · rintro ((q | ⟨q1, q2, j, q3, q4, q5⟩) | ⟨q1, q2⟩)
        · exact Or.inl q
        · exact Or.inr ⟨q1, q2, j, q3, by omega, q5⟩
        · exact Or.inr ⟨c1, c2, i, hlo, by omega, x0, y, q1, q2⟩
      · rintro (q | ⟨q1, q2, j, q3, q4, q5, q6, q7, q8⟩)
        · exact Or.inl (Or.inl q)
        · by_cases y : j = i
          · rw [y] at q8
            exact Or.inr ⟨q7, q8⟩
          · exact Or.inl (Or.inr ⟨q1, q2, j, q3, by omega, q5, q6, q7, q8⟩)
    · rw [y] at sn
      exact nxt s2 ns2 r2 (mn_ext (skip (fun q => by rw [y] at q; exact absurd q.2.2.2 (by decide))) pb) (bsq g81 (bsq g60 (inq q1 (bsq g70 (inq q2 (inq q3 (bsq sn (itq (show mx_f1 .ne (1 : Int32) = true by decide) rfl))))))))
end RM
