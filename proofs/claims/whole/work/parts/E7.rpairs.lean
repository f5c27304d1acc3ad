/-! REPEATED NAMES, BY THE REFERENCE. -/
section RP
variable {w k n nk : Nat} {s0 sB s s1 s2 : rS} {S T : Int32 → Int32 → Prop}
theorem r_in_k {K29 : Int32 → rS → Option rA} {i : Nat} (hi : i < 8) (hw : 200 ≤ w) : ∀ (m j N : Nat) (s : rS) (S : Int32 → Int32 → Prop), j + m = i → m < N → nJF sB s → rmn S s → ∃ s', s326_39 (rM w (k + 1)) w K29 N (Int32.ofNat i) (Int32.ofNat j) s = ((rs_aI s' 64 (Int32.ofNat i)).bind fun x2 => s326_84 (rM w (k + 1)) w K29 w (Int32.ofNat i) x2 s') ∧ nJF s s' ∧ rmn (fun u v => S u v ∨ rpS (sB.2.2 62) (sB.2.1 63) j i u v) s' := by
  intro m
  induction m with
  | zero =>
    intro j N s S e hN ns p
    obtain ⟨N, rfl⟩ : ∃ M, N = M + 1 := ⟨N - 1, by omega⟩
    refine ⟨s, ?_, nJF_refl, mn_ext (fun u v => ⟨Or.inl, fun z => ?_⟩) p⟩
    · rw [s326_39]
      refine itq ?_ rfl
      rw [f2_ge, of_int (by omega), of_int (by omega)]
      simp
      omega
    · rcases z with z | ⟨⟨j', z1, z2, _⟩, _⟩
      · exact z
      · omega
  | succ m ih =>
    intro j N s S e hN ns p
    obtain ⟨N, rfl⟩ : ∃ M, N = M + 1 := ⟨N - 1, by omega⟩
    have ge : ¬ mx_f2 .ge (Int32.ofNat j) (Int32.ofNat i) = true := by
      rw [f2_ge, of_int (by omega), of_int (by omega)]
      simp
      omega
    have gj : ∀ x, x < 8 → rs_aJ s 62 (Int32.ofNat x) = some (sB.2.2 62 x) := fun x hx => by
      rw [aJ_at (by decide) rfl hx (by decide), ns.1]
    have gi : rs_aI s 63 (Int32.ofNat i) = some (sB.2.1 63 i) := by
      rw [aI_at (by decide) rfl hi (by decide), ns.1]
    have sj : Int32.ofNat j + 1 = Int32.ofNat (j + 1) := of_add j 1
    by_cases c : sB.2.2 62 j = sB.2.2 62 i
    · obtain ⟨s2, n1, n2, _, n3⟩ := r_noteF (w := w) (k := k) p 2 (sB.2.1 63 i) (by decide)
      obtain ⟨s3, r1, r2, r3⟩ := ih (j + 1) N s2 _ (by omega) (by omega) (nJF_trans ns n2) n3
      refine ⟨s3, ?_, nJF_trans n2 r2, mn_ext (fun u v => ?_) r3⟩
      · rw [s326_39]
        refine inq ge (bsq (gj j (by omega)) (bsq (gj i hi) (inq ?_ (bsq gi (bsq (a := s2) (by rw [n1]; rfl) ?_)))))
        · rw [lg_ne]
          simp [c]
        · unfold s326_71
          rw [sj]
          exact r1
      · constructor
        · rintro ((z | ⟨z1, z2⟩) | ⟨⟨j', z1, z2, z3⟩, z4⟩)
          · exact Or.inl z
          · exact Or.inr ⟨⟨j, by omega, by omega, c⟩, z1, z2⟩
          · exact Or.inr ⟨⟨j', by omega, z2, z3⟩, z4⟩
        · rintro (z | ⟨_, z1, z2⟩)
          · exact Or.inl (Or.inl z)
          · exact Or.inl (Or.inr ⟨z1, z2⟩)
    · obtain ⟨s3, r1, r2, r3⟩ := ih (j + 1) N s _ (by omega) (by omega) ns p
      refine ⟨s3, ?_, r2, mn_ext (fun u v => ?_) r3⟩
      · rw [s326_39]
        refine inq ge (bsq (gj j (by omega)) (bsq (gj i hi) (itq ?_ ?_)))
        · rw [lg_ne]
          simp [c]
        · unfold s326_71
          rw [sj]
          exact r1
      · constructor
        · rintro (z | ⟨⟨j', z1, z2, z3⟩, z4⟩)
          · exact Or.inl z
          · exact Or.inr ⟨⟨j', by omega, z2, z3⟩, z4⟩
        · rintro (z | ⟨⟨j', z1, z2, z3⟩, z4⟩)
          · exact Or.inl z
          · refine Or.inr ⟨⟨j', ?_, z2, z3⟩, z4⟩
            have : j' ≠ j := fun y => c (by rw [← y]; exact z3)
            omega
theorem r_in_f {K29 : Int32 → rS → Option rA} {KK : Int32 → Int32 → rS → Option rA} {i a : Nat} (hi : i < 64) (hw : 200 ≤ w) : ∀ (m j N : Nat) (s : rS) (S : Int32 → Int32 → Prop), j + m = i → m < N → nJF sB s → rmn S s → ∃ s', s326_103 (rM w (k + 1)) w K29 KK N (Int32.ofNat a) (Int32.ofNat i) (Int32.ofNat j) s = KK (Int32.ofNat a) (Int32.ofNat i + 1) s' ∧ nJF s s' ∧ rmn (fun u v => S u v ∨ rpS (sB.2.2 67) (sB.2.1 68) j i u v) s' := by
  intro m
  induction m with
  | zero =>
    intro j N s S e hN ns p
    obtain ⟨N, rfl⟩ : ∃ M, N = M + 1 := ⟨N - 1, by omega⟩
    refine ⟨s, ?_, nJF_refl, mn_ext (fun u v => ⟨Or.inl, fun z => ?_⟩) p⟩
    · rw [s326_103]
      refine itq ?_ rfl
      rw [f2_ge, of_int (by omega), of_int (by omega)]
      simp
      omega
    · rcases z with z | ⟨⟨j', z1, z2, _⟩, _⟩
      · exact z
      · omega
  | succ m ih =>
    intro j N s S e hN ns p
    obtain ⟨N, rfl⟩ : ∃ M, N = M + 1 := ⟨N - 1, by omega⟩
    have ge : ¬ mx_f2 .ge (Int32.ofNat j) (Int32.ofNat i) = true := by
      rw [f2_ge, of_int (by omega), of_int (by omega)]
      simp
      omega
    have gj : ∀ x, x < 64 → rs_aJ s 67 (Int32.ofNat x) = some (sB.2.2 67 x) := fun x hx => by
      rw [aJ_at (by decide) rfl hx (by decide), ns.1]
    have gi : rs_aI s 68 (Int32.ofNat i) = some (sB.2.1 68 i) := by
      rw [aI_at (by decide) rfl hi (by decide), ns.1]
    have sj : Int32.ofNat j + 1 = Int32.ofNat (j + 1) := of_add j 1
    by_cases c : sB.2.2 67 j = sB.2.2 67 i
    · obtain ⟨s2, n1, n2, _, n3⟩ := r_noteF (w := w) (k := k) p 2 (sB.2.1 68 i) (by decide)
      obtain ⟨s3, r1, r2, r3⟩ := ih (j + 1) N s2 _ (by omega) (by omega) (nJF_trans ns n2) n3
      refine ⟨s3, ?_, nJF_trans n2 r2, mn_ext (fun u v => ?_) r3⟩
      · rw [s326_103]
        refine inq ge (bsq (gj j (by omega)) (bsq (gj i hi) (inq ?_ (bsq gi (bsq (a := s2) (by rw [n1]; rfl) ?_)))))
        · rw [lg_ne]
          simp [c]
        · unfold s326_135
          rw [sj]
          exact r1
      · constructor
        · rintro ((z | ⟨z1, z2⟩) | ⟨⟨j', z1, z2, z3⟩, z4⟩)
          · exact Or.inl z
          · exact Or.inr ⟨⟨j, by omega, by omega, c⟩, z1, z2⟩
          · exact Or.inr ⟨⟨j', by omega, z2, z3⟩, z4⟩
        · rintro (z | ⟨_, z1, z2⟩)
          · exact Or.inl (Or.inl z)
          · exact Or.inl (Or.inr ⟨z1, z2⟩)
    · obtain ⟨s3, r1, r2, r3⟩ := ih (j + 1) N s _ (by omega) (by omega) ns p
      refine ⟨s3, ?_, r2, mn_ext (fun u v => ?_) r3⟩
      · rw [s326_103]
        refine inq ge (bsq (gj j (by omega)) (bsq (gj i hi) (itq ?_ ?_)))
        · rw [lg_ne]
          simp [c]
        · unfold s326_135
          rw [sj]
          exact r1
      · constructor
        · rintro (z | ⟨⟨j', z1, z2, z3⟩, z4⟩)
          · exact Or.inl z
          · exact Or.inr ⟨⟨j', by omega, z2, z3⟩, z4⟩
        · rintro (z | ⟨⟨j', z1, z2, z3⟩, z4⟩)
          · exact Or.inl z
          · refine Or.inr ⟨⟨j', ?_, z2, z3⟩, z4⟩
            have : j' ≠ j := fun y => c (by rw [← y]; exact z3)
            omega
theorem r_in_m {K29 : Int32 → rS → Option rA} {KK : Int32 → Int32 → rS → Option rA} {i a : Nat} (hi : i < 72) (hw : 200 ≤ w) : ∀ (m j N : Nat) (s : rS) (S : Int32 → Int32 → Prop), j + m = i → m < N → nJF sB s → rmn S s → ∃ s', s326_177 (rM w (k + 1)) w K29 KK N (Int32.ofNat a) (Int32.ofNat i) (Int32.ofNat j) s = KK (Int32.ofNat a) (Int32.ofNat i + 1) s' ∧ nJF s s' ∧ rmn (fun u v => S u v ∨ rpS (sB.2.2 78) (sB.2.1 74) j i u v) s' := by
  intro m
  induction m with
  | zero =>
    intro j N s S e hN ns p
    obtain ⟨N, rfl⟩ : ∃ M, N = M + 1 := ⟨N - 1, by omega⟩
    refine ⟨s, ?_, nJF_refl, mn_ext (fun u v => ⟨Or.inl, fun z => ?_⟩) p⟩
    · rw [s326_177]
      refine itq ?_ rfl
      rw [f2_ge, of_int (by omega), of_int (by omega)]
      simp
      omega
    · rcases z with z | ⟨⟨j', z1, z2, _⟩, _⟩
      · exact z
      · omega
  | succ m ih =>
    intro j N s S e hN ns p
    obtain ⟨N, rfl⟩ : ∃ M, N = M + 1 := ⟨N - 1, by omega⟩
    have ge : ¬ mx_f2 .ge (Int32.ofNat j) (Int32.ofNat i) = true := by
      rw [f2_ge, of_int (by omega), of_int (by omega)]
      simp
      omega
    have gj : ∀ x, x < 72 → rs_aJ s 78 (Int32.ofNat x) = some (sB.2.2 78 x) := fun x hx => by
      rw [aJ_at (by decide) rfl hx (by decide), ns.1]
    have gi : rs_aI s 74 (Int32.ofNat i) = some (sB.2.1 74 i) := by
      rw [aI_at (by decide) rfl hi (by decide), ns.1]
    have sj : Int32.ofNat j + 1 = Int32.ofNat (j + 1) := of_add j 1
    by_cases c : sB.2.2 78 j = sB.2.2 78 i
    · obtain ⟨s2, n1, n2, _, n3⟩ := r_noteF (w := w) (k := k) p 2 (sB.2.1 74 i) (by decide)
      obtain ⟨s3, r1, r2, r3⟩ := ih (j + 1) N s2 _ (by omega) (by omega) (nJF_trans ns n2) n3
      refine ⟨s3, ?_, nJF_trans n2 r2, mn_ext (fun u v => ?_) r3⟩
      · rw [s326_177]
        refine inq ge (bsq (gj j (by omega)) (bsq (gj i hi) (inq ?_ (bsq gi (bsq (a := s2) (by rw [n1]; rfl) ?_)))))
        · rw [lg_ne]
          simp [c]
        · unfold s326_209
          rw [sj]
          exact r1
      · constructor
        · rintro ((z | ⟨z1, z2⟩) | ⟨⟨j', z1, z2, z3⟩, z4⟩)
          · exact Or.inl z
          · exact Or.inr ⟨⟨j, by omega, by omega, c⟩, z1, z2⟩
          · exact Or.inr ⟨⟨j', by omega, z2, z3⟩, z4⟩
        · rintro (z | ⟨_, z1, z2⟩)
          · exact Or.inl (Or.inl z)
          · exact Or.inl (Or.inr ⟨z1, z2⟩)
    · obtain ⟨s3, r1, r2, r3⟩ := ih (j + 1) N s _ (by omega) (by omega) ns p
      refine ⟨s3, ?_, r2, mn_ext (fun u v => ?_) r3⟩
      · rw [s326_177]
        refine inq ge (bsq (gj j (by omega)) (bsq (gj i hi) (itq ?_ ?_)))
        · rw [lg_ne]
          simp [c]
        · unfold s326_209
          rw [sj]
          exact r1
      · constructor
        · rintro (z | ⟨⟨j', z1, z2, z3⟩, z4⟩)
          · exact Or.inl z
          · exact Or.inr ⟨⟨j', by omega, z2, z3⟩, z4⟩
        · rintro (z | ⟨⟨j', z1, z2, z3⟩, z4⟩)
          · exact Or.inl z
          · refine Or.inr ⟨⟨j', ?_, z2, z3⟩, z4⟩
            have : j' ≠ j := fun y => c (by rw [← y]; exact z3)
            omega
end RP
section RL
variable {w k n nk : Nat} {s0 sB s s1 s2 : rS} {S T : Int32 → Int32 → Prop}
theorem r_lp_f {K29 : Int32 → rS → Option rA} {a b lo : Nat} (ha : a < 8) (hb : b ≤ 64) (e64 : sB.2.1 64 (a + 1) = Int32.ofNat b) (e0 : sB.2.1 64 a = Int32.ofNat lo) (hw : 200 ≤ w) : ∀ (m i N : Nat) (s : rS), i + m = b → lo ≤ i → m < N → nJF sB s → rmn (fun u v => S u v ∨ rpA (sB.2.2 67) (sB.2.1 68) lo i u v) s → ∃ s', s326_84 (rM w (k + 1)) w K29 N (Int32.ofNat a) (Int32.ofNat i) s = ((rs_aI s' 65 (Int32.ofNat a)).bind fun x4 => s326_156 (rM w (k + 1)) w K29 w (Int32.ofNat a) (x4 + 1) s') ∧ nJF s s' ∧ rmn (fun u v => S u v ∨ rpA (sB.2.2 67) (sB.2.1 68) lo b u v) s' := by
  intro m
  have g1 : ∀ s, nJF sB s → rs_aI s 64 (Int32.ofNat a + 1) = some (Int32.ofNat b) := fun s ns => by
    rw [show Int32.ofNat a + 1 = Int32.ofNat (a + 1) from of_add a 1, aI_at (by decide) rfl (by omega) (by decide), ns.1, e64]
  have g0 : ∀ s, nJF sB s → rs_aI s 64 (Int32.ofNat a) = some (Int32.ofNat lo) := fun s ns => by
    rw [aI_at (by decide) rfl (by omega) (by decide), ns.1, e0]
  induction m with
  | zero =>
    intro i N s e hlo hN ns p
    obtain ⟨N, rfl⟩ : ∃ M, N = M + 1 := ⟨N - 1, by omega⟩
    have ei : i = b := by omega
    subst ei
    refine ⟨s, ?_, nJF_refl, p⟩
    rw [s326_84]
    refine bsq (g1 s ns) (itq ?_ rfl)
    rw [f2_ge]
    simp
  | succ m ih =>
    intro i N s e hlo hN ns p
    obtain ⟨N, rfl⟩ : ∃ M, N = M + 1 := ⟨N - 1, by omega⟩
    have ge : ¬ mx_f2 .ge (Int32.ofNat i) (Int32.ofNat b) = true := by
      rw [f2_ge, of_int (by omega), of_int (by omega)]
      simp
      omega
    obtain ⟨s2, r1, r2, r3⟩ := r_in_f (w := w) (k := k) (sB := sB) (K29 := K29) (KK := s326_84 (rM w (k + 1)) w K29 N) (i := i) (a := a) (by omega) hw (i - lo) lo w s _ (by omega) (by omega) ns p
    obtain ⟨s3, q1, q2, q3⟩ := ih (i + 1) N s2 (by omega) (by omega) (by omega) (nJF_trans ns r2) (mn_ext (fun u v => by
      rw [rpA_s hlo]
      exact or_assoc) r3)
    refine ⟨s3, ?_, nJF_trans r2 q2, q3⟩
    rw [s326_84]
    refine bsq (g1 s ns) (inq ge (bsq (g0 s ns) ?_))
    rw [r1, show Int32.ofNat i + 1 = Int32.ofNat (i + 1) from of_add i 1]
    exact q1
theorem r_lp_m {K29 : Int32 → rS → Option rA} {a b lo l0 : Nat} (hl0 : lo = l0 + 1) (ha : a < 8) (hb : b ≤ 72) (e65 : sB.2.1 65 (a + 1) = Int32.ofNat b) (e0 : sB.2.1 65 a = Int32.ofNat l0) (hw : 200 ≤ w) : ∀ (m i N : Nat) (s : rS), i + m = b → lo ≤ i → m < N → nJF sB s → rmn (fun u v => S u v ∨ rpA (sB.2.2 78) (sB.2.1 74) lo i u v) s → ∃ s', s326_156 (rM w (k + 1)) w K29 N (Int32.ofNat a) (Int32.ofNat i) s = K29 (Int32.ofNat a + 1) s' ∧ nJF s s' ∧ rmn (fun u v => S u v ∨ rpA (sB.2.2 78) (sB.2.1 74) lo b u v) s' := by
  intro m
  have g1 : ∀ s, nJF sB s → rs_aI s 65 (Int32.ofNat a + 1) = some (Int32.ofNat b) := fun s ns => by
    rw [show Int32.ofNat a + 1 = Int32.ofNat (a + 1) from of_add a 1, aI_at (by decide) rfl (by omega) (by decide), ns.1, e65]
  have g0 : ∀ s, nJF sB s → rs_aI s 65 (Int32.ofNat a) = some (Int32.ofNat l0) := fun s ns => by
    rw [aI_at (by decide) rfl (by omega) (by decide), ns.1, e0]
  induction m with
  | zero =>
    intro i N s e hlo hN ns p
    obtain ⟨N, rfl⟩ : ∃ M, N = M + 1 := ⟨N - 1, by omega⟩
    have ei : i = b := by omega
    subst ei
    refine ⟨s, ?_, nJF_refl, p⟩
    rw [s326_156]
    refine bsq (g1 s ns) (itq ?_ rfl)
    rw [f2_ge]
    simp
  | succ m ih =>
    intro i N s e hlo hN ns p
    obtain ⟨N, rfl⟩ : ∃ M, N = M + 1 := ⟨N - 1, by omega⟩
    have ge : ¬ mx_f2 .ge (Int32.ofNat i) (Int32.ofNat b) = true := by
      rw [f2_ge, of_int (by omega), of_int (by omega)]
      simp
      omega
    obtain ⟨s2, r1, r2, r3⟩ := r_in_m (w := w) (k := k) (sB := sB) (K29 := K29) (KK := s326_156 (rM w (k + 1)) w K29 N) (i := i) (a := a) (by omega) hw (i - lo) lo w s _ (by omega) (by omega) ns p
    obtain ⟨s3, q1, q2, q3⟩ := ih (i + 1) N s2 (by omega) (by omega) (by omega) (nJF_trans ns r2) (mn_ext (fun u v => by
      rw [rpA_s hlo]
      exact or_assoc) r3)
    refine ⟨s3, ?_, nJF_trans r2 q2, q3⟩
    rw [s326_156]
    refine bsq (g1 s ns) (inq ge (bsq (g0 s ns) ?_))
    rw [show Int32.ofNat l0 + 1 = Int32.ofNat lo from by rw [hl0]; exact of_add l0 1]
    rw [r1, show Int32.ofNat i + 1 = Int32.ofNat (i + 1) from of_add i 1]
    exact q1
end RL
