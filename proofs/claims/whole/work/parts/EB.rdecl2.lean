/-! DECLARE, BY THE REFERENCE: the whole. -/
/-- all faults, by the reference: n types, gn nodes -/
def dSR (s : rS) (nk nm n gn : Nat) (u v : Int32) : Prop := ((((∃ y, y < n ∧ (dyK s nk y).2 = some (u, v)) ∨ ∃ j, j < nk ∧ kS s j u v) ∨ ∃ j, j < nm ∧ mS s nk j u v) ∨ ∃ i, (1 ≤ i ∧ i < gn ∧ s.2.1 44 i = 8) ∧ (mdK s nk i).2 = some (u, v)) ∨ maS s nk u v
section RE
variable {w k n nk nm gn m : Nat} {s0 sB s s1 s2 : rS} {S T : Int32 → Int32 → Prop}
/-- nodes below i are looked at -/
def maI (sB : rS) (nk : Nat) (S : Int32 → Int32 → Prop) (i : Nat) (s : rS) : Prop := eJ sB s ∧ rmn (fun u v => S u v ∨ ∃ j, (1 ≤ j ∧ j < i ∧ sB.2.1 44 j = 8) ∧ (mdK sB nk j).2 = some (u, v)) s ∧ (∀ j, 1 ≤ j → j < i → sB.2.1 44 j = 8 → s.2.1 53 j = kI (kF (sB.2.2 62) (sB.2.2 56 j) nk 0)) ∧ ∀ j, ¬ (1 ≤ j ∧ j < i ∧ sB.2.1 44 j = 8) → s.2.1 53 j = sB.2.1 53 j
theorem r_made_l (kw : kW sB nk) (e10 : sB.1 10 = Int32.ofNat gn) (hg : gn ≤ 4000) (hw : 500 ≤ w) : ∀ (m i N : Nat) (s : rS), i + m = gn → 1 ≤ i → m < N → maI sB nk S i s → ∃ s' N', s326_250 (rM w (k + 3)) w N (Int32.ofNat i) s = s326_250 (rM w (k + 3)) w (N' + 1) (Int32.ofNat gn) s' ∧ maI sB nk S gn s' := by
  intro m
  obtain ⟨k1, k2, k3⟩ := kw
  induction m with
  | zero =>
    intro i N s e hi hN t
    obtain ⟨N, rfl⟩ : ∃ M, N = M + 1 := ⟨N - 1, by omega⟩
    have ei : i = gn := by omega
    subst ei
    exact ⟨s, N, rfl, t⟩
  | succ m ih =>
    intro i N s e hi hN t
    obtain ⟨N, rfl⟩ : ∃ M, N = M + 1 := ⟨N - 1, by omega⟩
    obtain ⟨t1, t2, t3, t4⟩ := t
    have ge : ¬ mx_f2 .ge (Int32.ofNat i) (s.1 10) = true := by
      rw [t1.1 10 (by decide) (by decide), e10, f2_ge, of_int (by omega), of_int (by omega)]
      simp
      omega
    have row : ∀ (s1 : rS) (p : Nat), eJ sB s1 → (37 ≤ p ∧ p ≤ 114) → rs_t p = (0, 4400, false) → p ≠ 53 → rs_aI s1 p (Int32.ofNat i) = some (sB.2.1 p i) := fun s1 p n1 h1 h2 h3 => by
      rw [aI_at h1 h2 (by omega) (by decide), n1.2.1 p h3]
    have g44 := row s 44 t1 (by decide) rfl (by decide)
    have si : Int32.ofNat i + 1 = Int32.ofNat (i + 1) := of_add i 1
    by_cases c8 : sB.2.1 44 i = 8
    · have g56 : rs_aJ s 56 (Int32.ofNat i) = some (sB.2.2 56 i) := by rw [aJ_at (by decide) rfl (show i < 4400 by omega) (by decide), t1.2.2]
      have fn := r_find (w := w) (k := k + 2) (c := sB.2.2 56 i) ((t1.1 32 (by decide) (by decide)).trans k1) k2 (by omega)
      rw [t1.2.2] at fn
      have e8 : mx_f2 .eq (sB.2.1 44 i) 8 = true := by rw [c8]; decide
      -- the row is written
      have fin : ∀ (s3 : rS) (x : Int32), nJF s s3 → rmn (fun u v => (S u v ∨ ∃ j, (1 ≤ j ∧ j < i ∧ sB.2.1 44 j = 8) ∧ (mdK sB nk j).2 = some (u, v)) ∨ (mdK sB nk i).2 = some (u, v)) s3 → x = kI (kF (sB.2.2 62) (sB.2.2 56 i) nk 0) → s326_250 (rM w (k + 3)) w (N + 1) (Int32.ofNat i) s = s326_332 (rM w (k + 3)) w (s326_250 (rM w (k + 3)) w N) (Int32.ofNat i) x s3 → ∃ s' N', s326_250 (rM w (k + 3)) w (N + 1) (Int32.ofNat i) s = s326_250 (rM w (k + 3)) w (N' + 1) (Int32.ofNat gn) s' ∧ maI sB nk S gn s' := by
        intro s3 x n3 p3 hx ee
        have st := sI_at (s := s3) (p := 53) (n := 4400) (i := i) (x := x) (by decide) rfl (by omega) (by decide)
        have wd : eJ s3 (rs_wA s3 53 i x) := ⟨fun _ _ _ => rfl, fun p h2 => wA_ne _ _ _ h2, rfl⟩
        obtain ⟨s', N', q1, q2⟩ := ih (i + 1) N (rs_wA s3 53 i x) (by omega) (by omega) (by omega) ⟨eJ_trans t1 (eJ_trans (nJF_eJ n3) wd), mn_ext (fun u v => by
          constructor
          · rintro ((z | ⟨j, ⟨z1, z2, z3⟩, z4⟩) | z)
            · exact Or.inl z
            · exact Or.inr ⟨j, ⟨z1, by omega, z3⟩, z4⟩
            · exact Or.inr ⟨i, ⟨hi, by omega, c8⟩, z⟩
          · rintro (z | ⟨j, ⟨z1, z2, z3⟩, z4⟩)
            · exact Or.inl (Or.inl z)
            · by_cases z : j = i
              · rw [z] at z4
                exact Or.inr z4
              · exact Or.inl (Or.inr ⟨j, ⟨z1, by omega, z3⟩, z4⟩)) (show rmn _ (rs_wA s3 53 i x) from p3), fun j h1 h2 h3 => by
          rw [wA_get]
          by_cases z : j = i
          · rw [if_pos ⟨rfl, z⟩, z]
            exact hx
          · rw [if_neg (fun q => z q.2), n3.1]
            exact t3 j h1 (by omega) h3, fun j hj => by
          rw [wA_get, if_neg (fun q => hj (by rw [q.2]; exact ⟨hi, by omega, c8⟩)), n3.1]
          exact t4 j (fun q => hj ⟨q.1, by omega, q.2.2⟩)⟩
        refine ⟨s', N', ee.trans ?_, q2⟩
        unfold s326_332
        refine bsq st ?_
        unfold s326_339
        rw [si]
        exact q1
      have same : (mdK sB nk i).2 = none → rmn (fun u v => (S u v ∨ ∃ j, (1 ≤ j ∧ j < i ∧ sB.2.1 44 j = 8) ∧ (mdK sB nk j).2 = some (u, v)) ∨ (mdK sB nk i).2 = some (u, v)) s := fun z => mn_skip t2 (fun u v q => by rw [z] at q; cases q)
      have note : ∀ x y : Int32, (mdK sB nk i).2 = some (x, y) → 0 < x.toInt → ∃ s3, (rM w (k + 3) 329 [.ref 36, .int x, .int y] s).bind rxV = some s3 ∧ nJF s s3 ∧ rmn (fun u v => (S u v ∨ ∃ j, (1 ≤ j ∧ j < i ∧ sB.2.1 44 j = 8) ∧ (mdK sB nk j).2 = some (u, v)) ∨ (mdK sB nk i).2 = some (u, v)) s3 := by
        intro x y e hx
        obtain ⟨s3, w1, w2, _, w3⟩ := r_noteF (w := w) (k := k + 2) t2 x y hx
        refine ⟨s3, by rw [w1]; rfl, w2, mn_ext (fun u v => ?_) w3⟩
        rw [e]
        constructor
        · rintro (z | ⟨z1, z2⟩)
          · exact Or.inl z
          · exact Or.inr (by rw [z1, z2])
        · rintro (z | z)
          · exact Or.inl z
          · cases z
            exact Or.inr ⟨rfl, rfl⟩
      have hmd : mdK sB nk i = mdK sB nk i := rfl
      rw [show mdK sB nk i = dkF sB nk 1 (some (sB.2.2 56 i)) (sB.2.1 54 i) (sB.2.1 55 i) (sB.2.1 51 i) from rfl] at same note fin
      unfold dkF at same note fin
      dsimp only at same note fin
      have g54 := row s 54 t1 (by decide) rfl (by decide)
      have g55 := row s 55 t1 (by decide) rfl (by decide)
      have g51 := row s 51 t1 (by decide) rfl (by decide)
      generalize hkf : kF (sB.2.2 62) (sB.2.2 56 i) nk 0 = kf at fn same note fin
      cases kf with
      | none =>
        dsimp only at same note fin
        obtain ⟨s3, w1, w2, w3⟩ := note 3 (sB.2.1 51 i) rfl (by decide)
        refine fin s3 _ w2 w3 rfl ?_
        rw [s326_250]
        exact inq ge (bsq g44 (itq e8 (bsq g56 (bsq (a := (kI none, s)) (by rw [fn]; rfl) (inq (show ¬ mx_f2 .ne (kI none) (-1) = true by decide) (bsq g51 (bsq w1 rfl)))))))
      | some kk =>
        obtain ⟨_, kk2, _, _⟩ := kF_some hkf
        have kk8 : kk < 8 := by omega
        have o66 : rs_aB s 66 (Int32.ofNat kk) = some (sB.2.1 66 kk) := by rw [aB_at (by decide) rfl kk8 (by decide), t1.2.1 66 (by decide)]
        have nm1 : mx_f2 .ne (kI (some kk)) (-1) = true := by rw [f2_ne]; exact decide_eq_true (kI_ne kk8)
        dsimp only at same note fin
        rcases k3 kk (by omega) with ac | ac
        · rw [if_pos ac] at same note
          have nn2 : (if sB.2.1 54 i = -1 then (if (1 : Int32) = 0 then ((0 : Int32), some ((4 : Int32), sB.2.1 51 i)) else (tO 5 (Int32.ofNat kk) 2, none)) else (tO 5 (Int32.ofNat kk) (sB.2.1 54 i), none)).2 = none := by
            split
            · rw [if_neg (by decide)]
            · rfl
          refine fin s _ nJF_refl (by rw [if_pos ac]; exact same nn2) rfl ?_
          rw [s326_250]
          exact inq ge (bsq g44 (itq e8 (bsq g56 (bsq (a := (kI (some kk), s)) (by rw [fn]; rfl) (itq nm1 (bsq o66 (itq (by rw [ac]; decide) rfl)))))))
        · have an : ¬ sB.2.1 66 kk = 0 := by rw [ac]; decide
          have ne0 : ¬ mx_f1 .eq (sB.2.1 66 kk) = true := by rw [ac]; decide
          rw [if_neg an] at same note
          by_cases q1 : sB.2.1 54 i = -1
          · rw [if_pos q1] at same
            refine fin s _ nJF_refl (by rw [if_neg an, if_pos q1]; exact same rfl) rfl ?_
            rw [s326_250]
            exact inq ge (bsq g44 (itq e8 (bsq g56 (bsq (a := (kI (some kk), s)) (by rw [fn]; rfl) (itq nm1 (bsq o66 (inq ne0 (bsq g54 (itq (by rw [q1]; decide) rfl)))))))))
          · rw [if_neg q1] at note
            obtain ⟨s3, w1, w2, w3⟩ := note 4 (sB.2.1 55 i) rfl (by decide)
            refine fin s3 _ w2 (by rw [if_neg an, if_neg q1]; exact w3) rfl ?_
            rw [s326_250]
            exact inq ge (bsq g44 (itq e8 (bsq g56 (bsq (a := (kI (some kk), s)) (by rw [fn]; rfl) (itq nm1 (bsq o66 (inq ne0 (bsq g54 (inq (by rw [f2_eqd]; exact fun z => q1 (of_decide_eq_true z)) (bsq g55 (bsq w1 rfl)))))))))))
    · obtain ⟨s', N', q1, q2⟩ := ih (i + 1) N s (by omega) (by omega) (by omega) ⟨t1, mn_ext (fun u v => by
        constructor
        · rintro (z | ⟨j, ⟨z1, z2, z3⟩, z4⟩)
          · exact Or.inl z
          · exact Or.inr ⟨j, ⟨z1, by omega, z3⟩, z4⟩
        · rintro (z | ⟨j, ⟨z1, z2, z3⟩, z4⟩)
          · exact Or.inl z
          · refine Or.inr ⟨j, ⟨z1, ?_, z3⟩, z4⟩
            have : j ≠ i := fun y => c8 (by rw [← y]; exact z3)
            omega) t2, fun j h1 h2 h3 => t3 j h1 (by
          have : j ≠ i := fun y => c8 (by rw [← y]; exact h3)
          omega) h3, fun j hj => t4 j (fun q => hj ⟨q.1, by omega, q.2.2⟩)⟩
      refine ⟨s', N', ?_, q2⟩
      rw [s326_250]
      refine inq ge (bsq g44 (inq ?_ ?_))
      · rw [f2_eqd]
        exact fun z => c8 (of_decide_eq_true z)
      · unfold s326_339
        rw [si]
        exact q1
end RE
