/-! ALL TOKENS ALIKE: the reference's rows. -/
theorem TR_1 {s : rS} {g : Nat → Int32} {n tok b : Nat} {T : Int32} (h : TR s g n tok b T) : (T = 1 ↔ s.2.1 40 tok = 6) ∧ ¬ s.2.1 40 tok = 0 := by
  have n14 : ∀ j, j < 14 → ¬ (5 + Int32.ofNat j = 1) := by decide +kernel
  have n24 : ∀ j, j < 24 → ¬ (Int32.ofNat (pmK j) = 1) := by decide +kernel
  rcases h with ⟨a, b⟩ | ⟨a, b, _⟩ | ⟨a, b, _⟩ | ⟨a, b, _⟩ | ⟨j, hj, a, b, _⟩ | ⟨a, b, _⟩ | ⟨j, hj, a, b, _⟩
  · rw [a, b]; exact ⟨⟨fun _ => rfl, fun _ => rfl⟩, by decide⟩
  · rw [a, b]; exact ⟨⟨fun z => absurd z (by decide), fun z => absurd z (by decide)⟩, by decide⟩
  · rw [a, b]; exact ⟨⟨fun z => absurd z (by decide), fun z => absurd z (by decide)⟩, by decide⟩
  · rw [a, b]; exact ⟨⟨fun z => absurd z (by decide), fun z => absurd z (by decide)⟩, by decide⟩
  · rw [a, b]; exact ⟨⟨fun z => absurd z (n14 j hj), fun z => absurd z (by decide)⟩, by decide⟩
  · rw [a, b]; exact ⟨⟨fun z => absurd z (by decide), fun z => absurd z (by decide)⟩, by decide⟩
  · rw [a, b]; exact ⟨⟨fun z => absurd z (n24 j hj), fun z => absurd z (by decide)⟩, by decide⟩
theorem TR_c {s s2 : rS} {g : Nat → Int32} {n tok b : Nat} {T : Int32} (h : TR s g n tok b T) (h1 : s2.2.1 40 tok = s.2.1 40 tok) (h2 : s2.2.1 42 tok = s.2.1 42 tok) (h3 : s2.2.2 43 tok = s.2.2 43 tok) : TR s2 g n tok b T := by
  unfold TR
  rw [h1, h2, h3]
  exact h
theorem rk0_41 (s : rS) (tok a : Nat) : (rk0 s tok a).2.1 41 tok = Int32.ofNat a := by
  unfold rk0
  rw [wB_1, wA_ne _ _ _ (by decide), wA_eq]
theorem rcF_41 (s : rS) (tok a len : Nat) (d sm : Bool) (v : Int32) (c : Int64) : (rcF s tok a len d sm v c).2.1 41 = s.2.1 41 := by
  unfold rcF
  split
  · rw [wA_ne _ _ _ (by decide), wA_ne _ _ _ (by decide), wA_ne _ _ _ (by decide)]
  · split
    · rw [wA_ne _ _ _ (by decide)]
    · split
      · rw [wA_ne _ _ _ (by decide), wB_1, wA_ne _ _ _ (by decide)]
      · split
        · rw [wA_ne _ _ _ (by decide), wA_ne _ _ _ (by decide), wB_1, wA_ne _ _ _ (by decide)]
        · rw [wB_1, wA_ne _ _ _ (by decide)]
theorem rkT_41 (s : rS) (n tok a : Nat) : (rkT s n tok a).2.1 41 tok = Int32.ofNat a := by
  unfold rkT
  split
  · rw [wA_ne _ _ _ (by decide), rk0_41]
  · split
    · rw [rcF_41, rk0_41]
    · rw [wA_ne _ _ _ (by decide), wA_ne _ _ _ (by decide), rk0_41]
/-- the reference's rows hold these begins, up to the first that is bad -/
def rRows (g : Nat → Int32) (n tok : Nat) (l : List Nat) (s : rS) : Prop := ∃ m, m ≤ l.length ∧ s.1 5 = Int32.ofNat (tok + m + 1) ∧ (∀ i b, i < m → l[i]? = some b → s.2.1 41 (tok + i) = Int32.ofNat b ∧ TR s g n (tok + i) b (tkF g n b) ∧ ¬ tkF g n b = 1) ∧ ((m = l.length ∧ s.2.1 40 (tok + m) = 0 ∧ s.2.1 41 (tok + m) = Int32.ofNat n) ∨ ∃ b, l[m]? = some b ∧ tkF g n b = 1 ∧ s.2.1 40 (tok + m) = 6 ∧ s.2.1 41 (tok + m) = Int32.ofNat b)
theorem rC_tb (n : Nat) (g : Nat → Int32) (hc : ∀ i, i < n → 0 ≤ (g i).toInt ∧ (g i).toInt ≤ 255) : ∀ (f a tok : Nat) (s : rS), n < a + f → a ≤ n → s.2.1 38 = g → wdR (s.2.2 39) → rRows g n tok (tb g n f a) (rC n f a tok s) := by
  intro f
  induction f with
  | zero => intro a tok s h1 h2; omega
  | succ f ih =>
    intro a tok s h1 h2 hg hw
    have hb := lx_bl_le g n (n - a) a h2
    rw [rC, tb, hg]
    generalize ea : lx_bl g n (n - a) a = a1 at hb ⊢
    by_cases c : a1 = n
    · subst c
      rw [if_pos rfl]
      have z := rkT_end s a1 tok
      rw [z, if_neg (show ¬ rkM 0 = true from by decide)]
      refine ⟨0, Nat.le_refl _, w_eq _ _ _, fun i b hi => absurd hi (by omega), Or.inl ⟨rfl, z, ?_⟩⟩
      exact rkT_41 s a1 tok a1
    · rw [if_neg c]
      have hlt : a1 < n := by omega
      have tr := tk_rel (s := s) n tok a1 hlt hw (by rw [hg]; exact hc)
      rw [hg] at tr
      obtain ⟨t1, t2⟩ := TR_1 tr
      have p41 := rkT_41 s n tok a1
      by_cases six : (rkT s n tok a1).2.1 40 tok = 6
      · rw [if_neg (show ¬ rkM ((rkT s n tok a1).2.1 40 tok) = true by rw [six]; decide)]
        refine ⟨0, Nat.zero_le _, w_eq _ _ _, fun i b hi => absurd hi (by omega), Or.inr ⟨a1, rfl, t1.mpr six, six, p41⟩⟩
      · rw [if_pos (show rkM ((rkT s n tok a1).2.1 40 tok) = true from decide_eq_true ⟨t2, six⟩), ← en_N g n a1 hlt]
        have he := lx_en_gt g n a1 hlt
        have f1 := fT_trans (fT_rkT s n tok a1) (fT_w (rkT s n tok a1) tok (Int32.ofNat (tok + 1))) (Nat.le_refl _)
        have g1 : (rs_w (rkT s n tok a1) 5 (Int32.ofNat (tok + 1))).2.1 38 = g := by
          rw [← hg]
          funext j
          exact f1.2.1 38 j (Or.inl (by decide))
        have w1 : wdR ((rs_w (rkT s n tok a1) 5 (Int32.ofNat (tok + 1))).2.2 39) := by
          have e : (rs_w (rkT s n tok a1) 5 (Int32.ofNat (tok + 1))).2.2 39 = s.2.2 39 := by
            funext j
            exact f1.2.2 39 j (Or.inl (by decide))
          rw [e]
          exact hw
        obtain ⟨m, m1, m2, m3, m4⟩ := ih (lx_en g n a1) (tok + 1) (rs_w (rkT s n tok a1) 5 (Int32.ofNat (tok + 1))) (by omega) (by omega) g1 w1
        have f2 := fT_rC n f (lx_en g n a1) (tok + 1) (rs_w (rkT s n tok a1) 5 (Int32.ofNat (tok + 1)))
        refine ⟨m + 1, by rw [List.length_cons]; omega, by rw [m2]; congr 1; omega, ?_, ?_⟩
        · intro i b hi hl
          cases i with
          | zero =>
            have hl : some a1 = some b := hl
            cases hl
            refine ⟨?_, TR_c tr ?_ ?_ ?_, fun z => six (t1.mp z)⟩
            · exact (f2.2.1 41 tok (Or.inr (by omega))).trans p41
            · exact f2.2.1 40 tok (Or.inr (by omega))
            · exact f2.2.1 42 tok (Or.inr (by omega))
            · exact f2.2.2 43 tok (Or.inr (by omega))
          | succ i =>
            have := m3 i b (by omega) hl
            rw [show tok + 1 + i = tok + (i + 1) from by omega] at this
            exact this
        · rw [show tok + (m + 1) = tok + 1 + m from by omega]
          rcases m4 with ⟨q1, q2, q3⟩ | ⟨b, q1, q2, q3, q4⟩
          · exact Or.inl ⟨by rw [List.length_cons]; omega, q2, q3⟩
          · exact Or.inr ⟨b, q1, q2, q3, q4⟩
