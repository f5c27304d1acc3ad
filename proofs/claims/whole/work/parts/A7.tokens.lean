/-! TOKENS ALIKE: what the class and the reference say of the token that begins at b. -/
def TR (s : rS) (g : Nat → Int32) (n tok b : Nat) (T : Int32) : Prop :=
  (T = 1 ∧ s.2.1 40 tok = 6) ∨ (T = 2 ∧ s.2.1 40 tok = 1 ∧ s.2.2 43 tok = rcC g (lx_ln g n b) b 0) ∨ (T = 3 ∧ s.2.1 40 tok = 3 ∧ s.2.2 43 tok = rcC g (lx_ln g n b) b 0) ∨ (T = 4 ∧ s.2.1 40 tok = 4 ∧ s.2.1 42 tok = rcV g false (lx_ln g n b) b 0) ∨ (∃ j, j < 14 ∧ T = 5 + Int32.ofNat j ∧ s.2.1 40 tok = 5 ∧ s.2.1 42 tok = sgB j) ∨ (T = 19 ∧ s.2.1 40 tok = 5 ∧ s.2.1 42 tok = 256) ∨ (∃ j, j < 24 ∧ T = Int32.ofNat (pmK j) ∧ s.2.1 40 tok = 2 ∧ s.2.1 42 tok = Int32.ofNat j)
theorem lx_sk_al (g : Nat → Int32) : ∀ (f k j : Nat), k ≤ j → j < lx_sk g f k → rd_al (g j) = true := by
  intro f
  induction f with
  | zero => intro k j h1 h2; rw [lx_sk] at h2; omega
  | succ f ih =>
    intro k j h1 h2
    rw [lx_sk] at h2
    split at h2
    · rename_i a
      by_cases e : j = k
      · rw [e]; exact a
      · exact ih (k + 1) j (by omega) h2
    · omega
theorem al_ge (x : Int32) (h : rd_al x = true) : 48 ≤ x.toInt ∧ x.toInt ≤ 122 := by
  have := of_decide_eq_true h
  omega
theorem row_chs (g : Nat → Int32) (n b : Nat) : chs g b (lx_ln g n b) := by
  intro j hj
  have := al_ge _ (lx_sk_al g (n - b) b (b + j) (by omega) (by unfold lx_ln at hj; omega))
  omega
theorem en_N (g : Nat → Int32) (n b : Nat) (hb : b < n) : lx_en g n b = b + rkN g n b := by
  have h := lx_sk_ge g (n - b) b
  unfold lx_en rkN
  rw [if_neg (show ¬ b = n by omega)]
  by_cases l : b < lx_sk g (n - b) b
  · rw [if_pos l, if_pos (show 0 < lx_ln g n b by unfold lx_ln; omega)]
    unfold lx_ln
    omega
  · rw [if_neg l, if_neg (show ¬ 0 < lx_ln g n b by unfold lx_ln; omega)]
    by_cases e : g b = 61 ∧ b + 1 < n ∧ g (b + 1) = 61
    · rw [if_pos e, if_pos (show is_eq g n b = true from decide_eq_true e)]
    · rw [if_neg e, if_neg (show ¬ is_eq g n b = true from fun z => e (of_decide_eq_true z))]
theorem ln_al (g : Nat → Int32) (n b : Nat) (hb : b < n) : rd_al (g b) = decide (0 < lx_ln g n b) := by
  have h := lx_sk_ge g (n - b) b
  unfold lx_ln
  obtain ⟨m, hm⟩ : ∃ m, n - b = m + 1 := ⟨n - b - 1, by omega⟩
  rw [hm, lx_sk]
  have h2 := lx_sk_ge g m (b + 1)
  cases hq : rd_al (g b) with
  | true =>
    rw [if_pos (show true = true from rfl), decide_eq_true]
    omega
  | false =>
    rw [if_neg (show ¬ false = true from by decide), decide_eq_false]
    omega
theorem sg_tab : ∀ d : Nat, d ≤ 255 → (sgS (Int8.toInt32 (Int32.toInt8 (Int32.ofNat d))) sgN 0 = -1 ∧ is_sg (Int32.ofNat d) = false) ∨ ∃ j, j < 14 ∧ sgS (Int8.toInt32 (Int32.toInt8 (Int32.ofNat d))) sgN 0 = Int32.ofNat j ∧ is_sg (Int32.ofNat d) = true ∧ sgB j = Int32.ofNat d := by decide +kernel
section TK
variable {s : rS}
theorem wA_eq (s : rS) (p j : Nat) (x : Int32) : (rs_wA s p j x).2.1 p j = x := by
  unfold rs_wA
  dsimp only
  rw [if_pos rfl, upd_eq]
theorem wB_eq (s : rS) (p j : Nat) (x : Int64) : (rs_wB s p j x).2.2 p j = x := by
  unfold rs_wB
  dsimp only
  rw [if_pos rfl]
  exact if_pos rfl
theorem wA_2 (s : rS) (p j : Nat) (x : Int32) : (rs_wA s p j x).2.2 = s.2.2 := rfl
theorem wB_1 (s : rS) (p j : Nat) (x : Int64) : (rs_wB s p j x).2.1 = s.2.1 := rfl
theorem rk0_38 (tok a : Nat) : (rk0 s tok a).2.1 38 = s.2.1 38 := by
  unfold rk0
  rw [wB_1, wA_ne _ _ _ (by decide), wA_ne _ _ _ (by decide)]
theorem rk0_39 (tok a : Nat) : (rk0 s tok a).2.2 39 = s.2.2 39 := by
  unfold rk0
  rw [wB_ne _ _ _ (by decide)]
  rfl
theorem tk_rel (n tok b : Nat) (hb : b < n) (hw : wdR (s.2.2 39)) (hc : ∀ i, i < n → 0 ≤ (s.2.1 38 i).toInt ∧ (s.2.1 38 i).toInt ≤ 255) : TR (rkT s n tok b) (s.2.1 38) n tok b (tkF (s.2.1 38) n b) := by
  have hN := en_N (s.2.1 38) n b hb
  have hal := ln_al (s.2.1 38) n b hb
  have hsk := lx_sk_ge (s.2.1 38) (n - b) b
  unfold tkF rkT
  rw [if_neg (show ¬ b = n by omega), hal, hN]
  by_cases l : 0 < lx_ln (s.2.1 38) n b
  · rw [if_pos l, if_pos (decide_eq_true l)]
    have eN : rkN (s.2.1 38) n b = lx_ln (s.2.1 38) n b := by unfold rkN; rw [if_neg (show ¬ b = n by omega), if_pos l]
    rw [eN]
    unfold rowT rowF rcF
    rw [show b + lx_ln (s.2.1 38) n b - b = lx_ln (s.2.1 38) n b from by omega, rk0_38, rk0_39]
    generalize hlen : lx_ln (s.2.1 38) n b = len at *
    cases hd : allD (s.2.1 38) b len with
    | true =>
      rw [if_pos (show true = true from rfl), if_pos (show true = true from rfl)]
      by_cases c : 9 < len
      · left
        rw [if_pos c, if_pos (show 10 ≤ len by omega)]
        exact ⟨rfl, by rw [wA_ne _ _ _ (by decide), wA_eq]⟩
      · right; right; right; left
        rw [if_neg c, if_neg (show ¬ 10 ≤ len by omega)]
        refine ⟨rfl, by rw [wA_ne _ _ _ (by decide), wA_eq], ?_⟩
        rw [wA_eq, hlen, decide_eq_false (show ¬ 10 ≤ len by omega)]
    | false =>
      rw [if_neg (show ¬ false = true from by decide), if_neg (show ¬ false = true from by decide)]
      cases hdg : is_dig (s.2.1 38 b) with
      | true =>
        left
        rw [if_pos (show true = true from rfl), if_pos (Or.inr rfl)]
        exact ⟨rfl, wA_eq _ _ _ _⟩
      | false =>
        rw [if_neg (show ¬ false = true from by decide)]
        by_cases c8 : len ≤ 8
        · rw [if_pos c8, if_neg (show ¬ (8 < len ∨ false = true) from fun z => by rcases z with z | z; omega; cases z)]
          cases hg : is_gr (s.2.1 38 b) with
          | true =>
            right; right; left
            rw [if_pos (show true = true from rfl), if_pos (show true = true from rfl)]
            refine ⟨rfl, wA_eq _ _ _ _, ?_⟩
            rw [wA_2, wB_eq, hlen]
          | false =>
            rw [if_neg (show ¬ false = true from by decide), if_neg (show ¬ false = true from by decide)]
            cases hu : anyG (s.2.1 38) b len with
            | true =>
              left
              rw [if_pos (show true = true from rfl), if_neg (show ¬ (!true) = true from by decide)]
              exact ⟨rfl, by rw [wB_1, wA_eq]⟩
            | false =>
              rw [if_neg (show ¬ false = true from by decide), if_pos (show (!false) = true from rfl)]
              have hch := row_chs (s.2.1 38) n b
              rw [hlen] at hch
              rw [kw_both (s.2.1 38) (s.2.2 39) b len c8 hch hw]
              have hk := kwI_ge (s.2.2 39) (rcC (s.2.1 38) len b 0) 24 0
              generalize kwI (s.2.2 39) (rcC (s.2.1 38) len b 0) 24 0 = j at hk ⊢
              by_cases j24 : 24 ≤ j
              · right; left
                rw [if_pos j24]
                have : j = 24 := by omega
                subst this
                refine ⟨rfl, by rw [wA_ne _ _ _ (by decide), wA_eq], ?_⟩
                rw [wA_2, wA_2, wB_eq, hlen]
              · right; right; right; right; right; right
                rw [if_neg j24]
                exact ⟨j, by omega, rfl, by rw [wA_ne _ _ _ (by decide), wA_eq], wA_eq _ _ _ _⟩
        · left
          rw [if_neg c8, if_pos (Or.inl (by omega))]
          exact ⟨rfl, wA_eq _ _ _ _⟩
  · rw [if_neg l, if_neg (show ¬ decide (0 < lx_ln (s.2.1 38) n b) = true from fun z => l (of_decide_eq_true z))]
    have eN : rkN (s.2.1 38) n b = if is_eq (s.2.1 38) n b = true then 2 else 1 := by unfold rkN; rw [if_neg (show ¬ b = n by omega), if_neg l]
    rw [eN]
    unfold sgT
    have h255 := hc b hb
    have tab := sg_tab (s.2.1 38 b).toInt.toNat (by omega)
    rw [← of_toNat (s.2.1 38 b) h255.1 h255.2] at tab
    cases hq : is_eq (s.2.1 38) n b with
    | true =>
      have hq2 := of_decide_eq_true hq
      right; right; right; right; right; left
      rw [if_pos (show true = true from rfl), if_pos (show b + 2 - b = 2 by omega), if_pos (show true = true from rfl), show is_sg (s.2.1 38 b) = true from by rw [hq2.1]; decide, if_pos (show true = true from rfl)]
      exact ⟨rfl, by rw [wA_ne _ _ _ (by decide), wA_eq], wA_eq _ _ _ _⟩
    | false =>
      rw [if_neg (show ¬ false = true from by decide), if_neg (show ¬ false = true from by decide), if_neg (show ¬ b + 1 - b = 2 by omega)]
      rcases tab with ⟨e1, e2⟩ | ⟨j, hj, e1, e2, e3⟩
      · left
        rw [e1, e2, if_neg (show ¬ 0 ≤ (-1 : Int32).toInt from by decide), if_neg (show ¬ false = true from by decide)]
        exact ⟨rfl, by rw [wA_ne _ _ _ (by decide), wA_eq]⟩
      · right; right; right; right; left
        rw [e1, e2, if_pos (show 0 ≤ (Int32.ofNat j).toInt by rw [of_int (by omega)]; omega), if_pos (show true = true from rfl)]
        exact ⟨j, hj, rfl, by rw [wA_ne _ _ _ (by decide), wA_eq], by rw [wA_eq, e3]⟩
end TK
