/-! THE REFERENCE CUTS THE WHOLE TEXT. -/
section RC5
variable {w k : Nat}
theorem w_eq (s : rS) (j : Nat) (x : Int32) : (rs_w s j x).1 j = x := upd_eq _ _ _
theorem w_ne (s : rS) {j i : Nat} (x : Int32) (h : i ≠ j) : (rs_w s j x).1 i = s.1 i := upd_ne _ _ h
theorem rcF_1 (s : rS) (tok a len : Nat) (d sm : Bool) (v : Int32) (c : Int64) : (rcF s tok a len d sm v c).1 = s.1 := by
  unfold rcF
  repeat' split
  all_goals rfl
theorem rkT_1 (s : rS) (n tok a : Nat) : (rkT s n tok a).1 = s.1 := by
  unfold rkT
  split
  · rfl
  · split
    · rw [rcF_1]
      rfl
    · rfl
theorem rkN_b (g : Nat → Int32) (n a : Nat) (h : a < n) : 1 ≤ rkN g n a ∧ a + rkN g n a ≤ n := by
  have hb := lx_sk_ge g (n - a) a
  unfold rkN
  rw [if_neg (by omega)]
  split
  · rename_i l
    unfold lx_ln at l ⊢
    omega
  · split
    · rename_i e
      have e := of_decide_eq_true e
      omega
    · omega
theorem rkT_end (s : rS) (n tok : Nat) : (rkT s n tok n).2.1 40 tok = 0 := by
  unfold rkT
  rw [if_pos rfl]
  unfold rs_wA
  dsimp only
  rw [if_pos rfl, upd_eq]
theorem rc_loop {n : Nat} (hw : 2001 ≤ w) : ∀ (f a tok N : Nat) (s : rS), n < a + f → a ≤ n → tok ≤ a → f ≤ N → rG s n → s.1 5 = Int32.ofNat tok → s295_9 (rM w (k + 2)) w (N + 1) (Int32.ofNat a) 1 s = some (none, rC n f a tok s) := by
  intro f
  induction f with
  | zero => intro a tok N s h1 h2; omega
  | succ f ih =>
    intro a tok N s h1 h2 h3 h4 hG ht
    have hn := hG.1
    obtain ⟨N', rfl⟩ : ∃ N', N = N' + 1 := ⟨N - 1, by omega⟩
    have hb := lx_bl_le (s.2.1 38) n (n - a) a h2
    rw [rc_it hG ht (by omega) hw a (N' + 1) h2, rC]
    cases hm : rkM ((rkT s n tok (lx_bl (s.2.1 38) n (n - a) a)).2.1 40 tok) with
    | false =>
      rw [if_neg (show ¬ false = true from by decide), s295_9]
      exact if_pos (by decide)
    | true =>
      rw [if_pos (show true = true from rfl)]
      have hlt : lx_bl (s.2.1 38) n (n - a) a < n := by
        rcases Nat.lt_or_ge (lx_bl (s.2.1 38) n (n - a) a) n with z | z
        · exact z
        · exfalso
          have e : lx_bl (s.2.1 38) n (n - a) a = n := by omega
          rw [e, rkT_end] at hm
          exact absurd hm (by decide)
      have hN := rkN_b (s.2.1 38) n _ hlt
      refine ih _ (tok + 1) N' _ (by omega) (by omega) (by omega) (by omega) ⟨hn, ?_⟩ ?_
      · rw [w_ne _ _ (by decide), rkT_1]
        exact hG.2
      · exact w_eq _ _ _
/-- cut, as a function of the state -/
theorem rc_cut {n : Nat} {s : rS} (hG : rG s n) (hw : 2010 ≤ w) : rM w (k + 3) 295 [.ref 36] s = some (none, rC n (n + 1) 0 0 (rs_w s 5 0)) := by
  have hn := hG.1
  rw [y295]
  show s295_0 (rM w (k + 2)) w s = _
  unfold s295_0
  refine bse (a := rs_w s 5 0) (if_pos rfl) ?_
  obtain ⟨w', rfl⟩ : ∃ w', w = w' + 1 := ⟨w - 1, by omega⟩
  refine rc_loop (w := w' + 1) (k := k) (by omega) (n + 1) 0 0 w' (rs_w s 5 0) (by omega) (by omega) (by omega) (by omega) ⟨hn, ?_⟩ (w_eq _ _ _)
  rw [w_ne _ _ (by decide)]
  exact hG.2
end RC5
