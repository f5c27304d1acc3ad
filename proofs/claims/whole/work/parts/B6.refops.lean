/-! THE REFERENCE'S STEPS FROM TOKEN TO TOKEN: isSign, isWord, isCap, stop, takes, need, take; without a fault (q) and behind one (z). -/
/-- stopped at token t -/
def stS (s : rS) (t : Nat) : rS := rs_w (rs_w s 57 1) 58 (s.2.1 41 t)
section RO
variable {w k t : Nat} {s : rS}
theorem aT {p : Nat} (hp : p = 40 ∨ p = 41 ∨ p = 42) (ht : s.1 56 = Int32.ofNat t) (hl : t ≤ 2000) : rs_aI s p (s.1 56) = some (s.2.1 p t) := by
  rw [ht]
  rcases hp with e | e | e <;> subst e
  · exact aI_at (by omega) t40 (by omega) (by omega)
  · exact aI_at (by omega) t41 (by omega) (by omega)
  · exact aI_at (by omega) t42 (by omega) (by omega)
theorem aTi {p i : Nat} (hp : p = 40 ∨ p = 41 ∨ p = 42) (hl : i ≤ 2000) : rs_aI s p (Int32.ofNat i) = some (s.2.1 p i) := by
  rcases hp with e | e | e <;> subst e
  · exact aI_at (by omega) t40 (by omega) (by omega)
  · exact aI_at (by omega) t41 (by omega) (by omega)
  · exact aI_at (by omega) t42 (by omega) (by omega)
theorem aTn {i : Nat} (hl : i ≤ 2000) : rs_aJ s 43 (Int32.ofNat i) = some (s.2.2 43 i) := aJ_at (by omega) t43 (by omega) (by omega)
theorem ne0 (h0 : s.1 57 = 0) : ¬ mx_f1 .ne (s.1 57) = true := by rw [h0]; decide
theorem ne1 (h1 : s.1 57 = 1) : mx_f1 .ne (s.1 57) = true := by rw [h1]; decide
theorem le0 (h0 : s.1 57 = 0) : mx_f1 .le (s.1 57) = true := by rw [h0]; decide
theorem le1 (h1 : s.1 57 = 1) : ¬ mx_f1 .le (s.1 57) = true := by rw [h1]; decide
theorem q310 (c : Int32) (h0 : s.1 57 = 0) (ht : s.1 56 = Int32.ofNat t) (hl : t ≤ 2000) : rM w (k + 1) 310 [.ref 36, .int c] s = some (some (.int (rd_01 (decide (s.2.1 40 t = 5 ∧ s.2.1 42 t = c)))), s) := by
  rw [y310]
  show s310_0 (rM w k) w c s = _
  unfold s310_0
  refine ifn (ne0 h0) (bse (aT (by omega) ht hl) ?_)
  by_cases a : s.2.1 40 t = 5
  · refine ifn (by rw [f2_ne]; simp [a]) (bse (aT (by omega) ht hl) ?_)
    by_cases b : s.2.1 42 t = c
    · rw [decide_eq_true ⟨a, b⟩]
      exact ifn (by rw [f2_ne]; simp [b]) rfl
    · rw [decide_eq_false (fun z => b z.2)]
      exact ift (by rw [f2_ne]; simp [b]) rfl
  · rw [decide_eq_false (fun z => a z.1)]
    exact ift (by rw [f2_ne]; simp [a]) rfl
theorem z310 (c : Int32) (h1 : s.1 57 = 1) : rM w (k + 1) 310 [.ref 36, .int c] s = some (some (.int 0), s) := by
  rw [y310]
  show s310_0 (rM w k) w c s = _
  unfold s310_0
  exact ift (ne1 h1) rfl
theorem q303 (c : Int32) (h0 : s.1 57 = 0) (ht : s.1 56 = Int32.ofNat t) (hl : t ≤ 2000) : rM w (k + 1) 303 [.ref 36, .int c] s = some (some (.int (rd_01 (decide (s.2.1 40 t = 2 ∧ s.2.1 42 t = c)))), s) := by
  rw [y303]
  show s303_0 (rM w k) w c s = _
  unfold s303_0
  refine ifn (ne0 h0) (bse (aT (by omega) ht hl) ?_)
  by_cases a : s.2.1 40 t = 2
  · refine ifn (by rw [f2_ne]; simp [a]) (bse (aT (by omega) ht hl) ?_)
    by_cases b : s.2.1 42 t = c
    · rw [decide_eq_true ⟨a, b⟩]
      exact ifn (by rw [f2_ne]; simp [b]) rfl
    · rw [decide_eq_false (fun z => b z.2)]
      exact ift (by rw [f2_ne]; simp [b]) rfl
  · rw [decide_eq_false (fun z => a z.1)]
    exact ift (by rw [f2_ne]; simp [a]) rfl
theorem z303 (c : Int32) (h1 : s.1 57 = 1) : rM w (k + 1) 303 [.ref 36, .int c] s = some (some (.int 0), s) := by
  rw [y303]
  show s303_0 (rM w k) w c s = _
  unfold s303_0
  exact ift (ne1 h1) rfl
theorem q313 (h0 : s.1 57 = 0) (ht : s.1 56 = Int32.ofNat t) (hl : t ≤ 2000) : rM w (k + 1) 313 [.ref 36] s = some (some (.int (rd_01 (decide (s.2.1 40 t = 2 ∧ 18 ≤ (s.2.1 42 t).toInt ∧ (s.2.1 42 t).toInt ≤ 22)))), s) := by
  rw [y313]
  show s313_0 (rM w k) w s = _
  unfold s313_0
  have k18 : (18 : Int32).toInt = 18 := by decide
  have k22 : (22 : Int32).toInt = 22 := by decide
  refine ifn (ne0 h0) (bse (aT (by omega) ht hl) ?_)
  by_cases a : s.2.1 40 t = 2
  · refine ifn (by rw [f2_ne]; simp [a]) (bse (aT (by omega) ht hl) ?_)
    by_cases b : (s.2.1 42 t).toInt < 18
    · rw [decide_eq_false (fun z => by omega)]
      exact ift (by rw [f2_lt, k18]; simp [b]) rfl
    · refine ifn (by rw [f2_lt, k18]; simp; omega) (bse (aT (by omega) ht hl) ?_)
      by_cases c : 22 < (s.2.1 42 t).toInt
      · rw [decide_eq_false (fun z => by omega)]
        exact ift (by rw [f2_gt, k22]; simp [c]) rfl
      · rw [decide_eq_true ⟨a, by omega, by omega⟩]
        exact ifn (by rw [f2_gt, k22]; simp; omega) rfl
  · rw [decide_eq_false (fun z => a z.1)]
    exact ift (by rw [f2_ne]; simp [a]) rfl
theorem z313 (h1 : s.1 57 = 1) : rM w (k + 1) 313 [.ref 36] s = some (some (.int 0), s) := by
  rw [y313]
  show s313_0 (rM w k) w s = _
  unfold s313_0
  exact ift (ne1 h1) rfl
theorem q304 (h0 : s.1 57 = 0) (ht : s.1 56 = Int32.ofNat t) (hl : t ≤ 2000) : rM w (k + 2) 304 [.ref 36] s = some (none, stS s t) := by
  rw [y304]
  show s304_0 (rM w (k + 1)) w s = _
  unfold s304_0
  refine bse (aT (by omega) ht hl) ?_
  refine bse (a := stS s t) ?_ rfl
  rw [y305]
  refine bse (a := (none, stS s t)) ?_ rfl
  show s305_0 (rM w k) w 1 (s.2.1 41 t) s = _
  unfold s305_0
  exact ift (le0 h0) rfl
theorem z304 (h1 : s.1 57 = 1) (ht : s.1 56 = Int32.ofNat t) (hl : t ≤ 2000) : rM w (k + 2) 304 [.ref 36] s = some (none, s) := by
  rw [y304]
  show s304_0 (rM w (k + 1)) w s = _
  unfold s304_0
  refine bse (aT (by omega) ht hl) ?_
  refine bse (a := s) ?_ rfl
  rw [y305]
  refine bse (a := (none, s)) ?_ rfl
  show s305_0 (rM w k) w 1 (s.2.1 41 t) s = _
  unfold s305_0
  exact ifn (le1 h1) rfl
/-- one token on -/
def nxS (s : rS) (t : Nat) : rS := rs_w s 56 (Int32.ofNat (t + 1))
theorem pI_nx (ht : s.1 56 = Int32.ofNat t) : rs_pI s 56 ((s.1 56) + 1) = some (nxS s t) := by
  rw [ht, show Int32.ofNat t + 1 = Int32.ofNat (t + 1) from of_add t 1]
  rfl
theorem q309 (c : Int32) (h0 : s.1 57 = 0) (ht : s.1 56 = Int32.ofNat t) (hl : t ≤ 2000) : rM w (k + 2) 309 [.ref 36, .int c] s = some (some (.int (rd_01 (decide (s.2.1 40 t = 5 ∧ s.2.1 42 t = c)))), if s.2.1 40 t = 5 ∧ s.2.1 42 t = c then nxS s t else s) := by
  rw [y309]
  show s309_0 (rM w (k + 1)) w c s = _
  unfold s309_0
  refine bse (a := (rd_01 (decide (s.2.1 40 t = 5 ∧ s.2.1 42 t = c)), s)) (by rw [q310 c h0 ht hl]; rfl) ?_
  by_cases a : s.2.1 40 t = 5 ∧ s.2.1 42 t = c
  · rw [decide_eq_true a, if_pos a]
    exact ift (by first | decide | (dsimp only; decide)) (bse (pI_nx ht) rfl)
  · rw [decide_eq_false a, if_neg a]
    exact ifn (by first | decide | (dsimp only; decide)) rfl
theorem z309 (c : Int32) (h1 : s.1 57 = 1) : rM w (k + 2) 309 [.ref 36, .int c] s = some (some (.int 0), s) := by
  rw [y309]
  show s309_0 (rM w (k + 1)) w c s = _
  unfold s309_0
  refine bse (a := ((0 : Int32), s)) (by rw [z310 c h1]; rfl) ?_
  exact ifn (by first | decide | (dsimp only; decide)) rfl
theorem q308 (c : Int32) (h0 : s.1 57 = 0) (ht : s.1 56 = Int32.ofNat t) (hl : t ≤ 2000) : rM w (k + 3) 308 [.ref 36, .int c] s = some (none, if s.2.1 40 t = 5 ∧ s.2.1 42 t = c then nxS s t else stS s t) := by
  rw [y308]
  show s308_0 (rM w (k + 2)) w c s = _
  unfold s308_0
  refine bse (a := (rd_01 (decide (s.2.1 40 t = 5 ∧ s.2.1 42 t = c)), if s.2.1 40 t = 5 ∧ s.2.1 42 t = c then nxS s t else s)) (by rw [q309 c h0 ht hl]; rfl) ?_
  by_cases a : s.2.1 40 t = 5 ∧ s.2.1 42 t = c
  · rw [decide_eq_true a, if_pos a, if_pos a]
    exact ift (by first | decide | (dsimp only; decide)) rfl
  · rw [decide_eq_false a, if_neg a, if_neg a]
    exact ifn (by first | decide | (dsimp only; decide)) (bse (a := stS s t) (by rw [q304 (k := k) h0 ht hl]; rfl) rfl)
theorem z308 (c : Int32) (h1 : s.1 57 = 1) (ht : s.1 56 = Int32.ofNat t) (hl : t ≤ 2000) : rM w (k + 3) 308 [.ref 36, .int c] s = some (none, s) := by
  rw [y308]
  show s308_0 (rM w (k + 2)) w c s = _
  unfold s308_0
  refine bse (a := ((0 : Int32), s)) (by rw [z309 c h1]; rfl) ?_
  exact ifn (by first | decide | (dsimp only; decide)) (bse (a := s) (by rw [z304 (k := k) h1 ht hl]; rfl) rfl)
theorem q307 (c : Int32) (h0 : s.1 57 = 0) (ht : s.1 56 = Int32.ofNat t) (hl : t ≤ 2000) : rM w (k + 3) 307 [.ref 36, .int c] s = some (some (.int (Int32.ofNat t)), if s.2.1 40 t = c then nxS s t else stS s t) := by
  rw [y307]
  show s307_0 (rM w (k + 2)) w c s = _
  unfold s307_0
  refine ifn (ne0 h0) (bse (aT (by omega) ht hl) ?_)
  by_cases a : s.2.1 40 t = c
  · rw [if_pos a]
    refine ifn (by rw [f2_ne]; simp [a]) (bse (pI_nx ht) ?_)
    unfold s307_42
    rw [ht]
    rfl
  · rw [if_neg a]
    refine ift (by rw [f2_ne]; simp [a]) ?_
    unfold s307_38 s307_42
    rw [ht]
    exact bse (a := stS s t) (by rw [q304 (k := k) h0 ht hl]; rfl) rfl
theorem z307 (c : Int32) (h1 : s.1 57 = 1) (ht : s.1 56 = Int32.ofNat t) (hl : t ≤ 2000) : rM w (k + 3) 307 [.ref 36, .int c] s = some (some (.int (Int32.ofNat t)), s) := by
  rw [y307]
  show s307_0 (rM w (k + 2)) w c s = _
  unfold s307_0
  refine ift (ne1 h1) ?_
  unfold s307_38 s307_42
  rw [ht]
  exact bse (a := s) (by rw [z304 (k := k) h1 ht hl]; rfl) rfl
end RO
