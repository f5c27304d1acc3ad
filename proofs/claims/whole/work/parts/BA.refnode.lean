/-! THE REFERENCE MAKES A NODE. -/
section RN
variable {w k : Nat} {s : rS}
theorem wA_get (s : rS) (p j : Nat) (x : Int32) (q i : Nat) : (rs_wA s p j x).2.1 q i = if q = p ∧ i = j then x else s.2.1 q i := by
  unfold rs_wA
  dsimp only
  by_cases hq : q = p
  · rw [if_pos hq]
    by_cases hi : i = j
    · rw [if_pos ⟨hq, hi⟩, hi, upd_eq]
    · rw [if_neg (fun z => hi z.2), upd_ne _ _ hi]
  · rw [if_neg hq, if_neg (fun z => hq z.1)]
theorem wB_get (s : rS) (p j : Nat) (x : Int64) (q i : Nat) : (rs_wB s p j x).2.2 q i = if q = p ∧ i = j then x else s.2.2 q i := by
  unfold rs_wB
  dsimp only
  by_cases hq : q = p
  · rw [if_pos hq]
    by_cases hi : i = j
    · rw [if_pos ⟨hq, hi⟩, hi]
      exact if_pos rfl
    · rw [if_neg (fun z => hi z.2)]
      exact if_neg hi
  · rw [if_neg hq, if_neg (fun z => hq z.1)]
def ndS (s : rS) (n : Nat) (kk f : Int32) : rS := rs_wB (rs_wA (rs_wA (rs_wA (rs_wA (rs_wA (rs_wA (rs_wA (rs_wA (rs_wA (rs_wA (rs_wA (rs_wA (rs_w s 10 (Int32.ofNat (n + 1))) 44 n kk) 45 n 0) 46 n 0) 47 n 0) 48 n 0) 49 n 0) 50 n f) 51 n f) 52 n 0) 53 n 0) 54 n (-1)) 55 n 0) 56 n 0
def ndV (q : Nat) (kk f : Int32) : Int32 := if q = 44 then kk else if q = 50 ∨ q = 51 then f else if q = 54 then -1 else 0
theorem nd_get (n : Nat) (kk f : Int32) (q i : Nat) : (ndS s n kk f).2.1 q i = if i = n ∧ 44 ≤ q ∧ q ≤ 55 then ndV q kk f else s.2.1 q i := by
  unfold ndS
  show (rs_wA _ 55 n 0).2.1 q i = _
  simp only [wA_get]
  by_cases hi : i = n
  · by_cases hq : 44 ≤ q ∧ q ≤ 55
    · rw [if_pos (show i = n ∧ 44 ≤ q ∧ q ≤ 55 from ⟨hi, hq⟩)]
      have : q = 44 ∨ q = 45 ∨ q = 46 ∨ q = 47 ∨ q = 48 ∨ q = 49 ∨ q = 50 ∨ q = 51 ∨ q = 52 ∨ q = 53 ∨ q = 54 ∨ q = 55 := by omega
      rcases this with e | e | e | e | e | e | e | e | e | e | e | e <;> subst e <;> simp [hi, ndV]
    · rw [if_neg (show ¬ (i = n ∧ 44 ≤ q ∧ q ≤ 55) from fun z => hq z.2)]
      have hc : ∀ c, 44 ≤ c → c ≤ 55 → ¬ (q = c ∧ i = n) := fun c h1 h2 z => hq (by omega)
      rw [if_neg (hc 55 (by decide) (by decide)), if_neg (hc 54 (by decide) (by decide)), if_neg (hc 53 (by decide) (by decide)), if_neg (hc 52 (by decide) (by decide)), if_neg (hc 51 (by decide) (by decide)), if_neg (hc 50 (by decide) (by decide)), if_neg (hc 49 (by decide) (by decide)), if_neg (hc 48 (by decide) (by decide)), if_neg (hc 47 (by decide) (by decide)), if_neg (hc 46 (by decide) (by decide)), if_neg (hc 45 (by decide) (by decide)), if_neg (hc 44 (by decide) (by decide))]
      rfl
  · rw [if_neg (show ¬ (i = n ∧ 44 ≤ q ∧ q ≤ 55) from fun z => hi z.1)]
    have hc : ∀ c, 44 ≤ c → c ≤ 55 → ¬ (q = c ∧ i = n) := fun c h1 h2 z => hi z.2
    rw [if_neg (hc 55 (by decide) (by decide)), if_neg (hc 54 (by decide) (by decide)), if_neg (hc 53 (by decide) (by decide)), if_neg (hc 52 (by decide) (by decide)), if_neg (hc 51 (by decide) (by decide)), if_neg (hc 50 (by decide) (by decide)), if_neg (hc 49 (by decide) (by decide)), if_neg (hc 48 (by decide) (by decide)), if_neg (hc 47 (by decide) (by decide)), if_neg (hc 46 (by decide) (by decide)), if_neg (hc 45 (by decide) (by decide)), if_neg (hc 44 (by decide) (by decide))]
    rfl
theorem nd_getJ (n : Nat) (kk f : Int32) (q i : Nat) : (ndS s n kk f).2.2 q i = if q = 56 ∧ i = n then 0 else s.2.2 q i := by
  unfold ndS
  rw [wB_get]
  rfl
theorem nd_sc (n : Nat) (kk f : Int32) (j : Nat) : (ndS s n kk f).1 j = if j = 10 then Int32.ofNat (n + 1) else s.1 j := by
  show upd s.1 10 (Int32.ofNat (n + 1)) j = _
  rfl
theorem t44 : ∀ p, 44 ≤ p → p ≤ 55 → rs_t p = (0, 4400, false) := by
  intro p h1 h2
  have : p = 44 ∨ p = 45 ∨ p = 46 ∨ p = 47 ∨ p = 48 ∨ p = 49 ∨ p = 50 ∨ p = 51 ∨ p = 52 ∨ p = 53 ∨ p = 54 ∨ p = 55 := by omega
  rcases this with e | e | e | e | e | e | e | e | e | e | e | e <;> subst e <;> decide
theorem t56 : rs_t 56 = (2, 4400, true) := by decide
/-- a node's rows are read and written -/
theorem nA {q i : Nat} (hq : 44 ≤ q ∧ q ≤ 55) (hi : i < 4400) : rs_aI s q (Int32.ofNat i) = some (s.2.1 q i) := aI_at (by omega) (t44 q hq.1 hq.2) hi (by omega)
theorem nWt {q i : Nat} {x : Int32} (hq : 44 ≤ q ∧ q ≤ 55) (hi : i < 4400) : rs_sI s q (Int32.ofNat i) x = some (rs_wA s q i x) := sI_at (by omega) (t44 q hq.1 hq.2) hi (by omega)
theorem nJ {i : Nat} (hi : i < 4400) : rs_aJ s 56 (Int32.ofNat i) = some (s.2.2 56 i) := aJ_at (by omega) t56 hi (by omega)
theorem nWJ {i : Nat} {x : Int64} (hi : i < 4400) : rs_sJ s 56 (Int32.ofNat i) x = some (rs_wB s 56 i x) := sJ_at (by omega) t56 hi (by omega)
theorem q316 {n : Nat} (kk f : Int32) (hn : s.1 10 = Int32.ofNat n) (hl : n < 4400) : rM w (k + 1) 316 [.ref 36, .int kk, .int f] s = some (some (.int (Int32.ofNat n)), ndS s n kk f) := by
  rw [y316]
  show s316_0 (rM w k) w kk f s = _
  unfold s316_0
  rw [hn, show Int32.ofNat n + 1 = Int32.ofNat (n + 1) from of_add n 1]
  refine bse (a := rs_w s 10 (Int32.ofNat (n + 1))) rfl ?_
  refine bse (nWt (by omega) hl) (bse (nWt (by omega) hl) (bse (nWt (by omega) hl) (bse (nWt (by omega) hl) (bse (nWt (by omega) hl) (bse (nWt (by omega) hl) (bse (nWt (by omega) hl) (bse (nWt (by omega) hl) (bse (nWt (by omega) hl) (bse (nWt (by omega) hl) (bse (nWt (by omega) hl) (bse (nWt (by omega) hl) ?_)))))))))))
  exact bse (nWJ hl) rfl
theorem q323 {n c : Nat} (hc : c < 4400) : rM w (k + 1) 323 [.ref 36, .int (Int32.ofNat n), .int (Int32.ofNat c)] s = some (some (.int (Int32.ofNat c)), rs_wA s 49 c (Int32.ofNat n)) := by
  rw [y323]
  show s323_0 (rM w k) w (Int32.ofNat n) (Int32.ofNat c) s = _
  unfold s323_0
  exact bse (nWt (by omega) hc) rfl
end RN
