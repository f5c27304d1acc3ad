/-! THE REFERENCE CUTS THE TEXT: letters, the length of a row, the sort of a row. -/
section RC
variable {w k : Nat} {s : rS}
theorem aI_at {p n i : Nat} (hp : 37 ≤ p ∧ p ≤ 114) (ht : rs_t p = (0, n, false)) (hi : i < n) (hn : n ≤ 100000000) : rs_aI s p (Int32.ofNat i) = some (s.2.1 p i) := by
  unfold rs_aI
  rw [ht, if_pos, of_clamp (by omega)]
  show (rs_in p && true && true && rm_in (Int32.ofNat i) n) = true
  rw [of_in hi hn]
  unfold rs_in
  rw [decide_eq_true hp]
  rfl
theorem aJ_at {p n i : Nat} (hp : 37 ≤ p ∧ p ≤ 114) (ht : rs_t p = (2, n, true)) (hi : i < n) (hn : n ≤ 100000000) : rs_aJ s p (Int32.ofNat i) = some (s.2.2 p i) := by
  unfold rs_aJ
  rw [ht, if_pos, of_clamp (by omega)]
  show (rs_in p && true && true && rm_in (Int32.ofNat i) n) = true
  rw [of_in hi hn]
  unfold rs_in
  rw [decide_eq_true hp]
  rfl
theorem sJ_at {p n i : Nat} {x : Int64} (hp : 37 ≤ p ∧ p ≤ 114) (ht : rs_t p = (2, n, true)) (hi : i < n) (hn : n ≤ 100000000) : rs_sJ s p (Int32.ofNat i) x = some (rs_wB s p i x) := by
  unfold rs_sJ
  rw [ht, if_pos, of_clamp (by omega)]
  show (rs_in p && true && true && rm_in (Int32.ofNat i) n) = true
  rw [of_in hi hn]
  unfold rs_in
  rw [decide_eq_true hp]
  rfl
def is_sm (x : Int32) : Bool := decide (97 ≤ x.toInt ∧ x.toInt ≤ 122)
theorem rl_sm (x : Int32) : rM w (k + 1) 297 [.int x] s = some (some (.int (rd_01 (is_sm x))), s) := by
  rw [y297]
  show s297_0 (rM w k) w x s = _
  unfold s297_0
  by_cases a : x.toInt < 97
  · rw [show is_sm x = false from decide_eq_false (by omega)]
    exact ift (show mx_f2 .lt x 97 = true by rw [f2_lt, k97]; simp [a]) rfl
  refine ifn (show ¬ mx_f2 .lt x 97 = true by rw [f2_lt, k97]; simp; omega) ?_
  by_cases b : 122 < x.toInt
  · rw [show is_sm x = false from decide_eq_false (by omega)]
    exact ift (show mx_f2 .gt x 122 = true by rw [f2_gt, k122]; simp [b]) rfl
  · rw [show is_sm x = true from decide_eq_true (by omega)]
    exact ifn (show ¬ mx_f2 .gt x 122 = true by rw [f2_gt, k122]; simp; omega) rfl
theorem rl_gr (x : Int32) : rM w (k + 1) 298 [.int x] s = some (some (.int (rd_01 (is_gr x))), s) := by
  rw [y298]
  show s298_0 (rM w k) w x s = _
  unfold s298_0
  by_cases a : x.toInt < 65
  · rw [show is_gr x = false from decide_eq_false (by omega)]
    exact ift (show mx_f2 .lt x 65 = true by rw [f2_lt, k65]; simp [a]) rfl
  refine ifn (show ¬ mx_f2 .lt x 65 = true by rw [f2_lt, k65]; simp; omega) ?_
  by_cases b : 90 < x.toInt
  · rw [show is_gr x = false from decide_eq_false (by omega)]
    exact ift (show mx_f2 .gt x 90 = true by rw [f2_gt, k90]; simp [b]) rfl
  · rw [show is_gr x = true from decide_eq_true (by omega)]
    exact ifn (show ¬ mx_f2 .gt x 90 = true by rw [f2_gt, k90]; simp; omega) rfl
theorem rl_dig (x : Int32) : rM w (k + 1) 299 [.int x] s = some (some (.int (rd_01 (is_dig x))), s) := by
  rw [y299]
  show s299_0 (rM w k) w x s = _
  unfold s299_0
  by_cases a : x.toInt < 48
  · rw [show is_dig x = false from decide_eq_false (by omega)]
    exact ift (show mx_f2 .lt x 48 = true by rw [f2_lt, k48]; simp [a]) rfl
  refine ifn (show ¬ mx_f2 .lt x 48 = true by rw [f2_lt, k48]; simp; omega) ?_
  by_cases b : 57 < x.toInt
  · rw [show is_dig x = false from decide_eq_false (by omega)]
    exact ift (show mx_f2 .gt x 57 = true by rw [f2_gt, k57]; simp [b]) rfl
  · rw [show is_dig x = true from decide_eq_true (by omega)]
    exact ifn (show ¬ mx_f2 .gt x 57 = true by rw [f2_gt, k57]; simp; omega) rfl
theorem al_or (x : Int32) : rd_al x = (is_sm x || (is_gr x || is_dig x)) := by
  unfold rd_al is_sm is_gr is_dig
  rw [← Bool.decide_or, ← Bool.decide_or, decide_eq_decide]
  omega
/-- the text that is read: n characters -/
def rG (s : rS) (n : Nat) : Prop := n ≤ 2000 ∧ s.1 3 = Int32.ofNat n
theorem t38 : rs_t 38 = (0, 2000, false) := by decide
theorem ro_of {n i : Nat} (hG : rG s n) (hi : i ≤ 10000) : rM w (k + 2) 296 [.ref 36, .int (Int32.ofNat i)] s = some (some (.int (rd_01 (decide (i < n) && rd_al (s.2.1 38 i)))), s) := by
  obtain ⟨hn, h3⟩ := hG
  rw [y296]
  show s296_0 (rM w (k + 1)) w (Int32.ofNat i) s = _
  unfold s296_0
  rw [h3]
  by_cases c : i < n
  · rw [decide_eq_true c, Bool.true_and, al_or]
    refine ifn (show ¬ mx_f2 .ge (Int32.ofNat i) (Int32.ofNat n) = true by rw [f2_ge, of_int (by omega), of_int (by omega)]; simp; omega) ?_
    refine bse (aI_at (by omega) t38 (by omega) (by omega)) ?_
    refine bse (a := (rd_01 (is_sm (s.2.1 38 i)), s)) (by rw [rl_sm]; rfl) ?_
    cases hs : is_sm (s.2.1 38 i) with
    | true => exact ift (show mx_f1 .ne (rd_01 true) = true from by decide) rfl
    | false =>
      refine ifn (show ¬ mx_f1 .ne (rd_01 false) = true from by decide) ?_
      refine bse (aI_at (by omega) t38 (by omega) (by omega)) ?_
      refine bse (a := (rd_01 (is_gr (s.2.1 38 i)), s)) (by rw [rl_gr]; rfl) ?_
      cases hg : is_gr (s.2.1 38 i) with
      | true => exact ift (show mx_f1 .ne (rd_01 true) = true from by decide) rfl
      | false =>
        refine ifn (show ¬ mx_f1 .ne (rd_01 false) = true from by decide) ?_
        refine bse (aI_at (by omega) t38 (by omega) (by omega)) ?_
        refine bse (a := (rd_01 (is_dig (s.2.1 38 i)), s)) (by rw [rl_dig]; rfl) ?_
        cases hd : is_dig (s.2.1 38 i) with
        | true => exact ifn (show ¬ mx_f1 .eq (rd_01 true) = true from by decide) rfl
        | false => exact ift (show mx_f1 .eq (rd_01 false) = true from by decide) rfl
  · rw [decide_eq_false c, Bool.false_and]
    exact ift (show mx_f2 .ge (Int32.ofNat i) (Int32.ofNat n) = true by rw [f2_ge, of_int (by omega), of_int (by omega)]; simp; omega) rfl
/-- what is done with a row of len letters at at_ (cutRow, cutSign or the end) -/
def s295_after (E : rE) (w : Nat) (K9 : Int32 → Int32 → rS → Option rA) (i1 i3 : Int32) (s : rS) : Option rA :=
  (rs_sI s 41 (s.1 5) i1).bind fun s7 =>
  (rs_sI s7 42 (s7.1 5) 0).bind fun s12 =>
  (rs_sJ s12 43 (s12.1 5) 0).bind fun s17 =>
  if mx_f2 .ne i1 (s17.1 3) = true then
    if mx_f1 .le i3 = true then
      ((E 301 [.ref 36, .int i1] s17).bind rxI).bind fun x24 =>
      s295_126 E w K9 i1 x24.1 x24.2
    else
      ((E 300 [.ref 36, .int i1, .int i3] s17).bind rxV).bind fun s29 =>
      s295_126 E w K9 i1 i3 s29
  else
    (rs_sI s17 40 (s17.1 5) 0).bind fun s34 =>
    s295_126 E w K9 i1 i3 s34
theorem rn_loop {n : Nat} (hG : rG s n) (K9 : Int32 → Int32 → rS → Option rA) (at_ : Nat) (hat : at_ ≤ n) : ∀ (f i N : Nat), at_ + i + f = n → f ≤ N → s295_40 (rM w (k + 2)) w K9 (N + 1) (Int32.ofNat at_) (Int32.ofNat i) s = s295_after (rM w (k + 2)) w K9 (Int32.ofNat at_) (Int32.ofNat (lx_sk (s.2.1 38) f (at_ + i) - at_)) s := by
  have hn := hG.1
  intro f
  induction f with
  | zero =>
    intro i N hi _
    rw [s295_40, of_add, ro_of hG (by omega)]
    show (if mx_f1 .eq (rd_01 (decide (at_ + i < n) && rd_al (s.2.1 38 (at_ + i)))) = true then _ else _) = _
    rw [decide_eq_false (show ¬ at_ + i < n by omega), Bool.false_and, if_pos (show mx_f1 .eq (rd_01 false) = true from by decide), lx_sk, show at_ + i - at_ = i from by omega]
    rfl
  | succ f ih =>
    intro i N hi hN
    obtain ⟨N', rfl⟩ : ∃ N', N = N' + 1 := ⟨N - 1, by omega⟩
    rw [s295_40, of_add, ro_of hG (by omega)]
    show (if mx_f1 .eq (rd_01 (decide (at_ + i < n) && rd_al (s.2.1 38 (at_ + i)))) = true then _ else _) = _
    rw [decide_eq_true (show at_ + i < n by omega), Bool.true_and, lx_sk]
    cases hq : rd_al (s.2.1 38 (at_ + i)) with
    | false =>
      rw [if_pos (show mx_f1 .eq (rd_01 false) = true from by decide), if_neg (show ¬ false = true from by decide), show at_ + i - at_ = i from by omega]
      rfl
    | true =>
      rw [if_neg (show ¬ mx_f1 .eq (rd_01 true) = true from by decide), if_pos (show true = true from rfl)]
      show s295_40 (rM w (k + 2)) w K9 (N' + 1) (Int32.ofNat at_) (Int32.ofNat i + 1) s = _
      rw [show Int32.ofNat i + 1 = Int32.ofNat (i + 1) from of_add i 1]
      exact ih (i + 1) N' (by omega) (by omega)
end RC
