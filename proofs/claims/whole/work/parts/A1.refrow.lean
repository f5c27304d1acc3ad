/-! THE REFERENCE'S READER: cutRow. -/
/-- which of the 24 words has this code: 24 if none -/
def kwI (wd : Nat → Int64) (c : Int64) : Nat → Nat → Nat
  | 0, i => i
  | f + 1, i => if wd i = c then i else kwI wd c f (i + 1)
def rcV (g : Nat → Int32) (big : Bool) : Nat → Nat → Int32 → Int32
  | 0, _, v => v
  | f + 1, i, v => rcV g big f (i + 1) (if big = true then 0 else (10 * v + g i) - 48)
def rcC (g : Nat → Int32) : Nat → Nat → Int64 → Int64
  | 0, _, c => c
  | f + 1, i, c => rcC g f (i + 1) ((c <<< ((8 : Int32).toInt64 &&& 63)) ||| (Int32.toInt64 (g i)))
/-- what cutRow leaves -/
def rcF (s : rS) (tok at_ len : Nat) (d sm : Bool) (v : Int32) (c : Int64) : rS :=
  if d = true then rs_wA (rs_wA (rs_wA s 40 tok 6) 40 tok (if 10 ≤ len then 6 else 4)) 42 tok v
  else if 8 < len ∨ is_dig (s.2.1 38 at_) = true then rs_wA s 40 tok 6
  else if is_gr (s.2.1 38 at_) = true then rs_wA (rs_wB (rs_wA s 40 tok 6) 43 tok c) 40 tok 3
  else if sm = true then rs_wA (rs_wA (rs_wB (rs_wA s 40 tok 6) 43 tok c) 40 tok (if 24 ≤ kwI (s.2.2 39) c 24 0 then 1 else 2)) 42 tok (Int32.ofNat (kwI (s.2.2 39) c 24 0))
  else rs_wB (rs_wA s 40 tok 6) 43 tok c
section RC2
variable {w k : Nat} {s : rS}
theorem t40 : rs_t 40 = (0, 2001, false) := by decide
theorem t42 : rs_t 42 = (0, 2001, false) := by decide
theorem t43 : rs_t 43 = (2, 2001, true) := by decide
theorem t39 : rs_t 39 = (2, 24, true) := by decide
theorem sI_at {p n i : Nat} {x : Int32} (hp : 37 ≤ p ∧ p ≤ 114) (ht : rs_t p = (0, n, false)) (hi : i < n) (hn : n ≤ 100000000) : rs_sI s p (Int32.ofNat i) x = some (rs_wA s p i x) := rs_sI_at (t := 0) hp ht hi hn
theorem wA_ne (s : rS) {p q : Nat} (j : Nat) (x : Int32) (h : q ≠ p) : (rs_wA s p j x).2.1 q = s.2.1 q := if_neg h
theorem wB_ne (s : rS) {p q : Nat} (j : Nat) (x : Int64) (h : q ≠ p) : (rs_wB s p j x).2.2 q = s.2.2 q := if_neg h
theorem lg_0 (x y : Int64) : mx_f1 .eq (lg_cmp x y) = decide (x = y) := by
  show decide (lg_cmp x y = 0) = _
  rw [decide_eq_decide]
  unfold lg_cmp
  constructor
  · intro h
    split at h
    · exact absurd h (by decide)
    · split at h
      · assumption
      · exact absurd h (by decide)
  · intro h
    subst h
    rw [if_neg (by rw [gt_iff_lt, Int64.lt_iff_toInt_lt]; omega), if_pos rfl]
theorem kwI_ge (wd : Nat → Int64) (c : Int64) : ∀ (f i : Nat), i ≤ kwI wd c f i ∧ kwI wd c f i ≤ i + f := by
  intro f
  induction f with
  | zero => exact fun i => ⟨Nat.le_refl _, Nat.le_refl _⟩
  | succ f ih =>
    intro i
    rw [kwI]
    split
    · omega
    · have := ih (i + 1)
      omega
theorem kr_loop (E : rE) (c : Int64) : ∀ (f i N : Nat), i + f = 24 → f ≤ N → s300_231 E w (N + 1) c (Int32.ofNat i) s = s300_257 E w (Int32.ofNat (kwI (s.2.2 39) c f i)) s := by
  intro f
  induction f with
  | zero =>
    intro i N hi _
    rw [s300_231, if_pos (show mx_f2 .ge (Int32.ofNat i) 24 = true by rw [f2_ge, of_int (by omega), show (24 : Int32).toInt = 24 from by decide]; simp; omega), kwI]
  | succ f ih =>
    intro i N hi hN
    obtain ⟨N', rfl⟩ : ∃ N', N = N' + 1 := ⟨N - 1, by omega⟩
    rw [s300_231, if_neg (show ¬ mx_f2 .ge (Int32.ofNat i) 24 = true by rw [f2_ge, of_int (by omega), show (24 : Int32).toInt = 24 from by decide]; simp; omega), aJ_at (by omega) t39 (by omega) (by omega), kwI]
    show (if mx_f1 .eq (lg_cmp (s.2.2 39 i) c) = true then _ else _) = _
    by_cases e : s.2.2 39 i = c
    · rw [if_pos (show mx_f1 .eq (lg_cmp (s.2.2 39 i) c) = true by rw [lg_0]; exact decide_eq_true e), if_pos e]
    · rw [if_neg (show ¬ mx_f1 .eq (lg_cmp (s.2.2 39 i) c) = true by rw [lg_0]; simp [e]), if_neg e, show Int32.ofNat i + 1 = Int32.ofNat (i + 1) from of_add i 1]
      exact ih (i + 1) N' (by omega) (by omega)
theorem rr_end {n tok : Nat} (hG : rG s n) (ht : s.1 5 = Int32.ofNat tok) (htk : tok ≤ 2000) (hw : 25 ≤ w) (at_ len : Nat) (hat : at_ < n) (hlen : at_ + len ≤ n) (d sm : Bool) (v : Int32) (c : Int64) (N : Nat) : s300_14 (rM w (k + 1)) w (N + 1) (Int32.ofNat at_) (Int32.ofNat len) (rd_01 d) (rd_01 sm) v c (Int32.ofNat (at_ + len)) s = some (none, rcF s tok at_ len d sm v c) := by
  have hn := hG.1
  rw [s300_14, of_add, if_pos (show mx_f2 .ge (Int32.ofNat (at_ + len)) (Int32.ofNat (at_ + len)) = true by rw [f2_ge]; simp), ht]
  refine bse (sI_at (by omega) t40 (by omega) (by omega)) ?_
  unfold rcF
  have tk2 : (rs_wA s 40 tok 6).1 5 = Int32.ofNat tok := ht
  cases d with
  | true =>
    rw [if_pos (show true = true from rfl)]
    refine ifn (show ¬ mx_f1 .eq (rd_01 true) = true from by decide) ?_
    by_cases c10 : 10 ≤ len
    · rw [if_pos c10]
      refine ift (show mx_f2 .ge (Int32.ofNat len) 10 = true by rw [f2_ge, of_int (by omega), show (10 : Int32).toInt = 10 from by decide]; simp; omega) ?_
      unfold s300_155
      rw [tk2]
      refine bse (sI_at (by omega) t40 (by omega) (by omega)) ?_
      show (rs_sI _ 42 (s.1 5) v).bind _ = _
      rw [ht]
      exact bse (sI_at (by omega) t42 (by omega) (by omega)) rfl
    · rw [if_neg c10]
      refine ifn (show ¬ mx_f2 .ge (Int32.ofNat len) 10 = true by rw [f2_ge, of_int (by omega), show (10 : Int32).toInt = 10 from by decide]; simp; omega) ?_
      unfold s300_155
      rw [tk2]
      refine bse (sI_at (by omega) t40 (by omega) (by omega)) ?_
      show (rs_sI _ 42 (s.1 5) v).bind _ = _
      rw [ht]
      exact bse (sI_at (by omega) t42 (by omega) (by omega)) rfl
  | false =>
    rw [if_neg (show ¬ false = true from by decide)]
    refine ift (show mx_f1 .eq (rd_01 false) = true from by decide) ?_
    by_cases c8 : 8 < len
    · rw [if_pos (Or.inl c8)]
      exact ift (show mx_f2 .gt (Int32.ofNat len) 8 = true by rw [f2_gt, of_int (by omega), show (8 : Int32).toInt = 8 from by decide]; simp; omega) rfl
    · refine ifn (show ¬ mx_f2 .gt (Int32.ofNat len) 8 = true by rw [f2_gt, of_int (by omega), show (8 : Int32).toInt = 8 from by decide]; simp; omega) ?_
      refine bse (aI_at (by omega) t38 (by omega) (by omega)) ?_
      rw [wA_ne s tok 6 (show (38 : Nat) ≠ 40 by decide)]
      refine bse (a := (rd_01 (is_dig (s.2.1 38 at_)), rs_wA s 40 tok 6)) (by rw [rl_dig]; rfl) ?_
      cases hd : is_dig (s.2.1 38 at_) with
      | true =>
        rw [if_pos (Or.inr rfl)]
        exact ifn (show ¬ mx_f1 .eq (rd_01 true) = true from by decide) rfl
      | false =>
        rw [if_neg (show ¬ (8 < len ∨ false = true) from fun z => by rcases z with z | z; exact c8 z; cases z)]
        refine ift (show mx_f1 .eq (rd_01 false) = true from by decide) ?_
        show (rs_sJ (rs_wA s 40 tok 6) 43 (s.1 5) c).bind _ = _
        rw [ht]
        refine bse (sJ_at (by omega) t43 (by omega) (by omega)) ?_
        refine bse (aI_at (by omega) t38 (by omega) (by omega)) ?_
        show ((rM w (k + 1) 298 [.int ((rs_wA s 40 tok 6).2.1 38 at_)] _).bind rxI).bind _ = _
        rw [wA_ne s tok 6 (show (38 : Nat) ≠ 40 by decide), rl_gr]
        show (if mx_f1 .eq (rd_01 (is_gr (s.2.1 38 at_))) = true then _ else _) = _
        cases hg : is_gr (s.2.1 38 at_) with
        | true =>
          rw [if_pos (show true = true from rfl)]
          refine ifn (show ¬ mx_f1 .eq (rd_01 true) = true from by decide) ?_
          show (rs_sI _ 40 (s.1 5) 3).bind _ = _
          rw [ht]
          exact bse (sI_at (by omega) t40 (by omega) (by omega)) rfl
        | false =>
          rw [if_neg (show ¬ false = true from by decide)]
          refine ift (show mx_f1 .eq (rd_01 false) = true from by decide) ?_
          cases sm with
          | false =>
            rw [if_neg (show ¬ false = true from by decide)]
            exact ift (show mx_f1 .eq (rd_01 false) = true from by decide) rfl
          | true =>
            rw [if_pos (show true = true from rfl)]
            refine ifn (show ¬ mx_f1 .eq (rd_01 true) = true from by decide) ?_
            obtain ⟨w', rfl⟩ : ∃ w', w = w' + 1 := ⟨w - 1, by omega⟩
            rw [show (0 : Int32) = Int32.ofNat 0 from rfl, kr_loop _ c 24 0 w' (by omega) (by omega)]
            have e39 : (rs_wB (rs_wA s 40 tok 6) 43 tok c).2.2 39 = s.2.2 39 := wB_ne _ tok c (show (39 : Nat) ≠ 43 by decide)
            show s300_257 _ _ (Int32.ofNat (kwI ((rs_wB (rs_wA s 40 tok 6) 43 tok c).2.2 39) c 24 0)) _ = _
            rw [e39]
            have hk := kwI_ge (s.2.2 39) c 24 0
            unfold s300_257
            by_cases c24 : 24 ≤ kwI (s.2.2 39) c 24 0
            · rw [if_pos c24]
              refine ift (show mx_f2 .ge (Int32.ofNat (kwI (s.2.2 39) c 24 0)) 24 = true by rw [f2_ge, of_int (by omega), show (24 : Int32).toInt = 24 from by decide]; simp; omega) ?_
              unfold s300_277
              show (rs_sI _ 40 (s.1 5) 1).bind _ = _
              rw [ht]
              refine bse (sI_at (by omega) t40 (by omega) (by omega)) ?_
              show (rs_sI _ 42 (s.1 5) _).bind _ = _
              rw [ht]
              exact bse (sI_at (by omega) t42 (by omega) (by omega)) rfl
            · rw [if_neg c24]
              refine ifn (show ¬ mx_f2 .ge (Int32.ofNat (kwI (s.2.2 39) c 24 0)) 24 = true by rw [f2_ge, of_int (by omega), show (24 : Int32).toInt = 24 from by decide]; simp; omega) ?_
              unfold s300_277
              show (rs_sI _ 40 (s.1 5) 2).bind _ = _
              rw [ht]
              refine bse (sI_at (by omega) t40 (by omega) (by omega)) ?_
              show (rs_sI _ 42 (s.1 5) _).bind _ = _
              rw [ht]
              exact bse (sI_at (by omega) t42 (by omega) (by omega)) rfl
end RC2
