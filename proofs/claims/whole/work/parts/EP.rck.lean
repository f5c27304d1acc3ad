/-! THE REFERENCE'S CHECKER: the tables of rights; its small methods. -/
/-- the last number below n with code c -/
def kL (f : Nat → Int64) (c : Int64) : Nat → Option Nat
  | 0 => none
  | n + 1 => if f n = c then some n else kL f c n
/-- where names differ the last is the first -/
theorem kL_kF {f : Nat → Int64} {c : Int64} : ∀ n, (∀ i j, i < n → j < n → f i = f j → i = j) → kL f c n = kF f c n 0 := by
  have none' : ∀ n, (∀ i, i < n → f i ≠ c) → kL f c n = none := by
    intro n
    induction n with
    | zero => intro _; rfl
    | succ n ih =>
      intro h
      rw [kL, if_neg (h n (by omega))]
      exact ih (fun i hi => h i (by omega))
  have some' : ∀ n k, k < n → f k = c → (∀ i, i < n → f i = c → i = k) → kL f c n = some k := by
    intro n
    induction n with
    | zero => intro k hk; omega
    | succ n ih =>
      intro k hk e u
      rw [kL]
      by_cases z : f n = c
      · rw [if_pos z, u n (by omega) z]
      · rw [if_neg z]
        have : k ≠ n := fun y => z (by rw [← y]; exact e)
        exact ih k (by omega) e (fun i hi => u i (by omega))
  intro n h
  cases hk : kF f c n 0 with
  | none => exact none' n (fun i hi => kF_none hk i (by omega) (by omega))
  | some k =>
    obtain ⟨_, b, d, _⟩ := kF_some hk
    exact some' n k (by omega) d (fun i hi e => h i k hi (by omega) (e.trans d.symm))
section RC
variable {w k n : Nat} {s s1 : rS} {x y : Int32} {c : Int64}
theorem c5' : ∀ i, i < 5 → i = 0 ∨ i = 1 ∨ i = 2 ∨ i = 3 ∨ i = 4 := by omega
/-- AS_GOOD -/
theorem r_290 {i j : Nat} (hi : i < 5) (hj : j < 5) : rM w (k + 1) 290 [.int (Int32.ofNat i), .int (Int32.ofNat j)] s = some (some (.int (lkV 1 (Int32.ofNat i) (Int32.ofNat j))), s) := by
  rcases c5' i hi with e | e | e | e | e <;> subst e <;> rcases c5' j hj with e | e | e | e | e <;> subst e <;> rfl
/-- SEEN -/
theorem r_291 {i j : Nat} (hi : i < 5) (hj : j < 5) : rM w (k + 1) 291 [.int (Int32.ofNat i), .int (Int32.ofNat j)] s = some (some (.int (lkV 4 (Int32.ofNat i) (Int32.ofNat j))), s) := by
  rcases c5' i hi with e | e | e | e | e <;> subst e <;> rcases c5' j hj with e | e | e | e | e <;> subst e <;> rfl
/-- SWAPPED -/
theorem r_292 {i j : Nat} (hi : i < 5) (hj : j < 5) : rM w (k + 2) 292 [.int (Int32.ofNat i), .int (Int32.ofNat j)] s = some (some (.int (lkV 3 (Int32.ofNat i) (Int32.ofNat j))), s) := by
  rcases c5' i hi with e | e | e | e | e <;> subst e <;> rcases c5' j hj with e | e | e | e | e <;> subst e <;> rfl
/-- SAFE -/
theorem r_293 {i j : Nat} (hi : i < 5) (hj : j < 5) : rM w (k + 2) 293 [.int (Int32.ofNat i), .int (Int32.ofNat j)] s = some (some (.int (lkV 2 (Int32.ofNat i) (Int32.ofNat j))), s) := by
  rcases c5' i hi with e | e | e | e | e <;> subst e <;> rcases c5' j hj with e | e | e | e | e <;> subst e <;> rfl
/-- the first fault -/
def rfS (s : rS) (x y : Int32) : rS := rs_w (rs_w s 57 x) 58 y
theorem r_305 (e : s.1 57 = 0) (x y : Int32) : rM w (k + 1) 305 [.ref 36, .int x, .int y] s = some (none, rfS s x y) := by
  rw [y305]
  show s305_0 (rM w k) w x y s = _
  unfold s305_0
  rw [e]
  exact itq (by decide) rfl
theorem r_347 (e : s.1 57 = 0) (x y : Int32) : rM w (k + 2) 347 [.ref 36, .int x, .int y] s = some (some (.int (-1)), rfS s x y) := by
  rw [y347]
  show s347_0 (rM w (k + 1)) w x y s = _
  unfold s347_0
  exact bsq (a := rfS s x y) (by rw [r_305 e]; rfl) rfl
/-- a name in scope -/
theorem r_349 (e : s.1 62 = Int32.ofNat n) (hn : n ≤ 16) (hw : 200 ≤ w) : rM w (k + 1) 349 [.ref 36, .long c] s = some (some (.int (kI (kL (s.2.2 82) c n))), s) := by
  rw [y349]
  show s349_7 (rM w k) w w c ((s.1 62) - 1) s = _
  rw [e]
  have lp : ∀ (m N : Nat), m ≤ 16 → m < N → s349_7 (rM w k) w N c (Int32.ofNat m - 1) s = some (some (.int (kI (kL (s.2.2 82) c m))), s) := by
    intro m
    induction m with
    | zero =>
      intro N _ hN
      obtain ⟨N, rfl⟩ : ∃ M, N = M + 1 := ⟨N - 1, by omega⟩
      rw [s349_7]
      exact itq (by decide) rfl
    | succ m ih =>
      intro N hm hN
      obtain ⟨N, rfl⟩ : ∃ M, N = M + 1 := ⟨N - 1, by omega⟩
      have e1 : Int32.ofNat (m + 1) - 1 = Int32.ofNat m := by
        apply i32_of
        rw [show (1 : Int32) = Int32.ofNat 1 from rfl, of_sub (by omega) (by omega), of_int (by omega)]
        omega
      rw [e1, s349_7]
      refine inq ?_ (bsq (aJ_at (i := m) (by decide) rfl (by omega) (by decide)) ?_)
      · rw [f1_lt, of_int (by omega)]
        simp
      · rw [lg_ne, kL]
        by_cases z : s.2.2 82 m = c
        · rw [if_pos z]
          exact inq (by simp [z]) rfl
        · rw [if_neg z]
          refine itq (by simp [z]) ?_
          rw [show Int32.ofNat m + (-1) = Int32.ofNat m - 1 from by
            apply Int32.toBitVec_inj.mp
            show (Int32.ofNat m).toBitVec + (-1 : Int32).toBitVec = (Int32.ofNat m).toBitVec - (1 : Int32).toBitVec
            rw [BitVec.sub_eq_add_neg]
            rfl]
          exact ih N (by omega) (by omega)
  exact lp n w hn (by omega)
/-- what is in scope when a name comes to be seen -/
def seS (s : rS) (n : Nat) (c : Int64) (sl ty : Int32) : rS := rs_w (rs_w (rs_wA (rs_wA (rs_wA (rs_wB s 82 n c) 83 n sl) 84 n ty) 85 n (s.1 63)) 64 ((s.1 64) &&& (((1 : Int32) <<< (sl &&& 31)) ^^^ (-1)))) 62 (Int32.ofNat (n + 1))
theorem r_335 (e : s.1 62 = Int32.ofNat n) (hn : n < 16) (sl ty : Int32) : rM w (k + 1) 335 [.ref 36, .long c, .int sl, .int ty] s = some (none, seS s n c sl ty) := by
  rw [y335]
  show s335_0 (rM w k) w c sl ty s = _
  unfold s335_0
  rw [e]
  refine bsq (sJ_at (i := n) (by decide) rfl hn (by decide)) ?_
  rw [show (rs_wB s 82 n c).1 62 = Int32.ofNat n from e]
  refine bsq (sI_at (i := n) (by decide) rfl hn (by decide)) ?_
  rw [show (rs_wA (rs_wB s 82 n c) 83 n sl).1 62 = Int32.ofNat n from e]
  refine bsq (sI_at (i := n) (by decide) rfl hn (by decide)) ?_
  rw [show (rs_wA (rs_wA (rs_wB s 82 n c) 83 n sl) 84 n ty).1 62 = Int32.ofNat n from e]
  refine bsq (sI_at (i := n) (by decide) rfl hn (by decide)) ?_
  refine bsq (a := rs_w (rs_wA (rs_wA (rs_wA (rs_wB s 82 n c) 83 n sl) 84 n ty) 85 n (s.1 63)) 64 ((s.1 64) &&& (((1 : Int32) <<< (sl &&& 31)) ^^^ (-1)))) rfl ?_
  refine bsq (a := seS s n c sl ty) ?_ rfl
  rw [show (rs_w (rs_wA (rs_wA (rs_wA (rs_wB s 82 n c) 83 n sl) 84 n ty) 85 n (s.1 63)) 64 ((s.1 64) &&& (((1 : Int32) <<< (sl &&& 31)) ^^^ (-1)))).1 62 = Int32.ofNat n from by rw [w_ne _ _ (by decide)]; exact e, show Int32.ofNat n + 1 = Int32.ofNat (n + 1) from of_add n 1]
  rfl
theorem r_344 (x : Int32) : rM w (k + 1) 344 [.ref 36, .int x] s = some (some (.int x), rs_w (rs_w s 60 0) 61 0) := by
  rw [y344]
  rfl
/-- nothing is no value -/
theorem r_350 {i : Nat} (e : s.1 57 = 0) (hi : i < 4400) (t : Int32) : rM w (k + 2) 350 [.ref 36, .int (Int32.ofNat i), .int t] s = some (some (.int (if t = -1 then 0 else 1)), if t = -1 then rfS s 8 (s.2.1 50 i) else s) := by
  rw [y350]
  show s350_0 (rM w (k + 1)) w (Int32.ofNat i) t s = _
  unfold s350_0
  refine inq (by rw [e]; decide) ?_
  rw [f2_ne]
  by_cases c : t = -1
  · rw [if_neg (fun z => absurd c (of_decide_eq_true z)), if_pos c, if_pos c]
    refine bsq (aI_at (i := i) (by decide) rfl hi (by decide)) (bsq (a := rfS s 8 (s.2.1 50 i)) (by rw [r_305 e]; rfl) ?_)
    unfold s350_24
    refine itq ?_ rfl
    rw [show (rfS s 8 (s.2.1 50 i)).1 57 = 8 from by unfold rfS; rw [w_ne _ _ (by decide), w_eq]]
    decide
  · rw [if_pos (decide_eq_true c), if_neg c, if_neg c]
    unfold s350_24
    exact inq (by rw [e]; decide) rfl
end RC
