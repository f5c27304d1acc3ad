/-! THE REFERENCE'S CHECKER: fields and methods by name. -/
section RQ
variable {w k n f0 f1 m0 m1 kk : Nat} {s s1 : rS} {x y : Int32} {c : Int64}
/-- numbers from i on that lie d behind -/
theorem kF_sh {f : Nat → Int64} {d : Nat} : ∀ n i, kF (fun j => f (d + j)) c n i = (kF f c n (d + i)).map (fun j => j - d) := by
  intro n
  induction n with
  | zero => intro i; rfl
  | succ n ih =>
    intro i
    rw [kF, kF]
    by_cases z : f (d + i) = c
    · rw [if_pos z, if_pos z]
      show some i = some (d + i - d)
      rw [show d + i - d = i from by omega]
    · rw [if_neg z, if_neg z]
      exact ih (i + 1)
/-- the field of kind kk with a name -/
theorem r_356 (hk : kk < 8) (e0 : s.2.1 64 kk = Int32.ofNat f0) (e1 : s.2.1 64 (kk + 1) = Int32.ofNat f1) (h01 : f0 ≤ f1) (h64 : f1 ≤ 64) (hw : 200 ≤ w) : rM w (k + 1) 356 [.ref 36, .int (Int32.ofNat kk), .long c] s = some (some (.int (kI (kF (s.2.2 67) c (f1 - f0) f0))), s) := by
  rw [y356]
  show s356_0 (rM w k) w (Int32.ofNat kk) c s = _
  unfold s356_0
  refine bsq (a := Int32.ofNat f0) (by rw [aI_at (by decide) rfl (show kk < 9 by omega) (by decide), e0]) ?_
  have g1 : rs_aI s 64 (Int32.ofNat kk + 1) = some (Int32.ofNat f1) := by
    rw [show Int32.ofNat kk + 1 = Int32.ofNat (kk + 1) from of_add kk 1, aI_at (by decide) rfl (show kk + 1 < 9 by omega) (by decide), e1]
  have lp : ∀ (m i N : Nat), i + m = f1 → m < N → s356_8 (rM w k) w N (Int32.ofNat kk) c (Int32.ofNat i) s = some (some (.int (kI (kF (s.2.2 67) c m i))), s) := by
    intro m
    induction m with
    | zero =>
      intro i N e hN
      obtain ⟨N, rfl⟩ : ∃ M, N = M + 1 := ⟨N - 1, by omega⟩
      rw [s356_8]
      refine bsq g1 (itq ?_ rfl)
      rw [f2_ge, of_int (by omega), of_int (by omega)]
      simp
      omega
    | succ m ih =>
      intro i N e hN
      obtain ⟨N, rfl⟩ : ∃ M, N = M + 1 := ⟨N - 1, by omega⟩
      rw [s356_8]
      refine bsq g1 (inq ?_ (bsq (aJ_at (i := i) (by decide) rfl (by omega) (by decide)) ?_))
      · rw [f2_ge, of_int (by omega), of_int (by omega)]
        simp
        omega
      · rw [lg_ne, kF]
        by_cases z : s.2.2 67 i = c
        · rw [if_pos z]
          exact inq (by simp [z]) rfl
        · rw [if_neg z]
          refine itq (by simp [z]) ?_
          rw [show Int32.ofNat i + 1 = Int32.ofNat (i + 1) from of_add i 1]
          exact ih (i + 1) N (by omega) (by omega)
  exact lp (f1 - f0) f0 w (by omega) (by omega)
/-- the first number from i on, of n, with code c and sort x -/
def kG (f : Nat → Int64) (so : Nat → Int32) (c : Int64) (x : Int32) : Nat → Nat → Option Nat
  | 0, _ => none
  | n + 1, i => if so i = x ∧ f i = c then some i else kG f so c x n (i + 1)
/-- where names differ: the first with that name, if it is of that sort -/
theorem kG_kF {f : Nat → Int64} {so : Nat → Int32} {x : Int32} : ∀ n i, (∀ a b, i ≤ a → a < i + n → i ≤ b → b < i + n → f a = f b → a = b) → kG f so c x n i = (kF f c n i).bind (fun j => if so j = x then some j else none) := by
  intro n
  induction n with
  | zero => intro i _; rfl
  | succ n ih =>
    intro i h
    have h' := ih (i + 1) (fun a b h1 h2 h3 h4 => h a b (by omega) (by omega) (by omega) (by omega))
    rw [kG, kF]
    by_cases z : f i = c
    · rw [if_pos z]
      by_cases y : so i = x
      · rw [if_pos ⟨y, z⟩]
        show some i = if so i = x then some i else none
        rw [if_pos y]
      · rw [if_neg (fun q => y q.1)]
        show _ = if so i = x then some i else none
        rw [if_neg y, h']
        cases hk : kF f c n (i + 1) with
        | none => rfl
        | some j =>
          obtain ⟨q1, q2, q3, _⟩ := kF_some hk
          have := h i j (by omega) (by omega) (by omega) (by omega) (z.trans q3.symm)
          omega
    · rw [if_neg z, if_neg (fun q => z q.2)]
      exact h'
/-- the method of kind kk with a sort and a name -/
theorem r_364 (hk : kk < 8) (e0 : s.2.1 65 kk = Int32.ofNat m0) (e1 : s.2.1 65 (kk + 1) = Int32.ofNat m1) (h01 : m0 + 1 ≤ m1) (h72 : m1 ≤ 72) (x : Int32) (hw : 200 ≤ w) : rM w (k + 1) 364 [.ref 36, .int (Int32.ofNat kk), .int x, .long c] s = some (some (.int (kI (kG (s.2.2 78) (s.2.1 70) c x (m1 - (m0 + 1)) (m0 + 1)))), s) := by
  rw [y364]
  show s364_0 (rM w k) w (Int32.ofNat kk) x c s = _
  unfold s364_0
  refine bsq (a := Int32.ofNat m0) (by rw [aI_at (by decide) rfl (show kk < 9 by omega) (by decide), e0]) ?_
  have g1 : rs_aI s 65 (Int32.ofNat kk + 1) = some (Int32.ofNat m1) := by
    rw [show Int32.ofNat kk + 1 = Int32.ofNat (kk + 1) from of_add kk 1, aI_at (by decide) rfl (show kk + 1 < 9 by omega) (by decide), e1]
  have lp : ∀ (m i N : Nat), i + m = m1 → m < N → s364_10 (rM w k) w N (Int32.ofNat kk) x c (Int32.ofNat i) s = some (some (.int (kI (kG (s.2.2 78) (s.2.1 70) c x m i))), s) := by
    intro m
    induction m with
    | zero =>
      intro i N e hN
      obtain ⟨N, rfl⟩ : ∃ M, N = M + 1 := ⟨N - 1, by omega⟩
      rw [s364_10]
      refine bsq g1 (itq ?_ rfl)
      rw [f2_ge, of_int (by omega), of_int (by omega)]
      simp
      omega
    | succ m ih =>
      intro i N e hN
      obtain ⟨N, rfl⟩ : ∃ M, N = M + 1 := ⟨N - 1, by omega⟩
      have nx : s364_49 (rM w k) w (s364_10 (rM w k) w N) (Int32.ofNat kk) x c (Int32.ofNat i) s = some (some (.int (kI (kG (s.2.2 78) (s.2.1 70) c x m (i + 1)))), s) := by
        unfold s364_49
        rw [show Int32.ofNat i + 1 = Int32.ofNat (i + 1) from of_add i 1]
        exact ih (i + 1) N (by omega) (by omega)
      rw [s364_10]
      refine bsq g1 (inq ?_ (bsq (aI_at (i := i) (by decide) rfl (show i < 72 by omega) (by decide)) ?_))
      · rw [f2_ge, of_int (by omega), of_int (by omega)]
        simp
        omega
      · rw [f2_ne]
        by_cases z : s.2.1 70 i = x
        · refine inq (fun q => absurd z (of_decide_eq_true q)) (bsq (aJ_at (i := i) (by decide) rfl (show i < 72 by omega) (by decide)) ?_)
          rw [lg_ne]
          by_cases y : s.2.2 78 i = c
          · have ek : kG (s.2.2 78) (s.2.1 70) c x (m + 1) i = some i := by rw [kG, if_pos ⟨z, y⟩]
            rw [ek]
            exact inq (by simp [y]) rfl
          · have ek : kG (s.2.2 78) (s.2.1 70) c x (m + 1) i = kG (s.2.2 78) (s.2.1 70) c x m (i + 1) := by rw [kG, if_neg (fun q => y q.2)]
            rw [ek]
            exact itq (by simp [y]) nx
        · have ek : kG (s.2.2 78) (s.2.1 70) c x (m + 1) i = kG (s.2.2 78) (s.2.1 70) c x m (i + 1) := by rw [kG, if_neg (fun q => z q.1)]
          rw [ek]
          exact itq (decide_eq_true z) nx
  rw [show Int32.ofNat m0 + 1 = Int32.ofNat (m0 + 1) from of_add m0 1]
  exact lp (m1 - (m0 + 1)) (m0 + 1) w (by omega) (by omega)
end RQ
