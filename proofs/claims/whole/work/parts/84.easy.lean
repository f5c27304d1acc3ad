/-! THE EASY CALLS: fault, world, told, rights. What stands between the class's own objects and the reference's state for them. -/
section EZ
variable {L : Nat} {xs : Nat → Int32} {zf : Value} {w k : Nat} {h : rm_H} {s : rS}
theorem gF_of {a j ci : Nat} {cis : List Nat} {fs : List Value} {v : Value} (ha : 21 ≤ a) (hx : h[a - 21]? = some (.inr (ci, fs))) (hc : cis.contains ci = true) (hk : fs[j]? = some v) : dgF L xs h j cis (some a) = some v := by
  unfold dgF
  dsimp only
  rw [rs_look ha, hx]
  dsimp only
  rw [if_pos hc, hk]
theorem gI_of {a j ci : Nat} {cis : List Nat} {fs : List Value} {x : Int32} (ha : 21 ≤ a) (hx : h[a - 21]? = some (.inr (ci, fs))) (hc : cis.contains ci = true) (hk : fs[j]? = some (.int x)) : dgI L xs h j cis (some a) = some x := by
  unfold dgI
  rw [gF_of ha hx hc hk]
  rfl
theorem gR_of {a j ci : Nat} {cis : List Nat} {fs : List Value} {p : Option Nat} (ha : 21 ≤ a) (hx : h[a - 21]? = some (.inr (ci, fs))) (hc : cis.contains ci = true) (hk : fs[j]? = some (va_rf p)) : dgR L xs h j cis (some a) = some p := by
  unfold dgR
  rw [gF_of ha hx hc hk]
  exact drf p
theorem aI_of {a n : Nat} {f : Nat → Int32} {i : Int32} (ha : 21 ≤ a) (hx : h[a - 21]? = some (.inl (0, n, .inl f))) (hi : rm_in i n = true) : daI L xs h (some a) i = some (f i.toNatClampNeg) := by
  unfold daI
  dsimp only
  rw [rs_look ha, hx]
  dsimp only
  rw [if_pos ⟨rfl, hi⟩]
theorem in_of {i : Int32} {n : Nat} (h0 : 0 ≤ i.toInt) (h1 : i.toInt < n) : rm_in i n = true := by
  unfold rm_in
  rw [Bool.and_eq_true]
  refine ⟨?_, ?_⟩
  · rw [Bool.not_eq_true', decide_eq_false_iff_not, Int32.lt_iff_toInt_lt]
    show ¬ i.toInt < 0
    omega
  · apply decide_eq_true
    show i.toInt.toNat < n
    omega
/-- the class's own object, the world's -/
def iB (h : rm_H) (bp : Option Nat) (fn fp : Int32) : Prop := h[0]? = some (.inr (0, [.ref 22, .ref 24, .ref 30, va_rf bp, .int fn, .int fp]))
def iW (h : rm_H) (c : Nat → Int32) (cd : Option Nat) : Prop := h[3]? = some (.inr (2, [.ref 25, .ref 26, .ref 27, .ref 28, .ref 29, .int (c 5), .int (c 6), va_rf cd, .int (c 8), .int (c 9), .int (c 10), .int (c 11), .int (c 12), .int (c 13), .int (c 14), .int (c 15)]))
def iF (fn fp : Int32) (s : rS) : Prop := (s.1 72 = 0 → fn = -1 ∧ fp = -1) ∧ (s.1 72 ≠ 0 → fn = s.1 57 ∧ fp = s.1 58)
def iN (c : Nat → Int32) (s : rS) : Prop := (s.1 74 = 0 → c 8 = 0 ∧ c 9 = 0 ∧ c 10 = 0 ∧ c 11 = 0 ∧ c 12 = 0 ∧ c 13 = 0 ∧ c 14 = 0 ∧ c 15 = 0) ∧ (s.1 74 ≠ 0 → c 8 = s.1 75 ∧ c 9 = s.1 76 ∧ c 10 = s.1 77 ∧ c 11 = s.1 80 ∧ c 12 = s.1 81 ∧ c 13 = s.1 82 ∧ c 14 = s.1 83 ∧ c 15 = s.1 84)
def iT (h : rm_H) (c12 : Int32) (s : rS) : Prop := ∃ a b : Nat → Int32, h[7]? = some (.inl (0, 200, .inl a)) ∧ h[8]? = some (.inl (0, 200, .inl b)) ∧ (s.1 74 ≠ 0 → ∀ i : Nat, i < 200 → (i : Int) < c12.toInt → a i = s.2.1 108 i ∧ b i = s.2.1 109 i)
theorem f1_ne (x : Int32) : mx_f1 .ne x = decide (¬ x = 0) := rfl
theorem f2_ne (x y : Int32) : mx_f2 .ne x y = decide (¬ x = y) := rfl
theorem ez_fault_c {bp : Option Nat} {fn fp : Int32} (hB : iB h bp fn fp) (x : Int32) : dM L xs zf w (k + 1) 218 [.ref 21, .int x] h = some (some (.int (if x = 0 then fn else if x = 1 then fp else -1)), h) := by
  rw [e218]
  show b218_0 L xs zf _ w (some 21) x h = _
  unfold b218_0
  by_cases x0 : x = 0
  · rw [if_pos x0]
    refine ifn (by rw [f1_ne]; simp [x0]) ?_
    exact bse (gI_of (by decide) hB (by decide) rfl) rfl
  · rw [if_neg x0]
    refine ift (by rw [f1_ne]; simp [x0]) ?_
    by_cases x1 : x = 1
    · rw [if_pos x1]
      refine ifn (by rw [f2_ne]; simp [x1]) ?_
      exact bse (gI_of (by decide) hB (by decide) rfl) rfl
    · rw [if_neg x1]
      refine ift (by rw [f2_ne]; simp [x1]) ?_
      rfl
theorem i0 : (0 : Int32).toInt = 0 := by decide
theorem i1 : (1 : Int32).toInt = 1 := by decide
theorem f1_lt (x : Int32) : mx_f1 .lt x = decide (x.toInt < 0) := by
  show decide (x < 0) = _
  rw [decide_eq_decide, Int32.lt_iff_toInt_lt, i0]
theorem f2_le (x y : Int32) : mx_f2 .le x y = decide (x.toInt ≤ y.toInt) := by
  show decide (x ≤ y) = _
  rw [decide_eq_decide, Int32.le_iff_toInt_le]
theorem f2_lt (x y : Int32) : mx_f2 .lt x y = decide (x.toInt < y.toInt) := by
  show decide (x < y) = _
  rw [decide_eq_decide, Int32.lt_iff_toInt_lt]
theorem f2_ge (x y : Int32) : mx_f2 .ge x y = decide (y.toInt ≤ x.toInt) := by
  show decide (y ≤ x) = _
  rw [decide_eq_decide, Int32.le_iff_toInt_le]
theorem ez_fault_r (x : Int32) : rM w (k + 1) 370 [.ref 36, .int x] s = some (some (.int (if s.1 72 = 0 then -1 else if x = 0 then s.1 57 else if x = 1 then s.1 58 else -1)), s) := by
  rw [y370]
  show s370_0 _ w x s = _
  unfold s370_0
  by_cases b0 : s.1 72 = 0
  · rw [if_pos b0]
    exact ift (by show decide (s.1 72 = 0) = true; simp [b0]) rfl
  · rw [if_neg b0]
    refine ifn (by show ¬ decide (s.1 72 = 0) = true; simp [b0]) ?_
    by_cases x0 : x = 0
    · subst x0
      rfl
    · rw [if_neg x0]
      by_cases x1 : x = 1
      · subst x1
        rfl
      · rw [if_neg x1]
        have n0 := lw_ne x0
        have n1 := lw_ne x1
        rw [i0] at n0
        rw [i1] at n1
        by_cases l0 : x.toInt < 0
        · exact ift (by rw [f1_lt]; simp [l0]) rfl
        · refine ifn (by rw [f1_lt]; simp; omega) ?_
          exact ifn (by rw [f2_le, i1]; simp; omega) rfl
theorem ez_fault {bp : Option Nat} {fn fp : Int32} (hB : iB h bp fn fp) (hF : iF fn fp s) (x : Int32) : ∃ v : Int32, dM L xs zf w (k + 1) 218 [.ref 21, .int x] h = some (some (.int v), h) ∧ rM w (k + 1) 370 [.ref 36, .int x] s = some (some (.int v), s) := by
  refine ⟨_, ez_fault_c hB x, ?_⟩
  rw [ez_fault_r]
  by_cases b0 : s.1 72 = 0
  · obtain ⟨e1, e2⟩ := hF.1 b0
    rw [if_pos b0, e1, e2]
    split
    · rfl
    · split <;> rfl
  · obtain ⟨e1, e2⟩ := hF.2 b0
    rw [if_neg b0, e1, e2]
theorem dsw_t {lo hi : Int} {x : Int32} (h : x.toInt < lo ∨ hi < x.toInt) : dsw lo hi x = true := decide_eq_true h
theorem dsw_f {lo hi : Int} {x : Int32} (h : ¬ (x.toInt < lo ∨ hi < x.toInt)) : ¬ dsw lo hi x = true := fun z => h (of_decide_eq_true z)
theorem ez_world {bp cd : Option Nat} {fn fp : Int32} {c : Nat → Int32} (hB : iB h bp fn fp) (hW : iW h c cd) (hN : iN c s) (x : Int32) : ∃ v : Int32, dM L xs zf w (k + 1) 267 [.ref 21, .int x] h = some (some (.int v), h) ∧ rM w (k + 1) 402 [.ref 36, .int x] s = some (some (.int v), s) := by
  rw [e267, y402]
  show ∃ v : Int32, b267_0 L xs zf (dM L xs zf w k) w (some 21) x h = some (some (.int v), h) ∧ s402_0 (rM w k) w x s = some (some (.int v), s)
  unfold b267_0 s402_0
  by_cases hx : x.toInt < 0 ∨ 7 < x.toInt
  · refine ⟨-1, ift (dsw_t hx) rfl, ?_⟩
    by_cases l0 : x.toInt < 0
    · exact ift (by rw [f1_lt]; simp [l0]) rfl
    · refine ifn (by rw [f1_lt]; simp; omega) ?_
      exact ifn (by rw [f2_le, show (7 : Int32).toInt = 7 from by decide]; simp; omega) rfl
  · have lt0 : ¬ mx_f1 .lt x = true := by rw [f1_lt]; simp; omega
    have le7 : mx_f2 .le x 7 = true := by rw [f2_le, show (7 : Int32).toInt = 7 from by decide]; simp; omega
    have cs : x = 0 ∨ x = 1 ∨ x = 2 ∨ x = 3 ∨ x = 4 ∨ x = 5 ∨ x = 6 ∨ x = 7 := by
      have : x.toInt = 0 ∨ x.toInt = 1 ∨ x.toInt = 2 ∨ x.toInt = 3 ∨ x.toInt = 4 ∨ x.toInt = 5 ∨ x.toInt = 6 ∨ x.toInt = 7 := by omega
      rcases this with e | e | e | e | e | e | e | e
      · exact Or.inl (Int32.toInt_inj.mp e)
      · exact Or.inr (Or.inl (Int32.toInt_inj.mp e))
      · exact Or.inr (Or.inr (Or.inl (Int32.toInt_inj.mp e)))
      · exact Or.inr (Or.inr (Or.inr (Or.inl (Int32.toInt_inj.mp e))))
      · exact Or.inr (Or.inr (Or.inr (Or.inr (Or.inl (Int32.toInt_inj.mp e)))))
      · exact Or.inr (Or.inr (Or.inr (Or.inr (Or.inr (Or.inl (Int32.toInt_inj.mp e))))))
      · exact Or.inr (Or.inr (Or.inr (Or.inr (Or.inr (Or.inr (Or.inl (Int32.toInt_inj.mp e)))))))
      · exact Or.inr (Or.inr (Or.inr (Or.inr (Or.inr (Or.inr (Or.inr (Int32.toInt_inj.mp e)))))))
    by_cases r0 : s.1 74 = 0
    · have hz := hN.1 r0
      have hr : ¬ mx_f1 .ne (s.1 74) = true := by rw [f1_ne]; simp [r0]
      rcases cs with e | e | e | e | e | e | e | e <;> subst e
      · exact ⟨0, bse (gR_of (by decide) hB (by decide) (p := some 24) rfl) (bse (gI_of (by decide) hW (by decide) (x := c 8) rfl) (by rw [hz.1]; rfl)), ift (by decide) (ifn hr rfl) |> ifn (by decide)⟩
      · exact ⟨0, bse (gR_of (by decide) hB (by decide) (p := some 24) rfl) (bse (gI_of (by decide) hW (by decide) (x := c 9) rfl) (by rw [hz.2.1]; rfl)), ift (by decide) (ifn hr rfl) |> ifn (by decide)⟩
      · exact ⟨0, bse (gR_of (by decide) hB (by decide) (p := some 24) rfl) (bse (gI_of (by decide) hW (by decide) (x := c 10) rfl) (by rw [hz.2.2.1]; rfl)), ift (by decide) (ifn hr rfl) |> ifn (by decide)⟩
      · exact ⟨0, bse (gR_of (by decide) hB (by decide) (p := some 24) rfl) (bse (gI_of (by decide) hW (by decide) (x := c 11) rfl) (by rw [hz.2.2.2.1]; rfl)), ift (by decide) (ifn hr rfl) |> ifn (by decide)⟩
      · exact ⟨0, bse (gR_of (by decide) hB (by decide) (p := some 24) rfl) (bse (gI_of (by decide) hW (by decide) (x := c 12) rfl) (by rw [hz.2.2.2.2.1]; rfl)), ift (by decide) (ifn hr rfl) |> ifn (by decide)⟩
      · exact ⟨0, bse (gR_of (by decide) hB (by decide) (p := some 24) rfl) (bse (gI_of (by decide) hW (by decide) (x := c 13) rfl) (by rw [hz.2.2.2.2.2.1]; rfl)), ift (by decide) (ifn hr rfl) |> ifn (by decide)⟩
      · exact ⟨0, bse (gR_of (by decide) hB (by decide) (p := some 24) rfl) (bse (gI_of (by decide) hW (by decide) (x := c 14) rfl) (by rw [hz.2.2.2.2.2.2.1]; rfl)), ift (by decide) (ifn hr rfl) |> ifn (by decide)⟩
      · exact ⟨0, bse (gR_of (by decide) hB (by decide) (p := some 24) rfl) (bse (gI_of (by decide) hW (by decide) (x := c 15) rfl) (by rw [hz.2.2.2.2.2.2.2]; rfl)), ift (by decide) (ifn hr rfl) |> ifn (by decide)⟩
    · have hz := hN.2 r0
      have hr : mx_f1 .ne (s.1 74) = true := by rw [f1_ne]; simp [r0]
      rcases cs with e | e | e | e | e | e | e | e <;> subst e
      · exact ⟨s.1 75, bse (gR_of (by decide) hB (by decide) (p := some 24) rfl) (bse (gI_of (by decide) hW (by decide) (x := c 8) rfl) (by rw [hz.1]; rfl)), ift (by decide) (ift hr rfl) |> ifn (by decide)⟩
      · exact ⟨s.1 76, bse (gR_of (by decide) hB (by decide) (p := some 24) rfl) (bse (gI_of (by decide) hW (by decide) (x := c 9) rfl) (by rw [hz.2.1]; rfl)), ift (by decide) (ift hr rfl) |> ifn (by decide)⟩
      · exact ⟨s.1 77, bse (gR_of (by decide) hB (by decide) (p := some 24) rfl) (bse (gI_of (by decide) hW (by decide) (x := c 10) rfl) (by rw [hz.2.2.1]; rfl)), ift (by decide) (ift hr rfl) |> ifn (by decide)⟩
      · exact ⟨s.1 80, bse (gR_of (by decide) hB (by decide) (p := some 24) rfl) (bse (gI_of (by decide) hW (by decide) (x := c 11) rfl) (by rw [hz.2.2.2.1]; rfl)), ift (by decide) (ift hr rfl) |> ifn (by decide)⟩
      · exact ⟨s.1 81, bse (gR_of (by decide) hB (by decide) (p := some 24) rfl) (bse (gI_of (by decide) hW (by decide) (x := c 12) rfl) (by rw [hz.2.2.2.2.1]; rfl)), ift (by decide) (ift hr rfl) |> ifn (by decide)⟩
      · exact ⟨s.1 82, bse (gR_of (by decide) hB (by decide) (p := some 24) rfl) (bse (gI_of (by decide) hW (by decide) (x := c 13) rfl) (by rw [hz.2.2.2.2.2.1]; rfl)), ift (by decide) (ift hr rfl) |> ifn (by decide)⟩
      · exact ⟨s.1 83, bse (gR_of (by decide) hB (by decide) (p := some 24) rfl) (bse (gI_of (by decide) hW (by decide) (x := c 14) rfl) (by rw [hz.2.2.2.2.2.2.1]; rfl)), ift (by decide) (ift hr rfl) |> ifn (by decide)⟩
      · exact ⟨s.1 84, bse (gR_of (by decide) hB (by decide) (p := some 24) rfl) (bse (gI_of (by decide) hW (by decide) (x := c 15) rfl) (by rw [hz.2.2.2.2.2.2.2]; rfl)), ift (by decide) (ift hr rfl) |> ifn (by decide)⟩
end EZ
