/-! RIGHTS AND TOLD. -/
section EZ2
variable {L : Nat} {xs : Nat → Int32} {zf : Value} {w k : Nat} {h : rm_H} {s : rS}
theorem i32_of {x y : Int32} (h : x.toInt = y.toInt) : x = y := Int32.toInt_inj.mp h
theorem c5 (a : Int32) : (a.toInt < 0 ∨ 4 < a.toInt) ∨ a = 0 ∨ a = 1 ∨ a = 2 ∨ a = 3 ∨ a = 4 := by
  by_cases h : a.toInt < 0 ∨ 4 < a.toInt
  · exact Or.inl h
  · right
    have : a.toInt = 0 ∨ a.toInt = 1 ∨ a.toInt = 2 ∨ a.toInt = 3 ∨ a.toInt = 4 := by omega
    rcases this with e | e | e | e | e
    · exact Or.inl (i32_of e)
    · exact Or.inr (Or.inl (i32_of e))
    · exact Or.inr (Or.inr (Or.inl (i32_of e)))
    · exact Or.inr (Or.inr (Or.inr (Or.inl (i32_of e))))
    · exact Or.inr (Or.inr (Or.inr (Or.inr (i32_of e))))
theorem c4 (a : Int32) : (a.toInt < 0 ∨ 3 < a.toInt) ∨ a = 0 ∨ a = 1 ∨ a = 2 ∨ a = 3 := by
  by_cases h : a.toInt < 0 ∨ 3 < a.toInt
  · exact Or.inl h
  · right
    have : a.toInt = 0 ∨ a.toInt = 1 ∨ a.toInt = 2 ∨ a.toInt = 3 := by omega
    rcases this with e | e | e | e
    · exact Or.inl (i32_of e)
    · exact Or.inr (Or.inl (i32_of e))
    · exact Or.inr (Or.inr (Or.inl (i32_of e)))
    · exact Or.inr (Or.inr (Or.inr (i32_of e)))
theorem i5 : (5 : Int32).toInt = 5 := by decide
theorem i4 : (4 : Int32).toInt = 4 := by decide
theorem i3 : (3 : Int32).toInt = 3 := by decide
theorem f2_gt (x y : Int32) : mx_f2 .gt x y = decide (y.toInt < x.toInt) := by
  show decide (y < x) = _
  rw [decide_eq_decide, Int32.lt_iff_toInt_lt]
/-- none of the rights: both say so -/
theorem ri_out (x a b : Int32) (ho : (x.toInt < 0 ∨ 3 < x.toInt) ∨ (a.toInt < 0 ∨ 4 < a.toInt) ∨ (b.toInt < 0 ∨ 4 < b.toInt)) : dM L xs zf w (k + 2) 221 [.ref 21, .int x, .int a, .int b] h = some (some (.int (-1)), h) ∧ rM w (k + 2) 289 [.ref 36, .int x, .int a, .int b] s = some (some (.int (-1)), s) := by
  rw [e221, y289]
  show b221_0 L xs zf (dM L xs zf w (k + 1)) w x a b h = some (some (.int (-1)), h) ∧ s289_0 (rM w (k + 1)) w x a b s = some (some (.int (-1)), s)
  constructor
  · unfold b221_0
    by_cases a0 : a.toInt < 0
    · exact ift (by rw [f1_lt]; simp [a0]) rfl
    refine ifn (by rw [f1_lt]; simp; omega) ?_
    by_cases a5 : 4 < a.toInt
    · exact ift (by rw [f2_ge, i5]; simp; omega) rfl
    refine ifn (by rw [f2_ge, i5]; simp; omega) ?_
    by_cases b0 : b.toInt < 0
    · exact ift (by rw [f1_lt]; simp [b0]) rfl
    refine ifn (by rw [f1_lt]; simp; omega) ?_
    by_cases b5 : 4 < b.toInt
    · exact ifn (by rw [f2_lt, i5]; simp; omega) rfl
    refine ift (by rw [f2_lt, i5]; simp; omega) ?_
    exact ift (dsw_t (by omega)) rfl
  · unfold s289_0
    by_cases x0 : x.toInt < 0
    · exact ift (by rw [f1_lt]; simp [x0]) rfl
    refine ifn (by rw [f1_lt]; simp; omega) ?_
    by_cases x3 : 3 < x.toInt
    · exact ift (by rw [f2_gt, i3]; simp; omega) rfl
    refine ifn (by rw [f2_gt, i3]; simp; omega) ?_
    by_cases a0 : a.toInt < 0
    · exact ift (by rw [f1_lt]; simp [a0]) rfl
    refine ifn (by rw [f1_lt]; simp; omega) ?_
    by_cases a5 : 4 < a.toInt
    · exact ift (by rw [f2_gt, i4]; simp; omega) rfl
    refine ifn (by rw [f2_gt, i4]; simp; omega) ?_
    by_cases b0 : b.toInt < 0
    · exact ift (by rw [f1_lt]; simp [b0]) rfl
    refine ifn (by rw [f1_lt]; simp; omega) ?_
    exact ifn (by rw [f2_le, i4]; simp; omega) rfl
theorem ez_rights (x a b : Int32) : ∃ v : Int32, dM L xs zf w (k + 2) 221 [.ref 21, .int x, .int a, .int b] h = some (some (.int v), h) ∧ rM w (k + 2) 289 [.ref 36, .int x, .int a, .int b] s = some (some (.int v), s) := by
  rcases c4 x with hx | hx
  · exact ⟨-1, ri_out x a b (Or.inl hx)⟩
  rcases c5 a with ha | ha
  · exact ⟨-1, ri_out x a b (Or.inr (Or.inl ha))⟩
  rcases c5 b with hb | hb
  · exact ⟨-1, ri_out x a b (Or.inr (Or.inr hb))⟩
  rcases hx with e | e | e | e <;> subst e <;> rcases ha with e | e | e | e | e <;> subst e <;> rcases hb with e | e | e | e | e <;> subst e <;> exact ⟨_, rfl, rfl⟩
theorem i200 : (200 : Int32).toInt = 200 := by decide
theorem ez_told {bp cd : Option Nat} {fn fp : Int32} {c : Nat → Int32} (hB : iB h bp fn fp) (hW : iW h c cd) (hN : iN c s) (hT : iT h (c 12) s) (x y : Int32) : ∃ v : Int32, dM L xs zf w (k + 1) 269 [.ref 21, .int x, .int y] h = some (some (.int v), h) ∧ rM w (k + 1) 404 [.ref 36, .int x, .int y] s = some (some (.int v), s) := by
  rw [e269, y404]
  show ∃ v : Int32, b269_0 L xs zf (dM L xs zf w k) w (some 21) x y h = some (some (.int v), h) ∧ s404_0 (rM w k) w x y s = some (some (.int v), s)
  unfold b269_0 s404_0
  obtain ⟨a, b, ha, hb, hab⟩ := hT
  have gW : dgR L xs h 1 [0] (some 21) = some (some 24) := gR_of (by decide) hB (by decide) rfl
  have g12 : dgI L xs h 12 [2] (some 24) = some (c 12) := gI_of (by decide) hW (by decide) rfl
  have g3 : dgR L xs h 3 [2] (some 24) = some (some 28) := gR_of (by decide) hW (by decide) rfl
  have g4 : dgR L xs h 4 [2] (some 24) = some (some 29) := gR_of (by decide) hW (by decide) rfl
  by_cases r0 : s.1 74 = 0
  · have c0 : c 12 = 0 := (hN.1 r0).2.2.2.2.1
    refine ⟨0, ?_, ift (by show decide (s.1 74 = 0) = true; simp [r0]) rfl⟩
    by_cases x0 : x.toInt < 0
    · exact ift (by rw [f1_lt]; simp [x0]) rfl
    refine ifn (by rw [f1_lt]; simp; omega) ?_
    by_cases x2 : 200 ≤ x.toInt
    · exact ift (by rw [f2_ge, i200]; simp; omega) rfl
    refine ifn (by rw [f2_ge, i200]; simp; omega) ?_
    refine bse gW (bse g12 ?_)
    exact ifn (by rw [f2_lt, c0, i0]; simp; omega) rfl
  · have c12 : c 12 = s.1 81 := (hN.2 r0).2.2.2.2.1
    have hr : ¬ mx_f1 .eq (s.1 74) = true := by show ¬ decide (s.1 74 = 0) = true; simp [r0]
    by_cases x0 : x.toInt < 0
    · exact ⟨0, ift (by rw [f1_lt]; simp [x0]) rfl, ifn hr (ift (by rw [f1_lt]; simp [x0]) rfl)⟩
    have l0 : ¬ mx_f1 .lt x = true := by rw [f1_lt]; simp; omega
    by_cases x2 : 200 ≤ x.toInt
    · refine ⟨0, ifn l0 (ift (by rw [f2_ge, i200]; simp; omega) rfl), ifn hr (ifn l0 ?_)⟩
      by_cases xt : (s.1 81).toInt ≤ x.toInt
      · exact ift (by rw [f2_ge]; simp; omega) rfl
      · exact ifn (by rw [f2_ge]; simp; omega) (ifn (by rw [f2_lt, i200]; simp; omega) rfl)
    have g2 : ¬ mx_f2 .ge x 200 = true := by rw [f2_ge, i200]; simp; omega
    by_cases xt : (s.1 81).toInt ≤ x.toInt
    · exact ⟨0, ifn l0 (ifn g2 (bse gW (bse g12 (ifn (by rw [f2_lt, c12]; simp; omega) rfl)))), ifn hr (ifn l0 (ift (by rw [f2_ge]; simp; omega) rfl))⟩
    have lt : mx_f2 .lt x (c 12) = true := by rw [f2_lt, c12]; simp; omega
    have nge : ¬ mx_f2 .ge x (s.1 81) = true := by rw [f2_ge]; simp; omega
    have l2 : mx_f2 .lt x 200 = true := by rw [f2_lt, i200]; simp; omega
    have hin : rm_in x 200 = true := in_of (by omega) (by omega)
    have hx := hab r0 x.toNatClampNeg (by show x.toInt.toNat < 200; omega) (by show ((x.toInt.toNat : Nat) : Int) < _; rw [c12]; omega)
    have r8 : rs_aI s 108 x = some (s.2.1 108 x.toNatClampNeg) := if_pos (by show (true && true && true && rm_in x 200) = true; rw [hin]; rfl)
    have r9 : rs_aI s 109 x = some (s.2.1 109 x.toNatClampNeg) := if_pos (by show (true && true && true && rm_in x 200) = true; rw [hin]; rfl)
    by_cases y0 : y = 0
    · have ny : ¬ mx_f1 .ne y = true := by rw [f1_ne]; simp [y0]
      refine ⟨a x.toNatClampNeg, ifn l0 (ifn g2 (bse gW (bse g12 (ift lt (ifn ny (bse gW (bse g3 (bse (aI_of (by decide) ha hin) rfl)))))))), ifn hr (ifn l0 (ifn nge (ift l2 (ifn ny (bse r8 ?_)))))⟩
      rw [hx.1]
      rfl
    · have ny : mx_f1 .ne y = true := by rw [f1_ne]; simp [y0]
      by_cases y1 : y = 1
      · have my : ¬ mx_f2 .ne y 1 = true := by rw [f2_ne]; simp [y1]
        refine ⟨b x.toNatClampNeg, ifn l0 (ifn g2 (bse gW (bse g12 (ift lt (ift ny (ifn my (bse gW (bse g4 (bse (aI_of (by decide) hb hin) rfl))))))))), ifn hr (ifn l0 (ifn nge (ift l2 (ift ny (ifn my (bse r9 ?_))))))⟩
        rw [hx.2]
        rfl
      · have my : mx_f2 .ne y 1 = true := by rw [f2_ne]; simp [y1]
        exact ⟨0, ifn l0 (ifn g2 (bse gW (bse g12 (ift lt (ift ny (ift my rfl)))))), ifn hr (ifn l0 (ifn nge (ift l2 (ift ny (ift my rfl)))))⟩
end EZ2
