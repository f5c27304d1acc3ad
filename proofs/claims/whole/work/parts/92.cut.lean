/-! A STRINGBUILDER IS CUT AND READ; END AND LETTER. -/
section CU
variable {L : Nat} {xs : Nat → Int32} {zf : Value} {w k : Nat} {h : rm_H} {bp : Option Nat} {fn fp : Int32} {s : rS}
theorem sb_fld {p b n m : Nat} {ml : Int32} {f : Nat → Int32} (hS : sB h p b n m ml f) (j : Nat) (v : Value) (n' : Nat) (ml' : Int32) (hj : j < 4) (hv : rm_fit (ah_FT 1 j) v = true) (hs : [Value.ref b, .int 0, .int ml, .int (Int32.ofNat n)].set j v = [Value.ref b, .int 0, .int ml', .int (Int32.ofNat n')]) (hn : n' ≤ m) : ∃ h', dpF h j [1] (some p) v = some h' ∧ sB h' p b n' m ml' f ∧ h'.length = h.length ∧ zh h' = zh h ∧ ∀ q, q ≠ p - 21 → h'[q]? = h[q]? := by
  obtain ⟨hp, hb, hpb, hnm, hm, hf, h1, h2⟩ := hS
  refine ⟨h.set (p - 21) (sbO b n' ml'), ?_, ⟨hp, hb, hpb, hn, hm, hf, rs_set_eq h1, set_old (by omega) h2⟩, by simp, zh_set (by rfl) h1, fun q hq => rs_set_ne (fun z => hq z.symm)⟩
  unfold dpF
  dsimp only
  rw [if_pos hp, h1]
  dsimp only
  rw [if_pos ⟨by decide, hv, hj⟩, hs]
theorem sb_cut {p b n m : Nat} {ml : Int32} {f : Nat → Int32} (hS : sB h p b n m ml f) (q : Nat) (hq : q ≤ n) : ∃ h' ml', dM L xs zf w (k + 3) 37 [.ref p, .int (Int32.ofNat q)] h = some (none, h') ∧ sB h' p b q m ml' f ∧ h'.length = h.length ∧ zh h' = zh h ∧ ∀ i, i ≠ p - 21 → h'[i]? = h[i]? := by
  have hS0 := hS
  obtain ⟨hp, hb, hpb, hn, hm, hf, h1, h2⟩ := hS
  -- what is left to do when the fields are right but for the count
  have key : ∀ (h0 : rm_H) (ml0 : Int32), sB h0 p b n m ml0 f → ∃ h', b38_76 L xs zf (dM L xs zf w (k + 1)) w (some p) (Int32.ofNat q) h0 = some (none, h') ∧ sB h' p b q m ml0 f ∧ h'.length = h0.length ∧ zh h' = zh h0 ∧ ∀ i, i ≠ p - 21 → h'[i]? = h0[i]? := by
    intro h0 ml0 g
    obtain ⟨h', g1, g2, g3, g4, g5⟩ := sb_fld g 3 (.int (Int32.ofNat q)) q ml0 (by decide) rfl rfl (by omega)
    refine ⟨h', ?_, g2, g3, g4, g5⟩
    unfold b38_76
    exact bse g1 rfl
  have pre : ∀ r : rm_H, b38_0 L xs zf (dM L xs zf w (k + 1)) w (some p) (Int32.ofNat q) h = some (none, r) → dM L xs zf w (k + 3) 37 [.ref p, .int (Int32.ofNat q)] h = some (none, r) := by
    intro r hr
    rw [e37]
    show b37_0 L xs zf (dM L xs zf w (k + 2)) w (some p) (Int32.ofNat q) h = _
    unfold b37_0
    refine bse (a := r) ?_ rfl
    rw [dcV_of hp h1 (by decide), e38]
    show (b38_0 L xs zf (dM L xs zf w (k + 1)) w (some p) (Int32.ofNat q) h).bind dxV = _
    rw [hr]
    rfl
  have c0 : mx_f1 .ge (Int32.ofNat q) = true := by
    show decide (0 ≤ Int32.ofNat q) = true
    apply decide_eq_true
    rw [Int32.le_iff_toInt_le, of_int (by omega), i0]
    omega
  have e15' : (dcV L xs (dM L xs zf w (k + 1)) 15 [1] (some p) [.int (Int32.ofNat q)] h).bind dxV = some h := by rw [dcV_of hp h1 (by decide), sb_room hS0 q (by omega)]; rfl
  have g3 : dgI L xs h 3 [1] (some p) = some (Int32.ofNat n) := gI_of hp h1 (by decide) rfl
  have cge : mx_f2 .ge (Int32.ofNat n) (Int32.ofNat q) = true := by rw [f2_ge, of_int (by omega), of_int (by omega)]; simp; omega
  by_cases hqn : q = n
  · obtain ⟨h', g1, g2, g4, g5, g6⟩ := key h ml hS0
    refine ⟨h', ml, pre h' ?_, g2, g4, g5, g6⟩
    unfold b38_0
    refine ift c0 (bse e15' (bse g3 (ift cge (bse g3 (ift ?_ g1)))))
    rw [f2_le, of_int (by omega), of_int (by omega)]; simp; omega
  · obtain ⟨h2', a1, a2, a3, a4, a5⟩ := sb_fld hS0 2 (.int 1) n 1 (by decide) rfl rfl (by omega)
    obtain ⟨h', g1, g2, g4, g5, g6⟩ := key h2' 1 a2
    refine ⟨h', 1, pre h' ?_, g2, by omega, by omega, fun i hi => (g6 i hi).trans (a5 i hi)⟩
    unfold b38_0
    refine ift c0 (bse e15' (bse g3 (ift cge (bse g3 (ifn ?_ (bse a1 g1))))))
    rw [f2_le, of_int (by omega), of_int (by omega)]; simp; omega
theorem cf_end {b n m : Nat} {ml : Int32} {f : Nat → Int32} (hX : tX h bp fn fp b n m ml f) (hn : n ≤ 2000) (x : Int32) : (0 ≤ x.toInt ∧ x.toInt ≤ n → ∃ h' ml', dM L xs zf w (k + 4) 36 [.ref 21, .int x] h = some (some (.int x), h') ∧ tX h' bp fn fp b x.toNatClampNeg m ml' f ∧ h'.length = h.length ∧ zh h' = zh h ∧ ∀ i, i ≠ 1 → h'[i]? = h[i]?) ∧ (¬ (0 ≤ x.toInt ∧ x.toInt ≤ n) → dM L xs zf w (k + 4) 36 [.ref 21, .int x] h = some (some (.int (-1)), h)) := by
  have hX0 := hX
  obtain ⟨hB, hS, hb, hl⟩ := hX0
  have e1 : dgR L xs h 0 [0] (some 21) = some (some 22) := gR_of (by decide) hB (by decide) rfl
  have e2 : (dcV L xs (dM L xs zf w (k + 3)) 10 [1] (some 22) [] h).bind dxI = some (Int32.ofNat n, h) := by rw [dcV_of hS.1 hS.2.2.2.2.2.2.1 (by decide), sb_len hS]; rfl
  rw [e36]
  show (_ → ∃ h' ml', b36_0 L xs zf (dM L xs zf w (k + 3)) w (some 21) x h = _ ∧ _) ∧ (_ → b36_0 L xs zf (dM L xs zf w (k + 3)) w (some 21) x h = _)
  unfold b36_0
  constructor
  · rintro ⟨x0, x1⟩
    have hx : x = Int32.ofNat x.toNatClampNeg := by
      apply i32_of
      have : ((x.toNatClampNeg : Nat) : Int) = x.toInt := by show ((x.toInt.toNat : Nat) : Int) = _; omega
      rw [of_int (by omega), this]
    have hq : x.toNatClampNeg ≤ n := by show x.toInt.toNat ≤ n; omega
    obtain ⟨h', ml', g1, g2, g3, g4, g5⟩ := sb_cut (L := L) (xs := xs) (zf := zf) (w := w) (k := k) hS x.toNatClampNeg hq
    rw [← hx] at g1
    refine ⟨h', ml', ?_, ⟨?_, g2, hb, by omega⟩, g3, g4, g5⟩
    · refine ifn (by rw [f1_lt]; simp; omega) (bse e1 (bse e2 ?_))
      refine ift (show mx_f2 .le x (Int32.ofNat n) = true by rw [f2_le, of_int (by omega)]; simp; omega) ?_
      refine bse e1 ?_
      refine bse (a := h') ?_ rfl
      show (dcV L xs (dM L xs zf w (k + 3)) 37 [1] (some 22) [.int x] h).bind dxV = _
      rw [dcV_of hS.1 hS.2.2.2.2.2.2.1 (by decide), g1]
      rfl
    · show h'[0]? = _
      rw [g5 0 (by decide)]
      exact hB
  · intro hx
    by_cases x0 : x.toInt < 0
    · exact ift (by rw [f1_lt]; simp [x0]) rfl
    · refine ifn (by rw [f1_lt]; simp; omega) (bse e1 (bse e2 ?_))
      exact ifn (show ¬ mx_f2 .le x (Int32.ofNat n) = true by rw [f2_le, of_int (by omega)]; simp; omega) rfl
theorem rf_end (n : Nat) (hn : s.1 2 = Int32.ofNat n) (hn2 : n ≤ 2000) (x : Int32) : (0 ≤ x.toInt ∧ x.toInt ≤ n → rM w (k + 1) 287 [.ref 36, .int x] s = some (some (.int x), rs_w s 2 x)) ∧ (¬ (0 ≤ x.toInt ∧ x.toInt ≤ n) → rM w (k + 1) 287 [.ref 36, .int x] s = some (some (.int (-1)), s)) := by
  rw [y287]
  show (_ → s287_0 (rM w k) w x s = _) ∧ (_ → s287_0 (rM w k) w x s = _)
  unfold s287_0
  constructor
  · rintro ⟨x0, x1⟩
    refine ifn (by rw [f1_lt]; simp; omega) ?_
    refine ift (show mx_f2 .le x (s.1 2) = true by rw [hn, f2_le, of_int (by omega)]; simp; omega) ?_
    exact bse (a := rs_w s 2 x) (if_pos rfl) rfl
  · intro hx
    by_cases x0 : x.toInt < 0
    · exact ift (by rw [f1_lt]; simp [x0]) rfl
    · refine ifn (by rw [f1_lt]; simp; omega) ?_
      exact ifn (show ¬ mx_f2 .le x (s.1 2) = true by rw [hn, f2_le, of_int (by omega)]; simp; omega) rfl
end CU
