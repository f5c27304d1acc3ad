/-! A STRINGBUILDER GROWS, TAKES A CHARACTER, IS CUT, IS READ. -/
abbrev byA (m : Nat) (f : Nat → Int32) : rm_E := .inl (1, m, .inl f)
abbrev sbO (b n : Nat) (ml : Int32) : rm_E := .inr (1, [.ref b, .int 0, .int ml, .int (Int32.ofNat n)])
section SB2
variable {L : Nat} {xs : Nat → Int32} {zf : Value} {w k : Nat} {h : rm_H}
theorem mx_max (a b : Nat) (ha : a ≤ b) (hb : b ≤ 1000000) (h : rm_H) : dM L xs zf w (k + 1) 18 [.int (Int32.ofNat a), .int (Int32.ofNat b)] h = some (some (.int (Int32.ofNat b)), h) := by
  rw [e18]
  show b18_0 L xs zf (dM L xs zf w k) w (Int32.ofNat a) (Int32.ofNat b) h = _
  unfold b18_0
  by_cases hab : a = b
  · subst hab
    exact ifn (by rw [f2_lt]; simp) rfl
  · exact ift (by rw [f2_lt, of_int (by omega), of_int (by omega)]; simp; omega) rfl
theorem mx_min (a b : Nat) (ha : a ≤ b) (hb : b ≤ 1000000) (h : rm_H) : dM L xs zf w (k + 1) 21 [.int (Int32.ofNat a), .int (Int32.ofNat b)] h = some (some (.int (Int32.ofNat a)), h) := by
  rw [e21]
  show b21_0 L xs zf (dM L xs zf w k) w (Int32.ofNat a) (Int32.ofNat b) h = _
  unfold b21_0
  exact ifn (by rw [f2_gt, of_int (by omega), of_int (by omega)]; simp; omega) rfl
theorem of_add (a b : Nat) : Int32.ofNat a + Int32.ofNat b = Int32.ofNat (a + b) := (Int32.ofNat_add a b).symm
theorem of_sub1 (m : Nat) : Int32.ofNat (m + 1) - Int32.ofNat m = 1 := by
  rw [show Int32.ofNat (m + 1) = Int32.ofInt ((m + 1 : Nat) : Int) from rfl, show Int32.ofNat m = Int32.ofInt (m : Int) from rfl, ← Int32.ofInt_sub]
  rw [show (((m + 1 : Nat) : Int) - (m : Int)) = 1 from by omega]
  rfl
theorem nl_2 (m : Nat) (hm : m ≤ 10000) (h : rm_H) : dM L xs zf w (k + 2) 17 [.int (Int32.ofNat m), .int 1, .int (Int32.ofNat m + 2)] h = some (some (.int (Int32.ofNat (2 * m + 2))), h) := by
  rw [e17]
  show b17_0 L xs zf (dM L xs zf w (k + 1)) w (Int32.ofNat m) 1 (Int32.ofNat m + 2) h = _
  unfold b17_0
  rw [show (2 : Int32) = Int32.ofNat 2 from rfl, of_add, show (1 : Int32) = Int32.ofNat 1 from rfl]
  refine bse (a := (Int32.ofNat (m + 2), h)) (bse (mx_max 1 (m + 2) (by omega) (by omega) h) rfl) ?_
  dsimp only
  rw [of_add]
  refine ifn (by rw [f2_ge, of_int (by omega), i0]; simp; omega) ?_
  refine ifn (by rw [f2_gt, of_int (by omega), show (2147483639 : Int32).toInt = 2147483639 from by decide]; simp; omega) ?_
  rw [show m + (m + 2) = 2 * m + 2 from by omega]
  rfl
theorem nc_2 {p b n m : Nat} {ml : Int32} {f : Nat → Int32} (hS : sB h p b n m ml f) : dM L xs zf w (k + 3) 16 [.ref p, .int (Int32.ofNat (m + 1))] h = some (some (.int (Int32.ofNat (2 * m + 2))), h) := by
  obtain ⟨hp, hb, hpb, hn, hm, hf, h1, h2⟩ := hS
  rw [e16]
  show b16_0 L xs zf (dM L xs zf w (k + 2)) w (some p) (Int32.ofNat (m + 1)) h = _
  unfold b16_0
  refine bse (gR_of (p := some b) hp h1 (by decide) rfl) ?_
  refine bse (aN_of hb h2 (by decide)) ?_
  refine bse (gI_of (x := 0) hp h1 (by decide) rfl) ?_
  refine bse (gI_of (x := 0) hp h1 (by decide) rfl) ?_
  rw [sl0, sl0, of_sub1]
  refine bse (a := (Int32.ofNat (2 * m + 2), h)) (bse (nl_2 m hm h) rfl) ?_
  refine ift (by
    rw [f2_ne]
    apply decide_eq_true
    intro z
    have z2 := congrArg Int32.toInt z
    try dsimp only at z2
    rw [of_int (by omega), show (2147483647 : Int32).toInt = 2147483647 from by decide] at z2
    omega) ?_
  refine bse (gI_of (x := 0) hp h1 (by decide) rfl) ?_
  rw [sh0]
  rfl
theorem cat_last (h : rm_H) (x : rm_E) : (h ++ [x])[h.length]? = some x := by simp
theorem cat_old {h : rm_H} {x y : rm_E} {q : Nat} (e : h[q]? = some y) : (h ++ [x])[q]? = some y := by
  rw [List.getElem?_append_left (rs_lt e)]
  exact e
theorem set_old {h : rm_H} {x y : rm_E} {q j : Nat} (hj : j ≠ q) (e : h[q]? = some y) : (h.set j x)[q]? = some y := by
  rw [rs_set_ne hj]
  exact e
theorem cpy_2 {b m : Nat} {f : Nat → Int32} (hb : 21 ≤ b) (hm : m ≤ 10000) (hf : ∀ i, fits .byte (.int (f i)) = true) (h2 : h[b - 21]? = some (.inl (1, m, .inl f))) : dM L xs zf w (k + 2) 20 [.ref b, .int (Int32.ofNat (2 * m + 2))] h = some (some (.ref (21 + h.length)), (h ++ [byA (2 * m + 2) (fun _ => 0)]).set h.length (byA (2 * m + 2) (va_cpy f (fun _ => 0) 0 0 m))) := by
  rw [e20]
  show b20_0 L xs zf (dM L xs zf w (k + 1)) w (some b) (Int32.ofNat (2 * m + 2)) h = _
  unfold b20_0
  refine bse (aN_of hb h2 (by decide)) ?_
  refine ift (by
    rw [f2_ne]
    apply decide_eq_true
    intro z
    have z2 := congrArg Int32.toInt z
    try dsimp only at z2
    rw [of_int (by omega), of_int (by omega)] at z2
    omega) ?_
  refine bse (a := h ++ [byA (2 * m + 2) (fun _ => 0)]) ?_ ?_
  · unfold dnI
    rw [of_clamp (by omega), if_pos]
    refine ⟨?_, by omega⟩
    rw [Int32.lt_iff_toInt_lt, of_int (by omega), i0]
    omega
  refine bse (aN_of hb (cat_old h2) (by decide)) ?_
  refine bse (a := (Int32.ofNat m, h ++ [byA (2 * m + 2) (fun _ => 0)])) (bse (mx_min m (2 * m + 2) (by omega) (by omega) _) rfl) ?_
  refine bse ?_ rfl
  unfold dcpy
  dsimp only
  have c0 : ¬ (0 : Int32) < 0 := by decide
  have cm : ¬ Int32.ofNat m < 0 := by rw [Int32.lt_iff_toInt_lt, of_int (by omega), i0]; omega
  rw [if_pos ⟨by omega, c0, c0, cm⟩, show 21 + h.length - 21 = h.length from by omega, cat_last, cat_old h2]
  dsimp only
  rw [of_clamp (by omega), show (0 : Int32).toNatClampNeg = 0 from by decide]
  refine (if_pos ⟨hb, rfl, Or.inr ⟨rfl, ?_⟩, by omega, by omega⟩).trans rfl
  unfold rm_fa
  rw [List.all_eq_true]
  intro i _
  exact hf _
/-- a new array of bytes, where there is no room for one more -/
theorem sb_grow {p b n m : Nat} {ml : Int32} {f : Nat → Int32} (hS : sB h p b n m ml f) (hm4 : 2 * m + 2 ≤ 10000) : ∃ h', dM L xs zf w (k + 4) 15 [.ref p, .int (Int32.ofNat (m + 1))] h = some (none, h') ∧ sB h' p (21 + h.length) n (2 * m + 2) ml (va_cpy f (fun _ => 0) 0 0 m) ∧ h'.length = h.length + 1 ∧ zh h' = zh h + (2 * m + 2) ∧ ∀ q, q ≠ p - 21 → q < h.length → h'[q]? = h[q]? := by
  have hS0 := hS
  obtain ⟨hp, hb, hpb, hn, hm, hf, h1, h2⟩ := hS
  have hpl := rs_lt h1
  have l2 := cat_last h (byA (2 * m + 2) (fun _ => 0))
  have hp2 : ((h ++ [byA (2 * m + 2) (fun _ => 0)]).set h.length (byA (2 * m + 2) (va_cpy f (fun _ => 0) 0 0 m)))[p - 21]? = some (.inr (1, [.ref b, .int 0, .int ml, .int (Int32.ofNat n)])) := set_old (by omega) (cat_old h1)
  refine ⟨((h ++ [byA (2 * m + 2) (fun _ => 0)]).set h.length (byA (2 * m + 2) (va_cpy f (fun _ => 0) 0 0 m))).set (p - 21) (sbO (21 + h.length) n ml), ?_, ⟨hp, by omega, by omega, by omega, hm4, ?_, ?_, ?_⟩, ?_, ?_, ?_⟩
  · rw [e15]
    show b15_0 L xs zf (dM L xs zf w (k + 3)) w (some p) (Int32.ofNat (m + 1)) h = _
    unfold b15_0
    refine bse (gR_of (p := some b) hp h1 (by decide) rfl) ?_
    refine bse (aN_of hb h2 (by decide)) ?_
    refine bse (gI_of (x := 0) hp h1 (by decide) rfl) ?_
    refine ifn (by
      rw [sh0, of_sub1]
      decide) ?_
    refine bse (gR_of (p := some b) hp h1 (by decide) rfl) ?_
    refine bse (a := (Int32.ofNat (2 * m + 2), h)) (by rw [dcV_of hp h1 (by decide), nc_2 hS0]; rfl) ?_
    refine bse (gI_of (x := 0) hp h1 (by decide) rfl) ?_
    rw [sl0]
    refine bse (a := (some (21 + h.length), _)) (bse (cpy_2 hb hm hf h2) rfl) ?_
    refine bse (a := _) ?_ rfl
    unfold dpF
    dsimp only
    rw [if_pos hp, hp2]
    rfl
  · intro i
    unfold va_cpy
    split
    · exact hf _
    · rfl
  · exact rs_set_eq hp2
  · rw [show 21 + h.length - 21 = h.length from by omega]
    exact set_old (by omega) (rs_set_eq l2)
  · simp
  · rw [zh_set (x := sbO b n ml) (by rfl) hp2, zh_set (by rfl) l2, zh_app]
    rfl
  · intro q hq1 hq2
    rw [rs_set_ne (fun z => hq1 z.symm), rs_set_ne (by omega), List.getElem?_append_left hq2]
end SB2
