/-! LETTER: both sides. -/
section LE
variable {L : Nat} {xs : Nat → Int32} {zf : Value} {w k : Nat} {h : rm_H} {bp : Option Nat} {fn fp : Int32} {s : rS}
theorem ch_rt (y : Int32) : rm_rt (some .char) (y &&& 255) = true := by
  unfold rm_rt
  apply decide_eq_true
  have h := a255_u y
  apply i32_of
  have e : ∀ n : Nat, n ≤ 255 → ((UInt32.ofNat n).toUInt16.toUInt32.toInt32).toInt = (n : Int) := by decide +kernel
  have e2 : (y &&& 255).toUInt32 = UInt32.ofNat (y &&& 255).toUInt32.toNat := by
    apply UInt32.toNat_inj.mp
    rw [UInt32.toNat_ofNat_of_lt' (by show _ < 4294967296; omega)]
  have e3 := e _ h
  rw [← e2] at e3
  rw [e3]
  show _ = (y &&& 255).toBitVec.toInt
  rw [BitVec.toInt_eq_toNat_of_lt]
  · rfl
  · show 2 * (y &&& 255).toUInt32.toNat < _
    omega
theorem ck_in (i n : Nat) (hi : i < n) (hn : n ≤ 1000000) (h : rm_H) : dM L xs zf w (k + 2) 34 [.int (Int32.ofNat i), .int (Int32.ofNat n)] h = some (none, h) := by
  rw [e34]
  show b34_0 L xs zf (dM L xs zf w (k + 1)) w (Int32.ofNat i) (Int32.ofNat n) h = _
  unfold b34_0
  refine bse (a := (Int32.ofNat i, h)) ?_ rfl
  rw [e35]
  show (b35_0 L xs zf (dM L xs zf w k) w (Int32.ofNat i) (Int32.ofNat n) h).bind dxI = _
  unfold b35_0
  rw [if_neg (show ¬ mx_f1 .lt (Int32.ofNat i) = true by rw [f1_lt, of_int (by omega)]; simp), if_pos (show mx_f2 .lt (Int32.ofNat i) (Int32.ofNat n) = true by rw [f2_lt, of_int (by omega), of_int (by omega)]; simp; omega)]
  rfl
theorem aB_of {a n : Nat} {f : Nat → Int32} {i : Int32} (ha : 21 ≤ a) (hx : h[a - 21]? = some (.inl (1, n, .inl f))) (hi : rm_in i n = true) : daB L xs h (some a) i = some (f i.toNatClampNeg) := by
  unfold daB
  dsimp only
  rw [rs_look ha, hx]
  dsimp only
  rw [if_pos ⟨Or.inl rfl, hi⟩]
theorem sb_chr {p b n m : Nat} {ml : Int32} {f : Nat → Int32} (hS : sB h p b n m ml f) (i : Nat) (hi : i < n) : dM L xs zf w (k + 4) 284 [.ref p, .int (Int32.ofNat i)] h = some (some (.int (f i &&& 255)), h) := by
  obtain ⟨hp, hb, hpb, hn, hm, hf, h1, h2⟩ := hS
  rw [e284]
  show b284_0 L xs zf (dM L xs zf w (k + 3)) w (some p) (Int32.ofNat i) h = _
  unfold b284_0
  refine bse (a := (f i &&& 255, h)) ?_ ?_
  · rw [dcV_of hp h1 (by decide), e285]
    show (b285_0 L xs zf (dM L xs zf w (k + 2)) w (some p) (Int32.ofNat i) h).bind dxI = _
    refine bse (a := (some (.int (f i &&& 255)), h)) ?_ rfl
    unfold b285_0
    refine bse (gI_of (x := 0) hp h1 (by decide) rfl) ?_
    refine bse (gR_of (p := some b) hp h1 (by decide) rfl) ?_
    refine bse (gI_of (x := Int32.ofNat n) hp h1 (by decide) rfl) ?_
    refine bse (aN_of hb h2 (by decide)) ?_
    rw [sh0]
    refine bse (a := (Int32.ofNat n, h)) (by rw [mx_min n m hn (by omega) h]; rfl) ?_
    refine bse (a := h) (by show (dM L xs zf w (k + 2) 34 [.int (Int32.ofNat i), .int (Int32.ofNat n)] h).bind dxV = _; rw [ck_in i n hi (by omega) h]; rfl) ?_
    refine ifn (by decide) ?_
    refine bse (aB_of hb h2 (of_in (by omega) (by omega))) ?_
    rw [of_clamp (by omega), a255_ch]
    exact if_pos (ch_rt _)
  · exact if_pos (ch_rt _)
def iO (h : rm_H) (cnt stp dep : Int32) : Prop := h[9]? = some (.inr (3, [.ref 31, .ref 33, .ref 34, .ref 35, .int cnt, .int stp, .int dep]))
/-- what is kept of the output -/
def iL (s : rS) (n : Nat) (f : Nat → Int32) : Prop := n ≤ 3000 ∧ 0 ≤ (s.1 111).toInt ∧ (n : Int) = min (s.1 111).toInt 3000 ∧ ∀ i, i < n → f i &&& 255 = s.2.1 111 i
theorem ez_letter {cnt stp dep : Int32} {b n m : Nat} {ml : Int32} {f : Nat → Int32} (hB : iB h bp fn fp) (hO : iO h cnt stp dep) (hS : sB h 31 b n m ml f) (hL : iL s n f) (x : Int32) : ∃ v : Int32, dM L xs zf w (k + 6) 282 [.ref 21, .int x] h = some (some (.int v), h) ∧ rM w (k + 1) 413 [.ref 36, .int x] s = some (some (.int v), s) := by
  obtain ⟨hn, l1, l2, l3⟩ := hL
  have e1 : dgR L xs h 2 [0] (some 21) = some (some 30) := gR_of (by decide) hB (by decide) rfl
  have e2 : dgR L xs h 0 [3] (some 30) = some (some 31) := gR_of (by decide) hO (by decide) rfl
  have e3 : (dcV L xs (dM L xs zf w (k + 4)) 10 [1] (some 31) [] h).bind dxI = some (Int32.ofNat n, h) := by rw [dcV_of hS.1 hS.2.2.2.2.2.2.1 (by decide), sb_len hS]; rfl
  have hc : ∀ v : Int32, b283_0 L xs zf (dM L xs zf w (k + 4)) w (some 30) x h = some (some (.int v), h) → dM L xs zf w (k + 6) 282 [.ref 21, .int x] h = some (some (.int v), h) := by
    intro v hv
    rw [e282]
    show b282_0 L xs zf (dM L xs zf w (k + 5)) w (some 21) x h = _
    unfold b282_0
    refine bse e1 (bse (a := (v, h)) ?_ rfl)
    rw [dcV_of (p := 30) (by decide) hO (by decide), e283]
    show (b283_0 L xs zf (dM L xs zf w (k + 4)) w (some 30) x h).bind dxI = _
    rw [hv]
    rfl
  rw [y413]
  show ∃ v : Int32, _ ∧ s413_0 (rM w k) w x s = some (some (.int v), s)
  have i3k : (3000 : Int32).toInt = 3000 := by decide
  by_cases x0 : x.toInt < 0
  · exact ⟨0, hc 0 (by unfold b283_0; exact ift (by rw [f1_lt]; simp [x0]) rfl), by unfold s413_0; exact ift (by rw [f1_lt]; simp [x0]) rfl⟩
  have l0 : ¬ mx_f1 .lt x = true := by rw [f1_lt]; simp; omega
  by_cases xn : x.toInt < n
  · have hx : x = Int32.ofNat x.toNatClampNeg := by
      apply i32_of
      have : ((x.toNatClampNeg : Nat) : Int) = x.toInt := by show ((x.toInt.toNat : Nat) : Int) = _; omega
      rw [of_int (by omega), this]
    have hq : x.toNatClampNeg < n := by show x.toInt.toNat < n; omega
    refine ⟨f x.toNatClampNeg &&& 255, hc _ ?_, ?_⟩
    · unfold b283_0
      refine ifn l0 (bse e2 (bse e3 (ift (show mx_f2 .lt x (Int32.ofNat n) = true by rw [f2_lt, of_int (by omega)]; simp; omega) (bse e2 (bse (a := (f x.toNatClampNeg &&& 255, h)) ?_ rfl)))))
      show (dcV L xs (dM L xs zf w (k + 4)) 284 [1] (some 31) [.int x] h).bind dxI = _
      rw [dcV_of hS.1 hS.2.2.2.2.2.2.1 (by decide), show Value.int x = .int (Int32.ofNat x.toNatClampNeg) from congrArg _ hx, sb_chr hS x.toNatClampNeg hq]
      rfl
    · unfold s413_0
      refine ifn l0 (ifn (show ¬ mx_f2 .ge x (s.1 111) = true by rw [f2_ge]; simp; omega) (ift (show mx_f2 .lt x 3000 = true by rw [f2_lt, i3k]; simp; omega) ?_))
      refine bse (a := s.2.1 111 x.toNatClampNeg) (if_pos (by show (true && true && true && rm_in x 3000) = true; rw [in_of (by omega) (by omega)]; rfl)) ?_
      rw [← l3 _ hq]
      rfl
  · refine ⟨0, hc 0 ?_, ?_⟩
    · unfold b283_0
      exact ifn l0 (bse e2 (bse e3 (ifn (show ¬ mx_f2 .lt x (Int32.ofNat n) = true by rw [f2_lt, of_int (by omega)]; simp; omega) rfl)))
    · unfold s413_0
      refine ifn l0 ?_
      by_cases xm : (s.1 111).toInt ≤ x.toInt
      · exact ift (show mx_f2 .ge x (s.1 111) = true by rw [f2_ge]; simp; omega) rfl
      · exact ifn (show ¬ mx_f2 .ge x (s.1 111) = true by rw [f2_ge]; simp; omega) (ifn (show ¬ mx_f2 .lt x 3000 = true by rw [f2_lt, i3k]; simp; omega) rfl)
end LE
