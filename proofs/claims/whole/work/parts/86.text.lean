/-! A STRINGBUILDER OF BYTES: at place p, its bytes at place b: n of m are used. -/
def sB (h : rm_H) (p b n m : Nat) (ml : Int32) (f : Nat → Int32) : Prop := 21 ≤ p ∧ 21 ≤ b ∧ p ≠ b ∧ n ≤ m ∧ m ≤ 10000 ∧ (∀ i, fits .byte (.int (f i)) = true) ∧ h[p - 21]? = some (.inr (1, [.ref b, .int 0, .int ml, .int (Int32.ofNat n)])) ∧ h[b - 21]? = some (.inl (1, m, .inl f))
section SB
variable {L : Nat} {xs : Nat → Int32} {zf : Value} {w k : Nat} {h : rm_H} {D : dD}
theorem dcV_of {p ci mi : Nat} {cis : List Nat} {fs As : List Value} (hp : 21 ≤ p) (hx : h[p - 21]? = some (.inr (ci, fs))) (hc : cis.contains ci = true) : dcV L xs D mi cis (some p) As h = D mi (.ref p :: As) h := by
  unfold dcV
  dsimp only
  rw [if_pos]
  unfold rm_cis
  rw [rs_look hp, hx]
  exact hc
theorem aN_of {a t n : Nat} {g : (Nat → Int32) ⊕ (Nat → Int64) ⊕ (Nat → UInt32) ⊕ (Nat → UInt64) ⊕ (Nat → Option Nat)} (ha : 21 ≤ a) (hx : h[a - 21]? = some (.inl (t, n, g))) (ht : t < ah_TY.length) : daN L xs h (some a) = some (Int32.ofNat n) := by
  unfold daN
  dsimp only
  rw [rs_look ha, hx]
  dsimp only
  rw [if_pos ht]
theorem of_int {q : Nat} (hq : q ≤ 100000000) : (Int32.ofNat q).toInt = (q : Int) := Int32.toInt_ofNat_of_lt (by omega)
theorem of_clamp {q : Nat} (hq : q ≤ 100000000) : (Int32.ofNat q).toNatClampNeg = q := by
  show (Int32.ofNat q).toInt.toNat = q
  rw [of_int hq]
  rfl
theorem of_sub {q m : Nat} (hq : q ≤ 100000000) (hm : m ≤ 100000000) : (Int32.ofNat q - Int32.ofNat m).toInt = (q : Int) - m := by
  rw [show Int32.ofNat q = Int32.ofInt (q : Int) from rfl, show Int32.ofNat m = Int32.ofInt (m : Int) from rfl, ← Int32.ofInt_sub]
  exact Int32.toInt_ofInt_of_le (by omega) (by omega)
theorem sh0 (x : Int32) : (x >>> ((0 : Int32) &&& 31)) = x := by
  rw [show ((0 : Int32) &&& 31) = 0 from by decide]
  simp
theorem sl0 (x : Int32) : (x <<< ((0 : Int32) &&& 31)) = x := by
  rw [show ((0 : Int32) &&& 31) = 0 from by decide]
  simp
theorem of_in {q n : Nat} (h : q < n) (hn : n ≤ 100000000) : rm_in (Int32.ofNat q) n = true := in_of (by rw [of_int (by omega)]; omega) (by rw [of_int (by omega)]; omega)
theorem sb_len {p b n m : Nat} {ml : Int32} {f : Nat → Int32} (hS : sB h p b n m ml f) : dM L xs zf w (k + 2) 10 [.ref p] h = some (some (.int (Int32.ofNat n)), h) := by
  obtain ⟨hp, hb, hpb, hn, hm, hf, h1, h2⟩ := hS
  rw [e10]
  show b10_0 L xs zf (dM L xs zf w (k + 1)) w (some p) h = _
  unfold b10_0
  refine bse (a := (Int32.ofNat n, h)) ?_ rfl
  rw [dcV_of hp h1 (by decide), e11]
  show (b11_0 L xs zf (dM L xs zf w k) w (some p) h).bind dxI = _
  unfold b11_0
  refine bse (a := (some (.int (Int32.ofNat n)), h)) (bse (gI_of hp h1 (by decide) rfl) rfl) rfl
theorem sb_lat {p b n m : Nat} {ml : Int32} {f : Nat → Int32} (hS : sB h p b n m ml f) : dM L xs zf w (k + 1) 22 [.ref p] h = some (some (.int 1), h) := by
  obtain ⟨hp, hb, hpb, hn, hm, hf, h1, h2⟩ := hS
  rw [e22]
  show b22_0 L xs zf (dM L xs zf w k) w (some p) h = _
  unfold b22_0
  refine ifn (by decide) ?_
  refine bse (gI_of (x := 0) hp h1 (by decide) rfl) ?_
  exact ifn (by decide) rfl
theorem sb_room {p b n m : Nat} {ml : Int32} {f : Nat → Int32} (hS : sB h p b n m ml f) (q : Nat) (hq : q ≤ m) : dM L xs zf w (k + 1) 15 [.ref p, .int (Int32.ofNat q)] h = some (none, h) := by
  obtain ⟨hp, hb, hpb, hn, hm, hf, h1, h2⟩ := hS
  rw [e15]
  show b15_0 L xs zf (dM L xs zf w k) w (some p) (Int32.ofNat q) h = _
  unfold b15_0
  refine bse (gR_of (p := some b) hp h1 (by decide) rfl) ?_
  refine bse (aN_of hb h2 (by decide)) ?_
  refine bse (gI_of (x := 0) hp h1 (by decide) rfl) ?_
  refine ift ?_ rfl
  rw [sh0]
  show decide (Int32.ofNat q - Int32.ofNat m ≤ 0) = true
  apply decide_eq_true
  rw [Int32.le_iff_toInt_le, of_sub (by omega) (by omega), i0]
  omega
end SB
