/-! BYTES AND CHARACTERS. -/
theorem a255_u (y : Int32) : (y &&& 255).toUInt32.toNat ≤ 255 := by
  show (y.toUInt32 &&& 255).toNat ≤ 255
  rw [UInt32.toNat_and]
  exact Nat.and_le_right
theorem a255_ch (y : Int32) : UInt32.toInt32 (Int32.toUInt32 (y &&& 255) % 65536) = y &&& 255 := by
  have e : (y &&& 255).toUInt32 % 65536 = (y &&& 255).toUInt32 := by
    apply UInt32.toNat_inj.mp
    rw [UInt32.toNat_mod]
    have := a255_u y
    show (y &&& 255).toUInt32.toNat % 65536 = _
    omega
  rw [e]
  rfl
theorem a255_i (y : Int32) : 0 ≤ (y &&& 255).toInt ∧ (y &&& 255).toInt ≤ 255 := by
  have h := a255_u y
  have e : (y &&& 255).toInt = ((y &&& 255).toUInt32.toNat : Int) := by
    show (y &&& 255).toBitVec.toInt = _
    rw [BitVec.toInt_eq_toNat_of_lt]
    · rfl
    · show 2 * (y &&& 255).toUInt32.toNat < _
      omega
  omega
/-- a byte that was stored, read as a character -/
theorem bv_255 (y : Int32) : bv (y &&& 255) &&& 255 = y &&& 255 := by
  have h : ∀ n : Nat, n ≤ 255 → bv (Int32.ofNat n) &&& 255 = Int32.ofNat n := by decide +kernel
  have e : y &&& 255 = Int32.ofNat (y &&& 255).toUInt32.toNat := by
    apply Int32.toInt_inj.mp
    have g := a255_i y
    have u := a255_u y
    rw [of_int (by omega)]
    show (y &&& 255).toBitVec.toInt = _
    rw [BitVec.toInt_eq_toNat_of_lt]
    · rfl
    · show 2 * (y &&& 255).toUInt32.toNat < _
      omega
  have u := a255_u y
  have q := h (y &&& 255).toUInt32.toNat u
  rw [← e] at q
  exact q
