/-! THE REFERENCE'S VALUES: 0 none, else a sort (1 int, 2 object, 3 actor) and a number. -/
def mdV (o : Nat) (x : Int32) : Int64 := ((Int32.toInt64 (Int32.ofNat o)) <<< ((32 : Int32).toInt64 &&& 63)) ||| ((Int32.toInt64 x) &&& 4294967295)
def srt (v : Int64) : Int32 := Int64.toInt32 (v >>> ((32 : Int32).toInt64 &&& 63))
/-- what the class has for it -/
def cvl (v : Int64) : Int32 := if srt v = 3 then Int64.toInt32 v + 1 else Int64.toInt32 v
section VAL
theorem md_msk : ∀ i, i < 64 → (4294967295 : Int64).toBitVec.getLsbD i = decide (i < 32) := by decide +kernel
theorem md_bit (o : Nat) (x : Int32) (i : Nat) (hi : i < 64) : (mdV o x).toBitVec.getLsbD i = if i < 32 then x.toBitVec.getLsbD i else (Int32.toInt64 (Int32.ofNat o)).toBitVec.getLsbD (i - 32) := by
  unfold mdV
  have e : (((32 : Int32).toInt64 &&& 63).toBitVec.smod 64) = 32#64 := by decide
  rw [Int64.toBitVec_or, Int64.toBitVec_shiftLeft, e, BitVec.getLsbD_or, Int64.toBitVec_and, BitVec.getLsbD_and, BitVec.shiftLeft_eq', BitVec.getLsbD_shiftLeft, md_msk i hi]
  have t : (32#64).toNat = 32 := by decide
  rw [t]
  by_cases c : i < 32
  · have ex : x.toInt64.toBitVec.getLsbD i = x.toBitVec.getLsbD i := by
      rw [Int32.toBitVec_toInt64, BitVec.getLsbD_signExtend, if_pos c]
      simp [hi]
    rw [if_pos c, ex]
    simp [c, hi]
  · rw [if_neg c]
    simp [c, hi]
theorem md_lo (o : Nat) (x : Int32) : Int64.toInt32 (mdV o x) = x := by
  apply Int32.toBitVec_inj.mp
  rw [Int64.toBitVec_toInt32]
  apply BitVec.eq_of_getLsbD_eq
  intro i hi
  rw [BitVec.getLsbD_signExtend, md_bit o x i (by omega), if_pos hi]
  simp [hi, show i < 64 from by omega]
theorem md_hi (o : Nat) (x : Int32) (ho : o ≤ 3) : srt (mdV o x) = Int32.ofNat o := by
  unfold srt
  apply Int32.toBitVec_inj.mp
  have e : (((32 : Int32).toInt64 &&& 63).toBitVec.smod 64) = 32#64 := by decide
  have t : (32#64).toNat = 32 := by decide
  rw [Int64.toBitVec_toInt32, Int64.toBitVec_shiftRight, e, BitVec.sshiftRight_eq', t]
  apply BitVec.eq_of_getLsbD_eq
  intro i hi
  have h1 : ¬ 64 ≤ i := by omega
  have h2 : 32 + i < 64 := by omega
  rw [BitVec.getLsbD_signExtend, if_pos (show i < 64 from by omega), BitVec.getLsbD_sshiftRight, if_pos h2, md_bit o x (32 + i) h2, if_neg (show ¬ 32 + i < 32 from by omega), show 32 + i - 32 = i from by omega]
  have ho' : o = 0 ∨ o = 1 ∨ o = 2 ∨ o = 3 := by omega
  have k : ∀ o, o < 4 → ∀ i, i < 32 → (Int32.toInt64 (Int32.ofNat o)).toBitVec.getLsbD i = (Int32.ofNat o).toBitVec.getLsbD i := by decide +kernel
  rw [k o (by omega) i hi]
  simp [hi, h1, h2, show i < 64 from by omega]
theorem md_n0 (o : Nat) (x : Int32) (ho : o ≤ 3) (h1 : 1 ≤ o) : mdV o x ≠ 0 := by
  intro z
  have := md_hi o x ho
  rw [z] at this
  have t : ∀ o, o < 4 → 1 ≤ o → srt 0 ≠ Int32.ofNat o := by decide
  exact t o (by omega) h1 this
theorem cv_1 (x : Int32) : cvl (mdV 1 x) = x := by
  unfold cvl
  rw [md_hi 1 x (by decide), if_neg (by decide), md_lo]
theorem cv_2 (x : Int32) : cvl (mdV 2 x) = x := by
  unfold cvl
  rw [md_hi 2 x (by decide), if_neg (by decide), md_lo]
theorem cv_3 (x : Int32) : cvl (mdV 3 x) = x + 1 := by
  unfold cvl
  rw [md_hi 3 x (by decide), if_pos (by decide), md_lo]
theorem cv_0 : cvl 0 = 0 := by decide
end VAL
