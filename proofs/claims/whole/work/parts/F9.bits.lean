/-! BITS OF SLOTS. -/
/-- bit i -/
def bi (x : Int32) (i : Nat) : Bool := x.toBitVec.getLsbD i
theorem bi_and (x y : Int32) (i : Nat) : bi (x &&& y) i = (bi x i && bi y i) := by
  unfold bi
  rw [Int32.toBitVec_and, BitVec.getLsbD_and]
theorem bi_or (x y : Int32) (i : Nat) : bi (x ||| y) i = (bi x i || bi y i) := by
  unfold bi
  rw [Int32.toBitVec_or, BitVec.getLsbD_or]
theorem bi_xor (x y : Int32) (i : Nat) : bi (x ^^^ y) i = (bi x i ^^ bi y i) := by
  unfold bi
  rw [Int32.toBitVec_xor, BitVec.getLsbD_xor]
theorem bi_ext {x y : Int32} (e : ∀ i, i < 32 → bi x i = bi y i) : x = y := Int32.toBitVec_inj.mp (BitVec.eq_of_getLsbD_eq (fun i hi => e i hi))
theorem bi_0 (i : Nat) : bi 0 i = false := by
  unfold bi
  rw [show (0 : Int32).toBitVec = 0#32 from rfl, BitVec.getLsbD_zero]
theorem bi_z {x : Int32} : x = 0 ↔ ∀ i, i < 32 → bi x i = false := ⟨fun e i _ => by rw [e, bi_0], fun e => bi_ext (fun i hi => by rw [e i hi, bi_0])⟩
theorem bi_bt : ∀ a, a < 16 → ∀ i, i < 32 → bi (bt a) i = decide (i = a) := by decide +kernel
theorem bi_nb : ∀ a, a < 16 → ∀ i, i < 32 → bi (bt a ^^^ (-1)) i = ! decide (i = a) := by decide +kernel
theorem bi_1 : ∀ i, i < 32 → bi 1 i = decide (i = 0) := by decide +kernel
theorem bi_m : ∀ i, i < 32 → bi (-1) i = true := by decide +kernel
theorem bi_sh {x : Int32} : ∀ a, a < 16 → bi (x >>> (Int32.ofNat a &&& 31)) 0 = bi x a := by
  intro a ha
  unfold bi
  rw [Int32.toBitVec_shiftRight]
  have : ((Int32.ofNat a &&& 31).toBitVec.smod 32) = BitVec.ofNat 32 a := by
    have t : ∀ a, a < 16 → ((Int32.ofNat a &&& 31).toBitVec.smod 32) = BitVec.ofNat 32 a := by decide +kernel
    exact t a ha
  rw [this, BitVec.sshiftRight_eq', BitVec.getLsbD_sshiftRight]
  have t2 : (BitVec.ofNat 32 a).toNat = a := by
    rw [BitVec.toNat_ofNat]
    exact Nat.mod_eq_of_lt (by omega)
  rw [t2]
  simp
  omega
/-- the bit is clear, by both ways of asking -/
theorem bt_iff {x : Int32} {a : Nat} (ha : a < 16) : ((x >>> (Int32.ofNat a &&& 31)) &&& 1 = 0) ↔ (x &&& bt a = 0) := by
  constructor
  · intro e
    refine bi_z.mpr (fun i hi => ?_)
    rw [bi_and, bi_bt a ha i hi]
    by_cases q : i = a
    · subst q
      have := bi_z.mp e 0 (by omega)
      rw [bi_and, bi_1 0 (by omega), bi_sh i ha] at this
      simpa using this
    · simp [q]
  · intro e
    refine bi_z.mpr (fun i hi => ?_)
    rw [bi_and, bi_1 i hi]
    by_cases q : i = 0
    · subst q
      have := bi_z.mp e a (by omega)
      rw [bi_and, bi_bt a ha a (by omega)] at this
      rw [bi_sh a ha]
      simpa using this
    · simp [q]
theorem bt_c {x : Int32} {a : Nat} (ha : a < 16) : x &&& bt a = 0 ↔ bi x a = false := by
  constructor
  · intro e
    have := bi_z.mp e a (by omega)
    rw [bi_and, bi_bt a ha a (by omega)] at this
    simpa using this
  · intro e
    refine bi_z.mpr (fun i hi => ?_)
    rw [bi_and, bi_bt a ha i hi]
    by_cases q : i = a
    · subst q
      simp [e]
    · simp [q]
theorem bt_or {x : Int32} {a c : Nat} (ha : a < 16) (hc : c < 16) (ne : c ≠ a) (e : x &&& bt c = 0) : (x ||| bt a) &&& bt c = 0 := by
  rw [bt_c hc] at e ⊢
  rw [bi_or, bi_bt a ha c (by omega), e]
  simp [ne]
theorem bt_an {x y : Int32} {c : Nat} (hc : c < 16) (e : x &&& bt c = 0) : (x &&& y) &&& bt c = 0 := by
  rw [bt_c hc] at e ⊢
  rw [bi_and, e]
  rfl
theorem bt_oo {x y : Int32} {c : Nat} (hc : c < 16) (e : x &&& bt c = 0) (e2 : y &&& bt c = 0) : (x ||| y) &&& bt c = 0 := by
  rw [bt_c hc] at e e2 ⊢
  rw [bi_or, e, e2]
  rfl
/-- to clear what is clear -/
theorem bt_cl {x : Int32} {a : Nat} (ha : a < 16) (e : x &&& bt a = 0) : x &&& (bt a ^^^ (-1)) = x := by
  rw [bt_c ha] at e
  refine bi_ext (fun i hi => ?_)
  rw [bi_and, bi_nb a ha i hi]
  by_cases q : i = a
  · subst q
    simp [e]
  · simp [q]
