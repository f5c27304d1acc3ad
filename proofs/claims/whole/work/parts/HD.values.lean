/-! THE REFERENCE'S VALUES: 0 none, else a sort (1 int, 2 object, 3 actor) and a number. -/
def mdV (o : Nat) (x : Int32) : Int64 := ((Int32.toInt64 (Int32.ofNat o)) <<< ((32 : Int32).toInt64 &&& 63)) ||| ((Int32.toInt64 x) &&& 4294967295)
def srt (v : Int64) : Int32 := Int64.toInt32 (v >>> ((32 : Int32).toInt64 &&& 63))
/-- what the class has for it -/
def cvl (v : Int64) : Int32 := if srt v = 3 then Int64.toInt32 v + 1 else Int64.toInt32 v
section VAL
theorem md_msk : ∀ i, i < 64 → (4294967295 : Int64).toBitVec.getLsbD i = decide (i < 32) := by decide +kernel
theorem md_bit (o : Nat) (x : Int32) (i : Nat) (hi : i < 64) : (mdV o x).toBitVec.getLsbD i = if i < 32 then x.toBitVec.getLsbD i else (Int32.toInt64 (Int32.ofNat o)).toBitVec.getLsbD (i - 32) := by
  unfold mdV
  have e : (((32 : Int32).toInt64 &&& 63).toBitVec.smod 64) = 32#64 := by decide
  rw [Int64.toBitVec_or, Int64.toBitVec_shiftLeft, e, BitVec.getLsbD_or, Int64.toBitVec_and, BitVec.getLsbD_and, BitVec.shiftLeft_eq', BitVec.getLsbD_shiftLeft, md_msk i hi]
  have t : (32#64).toNat = 32 := by decide
  rw [t]
  by_cases c : i < 32
  · have ex : x.toInt64.toBitVec.getLsbD i = x.toBitVec.getLsbD i := by
      rw [Int32.toBitVec_toInt64, BitVec.getLsbD_signExtend, if_pos c]
      simp [hi]
    rw [if_pos c, ex]
    simp [c, hi]
  · rw [if_neg c]
    simp [c, hi]
theorem md_lo (o : Nat) (x : Int32) : Int64.toInt32 (mdV o x) = x := by
  apply Int32.toBitVec_inj.mp
  rw [Int64.toBitVec_toInt32]
  apply BitVec.eq_of_getLsbD_eq
  intro i hi
  rw [BitVec.getLsbD_signExtend, md_bit o x i (by omega), if_pos hi]
  simp [hi, show i < 64 from by omega]
theorem md_hi (o : Nat) (x : Int32) (ho : o ≤ 3) : srt (mdV o x) = Int32.ofNat o := by
  unfold srt
  apply Int32.toBitVec_inj.mp
  have e : (((32 : Int32).toInt64 &&& 63).toBitVec.smod 64) = 32#64 := by decide
  have t : (32#64).toNat = 32 := by decide
  rw [Int64.toBitVec_toInt32, Int64.toBitVec_shiftRight, e, BitVec.sshiftRight_eq', t]
  apply BitVec.eq_of_getLsbD_eq
  intro i hi
  have h1 : ¬ 64 ≤ i := by omega
  have h2 : 32 + i < 64 := by omega
  rw [BitVec.getLsbD_signExtend, if_pos (show i < 64 from by omega), BitVec.getLsbD_sshiftRight, if_pos h2, md_bit o x (32 + i) h2, if_neg (show ¬ 32 + i < 32 from by omega), show 32 + i - 32 = i from by omega]
  have ho' : o = 0 ∨ o = 1 ∨ o = 2 ∨ o = 3 := by omega
  have k : ∀ o, o < 4 → ∀ i, i < 32 → (Int32.toInt64 (Int32.ofNat o)).toBitVec.getLsbD i = (Int32.ofNat o).toBitVec.getLsbD i := by decide +kernel
  rw [k o (by omega) i hi]
  simp [hi, h1, h2, show i < 64 from by omega]
theorem md_n0 (o : Nat) (x : Int32) (ho : o ≤ 3) (h1 : 1 ≤ o) : mdV o x ≠ 0 := by
  intro z
  have := md_hi o x ho
  rw [z] at this
  have t : ∀ o, o < 4 → 1 ≤ o → srt 0 ≠ Int32.ofNat o := by decide
  exact t o (by omega) h1 this
theorem cv_1 (x : Int32) : cvl (mdV 1 x) = x := by
  unfold cvl
  rw [md_hi 1 x (by decide), if_neg (by decide), md_lo]
theorem cv_2 (x : Int32) : cvl (mdV 2 x) = x := by
  unfold cvl
  rw [md_hi 2 x (by decide), if_neg (by decide), md_lo]
theorem cv_3 (x : Int32) : cvl (mdV 3 x) = x + 1 := by
  unfold cvl
  rw [md_hi 3 x (by decide), if_pos (by decide), md_lo]
theorem cv_0 : cvl 0 = 0 := by decide
end VAL
section RSM
variable {s s' : rS} {w k : Nat} {a t : Nat} {v : Int64}
theorem r_376 {o : Nat} {x : Int32} : rM w (k + 1) 376 [.int (Int32.ofNat o), .int x] s = some (some (.long (mdV o x)), s) := by
  rw [y376]
  rfl
theorem r_379 : rM w (k + 1) 379 [.long v] s = some (some (.int (srt v)), s) := by
  rw [y379]
  rfl
theorem mul_of (c a : Nat) : Int32.ofNat c * Int32.ofNat a = Int32.ofNat (c * a) := (Int32.ofNat_mul c a).symm
/-- pop -/
theorem r_pop (ha : a < 12) (ht : s.2.1 93 a = Int32.ofNat (t + 1)) (h1 : t < 10100) : rM w (k + 1) 390 [.ref 36, .int (Int32.ofNat a)] s = some (some (.long (s.2.2 97 (10100 * a + t))), rs_wA s 93 a (Int32.ofNat t)) := by
  rw [y390]
  show s390_0 (rM w k) w (Int32.ofNat a) s = _
  unfold s390_0
  refine bse ((aI_at (i := a) (n := 12) (by decide) rfl (by omega) (by decide)).trans (congrArg some ht)) ?_
  rw [of_dec]
  refine bse (sI_at (i := a) (n := 12) (by decide) rfl (by omega) (by decide)) ?_
  refine bse ((aI_at (i := a) (n := 12) (by decide) rfl (by omega) (by decide)).trans (congrArg some (wA_eq _ _ _ _))) ?_
  rw [show (10100 : Int32) = Int32.ofNat 10100 from rfl, mul_of, of_add]
  exact bse (aJ_at (i := 10100 * a + t) (n := 121200) (by decide) rfl (by omega) (by decide)) rfl
def sPsh (s : rS) (a t : Nat) (v : Int64) : rS := rs_wA (rs_wB s 97 (10100 * a + t) v) 93 a (Int32.ofNat (t + 1))
theorem r_push (ha : a < 12) (ht : s.2.1 93 a = Int32.ofNat t) (h1 : t < 10100) : rM w (k + 1) 389 [.ref 36, .int (Int32.ofNat a), .long v] s = some (none, sPsh s a t v) := by
  rw [y389]
  show s389_0 (rM w k) w (Int32.ofNat a) v s = _
  unfold s389_0
  refine bse ((aI_at (i := a) (n := 12) (by decide) rfl (by omega) (by decide)).trans (congrArg some ht)) ?_
  rw [show (10100 : Int32) = Int32.ofNat 10100 from rfl, mul_of, of_add]
  refine bse (sJ_at (i := 10100 * a + t) (n := 121200) (by decide) rfl (by omega) (by decide)) ?_
  refine bse ((aI_at (i := a) (n := 12) (by decide) rfl (by omega) (by decide)).trans (congrArg some ht)) ?_
  rw [of_inc]
  exact bse (sI_at (i := a) (n := 12) (by decide) rfl (by omega) (by decide)) rfl
theorem r_373 {c nf f0 : Nat} (hk : c < 8) (h1 : s.2.1 64 c = Int32.ofNat f0) (h2 : s.2.1 64 (c + 1) = Int32.ofNat (f0 + nf)) (hb : f0 + nf ≤ 1000) : rM w (k + 1) 373 [.ref 36, .int (Int32.ofNat c)] s = some (some (.int (Int32.ofNat nf)), s) := by
  rw [y373]
  show s373_0 (rM w k) w (Int32.ofNat c) s = _
  unfold s373_0
  rw [of_inc]
  refine bse ((aI_at (i := c + 1) (n := 9) (by decide) rfl (by omega) (by decide)).trans (congrArg some h2)) ?_
  refine bse ((aI_at (i := c) (n := 9) (by decide) rfl (by omega) (by decide)).trans (congrArg some h1)) ?_
  rw [of_dif _ _ (by omega)]
  rfl
/-- a field of what an actor sees -/
theorem r_fld {f : Nat} {o bs : Nat} (ha : a < 12) (hv : v = mdV 2 (Int32.ofNat o)) (ho : o ≤ 400) (hb : s.2.1 88 o = Int32.ofNat bs) (hf : bs + f < 400) : rM w (k + 2) 391 [.ref 36, .int (Int32.ofNat a), .long v, .int (Int32.ofNat f)] s = some (some (.long (s.2.2 96 (400 * a + bs + f))), s) := by
  rw [y391]
  show s391_0 (rM w (k + 1)) w (Int32.ofNat a) v (Int32.ofNat f) s = _
  unfold s391_0
  refine bse (a := (srt v, s)) (by rw [r_379]; rfl) ?_
  rw [hv]
  refine ift (by rw [show ((srt (mdV 2 (Int32.ofNat o)), s) : Int32 × rS).1 = srt (mdV 2 (Int32.ofNat o)) from rfl, md_hi 2 _ (by decide)]; decide) ?_
  rw [md_lo]
  refine bse ((aI_at (i := o) (n := 401) (by decide) rfl (by omega) (by decide)).trans (congrArg some hb)) ?_
  rw [show (400 : Int32) = Int32.ofNat 400 from rfl, mul_of, of_add, of_add]
  exact bse (aJ_at (i := 400 * a + bs + f) (n := 4800) (by decide) rfl (by omega) (by decide)) rfl
theorem r_fldA {f : Nat} {x : Int32} (ha : a < 12) (hv : v = mdV 3 x) (hf : f < 8) : rM w (k + 2) 391 [.ref 36, .int (Int32.ofNat a), .long v, .int (Int32.ofNat f)] s = some (some (.long (s.2.2 95 (8 * a + f))), s) := by
  rw [y391]
  show s391_0 (rM w (k + 1)) w (Int32.ofNat a) v (Int32.ofNat f) s = _
  unfold s391_0
  refine bse (a := (srt v, s)) (by rw [r_379]; rfl) ?_
  rw [hv]
  refine ifn (by rw [show ((srt (mdV 3 x), s) : Int32 × rS).1 = srt (mdV 3 x) from rfl, md_hi 3 _ (by decide)]; decide) ?_
  rw [show (8 : Int32) = Int32.ofNat 8 from rfl, mul_of, of_add]
  exact bse (aJ_at (i := 8 * a + f) (n := 96) (by decide) rfl (by omega) (by decide)) rfl
end RSM
