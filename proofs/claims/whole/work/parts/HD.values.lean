/-! THE REFERENCE'S VALUES: its operations. -/
section RSM
variable {s s' : rS} {w k : Nat} {a t : Nat} {v : Int64}
theorem r_376 {o : Nat} {x : Int32} : rM w (k + 1) 376 [.int (Int32.ofNat o), .int x] s = some (some (.long (mdV o x)), s) := by
  rw [y376]
  rfl
theorem r_379 : rM w (k + 1) 379 [.long v] s = some (some (.int (srt v)), s) := by
  rw [y379]
  rfl
theorem mul_of (c a : Nat) : Int32.ofNat c * Int32.ofNat a = Int32.ofNat (c * a) := (Int32.ofNat_mul c a).symm
/-- pop -/
theorem r_pop (ha : a < 12) (ht : s.2.1 93 a = Int32.ofNat (t + 1)) (h1 : t < 10100) : rM w (k + 1) 390 [.ref 36, .int (Int32.ofNat a)] s = some (some (.long (s.2.2 97 (10100 * a + t))), rs_wA s 93 a (Int32.ofNat t)) := by
  rw [y390]
  show s390_0 (rM w k) w (Int32.ofNat a) s = _
  unfold s390_0
  refine bse ((aI_at (i := a) (n := 12) (by decide) rfl (by omega) (by decide)).trans (congrArg some ht)) ?_
  rw [of_dec]
  refine bse (sI_at (i := a) (n := 12) (by decide) rfl (by omega) (by decide)) ?_
  refine bse ((aI_at (i := a) (n := 12) (by decide) rfl (by omega) (by decide)).trans (congrArg some (wA_eq _ _ _ _))) ?_
  rw [show (10100 : Int32) = Int32.ofNat 10100 from rfl, mul_of, of_add]
  exact bse (aJ_at (i := 10100 * a + t) (n := 121200) (by decide) rfl (by omega) (by decide)) rfl
def sPsh (s : rS) (a t : Nat) (v : Int64) : rS := rs_wA (rs_wB s 97 (10100 * a + t) v) 93 a (Int32.ofNat (t + 1))
theorem r_push (ha : a < 12) (ht : s.2.1 93 a = Int32.ofNat t) (h1 : t < 10100) : rM w (k + 1) 389 [.ref 36, .int (Int32.ofNat a), .long v] s = some (none, sPsh s a t v) := by
  rw [y389]
  show s389_0 (rM w k) w (Int32.ofNat a) v s = _
  unfold s389_0
  refine bse ((aI_at (i := a) (n := 12) (by decide) rfl (by omega) (by decide)).trans (congrArg some ht)) ?_
  rw [show (10100 : Int32) = Int32.ofNat 10100 from rfl, mul_of, of_add]
  refine bse (sJ_at (i := 10100 * a + t) (n := 121200) (by decide) rfl (by omega) (by decide)) ?_
  refine bse ((aI_at (i := a) (n := 12) (by decide) rfl (by omega) (by decide)).trans (congrArg some ht)) ?_
  rw [of_inc]
  exact bse (sI_at (i := a) (n := 12) (by decide) rfl (by omega) (by decide)) rfl
theorem r_373 {c nf f0 : Nat} (hk : c < 8) (h1 : s.2.1 64 c = Int32.ofNat f0) (h2 : s.2.1 64 (c + 1) = Int32.ofNat (f0 + nf)) (hb : f0 + nf ≤ 1000) : rM w (k + 1) 373 [.ref 36, .int (Int32.ofNat c)] s = some (some (.int (Int32.ofNat nf)), s) := by
  rw [y373]
  show s373_0 (rM w k) w (Int32.ofNat c) s = _
  unfold s373_0
  rw [of_inc]
  refine bse ((aI_at (i := c + 1) (n := 9) (by decide) rfl (by omega) (by decide)).trans (congrArg some h2)) ?_
  refine bse ((aI_at (i := c) (n := 9) (by decide) rfl (by omega) (by decide)).trans (congrArg some h1)) ?_
  rw [of_dif _ _ (by omega)]
  rfl
/-- a field of what an actor sees -/
theorem r_fld {f : Nat} {o bs : Nat} (ha : a < 12) (hv : v = mdV 2 (Int32.ofNat o)) (ho : o ≤ 400) (hb : s.2.1 88 o = Int32.ofNat bs) (hf : bs + f < 400) : rM w (k + 2) 391 [.ref 36, .int (Int32.ofNat a), .long v, .int (Int32.ofNat f)] s = some (some (.long (s.2.2 96 (400 * a + bs + f))), s) := by
  rw [y391]
  show s391_0 (rM w (k + 1)) w (Int32.ofNat a) v (Int32.ofNat f) s = _
  unfold s391_0
  refine bse (a := (srt v, s)) (by rw [r_379]; rfl) ?_
  rw [hv]
  refine ift (by rw [show ((srt (mdV 2 (Int32.ofNat o)), s) : Int32 × rS).1 = srt (mdV 2 (Int32.ofNat o)) from rfl, md_hi 2 _ (by decide)]; decide) ?_
  rw [md_lo]
  refine bse ((aI_at (i := o) (n := 401) (by decide) rfl (by omega) (by decide)).trans (congrArg some hb)) ?_
  rw [show (400 : Int32) = Int32.ofNat 400 from rfl, mul_of, of_add, of_add]
  exact bse (aJ_at (i := 400 * a + bs + f) (n := 4800) (by decide) rfl (by omega) (by decide)) rfl
theorem r_fldA {f : Nat} {x : Int32} (ha : a < 12) (hv : v = mdV 3 x) (hf : f < 8) : rM w (k + 2) 391 [.ref 36, .int (Int32.ofNat a), .long v, .int (Int32.ofNat f)] s = some (some (.long (s.2.2 95 (8 * a + f))), s) := by
  rw [y391]
  show s391_0 (rM w (k + 1)) w (Int32.ofNat a) v (Int32.ofNat f) s = _
  unfold s391_0
  refine bse (a := (srt v, s)) (by rw [r_379]; rfl) ?_
  rw [hv]
  refine ifn (by rw [show ((srt (mdV 3 x), s) : Int32 × rS).1 = srt (mdV 3 x) from rfl, md_hi 3 _ (by decide)]; decide) ?_
  rw [show (8 : Int32) = Int32.ofNat 8 from rfl, mul_of, of_add]
  exact bse (aJ_at (i := 8 * a + f) (n := 96) (by decide) rfl (by omega) (by decide)) rfl
end RSM
