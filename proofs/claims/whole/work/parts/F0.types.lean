/-! TYPES BY NUMBER: 0 nothing, 1 int, 2 none; of kind k 8 * (k + 1) + c: c < 5 an object seen with right c, 5 an actor, 6 the actor itself. -/
def cT (t : Nat) : Int32 := if t ≤ 2 then Int32.ofNat t else if t % 8 = 6 then tO 4 (Int32.ofNat (t / 8 - 1)) 2 else if t % 8 = 5 then tO 3 (Int32.ofNat (t / 8 - 1)) 2 else tO 5 (Int32.ofNat (t / 8 - 1)) (Int32.ofNat (t % 8))
def rTp (t : Nat) : Int32 := if t = 0 then -1 else if t ≤ 2 then Int32.ofNat (t - 1) else if t % 8 = 6 then Int32.ofNat (t - 1) else Int32.ofNat t
def oT (t : Nat) : Int32 := if 8 ≤ t ∧ t % 8 = 6 then 1 else 0
/-- such a number -/
def gTy (t : Nat) : Bool := decide (t ≤ 2) || (decide (8 ≤ t) && decide (t < 72) && decide (t % 8 ≤ 6))
/-- the type of a declaration -/
def dTy (t : Nat) : Bool := decide (t = 1) || (decide (8 ≤ t) && decide (t < 72) && decide (t % 8 ≤ 5))
def cpT (t : Nat) : Nat := if t % 8 < 5 then t % 8 else 2
def soT (t : Nat) : Int32 := if t ≤ 2 then Int32.ofNat t else if t % 8 = 6 then 4 else if t % 8 = 5 then 3 else 5
/-- an object -/
def isO (t : Nat) : Bool := decide (8 ≤ t) && decide (t % 8 < 5)
abbrev c_so (x : Int32) : Int32 := x &&& 15
abbrev c_kd (x : Int32) : Int32 := (x >>> ((4 : Int32) &&& 31)) &&& 15
abbrev c_cp (x : Int32) : Int32 := (x >>> ((8 : Int32) &&& 31)) &&& 7
theorem gTy_lt {t : Nat} (e : gTy t = true) : t < 72 := by
  unfold gTy at e
  simp at e
  omega
theorem dTy_g {t : Nat} (e : dTy t = true) : gTy t = true := by
  unfold dTy at e
  unfold gTy
  simp at e ⊢
  omega
theorem t_all1 : ∀ t, t < 72 → gTy t = true → c_so (cT t) = soT t := by decide +kernel
theorem t_all2 : ∀ t, t < 72 → gTy t = true → 8 ≤ t → c_kd (cT t) = Int32.ofNat (t / 8 - 1) ∧ c_cp (cT t) = Int32.ofNat (cpT t) := by decide +kernel
theorem t_all3 : ∀ t, t < 72 → gTy t = true → 8 ≤ t → rTp t - rTp t / 8 * 8 = Int32.ofNat (if t % 8 = 6 then 5 else t % 8) ∧ rTp t / 8 - 1 = Int32.ofNat (t / 8 - 1) := by decide +kernel
theorem t_all4 : ∀ t, t < 72 → gTy t = true → (mx_f2 .lt (rTp t) 8 = decide (t < 8)) ∧ (mx_f2 .ge (rTp t - rTp t / 8 * 8) 5 = decide (t % 8 ≥ 5 ∧ 8 ≤ t)) := by decide +kernel
/-- a value of type t for a place of type w: 0 it fits, else the fault -/
def fit7 (t w : Int32) : Int32 := if c_so t = 5 then (if lkV 1 (c_cp t) (c_cp w) = 1 then 0 else 6) else 0
def fitC (t w : Int32) : Int32 := if c_so t = 2 then (if c_so w = 5 then 0 else if c_so w = 3 then 0 else 5) else if c_so t = c_so w then (if c_so t = 1 then fit7 t w else if c_kd t = c_kd w then fit7 t w else 5) else 5
def clR (t : Int32) : Bool := ! mx_f2 .lt t 8 && ! mx_f2 .ge (t - t / 8 * 8) 5
def fitR (t w : Int32) : Int32 := if (clR t && clR w && decide (t / 8 = w / 8)) = true then (if lkV 1 (t - t / 8 * 8) (w - w / 8 * 8) = 0 then 6 else 0) else if t = w then 0 else if t = 1 then (if mx_f2 .lt w 8 = true then 5 else 0) else 5
theorem fit_all : ∀ t, t < 72 → gTy t = true → t % 8 ≠ 6 → ∀ w, w < 72 → dTy w = true → fitR (rTp t) (rTp w) = fitC (cT t) (cT w) := by decide +kernel
