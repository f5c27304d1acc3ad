/-! WORDS AND THEIR CODES: at most eight letters, one long. -/
/-- the characters as a number: the first one is the highest -/
def ncA (g : Nat → Int32) : Nat → Nat → Nat → Nat
  | 0, _, c => c
  | f + 1, i, c => ncA g f (i + 1) (256 * c + (g i).toInt.toNat)
def chs (g : Nat → Int32) (b len : Nat) : Prop := ∀ j, j < len → 1 ≤ (g (b + j)).toInt ∧ (g (b + j)).toInt ≤ 255
theorem cd_ext : ∀ d : Nat, d ≤ 255 → (Int32.toInt64 (Int32.ofNat d)).toBitVec.toNat = d := by decide +kernel
theorem of_toNat (x : Int32) (h0 : 0 ≤ x.toInt) (h1 : x.toInt ≤ 255) : x = Int32.ofNat x.toInt.toNat := by
  apply i32_of
  rw [of_int (by omega)]
  omega
theorem cd_step (C : Int64) (x : Int32) (h0 : 0 ≤ x.toInt) (h1 : x.toInt ≤ 255) (hc : C.toBitVec.toNat < 2 ^ 56) : ((C <<< ((8 : Int32).toInt64 &&& 63)) ||| (Int32.toInt64 x)).toBitVec.toNat = 256 * C.toBitVec.toNat + x.toInt.toNat := by
  have e8 : (C <<< ((8 : Int32).toInt64 &&& 63)).toBitVec = C.toBitVec <<< 8 := by
    rw [show ((8 : Int32).toInt64 &&& 63) = 8 from by decide]
    rfl
  show ((C <<< ((8 : Int32).toInt64 &&& 63)).toBitVec ||| (Int32.toInt64 x).toBitVec).toNat = _
  rw [e8, BitVec.toNat_or, BitVec.toNat_shiftLeft]
  have ex : (Int32.toInt64 x).toBitVec.toNat = x.toInt.toNat := by
    conv => lhs; rw [of_toNat x h0 h1]
    exact cd_ext _ (by omega)
  rw [ex, Nat.shiftLeft_eq, Nat.mod_eq_of_lt (by omega), show C.toBitVec.toNat * 2 ^ 8 = C.toBitVec.toNat <<< 8 from (Nat.shiftLeft_eq _ _).symm, ← Nat.shiftLeft_add_eq_or_of_lt (by omega), Nat.shiftLeft_eq]
  omega
theorem ncA_lt (g : Nat → Int32) : ∀ (f i c : Nat), (∀ j, j < f → (g (i + j)).toInt ≤ 255) → ncA g f i c < 256 ^ f * (c + 1) := by
  intro f
  induction f with
  | zero => intro i c _; rw [ncA]; omega
  | succ f ih =>
    intro i c h
    rw [ncA]
    have h0 := h 0 (by omega)
    rw [Nat.add_zero] at h0
    have := ih (i + 1) (256 * c + (g i).toInt.toNat) (fun j hj => by
      have := h (j + 1) (by omega)
      rw [show i + (j + 1) = i + 1 + j from by omega] at this
      exact this)
    calc ncA g f (i + 1) (256 * c + (g i).toInt.toNat) < 256 ^ f * (256 * c + (g i).toInt.toNat + 1) := this
      _ ≤ 256 ^ f * (256 * (c + 1)) := Nat.mul_le_mul_left _ (by omega)
      _ = 256 ^ (f + 1) * (c + 1) := by rw [Nat.pow_succ, Nat.mul_assoc]
theorem rcC_n (g : Nat → Int32) : ∀ (f i m : Nat) (C : Int64), m + f ≤ 8 → C.toBitVec.toNat < 256 ^ m → (∀ j, j < f → 0 ≤ (g (i + j)).toInt ∧ (g (i + j)).toInt ≤ 255) → (rcC g f i C).toBitVec.toNat = ncA g f i C.toBitVec.toNat := by
  intro f
  induction f with
  | zero => intro i m C _ _ _; rfl
  | succ f ih =>
    intro i m C hm hC h
    rw [rcC, ncA]
    have h0 := h 0 (by omega)
    rw [Nat.add_zero] at h0
    have h56 : C.toBitVec.toNat < 2 ^ 56 := by
      refine Nat.lt_of_lt_of_le hC ?_
      have : 256 ^ m ≤ 256 ^ 7 := Nat.pow_le_pow_right (by decide) (by omega)
      exact Nat.le_trans this (by decide)
    have st := cd_step C (g i) h0.1 h0.2 h56
    rw [ih (i + 1) (m + 1) _ (by omega) ?_ (fun j hj => by
      have := h (j + 1) (by omega)
      rw [show i + (j + 1) = i + 1 + j from by omega] at this
      exact this), st]
    rw [st, Nat.pow_succ]
    omega
/-- a number of characters that are none 0 has one reading -/
theorem ncA_app (g : Nat → Int32) : ∀ (f i c : Nat), ncA g (f + 1) i c = 256 * ncA g f i c + (g (i + f)).toInt.toNat := by
  intro f
  induction f with
  | zero => intro i c; rfl
  | succ f ih =>
    intro i c
    rw [ncA, ih (i + 1) _, show i + 1 + f = i + (f + 1) from by omega]
    rfl
theorem nc_inj (g g2 : Nat → Int32) (b a : Nat) : ∀ (l l2 : Nat), chs g b l → chs g2 a l2 → ncA g l b 0 = ncA g2 l2 a 0 → l = l2 ∧ ∀ j, j < l → g (b + j) = g2 (a + j) := by
  intro l
  induction l with
  | zero =>
    intro l2 _ h2 e
    cases l2 with
    | zero => exact ⟨rfl, fun j hj => absurd hj (by omega)⟩
    | succ l2 =>
      rw [ncA_app] at e
      have := h2 l2 (by omega)
      have e : 0 = 256 * ncA g2 l2 a 0 + (g2 (a + l2)).toInt.toNat := e
      omega
  | succ l ih =>
    intro l2 h1 h2 e
    cases l2 with
    | zero =>
      rw [ncA_app] at e
      have := h1 l (by omega)
      have e : 256 * ncA g l b 0 + (g (b + l)).toInt.toNat = 0 := e
      omega
    | succ l2 =>
      rw [ncA_app, ncA_app] at e
      have a1 := h1 l (by omega)
      have a2 := h2 l2 (by omega)
      have e1 : (g (b + l)).toInt.toNat = (g2 (a + l2)).toInt.toNat := by omega
      have e2 : ncA g l b 0 = ncA g2 l2 a 0 := by omega
      obtain ⟨r1, r2⟩ := ih l2 (fun j hj => h1 j (by omega)) (fun j hj => h2 j (by omega)) e2
      subst r1
      refine ⟨rfl, fun j hj => ?_⟩
      by_cases hjl : j = l
      · subst hjl
        exact i32_of (by omega)
      · exact r2 j (by omega)
theorem nc_eq (g g2 : Nat → Int32) (b a : Nat) : ∀ (l c : Nat), (∀ j, j < l → g (b + j) = g2 (a + j)) → ncA g l b c = ncA g2 l a c := by
  intro l
  induction l with
  | zero => intro c _; rfl
  | succ l ih =>
    intro c h
    rw [ncA_app, ncA_app, ih c (fun j hj => h j (by omega)), h l (by omega)]
/-- codes are alike just where the words are -/
theorem cd_iff (g g2 : Nat → Int32) (b a l l2 : Nat) (hl : l ≤ 8) (hl2 : l2 ≤ 8) (h1 : chs g b l) (h2 : chs g2 a l2) : rcC g l b 0 = rcC g2 l2 a 0 ↔ (l = l2 ∧ ∀ j, j < l → g (b + j) = g2 (a + j)) := by
  have n1 := rcC_n g l b 0 0 (by omega) (by decide) (fun j hj => ⟨by have := h1 j hj; omega, (h1 j hj).2⟩)
  have n2 := rcC_n g2 l2 a 0 0 (by omega) (by decide) (fun j hj => ⟨by have := h2 j hj; omega, (h2 j hj).2⟩)
  rw [show (0 : Int64).toBitVec.toNat = 0 from by decide] at n1 n2
  constructor
  · intro e
    rw [e] at n1
    exact nc_inj g g2 b a l l2 h1 h2 (n1.symm.trans n2)
  · rintro ⟨rfl, e⟩
    have := nc_eq g g2 b a l 0 e
    rw [← n1, ← n2] at this
    have t2 : (rcC g l b 0).toBitVec = (rcC g2 l a 0).toBitVec := BitVec.eq_of_toNat_eq this
    exact Int64.toBitVec_inj.mp t2
