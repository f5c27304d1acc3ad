/-! A NAME BY BOTH (277 / 409). -/
/-- Told's own cells -/
def Zt (b y : Nat) : Prop := (30 ≤ y ∧ y ≤ 35 ∧ y ≠ 32) ∨ y = b
def Zb (Zx : Nat → Prop) (b y : Nat) : Prop := Zx y ∨ Zt b y
/-- a String, its cells outside of Z -/
def sTz (L : Nat) (xs : Nat → Int32) (h : rm_H) (Z : Nat → Prop) (q n : Nat) (g : Nat → Int32) : Prop := ∃ (ci a : Nat) (fs : List Value) (f : Nat → Int32), [7, 16].contains ci = true ∧ rm_look 21 (ah_O L xs) h q = some (.inr (ci, fs)) ∧ fs[0]? = some (.ref a) ∧ fs[1]? = some (.int 0) ∧ rm_look 21 (ah_O L xs) h a = some (.inl (1, n, .inl f)) ∧ (∀ i, i < n → f i &&& 255 = g i) ∧ (q < 21 ∨ ¬ Z q) ∧ (a < 21 ∨ ¬ Z a)
/-- a word with code c, its cells outside of Z -/
def nSz (L : Nat) (xs : Nat → Int32) (h : rm_H) (Z : Nat → Prop) (q : Nat) (c : Int64) : Prop := ∃ (n : Nat) (g : Nat → Int32), sTz L xs h Z q n g ∧ n ≤ 8 ∧ chs g 0 n ∧ c = rcC g n 0 0
section NAM
variable {L : Nat} {xs : Nat → Int32} {zf : Value} {w k k2 b m c d q q2 n i : Nat} {st dep : Int32} {mk sa sc : Nat → Int32} {h h1 h2 h' : rm_H} {s s1 s2 s' : rS} {Z Z1 Z2 Zx : Nat → Prop} {g : Nat → Int32} {cd : Int64}
theorem look_m (f : sFx h1 Z1 h2 Z2) {p : Nat} {x : rm_E} (e : rm_look 21 (ah_O L xs) h1 p = some x) (hz : p < 21 ∨ ¬ Z1 p) : rm_look 21 (ah_O L xs) h2 p = some x ∧ (p < 21 ∨ ¬ Z2 p) := by
  by_cases hp : p < 21
  · refine ⟨?_, Or.inl hp⟩
    unfold rm_look at e ⊢
    rw [if_pos hp] at e ⊢
    exact e
  · have nz : ¬ Z1 p := hz.resolve_left hp
    rw [rs_look (by omega)] at e
    obtain ⟨a, b⟩ := f p x (hc_of (by omega) e) nz
    exact ⟨hc_look a, Or.inr b⟩
theorem sTz_m (f : sFx h1 Z1 h2 Z2) (y : sTz L xs h1 Z1 q n g) : sTz L xs h2 Z2 q n g := by
  obtain ⟨ci, a, fs, fa, y1, y2, y3, y4, y5, y6, y10, y11⟩ := y
  obtain ⟨u1, u2⟩ := look_m f y2 y10
  obtain ⟨v1, v2⟩ := look_m f y5 y11
  exact ⟨ci, a, fs, fa, y1, u1, y3, y4, v1, y6, u2, v2⟩
theorem nSz_m (f : sFx h1 Z1 h2 Z2) (y : nSz L xs h1 Z1 q cd) : nSz L xs h2 Z2 q cd := by
  obtain ⟨n, g, y1, y2⟩ := y
  exact ⟨n, g, sTz_m f y1, y2⟩
theorem tCh_f {b' m' : Nat} (t : tCh h b m h' b' m') : sFx h (Zb Zx b) h' (Zb Zx b') := by
  intro y e he nz
  have n1 : ¬ Zx y := fun z => nz (Or.inl z)
  have n2 : y < 30 ∨ 35 < y ∨ y = 32 := by
    by_cases c : 30 ≤ y ∧ y ≤ 35 ∧ y ≠ 32
    · exact absurd (Or.inr (Or.inl c)) nz
    · omega
  have n3 : y ≠ b := fun z => nz (Or.inr (Or.inr z))
  refine ⟨t.1 y e he n2 n3, fun z => ?_⟩
  rcases z with z | z | z
  · exact n1 z
  · omega
  · have := hc_lt he
    rcases t.2.2.2.2.2 with u | u
    · exact n3 (z.trans u)
    · omega
/-- bytes of a code -/
theorem by_n (g : Nat → Int32) : ∀ (i n : Nat), chs g 0 n → ncA g n 0 0 / 256 ^ i % 256 = if i < n then (g (n - 1 - i)).toInt.toNat else 0 := by
  intro i
  induction i with
  | zero =>
    intro n hc
    cases n with
    | zero => rw [if_neg (by omega)]; show 0 / _ % 256 = 0; rw [Nat.zero_div]
    | succ n =>
      have := hc n (by omega)
      rw [Nat.zero_add] at this
      rw [ncA_app, if_pos (by omega), Nat.pow_zero, Nat.div_one, Nat.zero_add, show n + 1 - 1 - 0 = n from by omega]
      omega
  | succ i ih =>
    intro n hc
    cases n with
    | zero => rw [if_neg (by omega)]; show 0 / _ % 256 = 0; rw [Nat.zero_div]
    | succ n =>
      have hl := hc n (by omega)
      rw [Nat.zero_add] at hl
      have q := ih n (fun j hj => hc j (by omega))
      rw [ncA_app, Nat.pow_succ, Nat.mul_comm (256 ^ i) 256, ← Nat.div_div_eq_div_mul, Nat.zero_add, show (256 * ncA g n 0 0 + (g n).toInt.toNat) / 256 = ncA g n 0 0 from by omega, q]
      by_cases c : i < n
      · rw [if_pos c, if_pos (by omega), show n + 1 - 1 - (i + 1) = n - 1 - i from by omega]
      · rw [if_neg c, if_neg (by omega)]
theorem by_b (x : BitVec 64) (t : Nat) (ht : t ≤ 56) : ((x.sshiftRight t) &&& 255#64).toNat = x.toNat / 2 ^ t % 256 := by
  refine Nat.eq_of_testBit_eq (fun j => ?_)
  rw [BitVec.testBit_toNat, BitVec.getLsbD_and, BitVec.getLsbD_sshiftRight, show (256 : Nat) = 2 ^ 8 from rfl, Nat.testBit_mod_two_pow, Nat.testBit_div_two_pow]
  by_cases hj : j < 8
  · have e : (255#64).getLsbD j = true := by
      have : ∀ j, j < 8 → (255#64).getLsbD j = true := by decide
      exact this j hj
    rw [e, Bool.and_true, decide_eq_true hj, Bool.true_and, if_pos (by omega), decide_eq_false (by omega), Nat.add_comm]
    rfl
  · have e : (255#64).getLsbD j = false := by
      rw [BitVec.getLsbD, BitVec.toNat_ofNat, show 255 % 2 ^ 64 = 2 ^ 8 - 1 from rfl, Nat.testBit_two_pow_sub_one]
      exact decide_eq_false hj
    rw [e, Bool.and_false, decide_eq_false hj, Bool.false_and]
/-- the shift -/
def shf (t : Nat) : Int32 := Int32.ofNat (8 * t) + (-8)
theorem shf_d : ∀ t, t < 9 → shf (t + 1) + (-8) = shf t := by decide
theorem shf_0 : mx_f1 .lt (shf 0) = true := by decide
theorem shf_1 : ∀ t, t < 8 → ¬ mx_f1 .lt (shf (t + 1)) = true := by decide
theorem shf_s (C : Int64) (t : Nat) (ht : t < 8) : ((C >>> ((shf (t + 1)).toInt64 &&& 63)) &&& 255).toBitVec.toNat = C.toBitVec.toNat / 256 ^ t % 256 := by
  have e : ∀ t, t < 8 → ∀ C : Int64, ((C >>> ((shf (t + 1)).toInt64 &&& 63)) &&& 255).toBitVec = (C.toBitVec.sshiftRight (8 * t)) &&& 255#64 := by
    intro t ht C
    have : t = 0 ∨ t = 1 ∨ t = 2 ∨ t = 3 ∨ t = 4 ∨ t = 5 ∨ t = 6 ∨ t = 7 := by omega
    rcases this with rfl | rfl | rfl | rfl | rfl | rfl | rfl | rfl
    · rw [show ((shf (0 + 1)).toInt64 &&& 63) = 0 from by decide]; rfl
    · rw [show ((shf (1 + 1)).toInt64 &&& 63) = 8 from by decide]; rfl
    · rw [show ((shf (2 + 1)).toInt64 &&& 63) = 16 from by decide]; rfl
    · rw [show ((shf (3 + 1)).toInt64 &&& 63) = 24 from by decide]; rfl
    · rw [show ((shf (4 + 1)).toInt64 &&& 63) = 32 from by decide]; rfl
    · rw [show ((shf (5 + 1)).toInt64 &&& 63) = 40 from by decide]; rfl
    · rw [show ((shf (6 + 1)).toInt64 &&& 63) = 48 from by decide]; rfl
    · rw [show ((shf (7 + 1)).toInt64 &&& 63) = 56 from by decide]; rfl
  rw [e t ht, by_b _ _ (by omega), show (256 : Nat) ^ t = 2 ^ (8 * t) from by rw [Nat.pow_mul]]
theorem i64_nat {x : Int64} {v : Nat} (e : x.toBitVec.toNat = v) (hv : v < 1000) : x = Int64.ofNat v := by
  refine Int64.toBitVec_inj.mp (BitVec.eq_of_toNat_eq ?_)
  rw [e]
  show v = (BitVec.ofNat 64 v).toNat
  rw [BitVec.toNat_ofNat, Nat.mod_eq_of_lt (by omega)]
/-- the byte that the reference looks at -/
theorem by_c (hc : chs g 0 n) (n8 : n ≤ 8) (t : Nat) (ht : t < 8) : (rcC g n 0 0 >>> ((shf (t + 1)).toInt64 &&& 63)) &&& 255 = Int64.ofNat (if t < n then (g (n - 1 - t)).toInt.toNat else 0) := by
  have e0 : (rcC g n 0 0).toBitVec.toNat = ncA g n 0 0 := rcC_n g n 0 0 0 (by omega) (by decide) (fun j hj => ⟨by have := hc j hj; omega, (hc j hj).2⟩)
  refine i64_nat ?_ ?_
  · rw [shf_s _ _ ht, e0, by_n g t n hc]
  · split
    · have := hc (n - 1 - t) (by omega)
      rw [Nat.zero_add] at this
      omega
    · decide
/-- zeros ahead of the name -/
theorem nm_z {E : rE} (hc : chs g 0 n) (n8 : n ≤ 8) : ∀ (r t N : Nat), t = n + r → t ≤ 8 → s409_3 E w (N + r) (rcC g n 0 0) (shf t) s = s409_3 E w N (rcC g n 0 0) (shf n) s := by
  intro r
  induction r with
  | zero => intro t N e _; rw [e]; rfl
  | succ r ih =>
    intro t N e t8
    obtain ⟨t, rfl⟩ : ∃ t', t = t' + 1 := ⟨t - 1, by omega⟩
    rw [← ih t N (by omega) (by omega)]
    show s409_3 E w (N + r + 1) (rcC g n 0 0) (shf (t + 1)) s = _
    conv => lhs; unfold s409_3
    rw [if_neg (shf_1 t (by omega)), by_c hc n8 t (by omega), if_neg (show ¬ t < n by omega), if_pos (show mx_f1 .eq (lg_cmp (Int64.ofNat 0) 0) = true by decide)]
    unfold s409_31
    rw [shf_d t (by omega)]
theorem by_nz : ∀ v : Nat, v < 256 → 1 ≤ v → ¬ mx_f1 .eq (lg_cmp (Int64.ofNat v) 0) = true := by decide +kernel
/-- the letters by both -/
theorem nm_l (hc : chs g 0 n) (n8 : n ≤ 8) : ∀ (r : Nat) (h : rm_H) (s : rS) (b m c N N2 : Nat), r ≤ n → sTz L xs h (Zb Zx b) q n g → oTx h s b m c st dep mk sa sc → c + r ≤ 1000000 → r < N → r < N2 → ∃ h' s', b277_2 L xs zf (dM L xs zf w (k + 7)) w N (some 30) (some q) (Int32.ofNat (n - r)) h = some (none, h') ∧ s409_3 (rM w (k2 + 1)) w N2 (rcC g n 0 0) (shf r) s = some (none, s') ∧ pTl st dep mk sa sc h s b m c r h' s' := by
  intro r
  induction r with
  | zero =>
    intro h s b m c N N2 _ z o _ hN hN2
    obtain ⟨N, rfl⟩ : ∃ x, N = x + 1 := ⟨N - 1, by omega⟩
    obtain ⟨N2, rfl⟩ : ∃ x, N2 = x + 1 := ⟨N2 - 1, by omega⟩
    obtain ⟨ci, a, fs, fa, y1, y2, y3, y4, y5, y6, y10, y11⟩ := z
    have hT : sT L xs h q n g := ⟨ci, a, fs, fa, y1, y2, y3, y4, y5, by omega, y6⟩
    refine ⟨h, s, ?_, ?_, b, m, c, o, tCh_r h b m, oLs_r s, by omega⟩
    · unfold b277_2
      refine bse (a := (Int32.ofNat n, h)) (by rw [dcV_lk y2 y1, st_len (k := k + 5) hT]; rfl) (ift ?_ rfl)
      rw [f2_ge]
      exact decide_eq_true (by rw [Nat.sub_zero]; exact Int.le_refl _)
    · unfold s409_3
      exact ift shf_0 rfl
  | succ r ih =>
    intro h s b m c N N2 hr z o hcc hN hN2
    obtain ⟨N, rfl⟩ : ∃ x, N = x + 1 := ⟨N - 1, by omega⟩
    obtain ⟨N2, rfl⟩ : ∃ x, N2 = x + 1 := ⟨N2 - 1, by omega⟩
    obtain ⟨ci, a, fs, fa, y1, y2, y3, y4, y5, y6, y10, y11⟩ := id z
    have hT : sT L xs h q n g := ⟨ci, a, fs, fa, y1, y2, y3, y4, y5, by omega, y6⟩
    have hl := hc (n - (r + 1)) (by omega)
    rw [Nat.zero_add] at hl
    have eg : g (n - (r + 1)) = Int32.ofNat (g (n - (r + 1))).toInt.toNat := of_toNat _ (by omega) hl.2
    obtain ⟨h1, s1, b1, m1, a1, a2, a3, a4, a5⟩ := l_cl (L := L) (xs := xs) (zf := zf) (w := w) (k := k) (k2 := k2) (d := (g (n - (r + 1))).toInt.toNat) o (by omega) (by omega)
    obtain ⟨h', s', c1, c2, c3⟩ := ih h1 s1 b1 m1 (c + 1) N N2 (by omega) (sTz_m (tCh_f a4) z) a3 (by omega) (by omega) (by omega)
    refine ⟨h', s', ?_, ?_, pTl_le (pTl_t (c := c) (q := 1) a4 a5 (Nat.le_refl _) c3) (by omega)⟩
    · unfold b277_2
      refine bse (a := (Int32.ofNat n, h)) (by rw [dcV_lk y2 y1, st_len (k := k + 5) hT]; rfl) (ifn ?_ (bse (a := (g (n - (r + 1)), h)) (by rw [dcV_lk y2 y1, st_chr (k := k + 3) hT (n - (r + 1)) (by omega)]; rfl) (bse (a := h1) ?_ ?_)))
      · rw [f2_ge, of_int (by omega), of_int (by omega)]
        exact fun z => absurd (of_decide_eq_true z) (by omega)
      · show (dcV L xs (dM L xs zf w (k + 7)) 276 [3] (some 30) [.int (g (n - (r + 1)))] h).bind dxV = _
        rw [eg]
        exact a1
      · rw [of_inc, show n - (r + 1) + 1 = n - r from by omega]
        exact c1
    · unfold s409_3
      have e := by_c hc n8 r (by omega)
      rw [if_pos (show r < n by omega), show n - 1 - r = n - (r + 1) from by omega] at e
      refine ifn (shf_1 r (by omega)) ?_
      rw [e]
      refine ifn (by_nz _ (by omega) (by omega)) (bse (a := s1) ?_ ?_)
      · rw [Int64.toInt32_ofNat']
        exact a2
      · unfold s409_31
        rw [shf_d r (by omega)]
        exact c2
/-- A NAME BY BOTH -/
theorem b_name (hw : 20 ≤ w) (z : nSz L xs h (Zb Zx b) q cd) (o : oTx h s b m c st dep mk sa sc) (hcc : c + 8 ≤ 1000000) : ∃ h' s', dM L xs zf w (k + 8) 277 [.ref 30, .ref q] h = some (none, h') ∧ rM w (k2 + 2) 409 [.ref 36, .long cd] s = some (none, s') ∧ pTl st dep mk sa sc h s b m c 8 h' s' := by
  obtain ⟨n, g, z1, n8, hc, rfl⟩ := z
  have hdc : ∀ X, b277_0 L xs zf (dM L xs zf w (k + 7)) w (some 30) (some q) h = X → dM L xs zf w (k + 8) 277 [.ref 30, .ref q] h = X := fun X hX => by rw [e277]; exact hX
  have hdr : ∀ X, s409_0 (rM w (k2 + 1)) w (rcC g n 0 0) s = X → rM w (k2 + 2) 409 [.ref 36, .long (rcC g n 0 0)] s = X := fun X hX => by rw [y409]; exact hX
  obtain ⟨h', s', a1, a2, a3⟩ := nm_l (L := L) (xs := xs) (zf := zf) (w := w) (k := k) (k2 := k2) hc n8 n h s b m c w (w - (8 - n)) (Nat.le_refl _) z1 o (by omega) (by omega) (by omega)
  refine ⟨h', s', hdc _ ?_, hdr _ ?_, pTl_le a3 (by omega)⟩
  · unfold b277_0
    rw [Nat.sub_self] at a1
    exact a1
  · unfold s409_0
    rw [show (56 : Int32) = shf 8 from by decide]
    have e := nm_z (w := w) (s := s) (E := rM w (k2 + 1)) hc n8 (8 - n) 8 (w - (8 - n)) (by omega) (by omega)
    rw [show w - (8 - n) + (8 - n) = w from by omega] at e
    rw [e]
    exact a2
end NAM
