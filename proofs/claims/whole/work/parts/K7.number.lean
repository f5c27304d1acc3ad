/-! A NUMBER BY BOTH (275 / 411). -/
/-- both have told on: at most q letters more -/
def pTl (st dep : Int32) (mk sa sc : Nat → Int32) (h : rm_H) (s : rS) (b m c q : Nat) (h' : rm_H) (s' : rS) : Prop := ∃ b' m' c' : Nat, oTx h' s' b' m' c' st dep mk sa sc ∧ tCh h b m h' b' m' ∧ oLs s s' ∧ c' ≤ c + q
def p10 : Nat → Nat
  | 0 => 1
  | e + 1 => 10 * p10 e
theorem p10_b : ∀ e, e < 10 → 1 ≤ p10 e ∧ p10 e ≤ 1000000000 := by decide
theorem dg_u : ∀ d, d < 10 → UInt32.toInt32 (Int32.toUInt32 (Int32.ofNat (48 + d)) % 65536) = Int32.ofNat (48 + d) := by decide +kernel
theorem lgt_ge (x y : Int64) : mx_f1 .ge (lg_cmp x y) = decide (y.toInt ≤ x.toInt) := by
  rw [show mx_f1 .ge (lg_cmp x y) = mx_f2 .ge (lg_cmp x y) 0 from rfl, f2_ge, lgt3, decide_eq_decide, show (0 : Int32).toInt = 0 from by decide]
  split
  · omega
  · split <;> omega
section NUM
variable {L : Nat} {xs : Nat → Int32} {zf : Value} {w k k2 b m c d V e q q2 P : Nat} {st dep : Int32} {mk sa sc : Nat → Int32} {h h1 h2 h' : rm_H} {s s1 s2 s' : rS} {D : dD} {E : rE}
theorem pTl_t {b1 m1 c1 : Nat} (t : tCh h b m h1 b1 m1) (o : oLs s s1) (hc : c1 ≤ c + q) (y : pTl st dep mk sa sc h1 s1 b1 m1 c1 q2 h' s') : pTl st dep mk sa sc h s b m c (q + q2) h' s' := by
  obtain ⟨b', m', c', a1, a2, a3, a4⟩ := y
  exact ⟨b', m', c', a1, tCh_t t a2, oLs_t o a3, by omega⟩
theorem pTl_le (y : pTl st dep mk sa sc h s b m c q h' s') (hq : q ≤ q2) : pTl st dep mk sa sc h s b m c q2 h' s' := by
  obtain ⟨b', m', c', a1, a2, a3, a4⟩ := y
  exact ⟨b', m', c', a1, a2, a3, by omega⟩
/-- a letter, as both call it -/
theorem l_cl (o : oTx h s b m c st dep mk sa sc) (hc6 : c ≤ 1000000) (hd : d ≤ 255) : ∃ (h' : rm_H) (s' : rS) (b' m' : Nat), (dcV L xs (dM L xs zf w (k + 7)) 276 [3] (some 30) [.int (Int32.ofNat d)] h).bind dxV = some h' ∧ (rM w (k2 + 1) 410 [.ref 36, .int (Int32.ofNat d)] s).bind rxV = some s' ∧ oTx h' s' b' m' (c + 1) st dep mk sa sc ∧ tCh h b m h' b' m' ∧ oLs s s' := by
  obtain ⟨h', s', b', m', a1, a2, a3, a4, a5⟩ := b_letter (L := L) (xs := xs) (zf := zf) (w := w) (k := k) (k2 := k2) o hc6 hd
  exact ⟨h', s', b', m', by rw [hc_v o.1 (by decide), a1]; rfl, by rw [a2]; rfl, a3, a4, a5⟩
theorem dg_q (hV : V ≤ 2147483648) (hP : P ≤ 1000000000) : (Int64.ofNat V / Int64.ofNat P) - (Int64.ofNat V / Int64.ofNat P) / 10 * 10 = Int64.ofNat (V / P % 10) := by
  rw [← Int64.ofNat_div (by omega) (by omega)]
  have hQ := Nat.div_le_self V P
  generalize V / P = Q at *
  rw [show (10 : Int64) = Int64.ofNat 10 from rfl, ← Int64.ofNat_div (by omega) (by decide), ← Int64.ofNat_mul, ← Int64.ofNat_sub _ _ (by omega)]
  congr 1
  omega
theorem dg_c (hV : V ≤ 2147483648) (hP : P ≤ 1000000000) : UInt32.toInt32 (Int32.toUInt32 (Int64.toInt32 (48 + ((Int64.ofNat V / Int64.ofNat P) - (Int64.ofNat V / Int64.ofNat P) / 10 * 10))) % 65536) = Int32.ofNat (48 + V / P % 10) := by
  rw [dg_q hV hP, show (48 : Int64) = Int64.ofNat 48 from rfl, ← Int64.ofNat_add, Int64.toInt32_ofNat']
  exact dg_u _ (by omega)
theorem dg_r (hV : V ≤ 2147483648) (hP : P ≤ 1000000000) : (48 : Int32) + Int64.toInt32 ((Int64.ofNat V / Int64.ofNat P) - (Int64.ofNat V / Int64.ofNat P) / 10 * 10) = Int32.ofNat (48 + V / P % 10) := by
  rw [dg_q hV hP, Int64.toInt32_ofNat', show (48 : Int32) = Int32.ofNat 48 from rfl, ← Int32.ofNat_add]
theorem i64_t (hP : P ≤ 1000000000000) : (Int64.ofNat P).toInt = P := Int64.toInt_ofNat_of_lt (by omega)
theorem i64_0 : (0 : Int64).toInt = 0 := by decide
theorem nu_nz (hP : 1 ≤ P ∧ P ≤ 1000000000000) : ¬ Int64.ofNat P = 0 := fun z => by
  have z := congrArg Int64.toInt z
  rw [i64_t hP.2, i64_0] at z
  omega
theorem nu_le (hP : 1 ≤ P ∧ P ≤ 1000000000000) : ¬ mx_f1 .le (lg_cmp (Int64.ofNat P) 0) = true := fun z => by
  rw [lgt_le, i64_t hP.2, i64_0] at z
  have z := of_decide_eq_true z
  omega
theorem nu_cs {N : Nat} {X : dR} (hP : 1 ≤ P ∧ P ≤ 1000000000) (hV : V ≤ 2147483648) (a1 : (dcV L xs D 276 [3] (some 30) [.int (Int32.ofNat (48 + V / P % 10))] h).bind dxV = some h1) (a2 : b275_56 L xs zf D w N (some 30) (Int64.ofNat V) (Int64.ofNat (P / 10)) h1 = some X) : b275_56 L xs zf D w (N + 1) (some 30) (Int64.ofNat V) (Int64.ofNat P) h = some X := by
  unfold b275_56
  refine ifn (nu_le ⟨hP.1, by omega⟩) (ifn (nu_nz ⟨hP.1, by omega⟩) (bse (a := h1) ?_ ?_))
  · rw [dg_c hV hP.2]
    exact a1
  · rw [show Int64.ofNat P / 10 = Int64.ofNat (P / 10) from (Int64.ofNat_div (by omega) (by decide)).symm]
    exact a2
theorem nu_rs {N : Nat} {X : rA} (hP : 1 ≤ P ∧ P ≤ 1000000000) (hV : V ≤ 2147483648) (a1 : (E 410 [.ref 36, .int (Int32.ofNat (48 + V / P % 10))] s).bind rxV = some s1) (a2 : s411_43 E w N (Int64.ofNat V) (Int64.ofNat (P / 10)) s1 = some X) : s411_43 E w (N + 1) (Int64.ofNat V) (Int64.ofNat P) s = some X := by
  unfold s411_43
  refine ifn (nu_le ⟨hP.1, by omega⟩) (ifn (nu_nz ⟨hP.1, by omega⟩) (bse (a := s1) ?_ ?_))
  · rw [dg_r hV hP.2]
    exact a1
  · rw [show Int64.ofNat P / 10 = Int64.ofNat (P / 10) from (Int64.ofNat_div (by omega) (by decide)).symm]
    exact a2
/-- the digits -/
theorem nu_d (hV : V ≤ 2147483648) : ∀ (e : Nat) (h : rm_H) (s : rS) (b m c N N2 : Nat), e < 10 → oTx h s b m c st dep mk sa sc → c + e ≤ 1000000 → e + 2 ≤ N → e + 2 ≤ N2 → ∃ h' s', b275_56 L xs zf (dM L xs zf w (k + 7)) w N (some 30) (Int64.ofNat V) (Int64.ofNat (p10 e)) h = some (none, h') ∧ s411_43 (rM w (k2 + 1)) w N2 (Int64.ofNat V) (Int64.ofNat (p10 e)) s = some (none, s') ∧ pTl st dep mk sa sc h s b m c (e + 1) h' s' := by
  intro e
  induction e with
  | zero =>
    intro h s b m c N N2 _ o hc hN hN2
    obtain ⟨N, rfl⟩ : ∃ n, N = n + 2 := ⟨N - 2, by omega⟩
    obtain ⟨N2, rfl⟩ : ∃ n, N2 = n + 2 := ⟨N2 - 2, by omega⟩
    have hP := p10_b 0 (by decide)
    obtain ⟨h1, s1, b1, m1, a1, a2, a3, a4, a5⟩ := l_cl (L := L) (xs := xs) (zf := zf) (w := w) (k := k) (k2 := k2) (d := 48 + V / p10 0 % 10) o (by omega) (by omega)
    refine ⟨h1, s1, nu_cs hP hV a1 ?_, nu_rs hP hV a2 ?_, b1, m1, c + 1, a3, a4, a5, by omega⟩
    · unfold b275_56
      exact ift (by decide) rfl
    · unfold s411_43
      exact ift (by decide) rfl
  | succ e ih =>
    intro h s b m c N N2 he o hc hN hN2
    obtain ⟨N, rfl⟩ : ∃ n, N = n + 1 := ⟨N - 1, by omega⟩
    obtain ⟨N2, rfl⟩ : ∃ n, N2 = n + 1 := ⟨N2 - 1, by omega⟩
    have hP := p10_b (e + 1) he
    obtain ⟨h1, s1, b1, m1, a1, a2, a3, a4, a5⟩ := l_cl (L := L) (xs := xs) (zf := zf) (w := w) (k := k) (k2 := k2) (d := 48 + V / p10 (e + 1) % 10) o (by omega) (by omega)
    obtain ⟨h', s', c1, c2, c3⟩ := ih h1 s1 b1 m1 (c + 1) N N2 (by omega) a3 (by omega) (by omega) (by omega)
    have ed : p10 (e + 1) / 10 = p10 e := Nat.mul_div_cancel_left (p10 e) (by decide)
    refine ⟨h', s', nu_cs hP hV a1 (by rw [ed]; exact c1), nu_rs hP hV a2 (by rw [ed]; exact c2), ?_⟩
    have := pTl_t (c := c) (q := 1) a4 a5 (Nat.le_refl _) c3
    exact pTl_le this (by omega)
/-- both find the same power of ten -/
theorem nu_f (hV : V ≤ 2147483648) : ∀ (r e N N2 : Nat), e + r = 9 → r < N → r < N2 → ∃ e', e' < 10 ∧ (∀ h, b275_24 L xs zf D w N (some 30) (Int64.ofNat V) (Int64.ofNat (p10 e)) (Int32.ofNat (e + 1)) h = b275_56 L xs zf D w w (some 30) (Int64.ofNat V) (Int64.ofNat (p10 e')) h) ∧ ∀ s, s411_21 E w N2 (Int64.ofNat V) (Int64.ofNat (p10 e)) s = s411_43 E w w (Int64.ofNat V) (Int64.ofNat (p10 e')) s := by
  intro r
  induction r with
  | zero =>
    intro e N N2 he hN hN2
    obtain ⟨N, rfl⟩ : ∃ n, N = n + 1 := ⟨N - 1, by omega⟩
    obtain ⟨N2, rfl⟩ : ∃ n, N2 = n + 1 := ⟨N2 - 1, by omega⟩
    have e9 : e = 9 := by omega
    subst e9
    refine ⟨9, by decide, fun h => ?_, fun s => ?_⟩
    · unfold b275_24
      rw [if_pos (show mx_f2 .ge (Int32.ofNat (9 + 1)) 10 = true by decide)]
    · unfold s411_21
      have hq : V / p10 9 ≤ 9 := by
        show V / 1000000000 ≤ 9
        omega
      rw [if_neg (nu_nz ⟨(p10_b 9 (by decide)).1, by have := (p10_b 9 (by decide)).2; omega⟩), if_pos]
      rw [← Int64.ofNat_div (by omega) (by decide), lgt_le, i64_t (by omega)]
      exact decide_eq_true (by rw [show (9 : Int64).toInt = 9 from by decide]; omega)
  | succ r ih =>
    intro e N N2 he hN hN2
    obtain ⟨N, rfl⟩ : ∃ n, N = n + 1 := ⟨N - 1, by omega⟩
    obtain ⟨N2, rfl⟩ : ∃ n, N2 = n + 1 := ⟨N2 - 1, by omega⟩
    have hP := p10_b e (by omega)
    have hQ := Nat.div_le_self V (p10 e)
    have iff : V / p10 e ≤ 9 ↔ V / 10 < p10 e := by
      rw [← Nat.lt_succ_iff, Nat.div_lt_iff_lt_mul hP.1, Nat.div_lt_iff_lt_mul (by decide), Nat.mul_comm]
    have i10 : ¬ mx_f2 .ge (Int32.ofNat (e + 1)) 10 = true := by
      rw [f2_ge, of_int (by omega), show (10 : Int32).toInt = 10 from by decide]
      exact fun z => absurd (of_decide_eq_true z) (by omega)
    have cq : mx_f1 .gt (lg_cmp (Int64.ofNat (p10 e)) (Int64.ofNat V / 10)) = decide (V / 10 < p10 e) := by
      rw [show Int64.ofNat V / 10 = Int64.ofNat (V / 10) from (Int64.ofNat_div (by omega) (by decide)).symm, lgt_gt, i64_t (by omega), i64_t (by omega), decide_eq_decide]
      omega
    have rq : mx_f1 .le (lg_cmp (Int64.ofNat V / Int64.ofNat (p10 e)) 9) = decide (V / p10 e ≤ 9) := by
      rw [← Int64.ofNat_div (by omega) (by omega), lgt_le, i64_t (by omega), decide_eq_decide, show (9 : Int64).toInt = 9 from by decide]
      omega
    by_cases st : V / 10 < p10 e
    · refine ⟨e, by omega, fun h => ?_, fun s => ?_⟩
      · unfold b275_24
        rw [if_neg i10, cq, if_pos (decide_eq_true st)]
      · unfold s411_21
        rw [if_neg (nu_nz ⟨hP.1, by omega⟩), rq, if_pos (decide_eq_true (iff.mpr st))]
    · obtain ⟨e', h1, h2, h3⟩ := ih (e + 1) N N2 (by omega) (by omega) (by omega)
      refine ⟨e', h1, fun h => ?_, fun s => ?_⟩
      · unfold b275_24
        rw [if_neg i10, cq, if_neg (fun z => st (of_decide_eq_true z)), ← h2 h, show (10 : Int64) = Int64.ofNat 10 from rfl, ← Int64.ofNat_mul, of_inc, Nat.mul_comm]
        rfl
      · unfold s411_21
        rw [if_neg (nu_nz ⟨hP.1, by omega⟩), rq, if_neg (fun z => st (iff.mp (of_decide_eq_true z))), ← h3 s, show (10 : Int64) = Int64.ofNat 10 from rfl, ← Int64.ofNat_mul]
        rfl
/-- what both do behind the sign -/
theorem nu_a (hV : V ≤ 2147483648) (hw : 20 ≤ w) (o : oTx h s b m c st dep mk sa sc) (hc : c + 10 ≤ 1000000) : ∃ h' s', b275_18 L xs zf (dM L xs zf w (k + 7)) w (some 30) (Int64.ofNat V) h = some (none, h') ∧ s411_18 (rM w (k2 + 1)) w (Int64.ofNat V) s = some (none, s') ∧ pTl st dep mk sa sc h s b m c 10 h' s' := by
  obtain ⟨e, e10, f1, f2⟩ := nu_f (L := L) (xs := xs) (zf := zf) (w := w) (D := dM L xs zf w (k + 7)) (E := rM w (k2 + 1)) hV 9 0 w w rfl (by omega) (by omega)
  obtain ⟨h', s', a1, a2, a3⟩ := nu_d (L := L) (xs := xs) (zf := zf) (w := w) (k := k) (k2 := k2) hV e h s b m c w w e10 o (by omega) (by omega) (by omega)
  exact ⟨h', s', (f1 h).trans a1, (f2 s).trans a2, pTl_le a3 (by omega)⟩
theorem n64_p (v : Int32) (hv : 0 ≤ v.toInt) : Int32.toInt64 v = Int64.ofNat v.toInt.toNat := by
  have lt := Int32.toInt_lt v
  refine Int64.toInt_inj.mp ?_
  rw [Int32.toInt_toInt64, Int64.toInt_ofNat_of_lt (by omega)]
  omega
theorem n64_m (v : Int32) (hv : v.toInt < 0) : -(Int32.toInt64 v) = Int64.ofNat (-v.toInt).toNat := by
  have e : Int32.toInt64 v = Int64.ofInt v.toInt := by rw [← Int64.ofInt_toInt (Int32.toInt64 v), Int32.toInt_toInt64]
  rw [e, ← Int64.ofInt_neg, ← Int64.ofInt_eq_ofNat]
  congr 1
  omega
/-- A NUMBER BY BOTH -/
theorem b_num (hw : 20 ≤ w) (o : oTx h s b m c st dep mk sa sc) (hc : c + 11 ≤ 1000000) (v : Int32) : ∃ h' s', dM L xs zf w (k + 8) 275 [.ref 30, .int v] h = some (none, h') ∧ rM w (k2 + 2) 411 [.ref 36, .int v] s = some (none, s') ∧ pTl st dep mk sa sc h s b m c 11 h' s' := by
  have lt := Int32.toInt_lt v
  have ge := Int32.le_toInt v
  have hdc : ∀ X, b275_0 L xs zf (dM L xs zf w (k + 7)) w (some 30) v h = X → dM L xs zf w (k + 8) 275 [.ref 30, .int v] h = X := fun X hX => by rw [e275]; exact hX
  have hdr : ∀ X, s411_0 (rM w (k2 + 1)) w v s = X → rM w (k2 + 2) 411 [.ref 36, .int v] s = X := fun X hX => by rw [y411]; exact hX
  have cmp : mx_f1 .ge (lg_cmp (Int32.toInt64 v) 0) = decide (0 ≤ v.toInt) := by rw [lgt_ge, i64_0, Int32.toInt_toInt64]
  by_cases hv : 0 ≤ v.toInt
  · obtain ⟨h', s', a1, a2, a3⟩ := nu_a (L := L) (xs := xs) (zf := zf) (w := w) (k := k) (k2 := k2) (V := v.toInt.toNat) (by omega) hw o (by omega)
    refine ⟨h', s', hdc _ ?_, hdr _ ?_, pTl_le a3 (by omega)⟩
    · unfold b275_0
      refine ift (by rw [cmp]; exact decide_eq_true hv) ?_
      rw [n64_p v hv]
      exact a1
    · unfold s411_0
      refine ift (by rw [cmp]; exact decide_eq_true hv) ?_
      rw [n64_p v hv]
      exact a2
  · obtain ⟨h1, s1, b1, m1, c1, c2, c3, c4, c5⟩ := l_cl (L := L) (xs := xs) (zf := zf) (w := w) (k := k) (k2 := k2) (d := 45) o (by omega) (by decide)
    obtain ⟨h', s', a1, a2, a3⟩ := nu_a (L := L) (xs := xs) (zf := zf) (w := w) (k := k) (k2 := k2) (V := (-v.toInt).toNat) (by omega) hw c3 (by omega)
    have ng : ¬ mx_f1 .ge (lg_cmp (Int32.toInt64 v) 0) = true := by rw [cmp]; exact fun z => hv (of_decide_eq_true z)
    refine ⟨h', s', hdc _ ?_, hdr _ ?_, pTl_le (pTl_t (c := c) (q := 1) c4 c5 (Nat.le_refl _) a3) (by omega)⟩
    · unfold b275_0
      refine ifn ng (bse (a := h1) c1 ?_)
      rw [n64_m v (by omega)]
      exact a1
    · unfold s411_0
      refine ifn ng (bse (a := s1) c2 ?_)
      rw [n64_m v (by omega)]
      exact a2
end NUM
