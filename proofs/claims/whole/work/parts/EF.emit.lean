/-! THE CLASS'S CHECKER: its own fields; code is emitted. -/
/-- the Program while its bodies are checked -/
def pgK (cx : Nat → Nat) (pt vr : Int32) (mv : Value) (a b : Int32) (ca oa z : Nat) : rm_E := .inr (4, [.int (Int32.ofNat (cx 6)), .ref (cx 9), .ref (cx 10), .ref (cx 11), .int pt, .int vr, mv, .int a, .int b, .ref ca, .ref oa, .int (Int32.ofNat z)])
/-- the rows of code: m wide -/
def cdR (h : rm_H) (ca oa m : Nat) (A B : Nat → Int32) : Prop := hc h ca = some (iaA m A) ∧ hc h oa = some (iaA m B) ∧ ca ≠ oa ∧ 1 ≤ m ∧ m ≤ 100000
section EM
variable {L : Nat} {xs : Nat → Int32} {zf : Value} {w k n m a z ca oa : Nat} {h h1 : rm_H} {cx : Nat → Nat} {pt vr fa fb x y : Int32} {mv : Value} {A B : Nat → Int32}
theorem c_copy (ea : hc h a = some (iaA m A)) (h1 : 1 ≤ m) (hm : m ≤ 100000) : dM L xs zf w (k + 2) 176 [.ref a, .int (Int32.ofNat m * 2)] h = some (some (.ref (21 + h.length)), h ++ [iaA (2 * m) (va_cpy A (fun _ => 0) 0 0 m)]) := by
  have e2 : Int32.ofNat m * 2 = Int32.ofNat (2 * m) := by
    rw [show (2 : Int32) = Int32.ofNat 2 from rfl, ← Int32.ofNat_mul, Nat.mul_comm]
  rw [e176, e2]
  show b176_0 L xs zf (dM L xs zf w (k + 1)) w (some a) (Int32.ofNat (2 * m)) h = _
  unfold b176_0
  have i0 : (0 : Int32).toInt = 0 := by decide
  refine bse (hc_aN ea (by decide)) (ift ?_ ?_)
  · rw [f2_ne]
    refine decide_eq_true (fun q => ?_)
    have := congrArg Int32.toInt q
    rw [of_int (by omega), of_int (by omega)] at this
    omega
  refine bse (a := h ++ [iaA (2 * m) (fun _ => 0)]) ?_ ?_
  · unfold dnI
    rw [of_clamp (by omega), if_pos]
    refine ⟨?_, by omega⟩
    rw [Int32.lt_iff_toInt_lt, of_int (by omega), i0]
    omega
  refine bse (hc_aN (hc_up ea) (by decide)) ?_
  refine bse (a := (Int32.ofNat m, h ++ [iaA (2 * m) (fun _ => 0)])) ?_ ?_
  · rw [e21]
    show (b21_0 L xs zf (dM L xs zf w k) w (Int32.ofNat m) (Int32.ofNat (2 * m)) (h ++ [iaA (2 * m) (fun _ => 0)])).bind dxI = _
    unfold b21_0
    rw [if_neg]
    · rfl
    · rw [f2_gt, of_int (by omega), of_int (by omega)]
      simp
      omega
  refine bse (a := h ++ [iaA (2 * m) (va_cpy A (fun _ => 0) 0 0 m)]) ?_ rfl
  unfold dcpy
  dsimp only
  have c0 : ¬ (0 : Int32) < 0 := by decide
  have cm : ¬ Int32.ofNat m < 0 := by rw [Int32.lt_iff_toInt_lt, of_int (by omega), i0]; omega
  rw [if_pos ⟨by omega, c0, c0, cm⟩, show 21 + h.length - 21 = h.length from by omega, cat_last, cat_old (hc_at ea)]
  show (if _ then _ else _) = _
  rw [of_clamp (by omega), show (0 : Int32).toNatClampNeg = 0 from by decide]
  refine (if_pos ⟨hc_ge ea, rfl, Or.inl rfl, by omega, by omega⟩).trans ?_
  rw [List.set_append_right _ _ (Nat.le_refl _), Nat.sub_self]
  rfl
theorem st_ia {A' : Nat → Int32} (e : hc h a = some (iaA m A)) : st1 a h (h.set (a - 21) (iaA m A')) := ⟨fr_setA (fun p => p = a) e rfl (show (0 : Nat) ≠ 1 by decide), by simp, zh_set (x := iaA m A) (y := iaA m A') rfl (hc_at e)⟩
/-- what an emit changes -/
theorem c_emit1 (hp : hc h (cx 8) = some (pgK cx pt vr mv fa fb ca oa z)) (cr : cdR h ca oa m A B) (hz : z < m) : ∃ h', b175_46 L xs zf (dM L xs zf w k) w (some (cx 8)) x y h = some (some (.int (Int32.ofNat z)), h') ∧ hc h' (cx 8) = some (pgK cx pt vr mv fa fb ca oa (z + 1)) ∧ cdR h' ca oa m (upd A z x) (upd B z y) ∧ fr (fun q => q = cx 8 ∨ q = ca ∨ q = oa) h h' ∧ h'.length = h.length ∧ zh h' = zh h := by
  obtain ⟨r1, r2, r3, r4, r5⟩ := cr
  have pc : cx 8 ≠ ca := fun q => by rw [q, r1] at hp; cases hp
  have po : cx 8 ≠ oa := fun q => by rw [q, r2] at hp; cases hp
  have w1 : dsI h (some ca) (Int32.ofNat z) x = some (h.set (ca - 21) (iaA m (upd A z x))) := sI_of (hc_ge r1) (hc_at r1) hz (by omega)
  have s1 : st1 ca h (h.set (ca - 21) (iaA m (upd A z x))) := st_ia r1
  have p2 := st1_old s1 hp pc
  have q2 := st1_old s1 r2 (fun q => r3 q.symm)
  have q1 : hc (h.set (ca - 21) (iaA m (upd A z x))) ca = some (iaA m (upd A z x)) := hc_set r1
  have w2 : dsI (h.set (ca - 21) (iaA m (upd A z x))) (some oa) (Int32.ofNat z) y = some ((h.set (ca - 21) (iaA m (upd A z x))).set (oa - 21) (iaA m (upd B z y))) := sI_of (hc_ge q2) (hc_at q2) hz (by omega)
  have s2 : st1 oa (h.set (ca - 21) (iaA m (upd A z x))) ((h.set (ca - 21) (iaA m (upd A z x))).set (oa - 21) (iaA m (upd B z y))) := st_ia q2
  have p3 := st1_old s2 p2 po
  have q3 := st1_old s2 q1 r3
  have q4 : hc ((h.set (ca - 21) (iaA m (upd A z x))).set (oa - 21) (iaA m (upd B z y))) oa = some (iaA m (upd B z y)) := hc_set q2
  obtain ⟨h3, v1, v2, v3⟩ := pF_ex (v := .int (Int32.ofNat (z + 1))) (j := 11) (cis := [4]) p3 rfl (by decide) rfl (by decide)
  have v2 : hc h3 (cx 8) = some (pgK cx pt vr mv fa fb ca oa (z + 1)) := v2
  refine ⟨h3, ?_, v2, ⟨st1_old v3 q3 (fun q => pc q.symm), st1_old v3 q4 (fun q => po q.symm), r3, r4, r5⟩, fr_trans (fr_trans (fr_mono s1.1 (fun _ _ u => Or.inr (Or.inl u))) s2.1 (fun _ _ u => Or.inr (Or.inr u))) v3.1 (fun _ _ u => Or.inl u), v3.2.1.trans (s2.2.1.trans s1.2.1), v3.2.2.trans (s2.2.2.trans s1.2.2)⟩
  unfold b175_46
  refine bse (hc_gR (p := some ca) hp rfl (by decide)) (bse (hc_gI hp rfl (by decide)) (bse w1 (bse (hc_gR (p := some oa) p2 rfl (by decide)) (bse (hc_gI p2 rfl (by decide)) (bse w2 (bse (hc_gI p3 rfl (by decide)) ?_))))))
  rw [show Int32.ofNat z + 1 = Int32.ofNat (z + 1) from of_add z 1]
  refine bse v1 (bse (hc_gI v2 rfl (by decide)) ?_)
  rw [show Int32.ofNat (z + 1) - 1 = Int32.ofNat z from by
    apply i32_of
    rw [show (1 : Int32) = Int32.ofNat 1 from rfl, of_sub (by omega) (by omega), of_int (by omega)]
    omega]
  rfl
/-- an instruction is emitted -/
theorem c_emit (hp : hc h (cx 8) = some (pgK cx pt vr mv fa fb ca oa z)) (cr : cdR h ca oa m A B) (hz : z ≤ m) (hm : m ≤ 20000) : ∃ h' ca' oa' m' A' B', (dcV L xs (dM L xs zf w (k + 3)) 175 [4] (some (cx 8)) [.int x, .int y] h).bind dxI = some (Int32.ofNat z, h') ∧ hc h' (cx 8) = some (pgK cx pt vr mv fa fb ca' oa' (z + 1)) ∧ cdR h' ca' oa' m' A' B' ∧ z + 1 ≤ m' ∧ (A' z = x ∧ B' z = y) ∧ (∀ i, i < z → A' i = A i ∧ B' i = B i) ∧ fr (fun q => q = cx 8 ∨ q = ca ∨ q = oa) h h' ∧ ((m' = m ∧ ca' = ca ∧ oa' = oa ∧ h'.length = h.length ∧ zh h' = zh h) ∨ (m' = 2 * m ∧ z = m ∧ 21 + h.length ≤ ca' ∧ 21 + h.length ≤ oa' ∧ h'.length = h.length + 2 ∧ zh h' = zh h + 4 * m)) := by
  obtain ⟨r1, r2, r3, r4, r5⟩ := id cr
  have wrap : ∀ h', b175_0 L xs zf (dM L xs zf w (k + 2)) w (some (cx 8)) x y h = some (some (.int (Int32.ofNat z)), h') → (dcV L xs (dM L xs zf w (k + 3)) 175 [4] (some (cx 8)) [.int x, .int y] h).bind dxI = some (Int32.ofNat z, h') := by
    intro h' e
    rw [hc_v hp (by decide), e175]
    show (b175_0 L xs zf (dM L xs zf w (k + 2)) w (some (cx 8)) x y h).bind dxI = _
    rw [e]
    rfl
  have g11 : dgI L xs h 11 [4] (some (cx 8)) = some (Int32.ofNat z) := hc_gI hp rfl (by decide)
  have g9 : dgR L xs h 9 [4] (some (cx 8)) = some (some ca) := hc_gR (p := some ca) hp rfl (by decide)
  have aN := hc_aN (L := L) (xs := xs) r1 (by decide)
  by_cases c : z < m
  · obtain ⟨h', q1, q2, q3, q4, q5, q6⟩ := c_emit1 (L := L) (xs := xs) (zf := zf) (w := w) (k := k + 2) (x := x) (y := y) hp cr c
    refine ⟨h', ca, oa, m, _, _, wrap _ ?_, q2, q3, by omega, ⟨upd_eq _ _ _, upd_eq _ _ _⟩, fun i hi => ⟨upd_ne _ _ (by omega), upd_ne _ _ (by omega)⟩, q4, Or.inl ⟨rfl, rfl, rfl, q5, q6⟩⟩
    unfold b175_0
    refine bse g11 (bse g9 (bse aN (ift ?_ q1)))
    rw [f2_lt, of_int (by omega), of_int (by omega)]
    simp
    omega
  · have ez : z = m := by omega
    subst ez
    have pc : cx 8 ≠ ca := fun q => by rw [q, r1] at hp; cases hp
    -- both rows are copied
    have k1 := c_copy (L := L) (xs := xs) (zf := zf) (w := w) (k := k) r1 r4 r5
    generalize hA1 : va_cpy A (fun _ => 0) 0 0 z = A1 at k1
    generalize hh1 : h ++ [iaA (2 * z) A1] = h1 at k1
    have p1 : hc h1 (cx 8) = some (pgK cx pt vr mv fa fb ca oa z) := by rw [← hh1]; exact hc_up hp
    have o1 : hc h1 oa = some (iaA z B) := by rw [← hh1]; exact hc_up r2
    have n1 : hc h1 (21 + h.length) = some (iaA (2 * z) A1) := by rw [← hh1]; exact hc_new _
    have l1 : h1.length = h.length + 1 := by rw [← hh1]; simp
    have z1 : zh h1 = zh h + zs (iaA (2 * z) A1) := by rw [← hh1]; exact zh_app _ _
    have f1 : fr (fun q => q = cx 8 ∨ q = ca ∨ q = oa) h h1 := by rw [← hh1]; exact fr_app _ _
    have ltp := hc_lt hp
    have lto := hc_lt r2
    obtain ⟨h2, v1, v2, v3⟩ := pF_ex (v := .ref (21 + h.length)) (j := 9) (cis := [4]) p1 rfl (by decide) rfl (by decide)
    have v2 : hc h2 (cx 8) = some (pgK cx pt vr mv fa fb (21 + h.length) oa z) := v2
    have po : cx 8 ≠ oa := fun q => by rw [q, r2] at hp; cases hp
    have o2 := st1_old v3 o1 (fun q => po q.symm)
    have n2 := st1_old v3 n1 (by omega)
    have k2 := c_copy (L := L) (xs := xs) (zf := zf) (w := w) (k := k) o2 r4 r5
    generalize hB1 : va_cpy B (fun _ => 0) 0 0 z = B1 at k2
    generalize hh3 : h2 ++ [iaA (2 * z) B1] = h3 at k2
    have p3 : hc h3 (cx 8) = some (pgK cx pt vr mv fa fb (21 + h.length) oa z) := by rw [← hh3]; exact hc_up v2
    have n3 : hc h3 (21 + h.length) = some (iaA (2 * z) A1) := by rw [← hh3]; exact hc_up n2
    have m3 : hc h3 (21 + h2.length) = some (iaA (2 * z) B1) := by rw [← hh3]; exact hc_new _
    have l2 : h2.length = h1.length := v3.2.1
    have l3 : h3.length = h2.length + 1 := by rw [← hh3]; simp
    have z3 : zh h3 = zh h2 + zs (iaA (2 * z) B1) := by rw [← hh3]; exact zh_app _ _
    have f3 : fr (fun q => q = cx 8 ∨ q = ca ∨ q = oa) h2 h3 := by rw [← hh3]; exact fr_app _ _
    obtain ⟨h4, u1, u2, u3⟩ := pF_ex (v := .ref (21 + h2.length)) (j := 10) (cis := [4]) p3 rfl (by decide) rfl (by decide)
    have u2 : hc h4 (cx 8) = some (pgK cx pt vr mv fa fb (21 + h.length) (21 + h2.length) z) := u2
    have cr4 : cdR h4 (21 + h.length) (21 + h2.length) (2 * z) A1 B1 := ⟨st1_old u3 n3 (by omega), st1_old u3 m3 (by omega), by omega, by omega, by omega⟩
    obtain ⟨h', q1, q2, q3, q4, q5, q6⟩ := c_emit1 (L := L) (xs := xs) (zf := zf) (w := w) (k := k + 2) (x := x) (y := y) u2 cr4 (by omega)
    have zA : zs (iaA (2 * z) A1) = 2 * z := rfl
    have zB : zs (iaA (2 * z) B1) = 2 * z := rfl
    have z2 := v3.2.2
    have z4 := u3.2.2
    have l4 := u3.2.1
    refine ⟨h', 21 + h.length, 21 + h2.length, 2 * z, _, _, wrap _ ?_, q2, q3, by omega, ⟨upd_eq _ _ _, upd_eq _ _ _⟩, fun i hi => ⟨?_, ?_⟩, fr_trans (fr_trans (fr_trans (fr_trans f1 v3.1 (fun _ _ u => Or.inl u)) f3 (fun _ _ u => u)) u3.1 (fun _ _ u => Or.inl u)) q4 (fun q hq u => ?_), Or.inr ⟨rfl, rfl, Nat.le_refl _, by omega, by omega, by omega⟩⟩
    · unfold b175_0
      refine bse g11 (bse g9 (bse aN (ifn ?_ (bse g9 (bse g11 (bse (a := (some (21 + h.length), h1)) (by rw [show dM L xs zf w (k + 2) 176 [va_rf (some ca), .int (Int32.ofNat z * 2)] h = _ from k1]; rfl) (bse v1 (bse (hc_gR (p := some oa) v2 rfl (by decide)) (bse (hc_gI v2 rfl (by decide)) (bse (a := (some (21 + h2.length), h3)) (by rw [show dM L xs zf w (k + 2) 176 [va_rf (some oa), .int (Int32.ofNat z * 2)] h2 = _ from k2]; rfl) (bse u1 q1)))))))))))
      rw [f2_lt]
      simp
    · rw [upd_ne _ _ (by omega), ← hA1]
      exact va_cpy_lt hi
    · rw [upd_ne _ _ (by omega), ← hB1]
      exact va_cpy_lt hi
    · rcases u with u | u | u
      · exact Or.inl u
      · omega
      · omega
end EM
