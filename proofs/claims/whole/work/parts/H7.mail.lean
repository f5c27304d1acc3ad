/-! MESSAGES. -/
/-- a's mailbox is g -/
def sM (sg : cS) (a : Nat) (g : Nat → Int32) : cS := (sg.1, sg.2.1, sg.2.2.1, fun b q => if b = a ∧ q = 10 then g else sg.2.2.2.1 b q, sg.2.2.2.2)
section MAI
variable {L : Nat} {xs : Nat → Int32} {zf : Value} {w k : Nat} {cd : Value} {n : Nat} {sg sg' sg2 : cS} {Z : Nat → Prop} {hB h h' h2 : rm_H} {a b r j i z c ht M np loc fr0 wt : Nat} {v num en : Int32} {f g : Nat → Int32}
theorem k_233 {x : Nat} (hx : x < 20) : dM L xs zf w (k + 1) 233 [.int (Int32.ofNat x), .int 6] h = some (some (.int (Int32.ofNat (x % 6))), h) := by
  have t : ∀ x, x < 20 → mx_f1 .ge (Int32.ofNat x ^^^ 6) = true ∧ Int32.ofNat x - Int32.ofNat x / 6 * 6 = Int32.ofNat (x % 6) := by decide +kernel
  obtain ⟨t1, t2⟩ := t x hx
  rw [e233]
  show b233_0 L xs zf (dM L xs zf w k) w (Int32.ofNat x) 6 h = _
  unfold b233_0
  refine ifn (by decide) (ift t1 ?_)
  rw [t2]
  rfl
theorem k_row (q : RH cd n sg Z hB h) (ha : a < n) (hf : sg.2.2.1 a 11 = Int32.ofNat fr0) (f6 : fr0 < 6) (hj : j ≤ 6) : dM L xs zf w (k + 2) 232 [.ref (sg.2.2.2.2 a 0), .int (Int32.ofNat j)] h = some (some (.int (Int32.ofNat ((fr0 + j) % 6 * 7))), h) := by
  rw [e232]
  show b232_0 L xs zf (dM L xs zf w (k + 1)) w (some (sg.2.2.2.2 a 0)) (Int32.ofNat j) h = _
  unfold b232_0
  refine bse ((gA (L := L) (xs := xs) q ha (j := 11) (by omega)).trans (congrArg some hf)) ?_
  rw [of_add]
  refine bse (a := (Int32.ofNat ((fr0 + j) % 6), h)) ?_ ?_
  · rw [k_233 (by omega)]
    rfl
  · show drI (some .int) (Int32.ofNat ((fr0 + j) % 6) * 7) h = _
    rw [show (7 : Int32) = Int32.ofNat 7 from rfl, ← Int32.ofNat_mul]
    rfl
theorem k_row0 (q : RH cd n sg Z hB h) (ha : a < n) (hf : sg.2.2.1 a 11 = Int32.ofNat fr0) (f6 : fr0 < 6) (hj : j ≤ 6) : (dcV L xs (dM L xs zf w (k + 2)) 232 [14] (some (sg.2.2.2.2 a 0)) [.int (Int32.ofNat j)] h).bind dxI = some (Int32.ofNat ((fr0 + j) % 6 * 7), h) := by
  rw [cV_a q ha, k_row q ha hf f6 hj]
  rfl
theorem k_mm (q : RH cd n sg Z hB h) (ha : a < n) (hf : sg.2.2.1 a 11 = Int32.ofNat fr0) (f6 : fr0 < 6) (hj : j ≤ 6) : dM L xs zf w (k + 3) 239 [.ref (sg.2.2.2.2 a 0), .int (Int32.ofNat j)] h = some (some (.int (sg.2.2.2.1 a 10 ((fr0 + j) % 6 * 7))), h) := by
  rw [e239]
  show b239_0 L xs zf (dM L xs zf w (k + 2)) w (some (sg.2.2.2.2 a 0)) (Int32.ofNat j) h = _
  unfold b239_0
  refine bse (gAr (r := 4) q ha (by decide)) ?_
  refine bse (k_row0 q ha hf f6 hj) ?_
  exact bse (rI_at (RH_ar (r := 4) q ha (by decide)) (by show (fr0 + j) % 6 * 7 < 42; omega) (by decide)) rfl
theorem k_fm (q : RH cd n sg Z hB h) (ha : a < n) (hf : sg.2.2.1 a 11 = Int32.ofNat fr0) (f6 : fr0 < 6) : dM L xs zf w (k + 4) 238 [.ref (sg.2.2.2.2 a 0)] h = some (some (.int (sg.2.2.2.1 a 10 (fr0 * 7))), h) := by
  rw [e238]
  show b238_0 L xs zf (dM L xs zf w (k + 3)) w (some (sg.2.2.2.2 a 0)) h = _
  unfold b238_0
  refine bse (a := (sg.2.2.2.1 a 10 (fr0 * 7), h)) ?_ rfl
  rw [cV_a q ha, show (0 : Int32) = Int32.ofNat 0 from rfl, k_mm q ha hf f6 (by omega), show (fr0 + 0) % 6 * 7 = fr0 * 7 from by omega]
  rfl
theorem k_ma (q : RH cd n sg Z hB h) (ha : a < n) (hf : sg.2.2.1 a 11 = Int32.ofNat fr0) (f6 : fr0 < 6) (hj : j ≤ 6) (hi : i < 6) : dM L xs zf w (k + 3) 242 [.ref (sg.2.2.2.2 a 0), .int (Int32.ofNat j), .int (Int32.ofNat i)] h = some (some (.int (sg.2.2.2.1 a 10 ((fr0 + j) % 6 * 7 + 1 + i))), h) := by
  rw [e242]
  show b242_0 L xs zf (dM L xs zf w (k + 2)) w (some (sg.2.2.2.2 a 0)) (Int32.ofNat j) (Int32.ofNat i) h = _
  unfold b242_0
  refine ifn (by rw [f1_lt, of_int (by omega)]; exact fun z => absurd (of_decide_eq_true z) (by omega)) ?_
  refine ift (by rw [f2_lt, of_int (by omega)]; exact decide_eq_true (show (i : Int) < (6 : Int32).toInt from by rw [show (6 : Int32).toInt = 6 from by decide]; omega)) ?_
  refine bse (gAr (r := 4) q ha (by decide)) ?_
  refine bse (k_row0 q ha hf f6 hj) ?_
  show (daI L xs h (some (pA sg a 4)) (Int32.ofNat ((fr0 + j) % 6 * 7) + 1 + Int32.ofNat i)).bind _ = _
  rw [of_inc, of_add]
  exact bse (rI_at (RH_ar (r := 4) q ha (by decide)) (by show (fr0 + j) % 6 * 7 + 1 + i < 42; omega) (by decide)) rfl
theorem sM_id : sM sg a (sg.2.2.2.1 a 10) = sg := by
  unfold sM
  refine Prod.ext rfl (Prod.ext rfl (Prod.ext rfl (Prod.ext (funext fun b => funext fun q => ?_) rfl)))
  show (if b = a ∧ q = 10 then sg.2.2.2.1 a 10 else sg.2.2.2.1 b q) = sg.2.2.2.1 b q
  by_cases c : b = a ∧ q = 10
  · rw [if_pos c, c.1, c.2]
  · rw [if_neg c]
theorem sR_M : sR sg a 10 i v = sM sg a (upd (sg.2.2.2.1 a 10) i v) := by
  unfold sM sR
  refine Prod.ext rfl (Prod.ext rfl (Prod.ext rfl (Prod.ext (funext fun b => funext fun q => ?_) rfl)))
  show (if b = a ∧ q = 10 then upd (sg.2.2.2.1 b q) i v else sg.2.2.2.1 b q) = if b = a ∧ q = 10 then upd (sg.2.2.2.1 a 10) i v else sg.2.2.2.1 b q
  by_cases c : b = a ∧ q = 10
  · rw [if_pos c, if_pos c, c.1, c.2]
  · rw [if_neg c, if_neg c]
theorem sM_M {g2 : Nat → Int32} : sM (sM sg a g) a g2 = sM sg a g2 := by
  unfold sM
  refine Prod.ext rfl (Prod.ext rfl (Prod.ext rfl (Prod.ext (funext fun b => funext fun q => ?_) rfl)))
  show (if b = a ∧ q = 10 then g2 else if b = a ∧ q = 10 then g else sg.2.2.2.1 b q) = if b = a ∧ q = 10 then g2 else sg.2.2.2.1 b q
  by_cases c : b = a ∧ q = 10
  · rw [if_pos c, if_pos c]
  · rw [if_neg c, if_neg c, if_neg c]
theorem sM_g : (sM sg a g).2.2.2.1 a 10 = g := if_pos ⟨rfl, rfl⟩
theorem sM_R (hj : j ≠ 10 ∨ b ≠ a) : (sM sg a g).2.2.2.1 b j = sg.2.2.2.1 b j := if_neg (fun q => by rcases hj with h | h; exact h q.2; exact h q.1)
theorem sA_AA {u : Int32} : sA' (sA' sg a j v) a j u = sA' sg a j u := by
  unfold sA'
  refine Prod.ext rfl (Prod.ext rfl (Prod.ext (funext fun b => funext fun q => ?_) rfl))
  show (if b = a ∧ q = j then u else if b = a ∧ q = j then v else sg.2.2.1 b q) = if b = a ∧ q = j then u else sg.2.2.1 b q
  by_cases c : b = a ∧ q = j
  · rw [if_pos c, if_pos c]
  · rw [if_neg c, if_neg c, if_neg c]
theorem sM_A : sA' (sM sg a g) b j v = sM (sA' sg b j v) a g := rfl
theorem sA_at : (sA' sg a j v).2.2.1 a j = v := if_pos ⟨rfl, rfl⟩
theorem sA_ne {b2 j2 : Nat} (hj : j2 ≠ j ∨ b2 ≠ a) : (sA' sg a j v).2.2.1 b2 j2 = sg.2.2.1 b2 j2 := if_neg (fun q => by rcases hj with h | h; exact h q.2; exact h q.1)
/-- the arguments go over, the last first -/
theorem k_put_l {row bs : Nat} (ha : a < n) (hb : b < n) (hr : row ≤ 35) (hw6 : wt < 6) : ∀ (r : Nat) (sg : cS) (h : rm_H) (N : Nat), RH cd n sg Z hB h → sg.2.2.1 b 13 = Int32.ofNat (bs + r) → bs + r ≤ sg.2.2.2.2 b 13 → sg.2.2.2.2 b 13 ≤ 100000 → sg.2.2.1 a 4 = Int32.ofNat wt → r ≤ 6 → r < N → ∃ (h' : rm_H) (g : Nat → Int32), b231_35 L xs zf (dM L xs zf w (k + 1)) w N (some (sg.2.2.2.2 a 0)) (some (sg.2.2.2.2 b 0)) (Int32.ofNat row) (Int32.ofNat r) h = some (none, h') ∧ RH cd n (sA' (sA' (sM sg a g) b 13 (Int32.ofNat bs)) a 4 (Int32.ofNat (wt + 1))) Z hB h' ∧ (∀ i, i < r → g (row + 1 + i) = sg.2.2.2.1 b 12 (bs + i)) ∧ (∀ i, i ≤ row ∨ row + r < i → g i = sg.2.2.2.1 a 10 i) ∧ h'.length = h.length ∧ zh h' = zh h := by
  intro r
  induction r with
  | zero =>
    intro sg h N q hh hl hm hw4 hr6 hN
    obtain ⟨N', rfl⟩ : ∃ N', N = N' + 1 := ⟨N - 1, by omega⟩
    obtain ⟨h1, p1, p2, p3⟩ := pA' (j := 4) (v := Int32.ofNat (wt + 1)) q ha (by decide)
    have e13 : sA' (sM sg a (sg.2.2.2.1 a 10)) b 13 (Int32.ofNat bs) = sg := by
      rw [sM_id]
      unfold sA'
      refine Prod.ext rfl (Prod.ext rfl (Prod.ext (funext fun b' => funext fun p => ?_) rfl))
      show (if b' = b ∧ p = 13 then Int32.ofNat bs else sg.2.2.1 b' p) = sg.2.2.1 b' p
      by_cases c : b' = b ∧ p = 13
      · rw [if_pos c, c.1, c.2, hh]
        rfl
      · rw [if_neg c]
    refine ⟨h1, sg.2.2.2.1 a 10, ?_, by rw [e13]; exact p2, fun i hi => by omega, fun _ _ => rfl, p3.2.1, p3.2.2⟩
    show (if mx_f1 .le (Int32.ofNat 0) = true then _ else _) = _
    refine ift (by decide) ?_
    refine bse ((gA (L := L) (xs := xs) q ha (j := 4) (by omega)).trans (congrArg some hw4)) ?_
    refine bse (a := (Int32.ofNat (wt + 1), h)) ?_ (bse p1 rfl)
    show ((dM L xs zf w (k + 1) 21 [.int (Int32.ofNat wt + 1), .int 6] h).bind dxI) = _
    rw [of_inc, show (6 : Int32) = Int32.ofNat 6 from rfl, mx_min _ _ (by omega) (by decide)]
    rfl
  | succ r ih =>
    intro sg h N q hh hl hm hw4 hr6 hN
    obtain ⟨N', rfl⟩ : ∃ N', N = N' + 1 := ⟨N - 1, by omega⟩
    obtain ⟨h1, p1, p2, p3, p4⟩ := k_pop (L := L) (xs := xs) (zf := zf) (w := w) (k := k) (ht := bs + r) q hb hh (by omega) hm
    obtain ⟨h2, w1, w2, w3⟩ := wI_at (i := row + (r + 1)) (v := sg.2.2.2.1 b 12 (bs + r)) (RH_ar (r := 4) p2 ha (by decide)) (by show row + (r + 1) < 42; omega) (by decide)
    have q2 := RH_R p2 ha (Or.inr (Or.inr (Or.inr (Or.inl ⟨rfl, rfl, rfl⟩)))) w2 w3
    rw [sR_M] at q2
    have hh2 : (sM (sA' sg b 13 (Int32.ofNat (bs + r))) a (upd ((sA' sg b 13 (Int32.ofNat (bs + r))).2.2.2.1 a 10) (row + (r + 1)) (sg.2.2.2.1 b 12 (bs + r)))).2.2.1 b 13 = Int32.ofNat (bs + r) := sA_at
    have hw2 : (sM (sA' sg b 13 (Int32.ofNat (bs + r))) a (upd ((sA' sg b 13 (Int32.ofNat (bs + r))).2.2.2.1 a 10) (row + (r + 1)) (sg.2.2.2.1 b 12 (bs + r)))).2.2.1 a 4 = Int32.ofNat wt := (sA_ne (Or.inl (by decide))).trans hw4
    obtain ⟨h', g, r1, r2, r3, r4, r5, r6⟩ := ih _ h2 N' q2 hh2 (by show bs + r ≤ sg.2.2.2.2 b 13; omega) hm hw2 (by omega) (by omega)
    refine ⟨h', g, ?_, ?_, fun i hi => ?_, fun i hi => ?_, r5.trans (w3.2.1.trans p3), r6.trans (w3.2.2.trans p4)⟩
    · show (if mx_f1 .le (Int32.ofNat (r + 1)) = true then _ else _) = _
      refine ifn (by rw [f1_le, of_int (by omega)]; exact fun z => absurd (of_decide_eq_true z) (by omega)) ?_
      refine bse (gAr (L := L) (xs := xs) (r := 4) (j := 10) q ha (by decide)) ?_
      refine bse (a := (sg.2.2.2.1 b 12 (bs + r), h1)) ?_ ?_
      · rw [cV_a q hb, p1]
        rfl
      · show (dsI h1 (some (pA sg a 4)) (Int32.ofNat row + Int32.ofNat (r + 1)) (sg.2.2.2.1 b 12 (bs + r))).bind _ = _
        rw [of_add]
        refine bse w1 ?_
        rw [show Int32.ofNat (r + 1) + (-1) = Int32.ofNat r from ((Int32.sub_eq_add_neg _ _).symm).trans (of_dec r)]
        exact r1
    · rw [sM_M] at r2
      have : sA' (sA' (sM (sA' sg b 13 (Int32.ofNat (bs + r))) a g) b 13 (Int32.ofNat bs)) a 4 (Int32.ofNat (wt + 1)) = sA' (sA' (sM sg a g) b 13 (Int32.ofNat bs)) a 4 (Int32.ofNat (wt + 1)) := by
        rw [show sM (sA' sg b 13 (Int32.ofNat (bs + r))) a g = sA' (sM sg a g) b 13 (Int32.ofNat (bs + r)) from rfl, sA_AA]
      rw [this] at r2
      exact r2
    · by_cases e : i = r
      · rw [r4 _ (Or.inr (by omega)), sM_g, e, show row + 1 + r = row + (r + 1) from by omega, upd_eq']
      · rw [r3 i (by omega)]
        rw [sM_R (Or.inl (by decide))]
        rfl
    · rw [r4 i (by omega), sM_g, upd_ne' (by omega)]
      rfl
theorem k_put {bs : Nat} (mb : MB hB Z M num np loc en) (q : RH cd n sg Z hB h) (ha : a < n) (hb : b < n) (hf : sg.2.2.1 a 11 = Int32.ofNat fr0) (f6 : fr0 < 6) (hw4 : sg.2.2.1 a 4 = Int32.ofNat wt) (w6 : wt < 6) (hh : sg.2.2.1 b 13 = Int32.ofNat (bs + np)) (hl : bs + np ≤ sg.2.2.2.2 b 13) (hm : sg.2.2.2.2 b 13 ≤ 100000) (n6 : np ≤ 6) (hw : 2000 ≤ w) : ∃ (h' : rm_H) (g : Nat → Int32), dM L xs zf w (k + 3) 231 [.ref (sg.2.2.2.2 a 0), .ref M, .ref (sg.2.2.2.2 b 0)] h = some (none, h') ∧ RH cd n (sA' (sA' (sM sg a g) b 13 (Int32.ofNat bs)) a 4 (Int32.ofNat (wt + 1))) Z hB h' ∧ g ((fr0 + wt) % 6 * 7) = num ∧ (∀ i, i < np → g ((fr0 + wt) % 6 * 7 + 1 + i) = sg.2.2.2.1 b 12 (bs + i)) ∧ (∀ i, i < (fr0 + wt) % 6 * 7 ∨ (fr0 + wt) % 6 * 7 + np < i → g i = sg.2.2.2.1 a 10 i) ∧ h'.length = h.length ∧ zh h' = zh h := by
  obtain ⟨h1, w1, w2, w3⟩ := wI_at (i := (fr0 + wt) % 6 * 7) (v := num) (RH_ar (r := 4) q ha (by decide)) (by show (fr0 + wt) % 6 * 7 < 42; omega) (by decide)
  have q1 := RH_R q ha (Or.inr (Or.inr (Or.inr (Or.inl ⟨rfl, rfl, rfl⟩)))) w2 w3
  rw [sR_M] at q1
  obtain ⟨h', g, r1, r2, r3, r4, r5, r6⟩ := k_put_l (L := L) (xs := xs) (zf := zf) (w := w) (k := k + 1) (row := (fr0 + wt) % 6 * 7) (bs := bs) ha hb (by omega) w6 np _ h1 w q1 hh hl hm hw4 n6 (by omega)
  rw [sM_M] at r2
  refine ⟨h', g, ?_, r2, ?_, fun i hi => ?_, fun i hi => ?_, r5.trans w3.2.1, r6.trans w3.2.2⟩
  · rw [e231]
    show b231_0 L xs zf (dM L xs zf w (k + 2)) w (some (sg.2.2.2.2 a 0)) (some M) (some (sg.2.2.2.2 b 0)) h = _
    unfold b231_0
    obtain ⟨pl, s1, s2⟩ := mb_np (L := L) (xs := xs) (zf := zf) (w := w) (k := k + 1) (mb_k mb q1)
    refine bse ((gA (L := L) (xs := xs) q ha (j := 4) (by omega)).trans (congrArg some hw4)) ?_
    refine bse (k_row0 q ha hf f6 (by omega)) ?_
    refine bse (gAr (L := L) (xs := xs) (r := 4) (j := 10) q ha (by decide)) ?_
    refine bse (mb_2 (mb_k mb q)) ?_
    refine bse w1 (bse s1 (bse s2 ?_))
    refine bse (a := (Int32.ofNat np, h1)) ?_ r1
    show ((dM L xs zf w (k + 2) 21 [.int (Int32.ofNat np), .int 6] h1).bind dxI) = _
    rw [show (6 : Int32) = Int32.ofNat 6 from rfl, mx_min _ _ (by omega) (by decide)]
    rfl
  · rw [r4 _ (Or.inl (Nat.le_refl _)), sM_g, upd_eq']
  · rw [r3 i hi, sM_R (Or.inl (by decide))]
  · rw [r4 i (by omega), sM_g, upd_ne' (by omega)]
theorem k_deliver {bs : Nat} (mb : MB hB Z M num np loc en) (q : RH cd n sg Z hB h) (ha : a < n) (hb : b < n) (hf : sg.2.2.1 a 11 = Int32.ofNat fr0) (f6 : fr0 < 6) (hw4 : sg.2.2.1 a 4 = Int32.ofNat wt) (w6 : wt < 6) (hh : sg.2.2.1 b 13 = Int32.ofNat (bs + np)) (hl : bs + np ≤ sg.2.2.2.2 b 13) (hm : sg.2.2.2.2 b 13 ≤ 100000) (n6 : np ≤ 6) (hw : 2000 ≤ w) : ∃ (h' : rm_H) (g : Nat → Int32), dM L xs zf w (k + 4) 230 [.ref 24, .ref (sg.2.2.2.2 a 0), .ref M, .ref (sg.2.2.2.2 b 0)] h = some (none, h') ∧ RH cd n (sXc (sA' (sA' (sM sg a g) b 13 (Int32.ofNat bs)) a 4 (Int32.ofNat (wt + 1))) 13 (sg.1 13 + 1)) Z hB h' ∧ g ((fr0 + wt) % 6 * 7) = num ∧ (∀ i, i < np → g ((fr0 + wt) % 6 * 7 + 1 + i) = sg.2.2.2.1 b 12 (bs + i)) ∧ (∀ i, i < (fr0 + wt) % 6 * 7 ∨ (fr0 + wt) % 6 * 7 + np < i → g i = sg.2.2.2.1 a 10 i) ∧ h'.length = h.length ∧ zh h' = zh h := by
  obtain ⟨h1, g, r1, r2, r3, r4, r5, r6, r7⟩ := k_put (L := L) (xs := xs) (zf := zf) (w := w) (k := k) mb q ha hb hf f6 hw4 w6 hh hl hm n6 hw
  obtain ⟨h2, p1, p2, p3⟩ := pX (j := 13) (v := sg.1 13 + 1) r2 (by decide)
  refine ⟨h2, g, ?_, p2, r3, r4, r5, p3.2.1.trans r6, p3.2.2.trans r7⟩
  rw [e230]
  show b230_0 L xs zf (dM L xs zf w (k + 3)) w (some 24) (some (sg.2.2.2.2 a 0)) (some M) (some (sg.2.2.2.2 b 0)) h = _
  unfold b230_0
  refine ifn (show ¬ dnl (some M) = true from fun z => by cases z) ?_
  refine bse (a := h1) ?_ ?_
  · rw [cV_a q ha, show (va_rf (some M) : Value) = .ref M from rfl, show (va_rf (some (sg.2.2.2.2 b 0)) : Value) = .ref (sg.2.2.2.2 b 0) from rfl, r1]
    rfl
  · refine bse (gX (L := L) (xs := xs) r2 (by decide)) ?_
    exact bse p1 rfl
end MAI
