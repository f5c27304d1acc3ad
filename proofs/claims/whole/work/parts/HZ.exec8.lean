/-! THE CLASS SENDS A MESSAGE: it goes. -/
section EX8
variable {L : Nat} {xs : Nat → Int32} {zf : Value} {w k : Nat} {n : Nat} {sg : cS} {Z : Nat → Prop} {hB h : rm_H} {a b i P ac wt mx fr0 M np loc bs : Nat} {num en : Int32}
/-- what is sent -/
abbrev sSe (sg : cS) (a b bs wt : Nat) (g : Nat → Int32) : cS := sXc (sA' (sA' (sM sg b g) a 13 (Int32.ofNat bs)) b 4 (Int32.ofNat (wt + 1))) 13 (sg.1 13 + 1)
theorem k_sendB (mb : MB hB Z M num np loc en) (q : RH (.ref P) n sg Z hB h) (ha : a < n) (so : SOK sg a (bs + np + 1)) (hv : sg.2.2.2.1 a 12 (bs + np) = Int32.ofNat (b + 1)) (h8 : sg.1 8 = Int32.ofNat ac) (hn : ac ≤ n) (h12 : ac ≤ 12) (hb : b < ac) (hw4 : sg.2.2.1 b 4 = Int32.ofNat wt) (h6 : sg.1 6 = Int32.ofNat mx) (m6 : mx ≤ 6) (hf : wt < mx) (h11 : sg.2.2.1 b 11 = Int32.ofNat fr0) (f6 : fr0 < 6) (n6 : np ≤ 6) (hw : 2000 ≤ w) : ∃ (h' : rm_H) (z c : Nat) (g f : Nat → Int32), dM L xs zf w (k + 5) 260 [.ref 24, .ref (sg.2.2.2.2 a 0), .ref M, .int (Int32.ofNat i)] h = some (none, h') ∧ RH (.ref P) n (sQ (sSe (sPo sg a (bs + np)) a b bs wt g) a z c f (bs + 1)) Z hB h' ∧ (g ((fr0 + wt) % 6 * 7) = num ∧ (∀ i, i < np → g ((fr0 + wt) % 6 * 7 + 1 + i) = sg.2.2.2.1 a 12 (bs + i)) ∧ ∀ i, i < (fr0 + wt) % 6 * 7 ∨ (fr0 + wt) % 6 * 7 + np < i → g i = sg.2.2.2.1 b 10 i) ∧ STN sg a bs z c f (bs + 1) ∧ f bs = 0 ∧ CST n sg h (sQ (sSe (sPo sg a (bs + np)) a b bs wt g) a z c f (bs + 1)) h' := by
  obtain ⟨h1, p2, p3, p4, hX⟩ := k_sendH (L := L) (xs := xs) (zf := zf) (w := w) (k := k + 1) (M := M) (i := i) q ha so hv h8 hn h12 hb hw4 h6 (by omega) m6
  obtain ⟨s1, s2, s3, s4⟩ := so
  have eb : (sPo sg a (bs + np)).2.2.2.2 b 0 = sg.2.2.2.2 b 0 := sQ_P (Or.inl (by decide))
  obtain ⟨h2, g, r1, r2, r3, r4, r5, r6, r7⟩ := k_deliver (L := L) (xs := xs) (zf := zf) (w := w) (k := k) (a := b) (b := a) (bs := bs) mb p2 (by omega) ha ((sQ_A (Or.inl (by decide))).trans h11) f6 ((sQ_A (Or.inl (by decide))).trans hw4) (by omega) sQ_h (by rw [sQ_c]; omega) (by rw [sQ_c]; omega) n6 hw
  rw [eb, sPo_0] at r1
  have hso : SOK (sSe (sPo sg a (bs + np)) a b bs wt g) a bs := by
    refine ⟨?_, ?_, ?_, ?_⟩
    · show (sA' (sA' (sM (sPo sg a (bs + np)) b g) a 13 (Int32.ofNat bs)) b 4 (Int32.ofNat (wt + 1))).2.2.1 a 13 = _
      rw [sA_ne (Or.inl (by decide)), sA_at]
    · show bs ≤ (sPo sg a (bs + np)).2.2.2.2 a 13
      rw [sQ_c]; omega
    · show 64 ≤ (sPo sg a (bs + np)).2.2.2.2 a 13
      rw [sQ_c]; exact s3
    · show (sPo sg a (bs + np)).2.2.2.2 a 13 ≤ 40000
      rw [sQ_c]; exact s4
  obtain ⟨h', z, c, f, t1, t2, t3, t4, t5⟩ := k_push0 (L := L) (xs := xs) (zf := zf) (w := w) (k := k + 1) (v := 0) (sg := sSe (sPo sg a (bs + np)) a b bs wt g) r2 ha hso
  rw [show (sSe (sPo sg a (bs + np)) a b bs wt g).2.2.2.2 a 0 = sg.2.2.2.2 a 0 from sPo_0 (sg := sg) (a := a) (ht := bs + np)] at t1
  have ef : (sSe (sPo sg a (bs + np)) a b bs wt g).2.2.2.1 a 12 = sg.2.2.2.1 a 12 := by
    show (sM (sPo sg a (bs + np)) b g).2.2.2.1 a 12 = _
    rw [sM_R (Or.inl (by decide)), sQ_f]
  have ec : (sSe (sPo sg a (bs + np)) a b bs wt g).2.2.2.2 a 13 = sg.2.2.2.2 a 13 := by
    show (sPo sg a (bs + np)).2.2.2.2 a 13 = _
    exact sQ_c
  obtain ⟨y1, y2, y3, y4⟩ := t3
  rw [ec] at y4
  refine ⟨h', z, c, g, f, hX _ ?_, t2, ⟨r3, fun i hi => by rw [r4 i hi, sQ_f], fun i hi => by rw [r5 i hi, sQ_R (Or.inl (by decide))]⟩, ⟨fun i hi => by rw [y1 i hi, ef], y2, y3, y4⟩, t4, ?_⟩
  · refine ift (by rw [f2_lt, of_int (by omega), of_int (by omega)]; exact decide_eq_true (by omega)) ?_
    refine bse (a := h2) ?_ (bse t1 rfl)
    rw [cV_w p2, r1]
    rfl
  · refine CST_t (sg' := sSe (sPo sg a (bs + np)) a b bs wt g) (h' := h2) (CST_0 (fun b' => ?_) (r6.trans p3) (r7.trans p4)) t5
    show (sPo sg a (bs + np)).2.2.2.2 b' 13 = _
    by_cases e : b' = a
    · rw [e, sQ_c]
    · exact sQ_P (Or.inr e)
end EX8
