/-! THE CLASS DOES AN INSTRUCTION: fields and calls, the whole. -/
section EX4
variable {L : Nat} {xs : Nat → Int32} {zf : Value} {w k : Nat} {n : Nat} {sg : cS} {Z : Nat → Prop} {hB h : rm_H} {a b i ht P f st : Nat} {v op : Int32}
/-- the stack after a pop -/
abbrev sPo (sg : cS) (a ht : Nat) : cS := sQ sg a (sg.2.2.2.2 a 12) (sg.2.2.2.2 a 13) (sg.2.2.2.1 a 12) ht
theorem sPo_0 : (sPo sg a ht).2.2.2.2 a 0 = sg.2.2.2.2 a 0 := sQ_P (Or.inl (by decide))
/-- of none: it fails -/
theorem k_265z (q : RH (.ref P) n sg Z hB h) (ha : a < n) (so : SOK sg a (ht + 1)) (h0 : sg.2.2.2.1 a 12 ht = 0) (y : Int32) : ∃ h' : rm_H, dM L xs zf w (k + 3) 265 [.ref 24, .ref (sg.2.2.2.2 a 0), .int op, .int y] h = some (none, h') ∧ RH (.ref P) n (sA' (sA' (sA' (sXc (sPo sg a ht) 15 (sg.1 15 + 1)) a 6 1) a 3 0) a 13 0) Z hB h' ∧ h'.length = h.length ∧ zh h' = zh h := by
  obtain ⟨h1, p1, p2, p3, p4⟩ := k_pop0 (L := L) (xs := xs) (zf := zf) (w := w) (k := k + 1) q ha so
  obtain ⟨h', r1, r2, r3, r4⟩ := k_fail (L := L) (xs := xs) (zf := zf) (w := w) (k := k) (x := 1) p2 ha
  rw [sPo_0] at r1
  refine ⟨h', ?_, r2, r3.trans p3, r4.trans p4⟩
  have go : ∀ s0 : Int32, b265_12 L xs zf (dM L xs zf w (k + 2)) w (some 24) (some (sg.2.2.2.2 a 0)) op y s0 h = some (none, h') := by
    intro s0
    unfold b265_12
    refine bse p1 ?_
    refine ifn (ne1_f h0) ?_
    refine bse (a := h') ?_ rfl
    rw [cV_w p2, show (va_rf (some (sg.2.2.2.2 a 0)) : Value) = .ref (sg.2.2.2.2 a 0) from rfl, r1]
    rfl
  rw [e265]
  show b265_0 L xs zf (dM L xs zf w (k + 2)) w (some 24) (some (sg.2.2.2.2 a 0)) op y h = _
  unfold b265_0
  by_cases c : mx_f2 .ne (y &&& 1) 1 = true
  · exact ift c (go 0)
  · exact ifn c (go 1)
/-- of an object -/
theorem k_265o {o : Nat} (q : RH (.ref P) n sg Z hB h) (ha : a < n) (so : SOK sg a (ht + 1)) (hv : sg.2.2.2.1 a 12 ht = Int32.ofNat o) (o1 : 1 ≤ o) (o4 : o ≤ 400) (hs : sg.2.1 1 o = Int32.ofNat st) (f8 : f < 8) : ∃ h1 : rm_H, RH (.ref P) n (sPo sg a ht) Z hB h1 ∧ h1.length = h.length ∧ zh h1 = zh h ∧ ∀ X : Option dR, (b265_52 L xs zf (dM L xs zf w (k + 3)) w (some 24) (some (sg.2.2.2.2 a 0)) op (Int32.ofNat f * 2 + 0) (Int32.ofNat (st + 1)) h1 = X → dM L xs zf w (k + 4) 265 [.ref 24, .ref (sg.2.2.2.2 a 0), .int op, .int (Int32.ofNat f * 2 + 0)] h = X) := by
  obtain ⟨h1, p1, p2, p3, p4⟩ := k_pop0 (L := L) (xs := xs) (zf := zf) (w := w) (k := k + 2) q ha so
  refine ⟨h1, p2, p3, p4, fun X hX => ?_⟩
  rw [e265]
  show b265_0 L xs zf (dM L xs zf w (k + 3)) w (some 24) (some (sg.2.2.2.2 a 0)) op (Int32.ofNat f * 2 + 0) h = _
  unfold b265_0
  rw [(fop f f8).1, if_pos (by decide)]
  unfold b265_12
  refine bsq p1 ?_
  rw [hv, if_pos (ne1_t (ofn_0 (by omega) o1)), if_pos (by decide)]
  refine bsq (a := (Int32.ofNat (st + 1), h1)) ?_ hX
  rw [cV_w p2, k_266 p2 o4 hs]
  rfl
/-- of the actor itself -/
theorem k_265a (q : RH (.ref P) n sg Z hB h) (ha : a < n) (so : SOK sg a (ht + 1)) (hv : sg.2.2.2.1 a 12 ht ≠ 0) (hs : sg.2.2.1 a 2 = Int32.ofNat st) (f8 : f < 8) : ∃ h1 : rm_H, RH (.ref P) n (sPo sg a ht) Z hB h1 ∧ h1.length = h.length ∧ zh h1 = zh h ∧ ∀ X : Option dR, (b265_52 L xs zf (dM L xs zf w (k + 3)) w (some 24) (some (sg.2.2.2.2 a 0)) op (Int32.ofNat f * 2 + 1) (Int32.ofNat (st + 1)) h1 = X → dM L xs zf w (k + 4) 265 [.ref 24, .ref (sg.2.2.2.2 a 0), .int op, .int (Int32.ofNat f * 2 + 1)] h = X) := by
  obtain ⟨h1, p1, p2, p3, p4⟩ := k_pop0 (L := L) (xs := xs) (zf := zf) (w := w) (k := k + 2) q ha so
  refine ⟨h1, p2, p3, p4, fun X hX => ?_⟩
  rw [e265]
  show b265_0 L xs zf (dM L xs zf w (k + 3)) w (some 24) (some (sg.2.2.2.2 a 0)) op (Int32.ofNat f * 2 + 1) h = _
  unfold b265_0
  rw [(fop f f8).2.2.1, if_neg (by decide)]
  unfold b265_12
  refine bsq p1 ?_
  rw [if_pos (ne1_t hv), if_neg (by decide)]
  have g2 := gA (L := L) (xs := xs) p2 ha (j := 2) (by omega)
  rw [sPo_0, sQ_A (Or.inl (by decide)), hs] at g2
  refine bsq g2 ?_
  rw [of_inc]
  exact hX
/-- a call of none, a call too deep -/
theorem k_callF (q : RH (.ref P) n sg Z hB h) (ha : a < n) (so : SOK sg a (ht + 1)) {M : Nat} {why : Int32} (hz : (sg.2.2.2.1 a 12 ht = 0 ∧ why = 1) ∨ (sg.2.2.2.1 a 12 ht ≠ 0 ∧ sg.2.2.1 a 3 = Int32.ofNat 10 ∧ why = 3)) : ∃ h' : rm_H, dM L xs zf w (k + 3) 262 [.ref 24, .ref (sg.2.2.2.2 a 0), .ref M] h = some (none, h') ∧ RH (.ref P) n (sA' (sA' (sA' (sXc (sPo sg a ht) 15 (sg.1 15 + 1)) a 6 why) a 3 0) a 13 0) Z hB h' ∧ h'.length = h.length ∧ zh h' = zh h := by
  obtain ⟨h1, p1, p2, p3, p4⟩ := k_pop0 (L := L) (xs := xs) (zf := zf) (w := w) (k := k + 1) q ha so
  obtain ⟨h', r1, r2, r3, r4⟩ := k_fail (L := L) (xs := xs) (zf := zf) (w := w) (k := k) (x := why) p2 ha
  rw [sPo_0] at r1
  refine ⟨h', ?_, r2, r3.trans p3, r4.trans p4⟩
  rw [e262]
  show b262_0 L xs zf (dM L xs zf w (k + 2)) w (some 24) (some (sg.2.2.2.2 a 0)) (some M) h = _
  unfold b262_0
  refine bse p1 ?_
  have fl : ((dcV L xs (dM L xs zf w (k + 2)) 261 [2] (some 24) [va_rf (some (sg.2.2.2.2 a 0)), .int why] h1).bind dxV) = some h' := by
    rw [cV_w p2, show (va_rf (some (sg.2.2.2.2 a 0)) : Value) = .ref (sg.2.2.2.2 a 0) from rfl, r1]
    rfl
  rcases hz with ⟨z1, z2⟩ | ⟨z1, z2, z3⟩
  · subst z2
    refine ifn (ne1_f z1) ?_
    exact bse fl rfl
  · subst z3
    refine ift (ne1_t z1) ?_
    have g3 := gA (L := L) (xs := xs) p2 ha (j := 3) (by omega)
    rw [sPo_0, sQ_A (Or.inl (by decide)), z2] at g3
    refine bse g3 ?_
    refine ifn (by decide) ?_
    exact bse fl rfl
/-- a call -/
theorem k_callB {M np loc bs : Nat} {num en : Int32} (mb : MB hB Z M num np loc en) (q : RH (.ref P) n sg Z hB h) (ha : a < n) (so : SOK sg a (bs + np + 1)) (hv : sg.2.2.2.1 a 12 (bs + np) ≠ 0) (hb : sg.2.2.1 a 3 = Int32.ofNat b) (b10 : b < 10) (l16 : loc ≤ 1000) (hnp : np ≤ loc) (h2 : bs + loc ≤ 20000) (hw : 2000 ≤ w) : ∃ (h' : rm_H) (z c : Nat) (g : Nat → Int32), dM L xs zf w (k + 5) 262 [.ref 24, .ref (sg.2.2.2.2 a 0), .ref M] h = some (none, h') ∧ RH (.ref P) n (sE (sQ sg a z c g (bs + loc)) a b en (Int32.ofNat bs) (sg.2.2.2.1 a 12 (bs + np))) Z hB h' ∧ (∀ i, i < bs + np → g i = sg.2.2.2.1 a 12 i) ∧ (∀ i, bs + np ≤ i → i < bs + loc → g i = 0) ∧ bs + loc ≤ c ∧ 64 ≤ c ∧ (c ≤ sg.2.2.2.2 a 13 ∨ c ≤ 2 * (bs + loc)) ∧ CST n sg h (sQ sg a z c g (bs + loc)) h' := by
  obtain ⟨h1, p1, p2, p3, p4⟩ := k_pop0 (L := L) (xs := xs) (zf := zf) (w := w) (k := k + 3) q ha so
  obtain ⟨s1, s2, s3, s4⟩ := so
  have e3 : (sPo sg a (bs + np)).2.2.1 a 3 = Int32.ofNat b := (sQ_A (Or.inl (by decide))).trans hb
  obtain ⟨h', z, c, g, r1, r2, r3, r4, r5, r6, r7, r8⟩ := k_enter (L := L) (xs := xs) (zf := zf) (w := w) (k := k) (self := sg.2.2.2.1 a 12 (bs + np)) (ht := bs) mb p2 ha e3 b10 l16 sQ_h hnp (by rw [sQ_c]; omega) (by rw [sQ_c]; exact s3) (by rw [sQ_c]; exact s4) h2 hw
  rw [sPo_0] at r1
  rw [sQ_sQ] at r2 r8
  rw [sQ_c] at r7
  refine ⟨h', z, c, g, ?_, r2, fun i hi => by rw [r3 i hi, sQ_f], r4, r5, r6, r7, CST_t (CST_q p3 p4) r8⟩
  rw [e262]
  show b262_0 L xs zf (dM L xs zf w (k + 4)) w (some 24) (some (sg.2.2.2.2 a 0)) (some M) h = _
  unfold b262_0
  refine bse p1 ?_
  refine ift (ne1_t hv) ?_
  have g3 := gA (L := L) (xs := xs) p2 ha (j := 3) (by omega)
  rw [sPo_0, e3] at g3
  refine bse g3 ?_
  refine ift (by rw [f2_lt, of_int (by omega), show (10 : Int32).toInt = 10 from by decide]; exact decide_eq_true (by omega)) ?_
  refine ifn (fun z => by cases z) ?_
  refine bse (a := h') ?_ rfl
  have cv := cV_a (L := L) (xs := xs) (D := dM L xs zf w (k + 4)) (mi := 244) (As := [.ref M, .int (sg.2.2.2.1 a 12 (bs + np))]) p2 ha
  rw [sPo_0] at cv
  rw [show (va_rf (some M) : Value) = .ref M from rfl, cv, r1]
  rfl
end EX4
