/-! THE CLASS SENDS A MESSAGE. -/
section EX6
variable {L : Nat} {xs : Nat → Int32} {zf : Value} {w k : Nat} {n : Nat} {sg : cS} {Z : Nat → Prop} {hB h : rm_H} {a b i ht P ac wt mb fr0 M np loc bs : Nat} {num en : Int32}
/-- to none: it fails -/
theorem k_sendZ (q : RH (.ref P) n sg Z hB h) (ha : a < n) (so : SOK sg a (ht + 1)) (h0 : sg.2.2.2.1 a 12 ht = 0) : ∃ h' : rm_H, dM L xs zf w (k + 3) 260 [.ref 24, .ref (sg.2.2.2.2 a 0), .ref M, .int (Int32.ofNat i)] h = some (none, h') ∧ RH (.ref P) n (sA' (sA' (sA' (sXc (sPo sg a ht) 15 (sg.1 15 + 1)) a 6 1) a 3 0) a 13 0) Z hB h' ∧ h'.length = h.length ∧ zh h' = zh h := by
  obtain ⟨h1, p1, p2, p3, p4⟩ := k_pop0 (L := L) (xs := xs) (zf := zf) (w := w) (k := k + 1) q ha so
  obtain ⟨h', r1, r2, r3, r4⟩ := k_fail (L := L) (xs := xs) (zf := zf) (w := w) (k := k) (x := 1) p2 ha
  rw [sPo_0] at r1
  refine ⟨h', ?_, r2, r3.trans p3, r4.trans p4⟩
  rw [e260]
  show b260_0 L xs zf (dM L xs zf w (k + 2)) w (some 24) (some (sg.2.2.2.2 a 0)) (some M) (Int32.ofNat i) h = _
  unfold b260_0
  refine bse p1 ?_
  refine ifn (ne1_f h0) ?_
  refine bse (a := h') ?_ rfl
  rw [cV_w p2, show (va_rf (some (sg.2.2.2.2 a 0)) : Value) = .ref (sg.2.2.2.2 a 0) from rfl, r1]
  rfl
/-- the one who is asked for -/
theorem k_sendH (q : RH (.ref P) n sg Z hB h) (ha : a < n) (so : SOK sg a (ht + 1)) (hv : sg.2.2.2.1 a 12 ht = Int32.ofNat (b + 1)) (h8 : sg.1 8 = Int32.ofNat ac) (hn : ac ≤ n) (h12 : ac ≤ 12) (hb : b < ac) (hw4 : sg.2.2.1 b 4 = Int32.ofNat wt) (h6 : sg.1 6 = Int32.ofNat mb) (w6 : wt ≤ 6) (m6 : mb ≤ 6) : ∃ h1 : rm_H, RH (.ref P) n (sPo sg a ht) Z hB h1 ∧ h1.length = h.length ∧ zh h1 = zh h ∧ ∀ X : Option dR, ((if mx_f2 .lt (Int32.ofNat wt) (Int32.ofNat mb) = true then ((dcV L xs (dM L xs zf w (k + 3)) 230 [2] (some 24) [.ref (sg.2.2.2.2 b 0), .ref M, .ref (sg.2.2.2.2 a 0)] h1).bind dxV).bind fun h28 => ((dcV L xs (dM L xs zf w (k + 3)) 243 [14] (some (sg.2.2.2.2 a 0)) [.int 0] h28).bind dxV).bind fun h32 => some (none, h32) else (dgI L xs h1 14 [2] (some 24)).bind fun x36 => (dpF h1 14 [2] (some 24) (.int (x36 + 1))).bind fun h38 => ((dcV L xs (dM L xs zf w (k + 3)) 243 [14] (some (sg.2.2.2.2 a 0)) [.int (Int32.ofNat (b + 1))] h38).bind dxV).bind fun h40 => ((dcV L xs (dM L xs zf w (k + 3)) 250 [14] (some (sg.2.2.2.2 a 0)) [.int (Int32.ofNat i)] h40).bind dxV).bind fun h44 => some (none, h44)) = X → dM L xs zf w (k + 4) 260 [.ref 24, .ref (sg.2.2.2.2 a 0), .ref M, .int (Int32.ofNat i)] h = X) := by
  obtain ⟨h1, p1, p2, p3, p4⟩ := k_pop0 (L := L) (xs := xs) (zf := zf) (w := w) (k := k + 2) q ha so
  refine ⟨h1, p2, p3, p4, fun X hX => ?_⟩
  have eb : (sPo sg a ht).2.2.2.2 b 0 = sg.2.2.2.2 b 0 := sQ_P (Or.inl (by decide))
  have kf := k_find (L := L) (xs := xs) (zf := zf) (w := w) (k := k + 2) (i := b) p2 h8 hn h12 (by omega)
  rw [if_pos hb, eb] at kf
  rw [e260]
  show b260_0 L xs zf (dM L xs zf w (k + 3)) w (some 24) (some (sg.2.2.2.2 a 0)) (some M) (Int32.ofNat i) h = _
  unfold b260_0
  refine bsq p1 ?_
  rw [hv, if_pos (ne1_t (ofn_0 (by omega) (by omega))), of_dec]
  refine bsq (a := (some (sg.2.2.2.2 b 0), h1)) (by rw [cV_w p2, kf]; rfl) ?_
  rw [if_neg (fun z => by cases z), if_neg (fun z => by cases z)]
  have g4 := gA (L := L) (xs := xs) p2 (a := b) (by omega) (j := 4) (by omega)
  rw [eb, sQ_A (Or.inl (by decide)), hw4] at g4
  refine bsq g4 ?_
  exact bsq ((gX (L := L) (xs := xs) p2 (j := 6) (by decide)).trans (congrArg some (show (sPo sg a ht).1 6 = Int32.ofNat mb from h6))) hX
/-- its mailbox is full: again -/
theorem k_sendF (q : RH (.ref P) n sg Z hB h) (ha : a < n) (so : SOK sg a (ht + 1)) (hv : sg.2.2.2.1 a 12 ht = Int32.ofNat (b + 1)) (h8 : sg.1 8 = Int32.ofNat ac) (hn : ac ≤ n) (h12 : ac ≤ 12) (hb : b < ac) (hw4 : sg.2.2.1 b 4 = Int32.ofNat wt) (h6 : sg.1 6 = Int32.ofNat mb) (w6 : wt ≤ 6) (m6 : mb ≤ 6) (hf : mb ≤ wt) {d : Nat} (hd : sg.2.2.1 a 3 = Int32.ofNat (d + 1)) (d10 : d + 1 ≤ 10) : ∃ (h' : rm_H) (z c : Nat) (f : Nat → Int32), dM L xs zf w (k + 4) 260 [.ref 24, .ref (sg.2.2.2.2 a 0), .ref M, .int (Int32.ofNat i)] h = some (none, h') ∧ RH (.ref P) n (sR (sQ (sXc sg 14 (sg.1 14 + 1)) a z c f (ht + 1)) a 7 d (Int32.ofNat i)) Z hB h' ∧ STN sg a ht z c f (ht + 1) ∧ f ht = Int32.ofNat (b + 1) ∧ CST n sg h (sQ (sXc sg 14 (sg.1 14 + 1)) a z c f (ht + 1)) h' := by
  obtain ⟨h1, p2, p3, p4, hX⟩ := k_sendH (L := L) (xs := xs) (zf := zf) (w := w) (k := k) (M := M) (i := i) q ha so hv h8 hn h12 hb hw4 h6 w6 m6
  obtain ⟨s1, s2, s3, s4⟩ := so
  obtain ⟨h2, x1, x2, x3⟩ := pX (j := 14) (v := sg.1 14 + 1) p2 (by decide)
  obtain ⟨h3, z, c, f, r1, r2, r3, r4, r5⟩ := k_push0 (L := L) (xs := xs) (zf := zf) (w := w) (k := k) (v := Int32.ofNat (b + 1)) x2 ha (show SOK (sPo sg a ht) a ht from SOK_q (by omega) s3 s4)
  rw [show (sXc (sPo sg a ht) 14 (sg.1 14 + 1)).2.2.2.2 a 0 = sg.2.2.2.2 a 0 from sPo_0] at r1
  rw [show sXc (sPo sg a ht) 14 (sg.1 14 + 1) = sQ (sXc sg 14 (sg.1 14 + 1)) a (sg.2.2.2.2 a 12) (sg.2.2.2.2 a 13) (sg.2.2.2.1 a 12) ht from rfl] at r2 r3 r5
  rw [sQ_sQ] at r2 r5
  obtain ⟨y1, y2, y3, y4⟩ := r3
  rw [sQ_c] at y4
  have e0 : (sQ (sXc sg 14 (sg.1 14 + 1)) a z c f (ht + 1)).2.2.2.2 a 0 = sg.2.2.2.2 a 0 := sQ_P (Or.inl (by decide))
  obtain ⟨h4, t1, t2, t3, t4⟩ := k_goTo (L := L) (xs := xs) (zf := zf) (w := w) (k := k) (v := Int32.ofNat i) r2 ha ((sQ_A (Or.inl (by decide))).trans hd) d10
  have cv := cV_a (L := L) (xs := xs) (D := dM L xs zf w (k + 3)) (mi := 250) (As := [.int (Int32.ofNat i)]) r2 ha
  rw [e0] at t1 cv
  refine ⟨h4, z, c, f, hX _ ?_, t2, ⟨fun i hi => by rw [y1 i hi, sQ_f], y2, y3, y4⟩, r4, ?_⟩
  · refine ifn (by rw [f2_lt, of_int (by omega), of_int (by omega)]; exact fun z => absurd (of_decide_eq_true z) (by omega)) ?_
    refine bse (gX (L := L) (xs := xs) p2 (j := 14) (by decide)) (bse x1 (bse r1 ?_))
    refine bse (a := h4) (by rw [cv, t1]; rfl) rfl
  · have c0 : CST n sg h (sQ (sXc sg 14 (sg.1 14 + 1)) a (sg.2.2.2.2 a 12) (sg.2.2.2.2 a 13) (sg.2.2.2.1 a 12) ht) h2 := CST_0 (fun b => by
      by_cases e : b = a
      · rw [e, sQ_c]
      · exact sQ_P (Or.inr e)) (x3.2.1.trans p3) (x3.2.2.trans p4)
    have c1 := CST_t c0 r5
    unfold CST at *
    rw [t3, t4]
    exact c1
end EX6
