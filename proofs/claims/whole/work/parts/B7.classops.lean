/-! THE CLASS'S STEPS FROM TOKEN TO TOKEN, over cells by place; a word is taken; a number is read. Places (cx): 0 reader, 1 its String, 2 bytes, 3 to 5 its rows, 6 the text's length, 7 parser, 8 program, 9 to 11 its lists (kinds, methods, types), 12, 13 its rows of code, 14 the method, 15 how many tokens, 16 the first that can't be passed. Rows (F): 0 bytes, 1 to 3 the class's tokens, places, ends, 4 to 6 the reference's sorts, places, values; N its names. -/
def pC (h : rm_H) (cx : Nat → Nat) (F : Nat → Nat → Int32) (v : Nat → Int32) : Prop := rP h (cx 0) (cx 1) (cx 2) (cx 3) (cx 4) (cx 5) (cx 6) (F 0) v (F 1) (F 2) (F 3) ∧ pP h (cx 7) (cx 0) (cx 8) ∧ (v 4).toInt ≤ cx 6
section CO
variable {L : Nat} {xs : Nat → Int32} {zf : Value} {w k : Nat} {h h1 : rm_H} {cx : Nat → Nat} {F : Nat → Nat → Int32} {v v2 : Nat → Int32}
theorem rP_ext {r t a tk pl en n : Nat} {f A B C : Nat → Int32} (hP : rP h r t a tk pl en n f v A B C) (e : ∀ j, 4 ≤ j → j ≤ 8 → v2 j = v j) : rP h r t a tk pl en n f v2 A B C := by
  obtain ⟨p, nd, hn, h1, h2⟩ := hP
  refine ⟨p, nd, hn, ?_, h2⟩
  rw [e 4 (by omega) (by omega), e 5 (by omega) (by omega), e 6 (by omega) (by omega), e 7 (by omega) (by omega), e 8 (by omega) (by omega)]
  exact h1
theorem pC_ext (hP : pC h cx F v) (e : ∀ j, 4 ≤ j → j ≤ 8 → v2 j = v j) : pC h cx F v2 := ⟨rP_ext hP.1 e, hP.2.1, by rw [e 4 (by omega) (by omega)]; exact hP.2.2⟩
theorem pC_r (hP : pC h cx F v) : hc h (cx 0) = some (.inr (6, [.ref (cx 1), .ref (cx 3), .ref (cx 4), .ref (cx 5), .int (v 4), .int (v 5), .int (v 6), .int (v 7), .int (v 8)])) := hc_of hP.1.1.1 hP.1.2.2.2.1
theorem pC_p (hP : pC h cx F v) : hc h (cx 7) = some (.inr (8, [.ref (cx 0), .ref (cx 8)])) := hc_of hP.2.1.1 hP.2.1.2.2
theorem pC_n (hP : pC h cx F v) : cx 6 ≤ 2000 := hP.1.2.2.1
theorem pC_fr {P : Nat → Prop} (a : fr P h h1) (h0 : ¬ P (cx 0)) (h3 : ¬ P (cx 3)) (h4 : ¬ P (cx 4)) (h5 : ¬ P (cx 5)) (h7 : ¬ P (cx 7)) (hP : pC h cx F v) : pC h1 cx F v := by
  obtain ⟨⟨⟨p1, p2, p3, p4, p5, p6⟩, nd, hn, e1, ⟨x, y, e2⟩, e3, e4, e5, e6⟩, ⟨q1, q2, q3⟩, hv⟩ := hP
  have s2 : hc h1 (cx 1) = some (.inr (7, [.ref (cx 2), .int 0, .int x, .int y])) := by
    obtain ⟨fs2, g1, g2⟩ := a.2.2.1 _ _ _ (hc_of p2 e2)
    rw [g2 (Or.inl rfl)] at g1
    exact g1
  have s3 := fr_by a (hc_of p3 e3)
  exact ⟨⟨⟨p1, p2, p3, p4, p5, p6⟩, nd, hn, hc_at (fr_old a (hc_of p1 e1) h0), ⟨x, y, hc_at s2⟩, hc_at s3, hc_at (fr_old a (hc_of p4 e4) h3), hc_at (fr_old a (hc_of p5 e5) h4), hc_at (fr_old a (hc_of p6 e6) h5)⟩, ⟨q1, q2, hc_at (fr_old a (hc_of q1 q3) h7)⟩, hv⟩
theorem fR_st1 {r : Nat} {fs fs2 : List Value} {ci : Nat} (hr : hc h r = some (.inr (ci, fs))) (hr2 : hc h1 r = some (.inr (ci, fs2))) (hci : ci ≠ 7 ∧ ci ≠ 16) (hf : fR r h h1) : st1 r h h1 := by
  have ne : ∀ p, p ≠ r → hc h1 p = hc h p := by
    intro p hp
    unfold hc
    have := hc_ge hr
    split
    · exact hf.2.2 _ (by omega)
    · rfl
  refine ⟨⟨by rw [hf.1]; exact Nat.le_refl _, fun p _ hp => ne p hp, fun p cj gs e => ?_, fun p x e => ?_⟩, hf.1, hf.2.1⟩
  · by_cases hp : p = r
    · subst hp
      rw [hr] at e
      cases e
      exact ⟨fs2, hr2, fun z => absurd z (by omega)⟩
    · exact ⟨gs, (ne p hp).trans e, fun _ => rfl⟩
  · by_cases hp : p = r
    · subst hp
      rw [hr] at e
      cases e
    · exact ⟨x, (ne p hp).trans e, fun _ => rfl⟩
theorem pC_st {v1 : Nat → Int32} (hP : pC h cx F v) (hQ : rP h1 (cx 0) (cx 1) (cx 2) (cx 3) (cx 4) (cx 5) (cx 6) (F 0) v1 (F 1) (F 2) (F 3)) (hf : fR (cx 0) h h1) (h4 : v1 4 = v 4) : pC h1 cx F v1 ∧ st1 (cx 0) h h1 := ⟨⟨hQ, pP_f hP.2.1 hP.1.1.1 hf, by rw [h4]; exact hP.2.2⟩, fR_st1 (pC_r hP) (hc_of hQ.1.1 hQ.2.2.2.1) (by decide) hf⟩
theorem adC_4 : adC v 4 = v 4 := by
  unfold adC
  split
  · exact upd_ne _ _ (by decide)
  · rfl
theorem adV_4 {n : Nat} {A B : Nat → Int32} : adV n A B v 4 = v 4 := by
  unfold adV
  split
  · split
    · rw [upd_ne _ _ (by decide), upd_ne _ _ (by decide), adC_4]
    · rw [upd_ne _ _ (by decide), upd_ne _ _ (by decide), adC_4]
  · rfl
theorem rfV_4 : rfV v 4 = v 4 := by
  unfold rfV
  split
  · rw [upd_ne _ _ (by decide), upd_ne _ _ (by decide)]
  · rw [upd_ne _ _ (by decide)]
theorem tkV_4 {n : Nat} {A B : Nat → Int32} {x : Int32} : tkV n A B x v 4 = v 4 := by
  unfold tkV
  split
  · exact adV_4
  · exact rfV_4
theorem skV_4 {n : Nat} {A B : Nat → Int32} {x : Int32} : skV n A B x v 4 = v 4 := by
  unfold skV
  split
  · exact adV_4
  · rfl
theorem c_adv (hP : pC h cx F v) : ∃ h', dM L xs zf w (k + 3) 92 [.ref (cx 0)] h = some (none, h') ∧ pC h' cx F (adV (cx 6) (F 1) (F 2) v) ∧ st1 (cx 0) h h' := by
  obtain ⟨h', a1, a2, a3⟩ := rp_adv (L := L) (xs := xs) (zf := zf) (w := w) (k := k) hP.1 hP.2.2
  exact ⟨h', a1, pC_st hP a2 a3 adV_4⟩
theorem c_ref (hP : pC h cx F v) : ∃ h', dM L xs zf w (k + 1) 95 [.ref (cx 0)] h = some (none, h') ∧ pC h' cx F (rfV v) ∧ st1 (cx 0) h h' := by
  obtain ⟨h', a1, a2, a3⟩ := rp_ref (L := L) (xs := xs) (zf := zf) (w := w) (k := k) hP.1
  exact ⟨h', a1, pC_st hP a2 a3 rfV_4⟩
theorem c_take (hP : pC h cx F v) (x : Int32) : ∃ h', dM L xs zf w (k + 4) 109 [.ref (cx 7), .int x] h = some (none, h') ∧ pC h' cx F (tkV (cx 6) (F 1) (F 2) x v) ∧ st1 (cx 0) h h' := by
  obtain ⟨h', a1, a2, a3⟩ := pt_take (L := L) (xs := xs) (zf := zf) (w := w) (k := k) hP.2.1 hP.1 hP.2.2 x
  exact ⟨h', a1, pC_st hP a2 a3 tkV_4⟩
theorem c_skip (hP : pC h cx F v) (x : Int32) : ∃ h', dM L xs zf w (k + 4) 118 [.ref (cx 7), .int x] h = some (some (.int (rd_01 (decide (v 6 = x)))), h') ∧ pC h' cx F (skV (cx 6) (F 1) (F 2) x v) ∧ st1 (cx 0) h h' := by
  obtain ⟨h', a1, a2, a3⟩ := pt_skip (L := L) (xs := xs) (zf := zf) (w := w) (k := k) hP.2.1 hP.1 hP.2.2 x
  exact ⟨h', a1, pC_st hP a2 a3 skV_4⟩
theorem c_cap (hP : pC h cx F v) : dM L xs zf w (k + 1) 114 [.ref (cx 0)] h = some (some (.int (rd_01 (decide (38 ≤ (v 6).toInt ∧ (v 6).toInt < 43)))), h) := pt_cap hP.1
theorem c_op (hP : pC h cx F v) : dM L xs zf w (k + 1) 138 [.ref (cx 0)] h = some (some (.int (rd_01 (decide (15 ≤ (v 6).toInt ∧ (v 6).toInt ≤ 19)))), h) := pt_op hP.1
/-- the parser's reader; the reader's numbers; calls on them -/
theorem c_in (hP : pC h cx F v) : dgR L xs h 0 [8] (some (cx 7)) = some (some (cx 0)) := hc_gR (p := some (cx 0)) (pC_p hP) rfl (by decide)
theorem c_out (hP : pC h cx F v) : dgR L xs h 1 [8] (some (cx 7)) = some (some (cx 8)) := hc_gR (p := some (cx 8)) (pC_p hP) rfl (by decide)
theorem c_I (hP : pC h cx F v) (j : Nat) (hj : 4 ≤ j ∧ j ≤ 8) : dgI L xs h j [6] (some (cx 0)) = some (v j) := rp_I hP.1 j hj
theorem c_rv {D : dD} {mi : Nat} {As : List Value} (hP : pC h cx F v) : dcV L xs D mi [6] (some (cx 0)) As h = D mi (.ref (cx 0) :: As) h := hc_v (pC_r hP) (by decide)
theorem c_pv {D : dD} {mi : Nat} {As : List Value} (hP : pC h cx F v) : dcV L xs D mi [8] (some (cx 7)) As h = D mi (.ref (cx 7) :: As) h := hc_v (pC_p hP) (by decide)
/-- the word at token i -/
theorem c_word {i b e : Nat} (hP : pC h cx F v) (hf : ∀ j, fits .byte (.int (F 0 j)) = true) (h5 : v 5 = Int32.ofNat i) (hi : (i : Int) < (v 4).toInt) (hb : F 2 i = Int32.ofNat b) (he : F 3 i = Int32.ofNat e) (hbe : b < e) (hen : e ≤ cx 6) : ∃ q h', dM L xs zf w (k + 7) 96 [.ref (cx 0)] h = some (some (.ref q), h') ∧ sTb L xs h' q (e - b) (fun j => F 0 (b + j) &&& 255) ∧ fr (fun _ => False) h h' ∧ (uA h → uA h') ∧ (h'.length ≤ h.length + 2 ∧ nD h h') ∧ zh h' ≤ zh h + 4 + (e - b) := by
  have hn := pC_n hP
  have hv := hP.2.2
  have i5 : (Int32.ofNat i).toInt = (i : Int) := of_int (by omega)
  have hP1 := hP.1
  obtain ⟨⟨p1, p2, p3, p4, p5, p6⟩, nd, _, e1, ⟨x, y, e2⟩, e3, e4, e5, e6⟩ := hP1
  obtain ⟨q, h', a1, a2, a3, a6, a4, a5⟩ := ss_of (L := L) (xs := xs) (zf := zf) (w := w) (k := k) (hc_of p2 e2) (hc_of p3 e3) hf hbe hen (by omega)
  refine ⟨q, h', ?_, a2, a3, a6, a4, a5⟩
  rw [e96]
  show b96_0 L xs zf (dM L xs zf w (k + 6)) w (some (cx 0)) h = _
  unfold b96_0
  have g5 := c_I (L := L) (xs := xs) hP 5 (by omega)
  rw [h5] at g5
  have ra := rp_A (L := L) (xs := xs) hP.1 (Int32.ofNat i) (by rw [i5]; omega) (by rw [i5]; omega)
  rw [of_clamp (by omega)] at ra
  refine bse g5 (ifn (by rw [f1_lt, i5]; simp) ?_)
  refine bse g5 (bse (c_I hP 4 (by omega)) (ift (by rw [f2_lt, i5]; simp; omega) ?_))
  refine bse (rd_t (rP_rD hP.1)) (bse (rp_R hP.1).2.1 (bse g5 (bse ra.2.1 ?_)))
  refine bse (rp_R hP.1).2.2 (bse g5 (bse ra.2.2 ?_))
  rw [hb, he]
  refine bse (a := (some q, h')) ?_ rfl
  rw [hc_v (hc_of p2 e2) (by decide), a1]
  rfl
/-- a word is taken -/
theorem c_tw {i b e : Nat} (hP : pC h cx F v) (hf : ∀ j, fits .byte (.int (F 0 j)) = true) (x : Int32) (hx : v 6 = x) (h5 : v 5 = Int32.ofNat i) (hi : (i : Int) < (v 4).toInt) (hb : F 2 i = Int32.ofNat b) (he : F 3 i = Int32.ofNat e) (hbe : b < e) (hen : e ≤ cx 6) : ∃ q h', dM L xs zf w (k + 8) 94 [.ref (cx 7), .int x] h = some (some (.ref q), h') ∧ pC h' cx F (adV (cx 6) (F 1) (F 2) v) ∧ sTb L xs h' q (e - b) (fun j => F 0 (b + j) &&& 255) ∧ fr (fun p => p = cx 0) h h' ∧ (uA h → uA h') ∧ (h'.length ≤ h.length + 2 ∧ nD h h') ∧ zh h' ≤ zh h + 4 + (e - b) := by
  obtain ⟨q, h1, a1, a2, a3, a6, a4, a5⟩ := c_word (L := L) (xs := xs) (zf := zf) (w := w) (k := k) hP hf h5 hi hb he hbe hen
  have hP1 : pC h1 cx F v := pC_fr a3 id id id id id hP
  obtain ⟨h2, b1, b2, b3⟩ := c_adv (L := L) (xs := xs) (zf := zf) (w := w) (k := k + 4) hP1
  refine ⟨q, h2, ?_, b2, sTb_fr b3.1 a2, fr_trans (fr_mono a3 (fun _ _ z => z.elim)) b3.1 (fun _ _ z => z), fun u => uA_st (pC_r hP1) (by decide) b3 (a6 u), ⟨by rw [b3.2.1]; exact a4.1, nD_st a4.2 b3⟩, by rw [b3.2.2]; exact a5⟩
  rw [e94]
  show b94_0 L xs zf (dM L xs zf w (k + 7)) w (some (cx 7)) x h = _
  unfold b94_0
  refine bse (c_in hP) (bse (c_I hP 6 (by omega)) (ift (show mx_f2 .eq (v 6) x = true from decide_eq_true hx) ?_))
  refine bse (c_in hP) (bse (a := (some q, h1)) (by rw [c_rv hP, a1]; rfl) ?_)
  exact bse (c_in hP1) (bse (a := h2) (by rw [c_rv hP1, b1]; rfl) rfl)
/-- a word that is not there -/
theorem c_tw0 (hP : pC h cx F v) (x : Int32) (hx : ¬ v 6 = x) : ∃ h', dM L xs zf w (k + 2) 94 [.ref (cx 7), .int x] h = some (some (.ref 9), h') ∧ pC h' cx F (rfV v) ∧ st1 (cx 0) h h' := by
  obtain ⟨h2, b1, b2, b3⟩ := c_ref (L := L) (xs := xs) (zf := zf) (w := w) (k := k) hP
  refine ⟨h2, ?_, b2, b3⟩
  rw [e94]
  show b94_0 L xs zf (dM L xs zf w (k + 1)) w (some (cx 7)) x h = _
  unfold b94_0
  refine bse (c_in hP) (bse (c_I hP 6 (by omega)) (ifn (show ¬ mx_f2 .eq (v 6) x = true from fun z => hx (of_decide_eq_true z)) ?_))
  exact bse (c_in hP) (bse (a := h2) (by rw [c_rv hP, b1]; rfl) rfl)
end CO
