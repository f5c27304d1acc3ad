/-! BOTH CHECK: what may be called on what. -/
def caB (P : Bool) (a c : Nat) (hm : Bool) : Bool := if P = true ∧ a = 1 then (decide (c = 4) || (decide (c = 2) && hm)) else if P = true ∧ a = 0 then ((decide (c = 4) || decide (c = 2)) && hm) else decide (lkV 1 (Int32.ofNat a) (Int32.ofNat c) = 1)
theorem isP_pl (K : Int32) : isP K = if isPl K = true then 1 else 0 := by
  unfold isP isPl
  by_cases c : K = 3 ∨ K = 4 ∨ K = 10
  · rw [if_pos c, if_pos (by simpa [or_assoc] using c)]
  · rw [if_neg c, if_neg (by simpa [or_assoc] using c)]
section JCA
variable {L : Nat} {xs : Nat → Int32} {zf : Value} {w k C Sc M px M' m' ca a0 n l : Nat} {cx : Nat → Nat} {h : rm_H} {pt vr gn rc a b : Int32} {mv : Value} {ds : List Nat} {f : Nat → Int64} {sl ty : Nat → Int32} {u : Nat → Nat} {A B : Nat → Int32} {s s0 : rS} {W : Int32} {hm P : Bool}
theorem o5 : ∀ c, c < 5 → ∀ v, v < 5 → (mx_f2 .eq (Int32.ofNat c) (Int32.ofNat v) = decide (c = v)) ∧ (mx_f2 .ne (Int32.ofNat c) (Int32.ofNat v) = decide (¬ c = v)) := by decide +kernel
theorem o50 : ∀ c, c < 5 → (mx_f1 .eq (Int32.ofNat c) = decide (c = 0)) ∧ (mx_f1 .ne (Int32.ofNat c) = decide (¬ c = 0)) := by decide +kernel
theorem c_205 (kh : KH L xs cx C Sc M pt vr mv h ds f sl ty gn rc a b u A B) (e0 : fd h 12 px 0 = some (.int W)) (e6 : fd h 11 M' 6 = some (.int (Int32.ofNat ca))) (e13 : fd h 11 M' 13 = some (.int (if hm = true then 1 else 0))) (hc : ca < 5) (ha : a0 < 5) : (dcV L xs (dM L xs zf w (k + 2)) 205 [13] (some C) [va_rf (some M'), va_rf (some px), .int (Int32.ofNat a0)] h).bind dxI = some (rd_01 (caB (isPl W) a0 ca hm), h) := by
  have ip := ck_isP (L := L) (xs := xs) (zf := zf) (w := w) (k := k) e0
  rw [isP_pl] at ip
  have g6 : dgI L xs h 6 [11] (some M') = some (Int32.ofNat ca) := fd_I e6 (by decide)
  have g13 : dgI L xs h 13 [11] (some M') = some (if hm = true then 1 else 0) := fd_I e13 (by decide)
  have c4 := (o5 ca hc 4 (by omega))
  have c2 := (o5 ca hc 2 (by omega))
  have a1 := (o5 a0 ha 1 (by omega))
  have a00 := o50 a0 ha
  rw [ck_v kh, e205]
  show (b205_0 L xs zf (dM L xs zf w (k + 1)) w (some M') (some px) (Int32.ofNat a0) h).bind dxI = _
  refine bsq (a := (some (.int (rd_01 (caB (isPl W) a0 ca hm))), h)) ?_ rfl
  have f81 : b205_81 L xs zf (dM L xs zf w (k + 1)) w (some M') (Int32.ofNat a0) h = some (some (.int (rd_01 (decide (lkV 1 (Int32.ofNat a0) (Int32.ofNat ca) = 1)))), h) := by
    unfold b205_81
    refine bsq g6 (bsq (a := (lkV 1 (Int32.ofNat a0) (Int32.ofNat ca), h)) (lk_tb (k := k) (q := 1) (by decide) _ _ h) ?_)
    dsimp only
    by_cases c : lkV 1 (Int32.ofNat a0) (Int32.ofNat ca) = 1
    · rw [if_neg (show ¬ mx_f2 .ne (lkV 1 (Int32.ofNat a0) (Int32.ofNat ca)) 1 = true by rw [f2_ne, c]; decide), decide_eq_true c]
      rfl
    · rw [if_pos (show mx_f2 .ne (lkV 1 (Int32.ofNat a0) (Int32.ofNat ca)) 1 = true by rw [f2_ne]; exact decide_eq_true c), decide_eq_false c]
      rfl
  have f68 : b205_68 L xs zf (dM L xs zf w (k + 1)) w (some M') h = some (some (.int (rd_01 hm)), h) := by
    unfold b205_68
    refine bsq g13 ?_
    cases hm <;> rfl
  unfold b205_0
  refine bsq ip ?_
  dsimp only
  have f41 : b205_41 L xs zf (dM L xs zf w (k + 1)) w (some M') (some px) (Int32.ofNat a0) h = some (some (.int (rd_01 (if isPl W = true ∧ a0 = 0 then ((decide (ca = 4) || decide (ca = 2)) && hm) else decide (lkV 1 (Int32.ofNat a0) (Int32.ofNat ca) = 1)))), h) := by
    unfold b205_41
    refine bsq ip ?_
    dsimp only
    cases hP : isPl W with
    | false =>
      rw [if_neg (show ¬ (false = true) by decide), if_pos (by decide), if_neg (fun z => absurd z.1 (by decide))]
      exact f81
    | true =>
      rw [if_pos rfl, if_neg (show ¬ mx_f1 .eq (1 : Int32) = true by decide), a00.2]
      by_cases z0 : a0 = 0
      · rw [if_neg (fun z => (of_decide_eq_true z) z0), if_pos ⟨rfl, z0⟩]
        refine bsq g6 ?_
        have c2' : mx_f2 .eq (Int32.ofNat ca) 2 = decide (ca = 2) := c2.1
        have c4' : mx_f2 .ne (Int32.ofNat ca) 4 = decide (¬ ca = 4) := c4.2
        rw [c2']
        by_cases q2 : ca = 2
        · rw [if_pos (decide_eq_true q2), q2]
          exact f68
        · rw [if_neg (fun z => q2 (of_decide_eq_true z))]
          refine bsq g6 ?_
          rw [c4']
          by_cases q4 : ca = 4
          · rw [if_neg (fun z => (of_decide_eq_true z) q4), q4]
            exact f68
          · rw [if_pos (decide_eq_true q4), decide_eq_false q4, decide_eq_false q2]
            rfl
      · rw [if_pos (decide_eq_true z0), if_neg (fun z => z0 z.2)]
        exact f81
  unfold caB
  cases hP : isPl W with
  | false =>
    rw [hP] at f41
    rw [if_neg (show ¬ (false = true) by decide), if_pos (by decide), if_neg (fun z => absurd z.1 (by decide))]
    exact f41
  | true =>
    rw [hP] at f41
    have a1' : mx_f2 .ne (Int32.ofNat a0) 1 = decide (¬ a0 = 1) := a1.2
    rw [if_pos rfl, if_neg (show ¬ mx_f1 .eq (1 : Int32) = true by decide), a1']
    by_cases z1 : a0 = 1
    · rw [if_neg (fun z => (of_decide_eq_true z) z1), if_pos ⟨rfl, z1⟩]
      refine bsq g6 ?_
      have c4' : mx_f2 .eq (Int32.ofNat ca) 4 = decide (ca = 4) := c4.1
      have c2' : mx_f2 .ne (Int32.ofNat ca) 2 = decide (¬ ca = 2) := c2.2
      rw [c4']
      by_cases q4 : ca = 4
      · rw [if_pos (decide_eq_true q4), q4]
        rfl
      · rw [if_neg (fun z => q4 (of_decide_eq_true z))]
        refine bsq g6 ?_
        rw [c2']
        by_cases q2 : ca = 2
        · rw [if_neg (fun z => (of_decide_eq_true z) q2), q2]
          refine bsq g13 ?_
          cases hm <;> rfl
        · rw [if_pos (decide_eq_true q2), decide_eq_false q4, decide_eq_false q2]
          rfl
    · rw [if_pos (decide_eq_true z1), if_neg (fun z => z1 z.2)]
      exact f41
/-- the reference asks the same -/
theorem r_363g {x24 i1 i2 : Int32} (h5 : rM w (k + 4) 365 [.ref 36, .int (Int32.ofNat m')] s = some (some (.int (if hm = true then 1 else 0)), s)) (hx : x24 = lkV 1 (Int32.ofNat a0) (Int32.ofNat ca)) (hc : ca < 5) (ha : a0 < 5) : (if mx_f1 .eq (if P = true then (1 : Int32) else 0) = true then s363_145 (rM w (k + 4)) w i1 i2 (if P = true then 1 else 0) (Int32.ofNat a0) (Int32.ofNat m') (Int32.ofNat ca) x24 s else if mx_f2 .ne (Int32.ofNat a0) 1 = true then s363_145 (rM w (k + 4)) w i1 i2 (if P = true then 1 else 0) (Int32.ofNat a0) (Int32.ofNat m') (Int32.ofNat ca) x24 s else if mx_f2 .eq (Int32.ofNat ca) 4 = true then s363_138 (rM w (k + 4)) w i1 i2 (if P = true then 1 else 0) (Int32.ofNat a0) (Int32.ofNat m') (Int32.ofNat ca) s else if mx_f2 .ne (Int32.ofNat ca) 2 = true then s363_142 (rM w (k + 4)) w i1 i2 (if P = true then 1 else 0) (Int32.ofNat a0) (Int32.ofNat m') (Int32.ofNat ca) s else ((rM w (k + 4) 365 [.ref 36, .int (Int32.ofNat m')] s).bind rxI).bind fun x33 => if mx_f1 .eq x33.1 = true then s363_142 (rM w (k + 4)) w i1 i2 (if P = true then 1 else 0) (Int32.ofNat a0) (Int32.ofNat m') (Int32.ofNat ca) x33.2 else s363_138 (rM w (k + 4)) w i1 i2 (if P = true then 1 else 0) (Int32.ofNat a0) (Int32.ofNat m') (Int32.ofNat ca) x33.2) = s363_183 (rM w (k + 4)) w i1 i2 (Int32.ofNat m') (rd_01 (caB P a0 ca hm)) s := by
  have l01 := lk_01 a0 ha ca hc
  have lr : x24 = rd_01 (decide (lkV 1 (Int32.ofNat a0) (Int32.ofNat ca) = 1)) := by
    rw [hx]
    rcases l01 with z | z <;> rw [z] <;> rfl
  have c4 := (o5 ca hc 4 (by omega))
  have c2 := (o5 ca hc 2 (by omega))
  have a1 := (o5 a0 ha 1 (by omega))
  have a00 := o50 a0 ha
  have c4a : mx_f2 .eq (Int32.ofNat ca) 4 = decide (ca = 4) := c4.1
  have c2n : mx_f2 .ne (Int32.ofNat ca) 2 = decide (¬ ca = 2) := c2.2
  have a1n : mx_f2 .ne (Int32.ofNat a0) 1 = decide (¬ a0 = 1) := a1.2
  have q5 : (rM w (k + 4) 365 [.ref 36, .int (Int32.ofNat m')] s).bind rxI = some (if hm = true then 1 else 0, s) := by rw [h5]; rfl
  unfold caB
  cases P with
  | false =>
    rw [if_neg (show ¬ (false = true) by decide), if_pos (by decide), if_neg (fun z => absurd z.1 (by decide)), if_neg (fun z => absurd z.1 (by decide))]
    unfold s363_145
    rw [if_pos (by decide), lr]
  | true =>
    rw [if_pos rfl, if_neg (by decide), a1n]
    by_cases z1 : a0 = 1
    · rw [if_neg (fun z => (of_decide_eq_true z) z1), if_pos (show true = true ∧ a0 = 1 from ⟨rfl, z1⟩), c4a, c2n]
      have e145 : ∀ v : Int32, s363_145 (rM w (k + 4)) w i1 i2 1 (Int32.ofNat a0) (Int32.ofNat m') (Int32.ofNat ca) v s = s363_183 (rM w (k + 4)) w i1 i2 (Int32.ofNat m') v s := by
        intro v
        unfold s363_145
        rw [if_neg (by decide), z1, if_pos (by decide)]
      by_cases q4 : ca = 4
      · rw [if_pos (decide_eq_true q4), decide_eq_true q4]
        exact e145 1
      · rw [if_neg (fun z => q4 (of_decide_eq_true z)), decide_eq_false q4]
        by_cases q2 : ca = 2
        · rw [if_neg (fun z => (of_decide_eq_true z) q2), q5, decide_eq_true q2]
          cases hm with
          | true => exact e145 1
          | false => exact e145 0
        · rw [if_pos (decide_eq_true q2), decide_eq_false q2]
          exact e145 0
    · rw [if_pos (decide_eq_true z1), if_neg (fun z => z1 z.2)]
      unfold s363_145
      rw [if_neg (by decide), a00.2]
      by_cases z0 : a0 = 0
      · rw [if_neg (fun z => (of_decide_eq_true z) z0), if_pos (show true = true ∧ a0 = 0 from ⟨rfl, z0⟩), c4a, c2n]
        have e167 : s363_167 (rM w (k + 4)) w i1 i2 (Int32.ofNat m') s = s363_183 (rM w (k + 4)) w i1 i2 (Int32.ofNat m') (rd_01 hm) s := by
          unfold s363_167
          rw [q5]
          cases hm <;> rfl
        by_cases q4 : ca = 4
        · rw [if_pos (decide_eq_true q4), decide_eq_true q4]
          exact e167
        · rw [if_neg (fun z => q4 (of_decide_eq_true z)), decide_eq_false q4]
          by_cases q2 : ca = 2
          · rw [if_neg (fun z => (of_decide_eq_true z) q2), decide_eq_true q2]
            exact e167
          · rw [if_pos (decide_eq_true q2), decide_eq_false q2]
            rfl
      · rw [if_pos (decide_eq_true z0), if_neg (fun z => z0 z.2), lr]
/-- as the relation of types says it -/
theorem caB_T {qs : List Nat} {tr : Nat} (e : caB P a0 ca hm = true) (h72 : s0.2.1 72 m' = Int32.ofNat ca) (hc : ca < 5) (pm : pmT s0 m' qs) (hh : hm = (qs.all sdT && (decide (tr = 0) || sdT tr))) (hr : rsT s0 m' tr) : clT s0 P a0 m' := by
  have ht : hm = true → hmT s0 m' := by
    intro q
    rw [hh] at q
    simp only [Bool.and_eq_true, Bool.or_eq_true, decide_eq_true_eq, List.all_eq_true] at q
    exact ⟨qs, tr, pm, q.1, hr, q.2⟩
  unfold caB at e
  unfold clT
  by_cases c1 : P = true ∧ a0 = 1
  · rw [if_pos c1] at e ⊢
    simp only [Bool.and_eq_true, Bool.or_eq_true, decide_eq_true_eq] at e
    rcases e with e | ⟨e, e2⟩
    · exact Or.inl (by rw [h72, e]; rfl)
    · exact Or.inr ⟨by rw [h72, e]; rfl, ht e2⟩
  · rw [if_neg c1] at e ⊢
    by_cases c0 : P = true ∧ a0 = 0
    · rw [if_pos c0] at e ⊢
      simp only [Bool.and_eq_true, Bool.or_eq_true, decide_eq_true_eq] at e
      refine ⟨?_, ht e.2⟩
      rcases e.1 with e | e
      · exact Or.inl (by rw [h72, e]; rfl)
      · exact Or.inr (by rw [h72, e]; rfl)
    · rw [if_neg c0] at e ⊢
      rw [h72]
      exact of_decide_eq_true e
end JCA
