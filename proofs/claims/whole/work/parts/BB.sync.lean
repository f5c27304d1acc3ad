/-! BOTH READERS AT THE SAME TOKEN. -/
def ctk (cx : Nat → Nat) (F : Nat → Nat → Int32) (i : Nat) : Int32 := if i < cx 15 then F 1 i else 0
def cpl (cx : Nat → Nat) (F : Nat → Nat → Int32) (i : Nat) : Int32 := if i < cx 15 then F 2 i else Int32.ofNat (cx 6)
/-- the class's reader at token i -/
def vS (cx : Nat → Nat) (F : Nat → Nat → Int32) (i : Nat) : Nat → Int32 := fun x => if x = 4 then Int32.ofNat (cx 15) else if x = 5 then Int32.ofNat i else if x = 6 then ctk cx F i else if x = 7 then cpl cx F i else -1
/-- a token of the class, the reference's sort and value -/
def TR0 (T so va : Int32) : Prop := (T = 0 ∧ so = 0) ∨ (T = 1 ∧ so = 6) ∨ (T = 2 ∧ so = 1) ∨ (T = 3 ∧ so = 3) ∨ (T = 4 ∧ so = 4) ∨ (∃ j, j < 14 ∧ T = 5 + Int32.ofNat j ∧ so = 5 ∧ va = sgB j) ∨ (T = 19 ∧ so = 5 ∧ va = 256) ∨ (∃ j, j < 24 ∧ T = Int32.ofNat (pmK j) ∧ so = 2 ∧ va = Int32.ofNat j)
/-- what is known of all tokens up to the first that can't be passed -/
def TF (cx : Nat → Nat) (F : Nat → Nat → Int32) (N : Nat → Int64) : Prop := (cx 15 ≤ cx 6 ∧ cx 6 ≤ 2000 ∧ cx 16 ≤ cx 15) ∧ (∀ j, fits .byte (.int (F 0 j)) = true) ∧ ∀ i, i ≤ cx 16 → (F 5 i = cpl cx F i ∧ (∃ b, b ≤ 2000 ∧ cpl cx F i = Int32.ofNat b) ∧ TR0 (ctk cx F i) (F 4 i) (F 6 i)) ∧ ((ctk cx F i = 0 ∨ ctk cx F i = 1) ↔ i = cx 16) ∧ ((ctk cx F i = 2 ∨ ctk cx F i = 3) → ∃ b e, F 2 i = Int32.ofNat b ∧ F 3 i = Int32.ofNat e ∧ b < e ∧ e ≤ cx 6 ∧ e ≤ b + 8 ∧ chs (fun j => F 0 j &&& 255) b (e - b) ∧ N i = rcC (fun j => F 0 j &&& 255) (e - b) b 0) ∧ (ctk cx F i = 4 → ∃ b e, F 2 i = Int32.ofNat b ∧ F 3 i = Int32.ofNat e ∧ b ≤ e ∧ e ≤ cx 6 ∧ F 6 i = rcV (fun j => F 0 j &&& 255) false (e - b) b 0)
/-- a sign c is token T; a word c is token T -/
def sgP (c T : Int32) : Prop := ((∀ j, j < 14 → (sgB j = c ↔ 5 + Int32.ofNat j = T)) ∧ ∀ j, j < 24 → ¬ Int32.ofNat (pmK j) = T) ∧ ((256 : Int32) = c ↔ (19 : Int32) = T) ∧ T ≠ 0 ∧ T ≠ 1 ∧ T ≠ 2 ∧ T ≠ 3 ∧ T ≠ 4
def wdP (c T : Int32) : Prop := ((∀ j, j < 24 → (Int32.ofNat j = c ↔ Int32.ofNat (pmK j) = T)) ∧ ∀ j, j < 14 → ¬ 5 + Int32.ofNat j = T) ∧ (19 : Int32) ≠ T ∧ T ≠ 0 ∧ T ≠ 1 ∧ T ≠ 2 ∧ T ≠ 3 ∧ T ≠ 4
section SG
variable {T so va : Int32}
theorem sg_iff {c T0 : Int32} (e : TR0 T so va) (p : sgP c T0) : (so = 5 ∧ va = c) ↔ T = T0 := by
  obtain ⟨⟨p1, p2⟩, p3, q0, q1, q2, q3, q4⟩ := p
  rcases e with ⟨a, b⟩ | ⟨a, b⟩ | ⟨a, b⟩ | ⟨a, b⟩ | ⟨a, b⟩ | ⟨j, hj, a, b, d⟩ | ⟨a, b, d⟩ | ⟨j, hj, a, b, d⟩
  · subst a; subst b; exact ⟨fun z => absurd z.1 (by decide), fun z => absurd z.symm q0⟩
  · subst a; subst b; exact ⟨fun z => absurd z.1 (by decide), fun z => absurd z.symm q1⟩
  · subst a; subst b; exact ⟨fun z => absurd z.1 (by decide), fun z => absurd z.symm q2⟩
  · subst a; subst b; exact ⟨fun z => absurd z.1 (by decide), fun z => absurd z.symm q3⟩
  · subst a; subst b; exact ⟨fun z => absurd z.1 (by decide), fun z => absurd z.symm q4⟩
  · subst a; subst b; subst d; exact ⟨fun z => (p1 j hj).mp z.2, fun z => ⟨rfl, (p1 j hj).mpr z⟩⟩
  · subst a; subst b; subst d; exact ⟨fun z => p3.mp z.2, fun z => ⟨rfl, p3.mpr z⟩⟩
  · subst a; subst b; subst d; exact ⟨fun z => absurd z.1 (by decide), fun z => absurd z (p2 j hj)⟩
theorem wd_iff {c T0 : Int32} (e : TR0 T so va) (p : wdP c T0) : (so = 2 ∧ va = c) ↔ T = T0 := by
  obtain ⟨⟨p1, p2⟩, p3, q0, q1, q2, q3, q4⟩ := p
  rcases e with ⟨a, b⟩ | ⟨a, b⟩ | ⟨a, b⟩ | ⟨a, b⟩ | ⟨a, b⟩ | ⟨j, hj, a, b, d⟩ | ⟨a, b, d⟩ | ⟨j, hj, a, b, d⟩
  · subst a; subst b; exact ⟨fun z => absurd z.1 (by decide), fun z => absurd z.symm q0⟩
  · subst a; subst b; exact ⟨fun z => absurd z.1 (by decide), fun z => absurd z.symm q1⟩
  · subst a; subst b; exact ⟨fun z => absurd z.1 (by decide), fun z => absurd z.symm q2⟩
  · subst a; subst b; exact ⟨fun z => absurd z.1 (by decide), fun z => absurd z.symm q3⟩
  · subst a; subst b; exact ⟨fun z => absurd z.1 (by decide), fun z => absurd z.symm q4⟩
  · subst a; subst b; subst d; exact ⟨fun z => absurd z.1 (by decide), fun z => absurd z (p2 j hj)⟩
  · subst a; subst b; subst d; exact ⟨fun z => absurd z.1 (by decide), fun z => absurd z p3⟩
  · subst a; subst b; subst d; exact ⟨fun z => (p1 j hj).mp z.2, fun z => ⟨rfl, (p1 j hj).mpr z⟩⟩
theorem n14 : ∀ j, j < 14 → ¬ 5 + Int32.ofNat j = 0 ∧ ¬ 5 + Int32.ofNat j = 1 ∧ ¬ 5 + Int32.ofNat j = 2 ∧ ¬ 5 + Int32.ofNat j = 3 ∧ ¬ 5 + Int32.ofNat j = 4 ∧ (5 + Int32.ofNat j).toInt < 19 := by decide +kernel
theorem n24 : ∀ j, j < 24 → ¬ Int32.ofNat (pmK j) = 0 ∧ ¬ Int32.ofNat (pmK j) = 1 ∧ ¬ Int32.ofNat (pmK j) = 2 ∧ ¬ Int32.ofNat (pmK j) = 3 ∧ ¬ Int32.ofNat (pmK j) = 4 ∧ ((18 ≤ (Int32.ofNat j).toInt ∧ (Int32.ofNat j).toInt ≤ 22) ↔ (38 ≤ (Int32.ofNat (pmK j)).toInt ∧ (Int32.ofNat (pmK j)).toInt < 43)) ∧ ((18 ≤ (Int32.ofNat j).toInt ∧ (Int32.ofNat j).toInt ≤ 22) → Int32.ofNat (pmK j) - 38 = Int32.ofNat j - 18 ∧ Int32.ofNat j - 18 = Int32.ofNat (j - 18) ∧ j - 18 < 5) := by decide +kernel
/-- a NAME, a TITLE, a NUMBER, the end -/
theorem so_iff (e : TR0 T so va) : (so = 1 ↔ T = 2) ∧ (so = 3 ↔ T = 3) ∧ (so = 4 ↔ T = 4) ∧ (so = 0 ↔ T = 0) ∧ (so = 6 ↔ T = 1) := by
  rcases e with ⟨a, b⟩ | ⟨a, b⟩ | ⟨a, b⟩ | ⟨a, b⟩ | ⟨a, b⟩ | ⟨j, hj, a, b, d⟩ | ⟨a, b, d⟩ | ⟨j, hj, a, b, d⟩
  · subst a; subst b; decide
  · subst a; subst b; decide
  · subst a; subst b; decide
  · subst a; subst b; decide
  · subst a; subst b; decide
  · subst a; subst b
    obtain ⟨q0, q1, q2, q3, q4, _⟩ := n14 j hj
    exact ⟨⟨fun z => absurd z (by decide), fun z => absurd z q2⟩, ⟨fun z => absurd z (by decide), fun z => absurd z q3⟩, ⟨fun z => absurd z (by decide), fun z => absurd z q4⟩, ⟨fun z => absurd z (by decide), fun z => absurd z q0⟩, ⟨fun z => absurd z (by decide), fun z => absurd z q1⟩⟩
  · subst a; subst b; decide
  · subst a; subst b
    obtain ⟨q0, q1, q2, q3, q4, _⟩ := n24 j hj
    exact ⟨⟨fun z => absurd z (by decide), fun z => absurd z q2⟩, ⟨fun z => absurd z (by decide), fun z => absurd z q3⟩, ⟨fun z => absurd z (by decide), fun z => absurd z q4⟩, ⟨fun z => absurd z (by decide), fun z => absurd z q0⟩, ⟨fun z => absurd z (by decide), fun z => absurd z q1⟩⟩
/-- a CAP -/
theorem cap_iff (e : TR0 T so va) : ((so = 2 ∧ 18 ≤ va.toInt ∧ va.toInt ≤ 22) ↔ (38 ≤ T.toInt ∧ T.toInt < 43)) ∧ ((38 ≤ T.toInt ∧ T.toInt < 43) → ∃ c, c < 5 ∧ T - 38 = Int32.ofNat c ∧ va - 18 = Int32.ofNat c) := by
  have small : ∀ x : Int32, x.toInt < 38 → ((so = 2 ∧ 18 ≤ va.toInt ∧ va.toInt ≤ 22) → False) → ((so = 2 ∧ 18 ≤ va.toInt ∧ va.toInt ≤ 22) ↔ (38 ≤ x.toInt ∧ x.toInt < 43)) ∧ ((38 ≤ x.toInt ∧ x.toInt < 43) → ∃ c, c < 5 ∧ x - 38 = Int32.ofNat c ∧ va - 18 = Int32.ofNat c) := fun x hx hn => ⟨⟨fun z => (hn z).elim, fun z => by omega⟩, fun z => by omega⟩
  rcases e with ⟨a, b⟩ | ⟨a, b⟩ | ⟨a, b⟩ | ⟨a, b⟩ | ⟨a, b⟩ | ⟨j, hj, a, b, d⟩ | ⟨a, b, d⟩ | ⟨j, hj, a, b, d⟩
  · subst a; subst b; exact small 0 (by decide) (fun z => absurd z.1 (by decide))
  · subst a; subst b; exact small 1 (by decide) (fun z => absurd z.1 (by decide))
  · subst a; subst b; exact small 2 (by decide) (fun z => absurd z.1 (by decide))
  · subst a; subst b; exact small 3 (by decide) (fun z => absurd z.1 (by decide))
  · subst a; subst b; exact small 4 (by decide) (fun z => absurd z.1 (by decide))
  · subst a; subst b
    have := (n14 j hj).2.2.2.2.2
    exact small _ (by omega) (fun z => absurd z.1 (by decide))
  · subst a; subst b; exact small 19 (by decide) (fun z => absurd z.1 (by decide))
  · subst a; subst b; subst d
    obtain ⟨_, _, _, _, _, q5, q6⟩ := n24 j hj
    refine ⟨⟨fun z => q5.mp z.2, fun z => ⟨rfl, q5.mpr z⟩⟩, fun z => ?_⟩
    obtain ⟨r1, r2, r3⟩ := q6 (q5.mpr z)
    exact ⟨j - 18, r3, by rw [r1, r2], r2⟩
end SG
theorem P123 : sgP 123 5 := by unfold sgP; decide +kernel
theorem P125 : sgP 125 6 := by unfold sgP; decide +kernel
theorem P40 : sgP 40 7 := by unfold sgP; decide +kernel
theorem P41 : sgP 41 8 := by unfold sgP; decide +kernel
theorem P59 : sgP 59 9 := by unfold sgP; decide +kernel
theorem P44 : sgP 44 10 := by unfold sgP; decide +kernel
theorem P58 : sgP 58 11 := by unfold sgP; decide +kernel
theorem P46 : sgP 46 12 := by unfold sgP; decide +kernel
theorem P33 : sgP 33 13 := by unfold sgP; decide +kernel
theorem P61 : sgP 61 14 := by unfold sgP; decide +kernel
theorem P60 : sgP 60 15 := by unfold sgP; decide +kernel
theorem P43 : sgP 43 16 := by unfold sgP; decide +kernel
theorem P45 : sgP 45 17 := by unfold sgP; decide +kernel
theorem P42 : sgP 42 18 := by unfold sgP; decide +kernel
theorem P256 : sgP 256 19 := by unfold sgP; decide +kernel
theorem Q0 : wdP 0 20 := by unfold wdP; decide +kernel
theorem Q1 : wdP 1 21 := by unfold wdP; decide +kernel
theorem Q2 : wdP 2 22 := by unfold wdP; decide +kernel
theorem Q3 : wdP 3 23 := by unfold wdP; decide +kernel
theorem Q4 : wdP 4 24 := by unfold wdP; decide +kernel
theorem Q5 : wdP 5 25 := by unfold wdP; decide +kernel
theorem Q6 : wdP 6 26 := by unfold wdP; decide +kernel
theorem Q7 : wdP 7 27 := by unfold wdP; decide +kernel
theorem Q8 : wdP 8 28 := by unfold wdP; decide +kernel
theorem Q9 : wdP 9 30 := by unfold wdP; decide +kernel
theorem Q10 : wdP 10 29 := by unfold wdP; decide +kernel
theorem Q11 : wdP 11 31 := by unfold wdP; decide +kernel
theorem Q12 : wdP 12 32 := by unfold wdP; decide +kernel
theorem Q13 : wdP 13 33 := by unfold wdP; decide +kernel
theorem Q14 : wdP 14 34 := by unfold wdP; decide +kernel
theorem Q15 : wdP 15 35 := by unfold wdP; decide +kernel
theorem Q16 : wdP 16 36 := by unfold wdP; decide +kernel
theorem Q17 : wdP 17 37 := by unfold wdP; decide +kernel
theorem Q23 : wdP 23 43 := by unfold wdP; decide +kernel
/-- the reference's tokens -/
def rTk (F : Nat → Nat → Int32) (N : Nat → Int64) (s : rS) : Prop := s.2.1 40 = F 4 ∧ s.2.1 41 = F 5 ∧ s.2.1 42 = F 6 ∧ s.2.2 43 = N
section SY
variable {L : Nat} {xs : Nat → Int32} {zf : Value} {w k : Nat} {h h1 : rm_H} {s : rS} {cx : Nat → Nat} {F : Nat → Nat → Int32} {N : Nat → Int64} {v : Nat → Int32} {i : Nat}
theorem vS_4 : vS cx F i 4 = Int32.ofNat (cx 15) := rfl
theorem vS_5 : vS cx F i 5 = Int32.ofNat i := rfl
theorem vS_6 : vS cx F i 6 = ctk cx F i := rfl
theorem vS_7 : vS cx F i 7 = cpl cx F i := rfl
theorem vS_8 : vS cx F i 8 = -1 := rfl
/-- one token on -/
theorem vS_adv (hT : TF cx F N) (hi : i < cx 16) : ∀ j, 4 ≤ j → j ≤ 8 → vS cx F (i + 1) j = adV (cx 6) (F 1) (F 2) (vS cx F i) j := by
  obtain ⟨⟨t1, t2, t3⟩, _⟩ := hT
  have c4 : (Int32.ofNat (cx 15)).toInt = (cx 15 : Int) := of_int (by omega)
  have c5 : (Int32.ofNat i).toInt = (i : Int) := of_int (by omega)
  have c6 : (Int32.ofNat (i + 1)).toInt = ((i + 1 : Nat) : Int) := of_int (by omega)
  have ad : adC (vS cx F i) = upd (vS cx F i) 5 (Int32.ofNat (i + 1)) := by
    unfold adC
    rw [vS_5, vS_4, if_pos (by omega), show Int32.ofNat i + 1 = Int32.ofNat (i + 1) from of_add i 1]
  intro j h4 h8
  unfold adV
  rw [if_pos vS_8, ad, upd_eq, upd_ne _ _ (show (4 : Nat) ≠ 5 by decide), vS_4, c4, c6, of_clamp (by omega)]
  have : j = 4 ∨ j = 5 ∨ j = 6 ∨ j = 7 ∨ j = 8 := by omega
  by_cases q : i + 1 < cx 15
  · rw [if_pos (by omega)]
    rcases this with e | e | e | e | e <;> subst e
    · rfl
    · rfl
    · show ctk cx F (i + 1) = F 1 (i + 1)
      exact if_pos q
    · show cpl cx F (i + 1) = F 2 (i + 1)
      exact if_pos q
    · rfl
  · rw [if_neg (by omega)]
    rcases this with e | e | e | e | e <;> subst e
    · rfl
    · rfl
    · show ctk cx F (i + 1) = 0
      exact if_neg q
    · show cpl cx F (i + 1) = Int32.ofNat (cx 6)
      exact if_neg q
    · rfl
theorem tk_lt (hT : TF cx F N) (hi : i ≤ cx 16) (h0 : ctk cx F i ≠ 0) (h1 : ctk cx F i ≠ 1) : i < cx 16 := by
  have := (hT.2.2 i hi).2.1
  rcases Nat.lt_or_ge i (cx 16) with z | z
  · exact z
  · have e : i = cx 16 := by omega
    rcases this.mpr e with q | q
    · exact absurd q h0
    · exact absurd q h1
theorem pl_no (hT : TF cx F N) (hi : i ≤ cx 16) : cpl cx F i ≠ -1 := by
  obtain ⟨b, hb, e⟩ := (hT.2.2 i hi).1.2.1
  rw [e]
  intro z
  have z2 := congrArg Int32.toInt z
  rw [of_int (by omega), show (-1 : Int32).toInt = -1 from by decide] at z2
  omega
/-- without a fault: the class goes on, refuses, takes, skips -/
theorem y_adv (hT : TF cx F N) (hi : i < cx 16) (hP : pC h cx F (vS cx F i)) : ∃ h', dM L xs zf w (k + 3) 92 [.ref (cx 0)] h = some (none, h') ∧ pC h' cx F (vS cx F (i + 1)) ∧ st1 (cx 0) h h' := by
  obtain ⟨h', a1, a2, a3⟩ := c_adv (L := L) (xs := xs) (zf := zf) (w := w) (k := k) hP
  exact ⟨h', a1, pC_ext a2 (vS_adv hT hi), a3⟩
/-- the class has refused at place x -/
def rfd (v : Nat → Int32) (x : Int32) : Prop := v 8 = x ∧ v 6 = 1 ∧ x ≠ -1
theorem y_rfV (hT : TF cx F N) (hi : i ≤ cx 16) : rfd (rfV (vS cx F i)) (cpl cx F i) := by
  unfold rfV
  rw [if_pos vS_8]
  refine ⟨?_, upd_eq _ _ _, pl_no hT hi⟩
  rw [upd_ne _ _ (by decide), upd_eq]
  rfl
theorem y_ref (hT : TF cx F N) (hi : i ≤ cx 16) (hP : pC h cx F (vS cx F i)) : ∃ h' v, dM L xs zf w (k + 1) 95 [.ref (cx 0)] h = some (none, h') ∧ pC h' cx F v ∧ rfd v (cpl cx F i) ∧ st1 (cx 0) h h' := by
  obtain ⟨h', a1, a2, a3⟩ := c_ref (L := L) (xs := xs) (zf := zf) (w := w) (k := k) hP
  exact ⟨h', _, a1, a2, y_rfV hT hi, a3⟩
theorem y_takeT (hT : TF cx F N) (hi : i < cx 16) (hP : pC h cx F (vS cx F i)) (x : Int32) (hx : ctk cx F i = x) : ∃ h', dM L xs zf w (k + 4) 109 [.ref (cx 7), .int x] h = some (none, h') ∧ pC h' cx F (vS cx F (i + 1)) ∧ st1 (cx 0) h h' := by
  obtain ⟨h', a1, a2, a3⟩ := c_take (L := L) (xs := xs) (zf := zf) (w := w) (k := k) hP x
  unfold tkV at a2
  rw [if_pos (show vS cx F i 6 = x from hx)] at a2
  exact ⟨h', a1, pC_ext a2 (vS_adv hT hi), a3⟩
theorem y_takeF (hT : TF cx F N) (hi : i ≤ cx 16) (hP : pC h cx F (vS cx F i)) (x : Int32) (hx : ¬ ctk cx F i = x) : ∃ h' v, dM L xs zf w (k + 4) 109 [.ref (cx 7), .int x] h = some (none, h') ∧ pC h' cx F v ∧ rfd v (cpl cx F i) ∧ st1 (cx 0) h h' := by
  obtain ⟨h', a1, a2, a3⟩ := c_take (L := L) (xs := xs) (zf := zf) (w := w) (k := k) hP x
  unfold tkV at a2
  rw [if_neg (show ¬ vS cx F i 6 = x from hx)] at a2
  exact ⟨h', _, a1, a2, y_rfV hT hi, a3⟩
theorem y_skipT (hT : TF cx F N) (hi : i < cx 16) (hP : pC h cx F (vS cx F i)) (x : Int32) (hx : ctk cx F i = x) : ∃ h', dM L xs zf w (k + 4) 118 [.ref (cx 7), .int x] h = some (some (.int 1), h') ∧ pC h' cx F (vS cx F (i + 1)) ∧ st1 (cx 0) h h' := by
  obtain ⟨h', a1, a2, a3⟩ := c_skip (L := L) (xs := xs) (zf := zf) (w := w) (k := k) hP x
  unfold skV at a2
  rw [if_pos (show vS cx F i 6 = x from hx)] at a2
  rw [decide_eq_true (show vS cx F i 6 = x from hx)] at a1
  exact ⟨h', a1, pC_ext a2 (vS_adv hT hi), a3⟩
theorem y_skipF (hP : pC h cx F v) (x : Int32) (hx : ¬ v 6 = x) : ∃ h', dM L xs zf w (k + 4) 118 [.ref (cx 7), .int x] h = some (some (.int 0), h') ∧ pC h' cx F v ∧ st1 (cx 0) h h' := by
  obtain ⟨h', a1, a2, a3⟩ := c_skip (L := L) (xs := xs) (zf := zf) (w := w) (k := k) hP x
  unfold skV at a2
  rw [if_neg hx] at a2
  rw [decide_eq_false hx] at a1
  exact ⟨h', a1, a2, a3⟩
/-- behind a fault -/
theorem z_v {x : Int32} (r : rfd v x) : ∀ j, 4 ≤ j → j ≤ 8 → v j = rfV v j := by
  obtain ⟨r1, r2, r3⟩ := r
  intro j _ _
  unfold rfV
  rw [if_neg (by rw [r1]; exact r3)]
  by_cases e : j = 6
  · subst e; rw [upd_eq, r2]
  · rw [upd_ne _ _ e]
theorem z_adv {x : Int32} (r : rfd v x) (hP : pC h cx F v) : ∃ h', dM L xs zf w (k + 3) 92 [.ref (cx 0)] h = some (none, h') ∧ pC h' cx F v ∧ st1 (cx 0) h h' := by
  obtain ⟨h', a1, a2, a3⟩ := c_adv (L := L) (xs := xs) (zf := zf) (w := w) (k := k) hP
  unfold adV at a2
  rw [if_neg (by rw [r.1]; exact r.2.2)] at a2
  exact ⟨h', a1, a2, a3⟩
theorem z_ref {x : Int32} (r : rfd v x) (hP : pC h cx F v) : ∃ h', dM L xs zf w (k + 1) 95 [.ref (cx 0)] h = some (none, h') ∧ pC h' cx F v ∧ st1 (cx 0) h h' := by
  obtain ⟨h', a1, a2, a3⟩ := c_ref (L := L) (xs := xs) (zf := zf) (w := w) (k := k) hP
  exact ⟨h', a1, pC_ext a2 (z_v r), a3⟩
theorem z_take {x : Int32} (r : rfd v x) (hP : pC h cx F v) (y : Int32) (hy : y ≠ 1) : ∃ h', dM L xs zf w (k + 4) 109 [.ref (cx 7), .int y] h = some (none, h') ∧ pC h' cx F v ∧ st1 (cx 0) h h' := by
  obtain ⟨h', a1, a2, a3⟩ := c_take (L := L) (xs := xs) (zf := zf) (w := w) (k := k) hP y
  unfold tkV at a2
  rw [if_neg (by rw [r.2.1]; exact fun z => hy z.symm)] at a2
  exact ⟨h', a1, pC_ext a2 (z_v r), a3⟩
theorem z_tw {x : Int32} (r : rfd v x) (hP : pC h cx F v) (y : Int32) (hy : y ≠ 1) : ∃ h', dM L xs zf w (k + 2) 94 [.ref (cx 7), .int y] h = some (some (.ref 9), h') ∧ pC h' cx F v ∧ st1 (cx 0) h h' := by
  obtain ⟨h', a1, a2, a3⟩ := c_tw0 (L := L) (xs := xs) (zf := zf) (w := w) (k := k) hP y (by rw [r.2.1]; exact fun z => hy z.symm)
  exact ⟨h', a1, pC_ext a2 (z_v r), a3⟩
/-- a word is taken; a word that is not there -/
theorem y_twT (hT : TF cx F N) (hi : i ≤ cx 16) (hP : pC h cx F (vS cx F i)) (x : Int32) (hx : ctk cx F i = x) (h23 : x = 2 ∨ x = 3) : ∃ q h', dM L xs zf w (k + 8) 94 [.ref (cx 7), .int x] h = some (some (.ref q), h') ∧ i < cx 16 ∧ pC h' cx F (vS cx F (i + 1)) ∧ nS L xs h' q (N i) ∧ fr (fun p => p = cx 0) h h' ∧ (uA h → uA h') ∧ (h'.length ≤ h.length + 2 ∧ nD h h') ∧ zh h' ≤ zh h + 12 := by
  have hlt : i < cx 16 := tk_lt hT hi (by rw [hx]; rcases h23 with z | z <;> subst z <;> decide) (by rw [hx]; rcases h23 with z | z <;> subst z <;> decide)
  obtain ⟨⟨t1, t2, t3⟩, tb, tt⟩ := id hT
  obtain ⟨b, e, b1, b2, b3, b4, b5, b6, b7⟩ := (tt i hi).2.2.1 (by rw [hx]; exact h23)
  obtain ⟨q, h', a1, a2, a3, a4, a7, a5, a6⟩ := c_tw (L := L) (xs := xs) (zf := zf) (w := w) (k := k) hP tb x hx vS_5 (by rw [vS_4, of_int (by omega)]; omega) b1 b2 b3 b4
  refine ⟨q, h', a1, hlt, pC_ext a2 (vS_adv hT hlt), ⟨e - b, _, a3, by omega, ?_, ?_⟩, a4, a7, a5, by omega⟩
  · intro j hj
    have := b6 j hj
    rw [Nat.zero_add]
    exact this
  · rw [b7]
    refine rcC_sh _ _ _ _ _ _ (fun x hx => ?_)
    rw [Nat.zero_add]
theorem y_twF (hT : TF cx F N) (hi : i ≤ cx 16) (hP : pC h cx F (vS cx F i)) (x : Int32) (hx : ¬ ctk cx F i = x) : ∃ h' v, dM L xs zf w (k + 2) 94 [.ref (cx 7), .int x] h = some (some (.ref 9), h') ∧ pC h' cx F v ∧ rfd v (cpl cx F i) ∧ st1 (cx 0) h h' := by
  obtain ⟨h', a1, a2, a3⟩ := c_tw0 (L := L) (xs := xs) (zf := zf) (w := w) (k := k) hP x hx
  exact ⟨h', _, a1, a2, y_rfV hT hi, a3⟩
end SY
