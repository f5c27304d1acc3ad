/-! A TYPE IS READ BY BOTH. -/
section TP
variable {L : Nat} {xs : Nat → Int32} {zf : Value} {w k i y : Nat} {cx : Nat → Nat} {F : Nat → Nat → Int32} {N : Nat → Int64} {q : List Value} {h h1 : rm_H} {s : rS} {g : Nat → Nat} {ts : List Nat} {pt vr : Int32}
theorem t57 : ∀ p, 57 ≤ p → p ≤ 60 → rs_t p = (0, 2000, false) := by
  intro p h1 h2
  have : p = 57 ∨ p = 58 ∨ p = 59 ∨ p = 60 := by omega
  rcases this with e | e | e | e <;> subst e <;> decide
theorem t61 : rs_t 61 = (2, 2000, true) := by decide
theorem yW {p i : Nat} {x : Int32} (hq : 57 ≤ p ∧ p ≤ 60) (hi : i < 2000) : rs_sI s p (Int32.ofNat i) x = some (rs_wA s p i x) := sI_at (by omega) (t57 p hq.1 hq.2) hi (by omega)
theorem yWJ {i : Nat} {x : Int64} (hi : i < 2000) : rs_sJ s 61 (Int32.ofNat i) x = some (rs_wB s 61 i x) := sJ_at (by omega) t61 hi (by omega)
/-- the reference's end of a TYPE -/
def tyE (s1 : rS) (y i : Nat) : rS := rs_wB (rs_wA s1 59 y (s1.2.1 41 i)) 61 y (s1.2.2 43 i)
theorem ty_tail (hT : TF cx F N) (hi : i ≤ cx 16) (h0 : s.1 57 = 0) (ht : s.1 56 = Int32.ofNat i) (hy : y < 2000) : s312_123 (rM w (k + 3)) w (Int32.ofNat y) s = some (some (.int (Int32.ofNat y)), tyE (if s.2.1 40 i = 3 then nxS s i else stS s i) y i) := by
  have hl : i ≤ 2000 := by have := hT.1; omega
  unfold s312_123
  refine bse (a := (Int32.ofNat i, if s.2.1 40 i = 3 then nxS s i else stS s i)) (by rw [q307 (k := k) 3 h0 ht hl]; rfl) ?_
  refine bse (aTi (by omega) hl) (bse (yW (by omega) hy) ?_)
  refine bse (a := (if s.2.1 40 i = 3 then nxS s i else stS s i).2.2 43 i) ?_ (bse (yWJ hy) rfl)
  exact aTn (s := rs_wA (if s.2.1 40 i = 3 then nxS s i else stS s i) 59 y ((if s.2.1 40 i = 3 then nxS s i else stS s i).2.1 41 i)) hl
/-- the class's end of a TYPE: a TITLE -/
theorem tc_tail {d nm : Nat} {pl cp cpl' tp bn ty sl : Int32} {ti : Option Nat} (hT : TF cx F N) (hi : i ≤ cx 16) (hP : pC h cx F (vS cx F i)) (c : CH cx q h g ts pt vr) (hd : hc h d = some (dcC nm pl cp cpl' ti tp bn ty sl)) : ∃ h' t2 v, b113_83 L xs zf (dM L xs zf w (k + 8)) w (some (cx 7)) (some d) h = some (none, h') ∧ hc h' d = some (dcC nm pl cp cpl' (some t2) (cpl cx F i) bn ty sl) ∧ CH cx q h' g ts pt vr ∧ pC h' cx F v ∧ fr (fun y => y = cx 0 ∨ y = d) h h' ∧ h'.length ≤ h.length + 2 ∧ zh h' ≤ zh h + 12 ∧ ((ctk cx F i = 3 ∧ i < cx 16 ∧ v = vS cx F (i + 1) ∧ nS L xs h' t2 (N i)) ∨ (¬ ctk cx F i = 3 ∧ rfd v (cpl cx F i))) := by
  have d0 : d ≠ cx 0 := fun y => by rw [y, pC_r hP] at hd; cases hd
  obtain ⟨h2, b1, b2, b3⟩ := pF_ex (j := 5) (cis := [10]) (v := .int (cpl cx F i)) (u := .int tp) hd rfl (by decide) rfl (by decide)
  have P2 := pC_w hd (by decide) b3 hP
  have c2 := CH_w hd (by decide) b3 c
  have b2 : hc h2 d = some (dcC nm pl cp cpl' ti (cpl cx F i) bn ty sl) := b2
  have head : ∀ (t2 : Nat) (h3 h4 : rm_H), dM L xs zf w (k + 8) 94 [.ref (cx 7), .int 3] h2 = some (some (.ref t2), h3) → dpF h3 4 [10] (some d) (.ref t2) = some h4 → b113_83 L xs zf (dM L xs zf w (k + 8)) w (some (cx 7)) (some d) h = some (none, h4) := by
    intro t2 h3 h4 e1 e2
    unfold b113_83
    refine bse (c_in hP) (bse (c_I hP 7 (by omega)) (bse b1 ?_))
    exact bse (a := (some t2, h3)) (by rw [c_pv P2, e1]; rfl) (bse e2 rfl)
  by_cases t3 : ctk cx F i = 3
  · obtain ⟨t2, h3, e1, e2, e3, e4, e5, e6, e7, e8⟩ := y_twT (L := L) (xs := xs) (zf := zf) (w := w) (k := k) hT hi P2 3 t3 (Or.inr rfl)
    have hd3 := fr_old e5 b2 d0
    obtain ⟨h4, f1, f2, f3⟩ := pF_ex (j := 4) (cis := [10]) (v := .ref t2) (u := va_rf ti) hd3 rfl (by decide) rfl (by decide)
    refine ⟨h4, t2, _, head t2 h3 h4 e1 f1, f2, CH_w hd3 (by decide) f3 (CH_fr P2 e5 e6 c2), pC_w hd3 (by decide) f3 e3, ?_, ?_, ?_, Or.inl ⟨t3, e2, rfl, nS_fr f3.1 e4⟩⟩
    · exact fr_trans (fr_trans (fr_mono b3.1 (fun _ _ u => Or.inr u)) e5 (fun _ _ u => Or.inl u)) f3.1 (fun _ _ u => Or.inr u)
    · rw [f3.2.1]; have := b3.2.1; omega
    · rw [f3.2.2]; have := b3.2.2; omega
  · obtain ⟨h3, v, e1, e2, e3, e4⟩ := y_twF (L := L) (xs := xs) (zf := zf) (w := w) (k := k + 6) hT hi P2 3 t3
    have hd3 := st1_old e4 b2 d0
    obtain ⟨h4, f1, f2, f3⟩ := pF_ex (j := 4) (cis := [10]) (v := .ref 9) (u := va_rf ti) hd3 rfl (by decide) rfl (by decide)
    refine ⟨h4, 9, v, head 9 h3 h4 e1 f1, f2, CH_w hd3 (by decide) f3 (CH_r P2 e4 c2), pC_w hd3 (by decide) f3 e2, ?_, ?_, ?_, Or.inr ⟨t3, e3⟩⟩
    · exact fr_trans (fr_trans (fr_mono b3.1 (fun _ _ u => Or.inr u)) e4.1 (fun _ _ u => Or.inl u)) f3.1 (fun _ _ u => Or.inr u)
    · rw [f3.2.1, e4.2.1, b3.2.1]; omega
    · rw [f3.2.2, e4.2.2, b3.2.2]; omega
end TP
