/-! A METHOD behind a fault, by the class alone. -/
section ZM
variable {L : Nat} {xs : Nat → Int32} {zf : Value} {w k k2 m np : Nat} {cx : Nat → Nat} {F : Nat → Nat → Int32} {N : Nat → Int64} {q qm : List Value} {h h' h1 h2 : rm_H} {s s' : rS} {g g' : Nat → Nat} {ts ts' : List Nat} {M K l : Nat}
theorem z315 {t : Nat} (hw : 1 ≤ w) (h1 : s.1 57 = 1) (ht : s.1 56 = Int32.ofNat t) (hl : t ≤ 2000) : rM w (k + 4) 315 [.ref 36] s = some (none, s) := by
  obtain ⟨w', rfl⟩ : ∃ w', w = w' + 1 := ⟨w - 1, by omega⟩
  rw [y315]
  show s315_0 (rM (w' + 1) (k + 3)) (w' + 1) s = _
  unfold s315_0
  refine bse (a := s) (by rw [z308 (k := k) 40 h1 ht hl]; rfl) (ift (ne1 h1) ?_)
  unfold s315_26 s315_27
  rw [s315_33]
  exact ift (by decide) (bse (a := s) (by rw [z308 (k := k) 41 h1 ht hl]; rfl) rfl)
/-- a block behind a fault -/
theorem z_body {c : Nat} (hT : TF cx F N) (hw : 1 ≤ w) (h14 : cx 14 = 0) (z : FLT cx F N q h s g ts) (hM : hc h M = some (.inr (11, qm.set 10 (.int (Int32.ofNat c))))) (hq : qm.length = 14) : ∃ h' fsM, b142_220 L xs zf (dM L xs zf w (k + 5)) w (some (cx 7)) (some M) h = some (none, h') ∧ FLT cx F N q h' s (gu g 6 (g 6 + 2)) ts ∧ OPY (fun y => y = M) cx F N q 0 0 0 h s g ts h' s (gu g 6 (g 6 + 2)) ts ∧ hc h' M = some (.inr (11, fsM)) ∧ (∀ l2 ar2 cap2 es2, l2 ≠ cx 11 → aL h l2 ar2 cap2 es2 → aL h' l2 ar2 cap2 es2) := by
  obtain ⟨⟨v, p0, r⟩, h57, rt, ⟨pt, vr, ch⟩, cs, b⟩ := id z
  have zc : ZC (cxM cx M 0 0) F qm h v (s.1 58) (gu g 3 c) ts pt vr := ⟨p0, r, CH_in hM hq ch⟩
  obtain ⟨h1, a1, a2, a3, a4, a5, a6⟩ := z_block (L := L) (xs := xs) (zf := zf) (w := w) (k := k) hw zc 1
  have M0 : M ≠ cx 0 := fun e => by rw [e, pC_r p0] at hM; cases hM
  have hM1 := fr_old a4 hM M0
  have hMg := hc_ge hM
  have q9 : ∃ u, (qm.set 10 (.int (Int32.ofNat c)))[9]? = some u := ⟨_, List.getElem?_eq_getElem (by rw [List.length_set]; omega)⟩
  obtain ⟨u9, q9⟩ := q9
  obtain ⟨h', d1, d2, d3⟩ := pF_ex (j := 9) (cis := [11]) (v := .ref (21 + h.length)) hM1 q9 (by decide) rfl (by decide)
  have ch1 : CH cx q h1 (gu g 3 c) ts pt vr := CH_out h14 a2.2.2
  have ch1' : CH cx q h1 g ts pt vr := ⟨ch1.1, ch1.2.1, ch1.2.2.1, ch1.2.2.2.1, Or.inl h14⟩
  have fl : FLT cx F N q h' s (gu g 6 (g 6 + 2)) ts := by
    refine ⟨⟨v, pC_w hM1 (by decide) d3 a2.1, r⟩, h57, rt, ⟨pt, vr, CH_g (g := g) rfl rfl rfl (CH_w0 h14 hM1 (by decide) d3 ch1')⟩, cs, ?_⟩
    show g 0 ≤ _ ∧ _ ≤ g 0 + (g 6 + 2) ∧ g 4 ≤ g 0 + 2 + (g 6 + 2)
    omega
  have l' := d3.2.1
  have y' := d3.2.2
  refine ⟨h', _, ?_, fl, ⟨Or.inr fl, fun u => (sy_no u fl).elim, fr_trans (fr_mono a4 (fun _ _ u => Or.inl (Or.inl u))) d3.1 (fun _ _ u => Or.inr u), Or.inl rfl, ⟨Nat.le_refl _, Nat.le_refl _⟩, ?_⟩, d2, fun l2 ar2 cap2 es2 ne e => aL_st hM1 (by decide) d3 (aL_op (Or.inr z) (fr_mono a4 (fun _ _ u => Or.inl u)) e ne)⟩
  · unfold b142_220
    have a1' : dM L xs zf w (k + 5) 119 [.ref (cx 7), .ref M, .int 1] h = some (some (.ref (21 + h.length)), h1) := a1
    refine bse (a := (some (21 + h.length), h1)) (by rw [c_pv p0, va_s, a1']; rfl) ?_
    exact bse d1 rfl
  · show h'.length + 10 * g 0 + g 6 + 0 ≤ h.length + 10 * g 0 + (g 6 + 2) ∧ zh h' + 4 * g 2 + 80 * g 0 + 8 * g 6 + 0 ≤ zh h + 4 * g 2 + 80 * g 0 + 8 * (g 6 + 2) + 0
    omega
/-- from the parameters to the end -/
theorem z_mth (hT : TF cx F N) (hw : 2100 ≤ w) (h14 : cx 14 = 0) (z : FLT cx F N q h s g ts) (hg : g 6 ≤ 2800) (hM : hc h M = some (.inr (11, qm))) (h5m : qm[5]? = some (.ref l)) (hq : qm.length = 14) (hl : l ≠ cx 11) (el : aL h l 5 0 []) (so : Int32) : ∃ h2 h' g' ts' fsM, dM L xs zf w (k + 11) 117 [.ref (cx 7), .ref M] h = some (none, h2) ∧ (∃ v, pC h2 cx F v) ∧ mtl L xs zf (dM L xs zf w (k + 11)) w (some (cx 7)) so (some M) h2 = some (none, h') ∧ FLT cx F N q h' s g' ts' ∧ OPY (fun y => y = l ∨ y = M) cx F N q 0 0 0 h s g ts h' s g' ts' ∧ g' 6 ≤ g 6 + 14 ∧ hc h' M = some (.inr (11, fsM)) ∧ (∀ l2 ar2 cap2 es2, l2 ≠ l → l2 ≠ cx 11 → aL h l2 ar2 cap2 es2 → aL h' l2 ar2 cap2 es2) := by
  have nl := n_lt hT (Or.inr z)
  obtain ⟨h2, s6, g2, ts2, ds, ar, cap, a1, a2, a3, a4, a5, a6, a7, a8, a9⟩ := x_pars (L := L) (xs := xs) (zf := zf) (w := w) (k := k) (k2 := 0) (np := 0) hT (by omega) h14 (Or.inr z) (by omega) h5m hq hl (by omega) hM el (fun u => (sy_no u z).elim)
  have ss : s6 = s := by
    have e := z315 (w := w) (k := 1) (by omega) z.2.1 nl.2.2.2 nl.1
    rw [a2] at e
    exact congrArg Prod.snd (Option.some.inj e)
  subst ss
  have z2 : FLT cx F N q h2 s6 g2 ts2 := by
    rcases a3.1 with u | u
    · exact (sy_no (a3.2.1 u).1 z).elim
    · exact u
  obtain ⟨j1, j2, j3, j4, j5, j6⟩ := a7
  obtain ⟨h', fsM, b1, b2, b3, b4, b5⟩ := z_body (L := L) (xs := xs) (zf := zf) (w := w) (k := k + 6) hT (by omega) h14 z2 j1 hq
  obtain ⟨b, v, p, q1, q2, q3, q4⟩ := op_at (w := w) hT P58 (Or.inr z2)
  have bf := q4 z2
  subst bf
  refine ⟨h2, h', _, ts2, fsM, a1, ⟨v, p⟩, ?_, b2, OPY_trans (OPY_X a3) b3 (fun _ _ u => Or.inr u), ?_, b4, fun l2 ar2 cap2 es2 n1 n2 e => b5 l2 ar2 cap2 es2 n2 (j5 l2 ar2 cap2 es2 n1 n2 e)⟩
  · unfold mtl
    by_cases e1 : mx_f2 .ne so 1 = true
    · rw [if_pos e1]
      exact b1
    · rw [if_neg e1, c_in p, Option.bind_some, c_I p 6 (by omega), Option.bind_some, if_pos (by rw [f2_ne]; exact decide_eq_true (fun u => absurd (q1.mp u) (by decide)))]
      exact b1
  · show g2 6 + 2 ≤ g 6 + 14
    omega
end ZM
