/-! WHAT BOTH HAVE DECLARED IS WHAT BOTH CHECK: types. -/
/-- both have parsed and declared, without a fault -/
def PDX (L : Nat) (xs : Nat → Int32) (cx : Nat → Nat) (h : rm_H) (s : rS) (g : Nat → Nat) (ts kl ml : List Nat) (h' : rm_H) (s' : rS) : Prop := dI h h' ∧ dJ s s' ∧ (∀ x y, ¬ dSR s kl.length ml.length (g 5) (g 4) x y) ∧ DCL L xs h s g ts kl ml h' s' ∧ TSI cx h s g ts ∧ s.1 26 = Int32.ofNat (g 5) ∧ g 5 ≤ 2000 ∧ kl.length ≤ 8 ∧ ml.length ≤ 72 ∧ g 4 ≤ 2990 ∧ cx 20 = 21 + h'.length
section PDB
variable {L : Nat} {xs : Nat → Int32} {cx g : Nat → Nat} {h h' : rm_H} {s s' : rS} {ts kl ml : List Nat} {d y nk LO HI : Nat} {bn cp cq tq : Int32} {oc : Option Int64}
theorem nb7_d (i : dI h h') : nb7 L xs h h' := by
  refine ⟨fun p j v hj e => dI_f i e (by unfold bdF; omega), fun l ar cap es e => dI_aL i e, fun q c e => dI_n i e, fun p j v hj e => dI_f i e (by unfold bdF; omega), fun p e => ?_⟩
  rw [i.2.2.2 12 p 12 (by unfold bdF; omega)]
  exact e
theorem dj_r (j : dJ s s') {q : Nat} (hq : q ≠ 53 ∧ q ≠ 60) : s'.2.1 q = s.2.1 q := j.2.1 q hq.1 hq.2
theorem rN_d (j : dJ s s') (c4 : ∀ j, ¬ (1 ≤ j ∧ j < g 4 ∧ s.2.1 44 j = 8) → s'.2.1 53 j = s.2.1 53 j) : rN LO HI s s' := ⟨fun q _ _ q3 q4 => dj_r j ⟨q3, q4⟩, by rw [j.2.2], by rw [j.2.2], j.1 26 (by decide) (by decide), fun i _ _ e => c4 i (fun z => by rw [e] at z; exact absurd z.2.2 (by decide))⟩
theorem dkF_d (j : dJ s s') : dkF s' nk bn oc cp cq tq = dkF s nk bn oc cp cq tq := by
  have r66 : s'.2.1 66 = s.2.1 66 := dj_r j (by decide)
  unfold dkF
  rw [r66, j.2.2]
theorem dyK_d (j : dJ s s') : dyK s' nk y = dyK s nk y := by
  have r57 : s'.2.1 57 = s.2.1 57 := dj_r j (by decide)
  have r58 : s'.2.1 58 = s.2.1 58 := dj_r j (by decide)
  have r59 : s'.2.1 59 = s.2.1 59 := dj_r j (by decide)
  unfold dyK dyC dyP
  rw [dkF_d j, r57, r58, r59, j.2.2]
theorem tcR_d (j : dJ s s') {x r : Int32} (e : tcR s nk x r) : tcR s' nk x r := by
  have r66 : s'.2.1 66 = s.2.1 66 := dj_r j (by decide)
  unfold tcR at e ⊢
  rw [r66]
  exact e
theorem DTY_d (p : PDX L xs cx h s g ts kl ml h' s') : DTY L xs cx h' s' kl.length := by
  obtain ⟨i, j, nf, ⟨c1, _⟩, ⟨t1, t2, _⟩, _⟩ := p
  intro d fs h8 _ e
  obtain ⟨fs0, e0⟩ := dI_back i e
  have dm := t1 d fs0 h8 e0
  obtain ⟨x, x1, bn, c, cp, cq, tq, x2, x3⟩ := c1 d dm
  have nz : (dkF s kl.length bn c cp cq tq).2 = none := by
    cases hf : (dkF s kl.length bn c cp cq tq).2 with
    | none => rfl
    | some pr =>
      exfalso
      obtain ⟨_, _, u⟩ := t2 d dm
      rcases u with ⟨y, u1, u2⟩ | ⟨n, u0, u1, u2, u3⟩
      · have q := dkF_uq (s := s) (nk := kl.length) x2 (tyD_dat (tyD_L u2)).1
        rw [q] at hf
        exact nf pr.1 pr.2 (Or.inl (Or.inl (Or.inl (Or.inl ⟨y, u1, hf⟩))))
      · have q := dkF_uq (s := s) (nk := kl.length) x2 (nwD_dat (nwD_L u3))
        rw [q] at hf
        exact nf pr.1 pr.2 (Or.inl (Or.inr ⟨n, ⟨u0, u1, u2⟩, hf⟩))
  refine ⟨bn, c, cp, cq, tq, ?_, by rw [dkF_d j, x3]; exact x1, by rw [dkF_d j]; exact nz⟩
  obtain ⟨y1, y2⟩ := x2
  have k : ∀ j v, j ≠ 7 → fd h 10 d j = some v → fd h' 10 d j = some v := fun j v hj e => dI_f i e (by unfold bdF; omega)
  refine ⟨k _ _ (by decide) y1, ?_⟩
  rcases y2 with ⟨z1, z2⟩ | ⟨t, x, z1, z2, z3, z4, z5, z6⟩
  · exact Or.inl ⟨z1, k _ _ (by decide) z2⟩
  · exact Or.inr ⟨t, x, z1, k _ _ (by decide) z2, dI_n i z3, k _ _ (by decide) z4, k _ _ (by decide) z5, fun q => k _ _ (by decide) (z6 q)⟩
theorem tcs_d (p : PDX L xs cx h s g ts kl ml h' s') : ∀ y : Nat, (y : Int) < (s'.1 26).toInt → y < 2000 ∧ tcR s' kl.length (dyK s' kl.length y).1 (s'.2.1 60 y) := by
  obtain ⟨i, j, nf, ⟨c1, c2, _⟩, _, e26, g5, _⟩ := p
  intro y hy
  rw [j.1 26 (by decide) (by decide), e26, of_int (by omega)] at hy
  exact ⟨by omega, by rw [dyK_d j]; exact tcR_d j (c2 y (by omega))⟩
/-- the type of a Decl -/
theorem tyJ (p : PDX L xs cx h s g ts kl ml h' s') (h8 : cx 8 ≤ d) (e : tyD L xs h s d y) (hy : (y : Int) < (s.1 26).toInt) : ∃ td, fd h' 10 d 7 = some (.int (cT td)) ∧ tyc s' (Int32.ofNat y) td ∧ vT s' kl.length td ∧ (dyK s kl.length y).1 = cT td := by
  obtain ⟨i, j, nf, ⟨c1, c2, c3, c4, _⟩, _, e26, g5, l8, _, _, c20⟩ := id p
  have e' : tyD L xs h' s' d y := tyD_nb (LO := 0) (HI := 0) (nb7_d i) (rN_d j c4) e
  obtain ⟨fs, q1, _⟩ := fd_c e'.1
  have lt := hc_lt q1
  obtain ⟨td, t1, t2, t3⟩ := ty_of3 l8 (DTY_d p) (tcs_d p) (by omega) gH_refl (fr_refl _ _) rK_refl ⟨h8, by omega⟩ e' (by rw [j.1 26 (by decide) (by decide)]; exact hy)
  refine ⟨td, t1, t2, t3, ?_⟩
  obtain ⟨d7, _⟩ := dt_of (DTY_d p) (by omega) gH_refl (fr_refl _ _) ⟨h8, by omega⟩ (tyD_dat e').1
  rw [t1] at d7
  have q := Value.int.inj (Option.some.inj d7)
  rw [q, dkF_d j]
  have r57 : s'.2.1 57 = s.2.1 57 := dj_r j (by decide)
  have r58 : s'.2.1 58 = s.2.1 58 := dj_r j (by decide)
  have r59 : s'.2.1 59 = s.2.1 59 := dj_r j (by decide)
  unfold dyK dyC dyP
  rw [r57, r58, r59, j.2.2]
theorem ex_list {P : Nat → Nat → Prop} : ∀ n : Nat, (∀ i, i < n → ∃ t, P i t) → ∃ ts : List Nat, ts.length = n ∧ ∀ i t, ts[i]? = some t → P i t
  | 0, _ => ⟨[], rfl, fun i t ht => by cases ht⟩
  | n + 1, hp => by
    obtain ⟨ts, l1, l2⟩ := ex_list n (fun i hi => hp i (by omega))
    obtain ⟨t, ht⟩ := hp n (by omega)
    refine ⟨ts ++ [t], by rw [List.length_append, l1]; rfl, fun i t' hi => ?_⟩
    by_cases q : i < ts.length
    · rw [List.getElem?_append_left q] at hi
      exact l2 i t' hi
    · have lt := (List.getElem?_eq_some_iff.mp hi).1
      rw [List.length_append, List.length_singleton] at lt
      rw [show i = ts.length from by omega, List.getElem?_append_right (Nat.le_refl _), Nat.sub_self] at hi
      have hi : some t = some t' := hi
      rw [show i = n from by omega, ← Option.some.inj hi]
      exact ht
end PDB
theorem sdC_T : ∀ t, t < 72 → dTy t = true → sdC (cT t) = if sdT t = true then 1 else 0 := by decide +kernel
