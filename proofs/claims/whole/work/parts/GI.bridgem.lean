/-! WHAT BOTH HAVE DECLARED IS WHAT BOTH CHECK: methods. -/
section PDM
variable {L : Nat} {xs : Nat → Int32} {cx g : Nat → Nat} {h h' : rm_H} {s s' : rS} {ts kl ml : List Nat} {d y nk gn A B np m M kk K : Nat}
theorem dTy_lt {t : Nat} (e : dTy t = true) : t < 72 := gTy_lt (dTy_g e)
theorem nn_of {q i x : Nat} (e : s.2.1 q i = Int32.ofNat x) (hx : x ≤ 1000000) : nn s q i = x := by
  unfold nn
  rw [e, of_clamp (by omega)]
theorem rp_no {f : Nat → Int64} {gg : Nat → Int32} {a n : Nat} (no : ∀ x y, ¬ rpA f gg a (a + n) x y) : ∀ i j, i < n → j < n → f (a + i) = f (a + j) → i = j := by
  intro i j hi hj e
  refine Decidable.byContradiction (fun ne => ?_)
  rcases Nat.lt_or_gt_of_ne ne with c | c
  · exact no 2 (gg (a + j)) ⟨a + j, by omega, by omega, ⟨a + i, by omega, by omega, e⟩, rfl, rfl⟩
  · exact no 2 (gg (a + i)) ⟨a + i, by omega, by omega, ⟨a + j, by omega, by omega, e.symm⟩, rfl, rfl⟩
theorem cT_n0 : ∀ t, t < 72 → dTy t = true → cT t ≠ 0 := by decide +kernel
theorem mJ_of2 (p : PDX L xs cx h s g ts kl ml h' s') (e : MX L xs h s gn A B np m M kk K) (hA : cx 8 ≤ A) (hM : ml[m]? = some M) : mJ L xs h' s' kl.length M m ∧ ∀ k0 : Nat, k0 < 8 → s'.2.1 71 m = Int32.ofNat k0 → s'.2.1 66 k0 ≠ 0 → s'.2.1 70 m ≠ 1 → ∃ us, pmT s' m us ∧ ∀ t ∈ us, sdT t = true := by
  obtain ⟨i, j, nf, ⟨_, _, _, _, c5⟩, _, e26, _, l8, l72, _⟩ := id p
  have ml' := (List.getElem?_eq_some_iff.mp hM).1
  obtain ⟨lo, hi, pl, ph, x, a1, a2, a3, a4, a5, a6, a7, a8, a9⟩ := e
  obtain ⟨⟨so, b1, b2, b3, b4, b5⟩, b6, b7, b8, b9, ⟨l, ar, cap, ps, p0, q1, q2, q3, q4, q5, q6, q7, q8, q9⟩, d1, _⟩ := a1
  have k11 : ∀ j v, j ≠ 12 → j ≠ 13 → fd h 11 M j = some v → fd h' 11 M j = some v := fun j v h1 h2 e => dI_f i e (by unfold bdF; omega)
  have r70 : s'.2.1 70 = s.2.1 70 := dj_r j (by decide)
  have r72 : s'.2.1 72 = s.2.1 72 := dj_r j (by decide)
  have r75 : s'.2.1 75 = s.2.1 75 := dj_r j (by decide)
  have r77 : s'.2.1 77 = s.2.1 77 := dj_r j (by decide)
  have r81 : s'.2.1 81 = s.2.1 81 := dj_r j (by decide)
  have r79 : s'.2.2 79 = s.2.2 79 := by rw [j.2.2]
  -- parameters
  obtain ⟨tt, t1, t2⟩ := ex_list (P := fun i' t => ∀ d, ps[i']? = some d → dSn L xs h' d (s.2.2 79 (p0 + i')) (Int32.ofNat i') (cT t) ∧ vT s' kl.length t ∧ tyc s' (s.2.1 81 (p0 + i')) t ∧ pTy s kl.length (p0 + i') = cT t) ps.length (fun i' hi' => by
    have hd : ps[i']? = some (ps[i']'hi') := List.getElem?_eq_getElem hi'
    obtain ⟨⟨⟨nq, z1, z2⟩, z3, z4, y, z5, z6, z7⟩, z8, z9⟩ := q9 i' _ hd
    obtain ⟨td, w1, w2, w3, w4⟩ := tyJ p (Nat.le_trans hA (Nat.le_trans a4 z8)) z7 z6
    refine ⟨td, fun d hd2 => ?_⟩
    rw [hd] at hd2
    cases hd2
    refine ⟨⟨⟨nq, dI_f i z1 (by unfold bdF; omega), dI_n i z2⟩, dI_f i z4 (by unfold bdF; omega), w1⟩, w3, by rw [z5]; exact w2, ?_⟩
    unfold pTy
    rw [e26] at z6
    have := p.2.2.2.2.2.2.1
    rw [of_int (by omega)] at z6
    rw [nn_of z5 (by omega)]
    exact w4)
  have tA : ∀ i' t, tt[i']? = some t → vT s' kl.length t ∧ tyc s' (s.2.1 81 (p0 + i')) t ∧ pTy s kl.length (p0 + i') = cT t := fun i' t ht => by
    have lt := (List.getElem?_eq_some_iff.mp ht).1
    exact (t2 i' t ht _ (List.getElem?_eq_getElem (by omega))).2
  have nm : nn s 77 m = p0 := nn_of q5 (by omega)
  have nm1 : nn s 77 (m + 1) = p0 + ps.length := nn_of q6 (by omega)
  obtain ⟨tk, hm, m1, m2, m3, m4⟩ := c5 m M hM
  have etk : tk = if tt.all sdT = true then 1 else 0 := by
    rcases m3 with ⟨z1, z2⟩ | ⟨z1, i', z2, z3, z4⟩
    · have all : tt.all sdT = true := by
        rw [List.all_eq_true]
        intro t ht
        obtain ⟨i', hi'⟩ := List.getElem?_of_mem ht
        have lt := (List.getElem?_eq_some_iff.mp hi').1
        obtain ⟨_, ⟨_, _, _, _, dt⟩, u3⟩ := tA i' t hi'
        have q := z2 (p0 + i') (by omega) (by omega)
        rw [u3, sdC_T t (dTy_lt dt) dt] at q
        refine Decidable.byContradiction (fun c => ?_)
        rw [if_neg c] at q
        exact absurd q (by decide)
      rw [if_pos all]
      exact z1
    · have lt : i' - p0 < tt.length := by omega
      have ht : tt[i' - p0]? = some (tt[i' - p0]'lt) := List.getElem?_eq_getElem lt
      obtain ⟨_, ⟨_, _, _, _, dt⟩, u3⟩ := tA _ _ ht
      rw [show p0 + (i' - p0) = i' from by omega] at u3
      rw [u3, sdC_T _ (dTy_lt dt) dt] at z4
      have nall : ¬ tt.all sdT = true := fun all => by
        rw [List.all_eq_true] at all
        have := all _ (List.mem_of_getElem? ht)
        rw [if_pos this] at z4
        exact absurd z4 (by decide)
      rw [if_neg nall]
      exact z1
  have dist : ∀ a b, a < tt.length → b < tt.length → s.2.2 79 (p0 + a) = s.2.2 79 (p0 + b) → a = b := by
    have no : ∀ x y, ¬ rpA (s.2.2 79) (s.2.1 80) p0 (p0 + ps.length) x y := fun x y z => nf x y (Or.inl (Or.inl (Or.inr ⟨m, ml', Or.inl (by rw [nm, nm1]; exact z)⟩)))
    intro a b ha hb
    exact rp_no no a b (by omega) (by omega)
  have snd : ∀ k0 : Nat, k0 < 8 → s'.2.1 71 m = Int32.ofNat k0 → s'.2.1 66 k0 ≠ 0 → s'.2.1 70 m ≠ 1 → ∃ us, pmT s' m us ∧ ∀ t ∈ us, sdT t = true := by
    intro k0 hk h71 h66 h70
    refine ⟨tt, ⟨p0, by rw [r77]; exact q5, by rw [r77, t1]; exact q6, by omega, fun i' t ht => by rw [r81]; exact (tA i' t ht).2.1⟩, fun t ht => ?_⟩
    obtain ⟨i', hi'⟩ := List.getElem?_of_mem ht
    have lt := (List.getElem?_eq_some_iff.mp hi').1
    obtain ⟨_, ⟨_, _, _, _, dt⟩, u3⟩ := tA i' t hi'
    refine Decidable.byContradiction (fun c => ?_)
    have z := sdC_T t (dTy_lt dt) dt
    rw [if_neg c] at z
    rw [dj_r j (q := 71) (by decide)] at h71
    rw [dj_r j (q := 66) (by decide)] at h66
    rw [r70] at h70
    have n71 : nn s 71 m = k0 := nn_of h71 (by omega)
    exact nf 4 (s.2.1 80 (p0 + i')) (Or.inl (Or.inl (Or.inr ⟨m, ml', Or.inr (Or.inr ⟨by rw [n71]; exact h66, h70, p0 + i', by rw [nm]; omega, by rw [nm1]; omega, by rw [u3]; exact cT_n0 t (dTy_lt dt) dt, by rw [u3]; exact z, rfl, rfl⟩)⟩)))
  refine ⟨⟨by omega, ⟨_, k11 _ _ (by decide) (by decide) b2, by rw [r70]; exact b3⟩, k11 _ _ (by decide) (by decide) b8, ?_, l, ar, cap, ps, tt, p0, k11 _ _ (by decide) (by decide) q1, dI_aL i q2, t1.symm, by omega, ⟨p0, by rw [r77]; exact q5, by rw [r77, t1]; exact q6, by omega, fun i' t ht => by rw [r81]; exact (tA i' t ht).2.1⟩, by rw [r77]; exact q5, by omega, fun i' d t hd ht => by rw [r79]; exact ⟨(t2 i' t ht d hd).1, (t2 i' t ht d hd).2.1⟩, by rw [r79]; exact dist, by rw [← etk]; exact m1, ?_⟩, snd⟩
  · have so3 : ∀ so, so < 3 → (Int32.ofNat so = 1 → so = 1) ∧ (Int32.ofNat so = 0 → so = 0) := by decide
    rw [r70, r72, b3]
    rcases b5 with ⟨z1, z2, z3⟩ | ⟨z1, c, z2, z3, z4, z5⟩
    · exact ⟨2, by decide, k11 _ _ (by decide) (by decide) z2, fun z => absurd ((so3 so b1).1 z) z1, fun _ => rfl⟩
    · exact ⟨c, z2, k11 _ _ (by decide) (by decide) z3, fun _ => z4, fun z => by have := (so3 so b1).2 z; omega⟩
  · rw [r75]
    rcases d1 with ⟨z1, z2⟩ | ⟨d, y, z1, z2, z3, z4, z5, z6⟩
    · have z1' := k11 _ _ (by decide) (by decide) z1
      refine Or.inl ⟨z2, z1', ?_⟩
      rcases m4 with ⟨_, w2⟩ | ⟨rd, rt, w1, _⟩
      · rw [m2, w2, etk]
      · rw [z1'] at w1
        cases w1
    · have z1' := k11 _ _ (by decide) (by decide) z1
      obtain ⟨td, w1, w2, w3, w4⟩ := tyJ p (Nat.le_trans hA (Nat.le_trans a4 z2)) z6 z5
      refine Or.inr ⟨d, td, z1', w1, by rw [z4]; exact w2, w3, ?_⟩
      rcases m4 with ⟨u1, _⟩ | ⟨rd, rt, u1, u2, u3⟩
      · rw [z1'] at u1
        cases u1
      · rw [z1'] at u1
        cases u1
        rw [w1] at u2
        have u2 := Value.int.inj (Option.some.inj u2)
        obtain ⟨_, _, _, _, dt⟩ := w2
        rw [m2, u3, ← u2, sdC_T td (dTy_lt dt) dt, etk]
        generalize tt.all sdT = x1
        generalize sdT td = x2
        cases x1 <;> cases x2 <;> rfl
theorem mJ_of (p : PDX L xs cx h s g ts kl ml h' s') (e : MX L xs h s gn A B np m M kk K) (hA : cx 8 ≤ A) (hM : ml[m]? = some M) : mJ L xs h' s' kl.length M m := (mJ_of2 p e hA hM).1
end PDM
