/-! WHAT BOTH HAVE DECLARED IS WHAT BOTH CHECK: kinds; all. -/
section PDK
variable {L : Nat} {xs : Nat → Int32} {w : Nat} {cx g : Nat → Nat} {h h' : rm_H} {s s' : rS} {ts kl ml : List Nat} {d y nk gn A B np fN f0 m M kk K : Nat}
theorem kJ_of (p : PDX L xs cx h s g ts kl ml h' s') (e : KX L xs h s gn A B np fN ml kk K) (hkk : kl[kk]? = some K) (hA : cx 8 ≤ A) (hf : fN ≤ 64) : kJ L xs h' s' kl.length ml kk K := by
  obtain ⟨i, j, nf, ⟨_, _, _, _, c5⟩, _, e26, _, l8, l72, _⟩ := id p
  have kk8 := (List.getElem?_eq_some_iff.mp hkk).1
  obtain ⟨nm, pl, ac, fl, mlK, mk, af, cf, am, cm, fds, mks, f00, m0, k1, k2, k3, k4, k5, ⟨k6, k7, k8, k9⟩, ⟨k10, k11, k12⟩, ⟨k13, k14⟩, ⟨k15, k16⟩, k17, ⟨k18, k19, k19b⟩, k20⟩ := e
  have kf : ∀ j v, fd h 9 K j = some v → fd h' 9 K j = some v := fun j v e => dI_f i e (by unfold bdF; omega)
  have lt0 := (List.getElem?_eq_some_iff.mp k19).1
  have l1 : m0 + 1 + mks.length ≤ ml.length := by
    by_cases c : mks.length = 0
    · omega
    · obtain ⟨d, hd⟩ : ∃ d, mks[mks.length - 1]? = some d := ⟨mks[mks.length - 1]'(by omega), List.getElem?_eq_getElem (by omega)⟩
      have := (List.getElem?_eq_some_iff.mp (k20 _ d hd).2.1).1
      omega
  have r64 : s'.2.1 64 = s.2.1 64 := dj_r j (by decide)
  have r65 : s'.2.1 65 = s.2.1 65 := dj_r j (by decide)
  have r66 : s'.2.1 66 = s.2.1 66 := dj_r j (by decide)
  have r69 : s'.2.1 69 = s.2.1 69 := dj_r j (by decide)
  have r70 : s'.2.1 70 = s.2.1 70 := dj_r j (by decide)
  have r72 : s'.2.1 72 = s.2.1 72 := dj_r j (by decide)
  have r71 : s'.2.1 71 = s.2.1 71 := dj_r j (by decide)
  have r67 : s'.2.2 67 = s.2.2 67 := by rw [j.2.2]
  have r78 : s'.2.2 78 = s.2.2 78 := by rw [j.2.2]
  have r62 : s'.2.2 62 = s.2.2 62 := by rw [j.2.2]
  have n64 : nn s 64 kk = f00 ∧ nn s 64 (kk + 1) = f00 + fds.length := ⟨nn_of k6 (by omega), nn_of k7 (by omega)⟩
  have n65 : nn s 65 kk = m0 ∧ nn s 65 (kk + 1) = m0 + 1 + mks.length := ⟨nn_of k10 (by omega), nn_of k11 (by omega)⟩
  have dF : ∀ a b, a < fds.length → b < fds.length → s.2.2 67 (f00 + a) = s.2.2 67 (f00 + b) → a = b := rp_no (gg := s.2.1 68) (fun x y z => nf x y (Or.inl (Or.inl (Or.inl (Or.inr ⟨kk, kk8, Or.inr (Or.inl (by rw [n64.1, n64.2]; exact z))⟩)))))
  have dM' : ∀ a b, a < mks.length → b < mks.length → s.2.2 78 (m0 + 1 + a) = s.2.2 78 (m0 + 1 + b) → a = b := rp_no (gg := s.2.1 74) (fun x y z => nf x y (Or.inl (Or.inl (Or.inl (Or.inr ⟨kk, kk8, Or.inr (Or.inr (by rw [n65.1, n65.2]; exact z))⟩)))))
  unfold kJ
  rw [r64, r65, r66, r69, r70, r71, r72, r67, r78, r62]
  refine ⟨⟨ac, kf _ _ (by rw [fd_of k1]; rfl), k4, k5⟩, kf _ _ (by rw [fd_of k1]; rfl), ⟨fl, af, cf, fds, f00, kf _ _ (by rw [fd_of k1]; rfl), dI_aL i k13, k6, k7, k8, by omega, dF, fun i' d hd => ?_⟩, mk, mlK, am, cm, mks, m0, fun i' => s.2.1 74 (m0 + 1 + i'), kf _ _ (by rw [fd_of k1]; rfl), kf _ _ (by rw [fd_of k1]; rfl), k10, k11, by omega, ⟨dI_aL i k15, by omega, by omega, fun i' d hd => ?_⟩, dM', mJ_of p k18 hA k19, k19b, fun i' d hd => ⟨mJ_of p (k20 i' d hd).1 hA (k20 i' d hd).2.1, fun z1 z2 => ?_⟩, k19, fun i' d hd => (k20 i' d hd).2.1, fun i' hi' => ?_, ⟨nm, kf _ _ (by rw [fd_of k1]; rfl), dI_n i k2⟩, ?_⟩
  · obtain ⟨⟨⟨nq, z1, z2⟩, z3, z4, y, z5, z6, z7⟩, z8⟩ := k17 i' d hd
    obtain ⟨td, w1, w2, w3, _⟩ := tyJ p (Nat.le_trans hA z8) z7 z6
    exact ⟨td, ⟨⟨nq, dI_f i z1 (by unfold bdF; omega), dI_n i z2⟩, dI_f i z4 (by unfold bdF; omega), w1⟩, by rw [z5]; exact w2, w3⟩
  · obtain ⟨⟨lo, hi, pl', ph, x, a1, _⟩, _, n0, _⟩ := k20 i' d hd
    obtain ⟨⟨so, b1, b2, b3, b4, b5⟩, b6, b7, b8, b9, _⟩ := a1
    have k11' : ∀ j v, j ≠ 12 → j ≠ 13 → fd h 11 d j = some v → fd h' 11 d j = some v := fun j v h1 h2 e => dI_f i e (by unfold bdF; omega)
    rcases b4 with ⟨z1, _⟩ | ⟨_, nq, z1, z2⟩
    · rw [b3, z1] at n0
      exact absurd rfl n0
    · exact ⟨⟨nq, k11' _ _ (by decide) (by decide) z1, dI_n i z2⟩, by show fd h' 11 d 0 = some (.int (s.2.1 70 (m0 + 1 + i'))); rw [b3]; exact k11' _ _ (by decide) (by decide) b2, k11' _ _ (by decide) (by decide) b9, k11' _ _ (by decide) (by decide) b8⟩
  · refine Decidable.byContradiction (fun c => ?_)
    obtain ⟨⟨lo, hi, pl', ph, x, a1, _⟩, hm, n0, _⟩ := k20 i' d hd
    have lt := (List.getElem?_eq_some_iff.mp hm).1
    have n71 : nn s 71 (m0 + 1 + i') = kk := nn_of a1.2.2.1 (by omega)
    exact nf 4 (s.2.1 73 (m0 + 1 + i')) (Or.inl (Or.inl (Or.inr ⟨m0 + 1 + i', lt, Or.inr (Or.inl ⟨by rw [n71, z1]; decide, z2, c, rfl, rfl⟩)⟩)))
  · cases i' with
    | zero =>
      obtain ⟨lo, hi, pl', ph, x, a1, _⟩ := k18
      exact a1.2.2.1
    | succ i' =>
      obtain ⟨d, hd⟩ : ∃ d, mks[i']? = some d := ⟨mks[i']'(by omega), List.getElem?_eq_getElem (by omega)⟩
      obtain ⟨⟨lo, hi, pl', ph, x, a1, _⟩, _⟩ := k20 i' d hd
      rw [show m0 + (i' + 1) = m0 + 1 + i' from by omega]
      exact a1.2.2.1
  · obtain ⟨lo, hi, pl', ph, x, a1, _⟩ := k18
    obtain ⟨⟨so, b1, b2, b3, b4, b5⟩, _⟩ := a1
    rcases b4 with ⟨_, z1, _⟩ | ⟨z0, _⟩
    · exact dI_f i z1 (by unfold bdF; omega)
    · have so3 : ∀ so, so < 3 → Int32.ofNat so = 0 → so = 0 := by decide
      exact absurd (so3 so b1 (b3.symm.trans k19b)) z0
/-- every method is of a kind -/
theorem mx_all2 (hl : ml.length ≤ 72) (h0 : s.2.1 65 0 = 0) (hn : s.2.1 65 kl.length = Int32.ofNat ml.length) (e : ∀ j K, kl[j]? = some K → KX L xs h s gn A B np f0 ml j K) : ∀ m M, ml[m]? = some M → ∃ kk K, kl[kk]? = some K ∧ MX L xs h s gn A B np m M kk K ∧ (s.2.1 66 kk = 0 → s.2.1 70 m = 0 ∨ s.2.1 70 m = 1) ∧ (s.2.1 65 kk = Int32.ofNat m ∨ s.2.1 70 m ≠ 0) := by
  have cov : ∀ n, n ≤ kl.length → ∀ m, m < nn s 65 n → ∃ kk K, kl[kk]? = some K ∧ ∃ M, ml[m]? = some M ∧ MX L xs h s gn A B np m M kk K ∧ (s.2.1 66 kk = 0 → s.2.1 70 m = 0 ∨ s.2.1 70 m = 1) ∧ (s.2.1 65 kk = Int32.ofNat m ∨ s.2.1 70 m ≠ 0) := by
    intro n
    induction n with
    | zero =>
      intro _ m hm
      have : nn s 65 0 = 0 := by unfold nn; rw [h0]; rfl
      omega
    | succ n ih =>
      intro hn m hm
      obtain ⟨K, hK⟩ : ∃ K, kl[n]? = some K := ⟨kl[n]'(by omega), List.getElem?_eq_getElem (by omega)⟩
      obtain ⟨m0', m1, a1, a2, a3, a4, a5⟩ := kx_m hl (e n K hK)
      have v : nn s 65 n = m0' ∧ nn s 65 (n + 1) = m1 := ⟨by unfold nn; rw [a1, of_clamp (by omega)], by unfold nn; rw [a2, of_clamp (by omega)]⟩
      by_cases z : m < m0'
      · exact ih (by omega) m (by omega)
      · obtain ⟨M, hM, mx⟩ := a5 m (by omega) (by omega)
        refine ⟨n, K, hK, M, hM, mx, ?_⟩
        obtain ⟨nm, pl, ac, fl, mlK, mk, af, cf, am, cm, fds, mks, f00, m0, k1, k2, k3, k4, k5, _, ⟨k10, k11, k12⟩, _, _, _, ⟨k18, k19, k19b⟩, k20⟩ := e n K hK
        have lt := (List.getElem?_eq_some_iff.mp k19).1
        have em : m0 = m0' := by
          have := congrArg Int32.toInt (k10.symm.trans a1)
          rw [of_int (by omega), of_int (by omega)] at this
          omega
        have em1 : m0 + 1 + mks.length = m1 := by
          have := congrArg Int32.toInt (k11.symm.trans a2)
          rw [of_int (by omega), of_int (by omega)] at this
          omega
        by_cases q : m = m0
        · rw [q]
          exact ⟨fun _ => Or.inl k19b, Or.inl k10⟩
        · obtain ⟨d, hd⟩ : ∃ d, mks[m - (m0 + 1)]? = some d := ⟨mks[m - (m0 + 1)]'(by omega), List.getElem?_eq_getElem (by omega)⟩
          have w := (k20 _ d hd).2.2
          rw [show m0 + 1 + (m - (m0 + 1)) = m from by omega] at w
          exact ⟨fun z0 => Or.inr (w.2 (k4.symm.trans z0)), Or.inr w.1⟩
  intro m M hM
  have lt := (List.getElem?_eq_some_iff.mp hM).1
  obtain ⟨kk, K, z1, M', z2, z3⟩ := cov kl.length (Nat.le_refl _) m (by unfold nn; rw [hn, of_clamp (by omega)]; exact lt)
  rw [hM] at z2
  cases z2
  exact ⟨kk, K, z1, z3⟩
/-- a method's body -/
theorem MF_of (p : PDX L xs cx h s g ts kl ml h' s') (e : MX L xs h s (g 4) A (21 + h.length) np m M kk K) (hA : cx 8 < A) (hM : ml[m]? = some M) (x42 : s.1 42 = Int32.ofNat ml.length) : ∃ lo hi c, MF L xs cx h' s' (g 4) ml.length m M lo hi c := by
  have sd := (mJ_of2 p e (Nat.le_of_lt hA) hM).2
  obtain ⟨i, j, nf, ⟨_, _, _, c4, _⟩, _, e26, _, l8, l72, g29, c20⟩ := id p
  obtain ⟨lo, hi, pl, ph, x, a1, a2, a3, a4, a5, a6, a7, a8, a9⟩ := e
  obtain ⟨⟨so, b1, b2, b3, b4, b5⟩, b6, b7, b8, b9, _, d1, ⟨Bb, bb, cc, lo', hi', pl', ph', u1, u2, u3, u4, u5, u6, u7, u8, u9, u10, u11, u12, u13, nl, np', en, ha, w1, w2, w3, w4, w5, w6, w7, w8⟩⟩ := a1
  have k11 : ∀ j v, j ≠ 12 → j ≠ 13 → fd h 11 M j = some v → fd h' 11 M j = some v := fun j v h1 h2 e => dI_f i e (by unfold bdF; omega)
  have r44 : s'.2.1 44 = s.2.1 44 := dj_r j (by decide)
  have r45 : s'.2.1 45 = s.2.1 45 := dj_r j (by decide)
  have r49 : s'.2.1 49 = s.2.1 49 := dj_r j (by decide)
  have r54 : s'.2.1 54 = s.2.1 54 := dj_r j (by decide)
  have r70 : s'.2.1 70 = s.2.1 70 := dj_r j (by decide)
  have r75 : s'.2.1 75 = s.2.1 75 := dj_r j (by decide)
  have r76 : s'.2.1 76 = s.2.1 76 := dj_r j (by decide)
  have r77 : s'.2.1 77 = s.2.1 77 := dj_r j (by decide)
  have len : h'.length = h.length := i.1
  have v53 : ∀ n, s.2.1 44 n = 20 → s'.2.1 53 n = s.2.1 53 n := fun n e => c4 n (fun z => by rw [e] at z; exact absurd z.2.2 (by decide))
  have h31 := a3.1
  have h32 := a3.2.1
  have h33 := a3.2.2
  have nr : NRz L xs h' s' 49 1 (hi' - lo') lo' hi' pl' ph' cc Bb := NRz_nb (LO := lo') (HI := hi') (nb7_d i) (rN_d j c4) 49 1 _ _ _ _ _ _ _ u13 (Nat.le_refl _) (Nat.le_refl _)
  refine ⟨lo', hi', cc, pl', ph', Bb, bb, nr, ⟨by omega, by omega, by omega⟩, k11 _ _ (by decide) (by decide) u1, ⟨⟨en, k11 _ _ (by decide) (by decide) w6⟩, by omega, by rw [r44]; exact u9, by rw [r49]; exact u11, by rw [r54]; exact u12, sd, nl, np', w1.1, w3, k11 _ _ (by decide) (by decide) w2, by rw [r77]; exact w4, fun n n1 n2 n3 => by rw [r44] at n3; obtain ⟨sl, t1, t2, t3, t4, _⟩ := w5 n n1 n2 n3; exact ⟨sl, t1, by rw [v53 n n3]; exact t2, t3, t4⟩⟩, by rw [r76]; exact u2, u4, u5, by omega, by rw [r45]; exact u10, by rw [r75, r70]; exact w1.2, ⟨np', by have := w1.1; omega, by rw [r77]; exact w4, fun n n1 n2 n3 => ?_⟩, fun n n' n1 n2 n3 n4 n5 => ?_, fun m2 b2 h1 h2 h3 h4 => ?_⟩
  · rw [r44] at n3
    obtain ⟨sl, t1, t2, t3, t4, _⟩ := w5 n n1 n2 n3
    exact ⟨sl, t4, by rw [v53 n n3]; exact t2, t3⟩
  · rw [r44] at n4 n5
    obtain ⟨sl, _, _, _, _, t5⟩ := w5 n (by omega) n3 n4
    have q := t5 n' n1 n2 n5
    rw [v53 n n4, v53 n' n5]
    intro z
    rw [z] at q
    omega
  · rw [r76] at h3
    have q := h32 m2 b2 h1 (by rw [x42, of_int (by omega)]; omega) h3 h4
    omega
/-- all that is declared -/
theorem DCX_of (p : PDX L xs cx h s g ts kl ml h' s') (n0 : kl.length ≠ 0) (kj : ∃ A f0 np, s.1 42 = Int32.ofNat ml.length ∧ s.2.1 65 kl.length = s.1 42 ∧ s.2.1 65 0 = 0 ∧ (s.2.1 64 kl.length = s.1 38 ∧ s.2.1 64 0 = 0) ∧ f0 ≤ 8 * kl.length ∧ (∀ (j K : Nat), kl[j]? = some K → KX L xs h s (g 4) A (21 + h.length) np f0 ml j K) ∧ cx 8 < A) (e9 : ∃ a9 c9, aL h (cx 9) a9 c9 kl) (e10 : ∃ a10 c10, aL h (cx 10) a10 c10 ml) (e32 : s.1 32 = Int32.ofNat kl.length) (hw : 4600 ≤ w) (tk : nTk s' ∧ s'.1 10 = Int32.ofNat (g 4)) : DCX L xs w cx h' s' kl.length (g 4) kl ml := by
  obtain ⟨i, j, nf, ⟨_, _, c3, c4, _⟩, _, e26, _, l8, l72, g29, c20⟩ := id p
  obtain ⟨A, f0, np, j2, q3, q5, q64, j4, j9, hA⟩ := kj
  obtain ⟨a9, c9, e9⟩ := e9
  obtain ⟨a10, c10, e10⟩ := e10
  have all := mx_all2 (by omega) q5 (q3.trans j2) j9
  have r66 : s'.2.1 66 = s.2.1 66 := dj_r j (by decide)
  have r44 : s'.2.1 44 = s.2.1 44 := dj_r j (by decide)
  have r70 : s'.2.1 70 = s.2.1 70 := dj_r j (by decide)
  have r71 : s'.2.1 71 = s.2.1 71 := dj_r j (by decide)
  have r65 : s'.2.1 65 = s.2.1 65 := dj_r j (by decide)
  have r77 : s'.2.1 77 = s.2.1 77 := dj_r j (by decide)
  have mn : mnX s' kl.length ml.length (g 4) := by
    refine ⟨?_, fun k m0 m hk hm h1 h2 h3 => ?_, tk⟩
    · apply Classical.byContradiction
      intro z
      refine nf 3 (s.1 3) (Or.inr ⟨fun k hk => ?_, rfl, rfl⟩)
      apply Classical.byContradiction
      intro z2
      obtain ⟨_, q2, _⟩ := kF_some hk
      have hk' : k < kl.length := by omega
      obtain ⟨K, hK⟩ : ∃ K, kl[k]? = some K := ⟨kl[k]'hk', List.getElem?_eq_getElem hk'⟩
      obtain ⟨nm, pl, ac, fl, mlK, mk, af, cf, am, cm, fds, mks, f00, m0, k1, k2, k3, k4, k5, _, ⟨k10, k11, k12⟩, _, _, _, ⟨k18, k19, k19b⟩, k20⟩ := j9 k K hK
      have lt := (List.getElem?_eq_some_iff.mp k19).1
      obtain ⟨_, _, _, _, l, ar, cap, ps, us, p0, _, _, _, _, pm, _⟩ := mJ_of p k18 (Nat.le_of_lt hA) k19
      obtain ⟨p1, x1, x2, x3, _⟩ := id pm
      rw [r77] at x1 x2
      have n65 : nn s 65 k = m0 := by
        unfold nn
        rw [k10, of_clamp (by omega)]
      have us0 : us = [] := by
        cases us with
        | nil => rfl
        | cons a r =>
          have x4 : p1 + (r.length + 1) ≤ 440 := x3
          have x5 : s.2.1 77 (m0 + 1) = Int32.ofNat (p1 + (r.length + 1)) := x2
          refine absurd (Or.inr ?_) z2
          rw [n65]
          unfold nn
          rw [x1, x5, of_clamp (by omega), of_clamp (by omega)]
          omega
      refine z ⟨k, by rw [j.2.2]; exact hk, ?_, fun m hm e => ?_⟩
      · rw [r66, k4]
        rcases k5 with c | c
        · exact absurd (Or.inl (k4.trans c)) z2
        · exact c
      · rw [r65] at e
        have em : m = m0 := by
          have := congrArg Int32.toInt (e.symm.trans k10)
          rw [of_int (by omega), of_int (by omega)] at this
          omega
        rw [em, ← us0]
        exact pm
    · obtain ⟨M, hM⟩ : ∃ M, ml[m]? = some M := ⟨ml[m]'hm, List.getElem?_eq_getElem hm⟩
      obtain ⟨kk, K, z1, z2, z3, z4⟩ := all m M hM
      rw [r65] at h2
      rw [r71] at h3
      rw [r70]
      obtain ⟨lo, hi, pl, ph, x, a1, _⟩ := z2
      have e71 := a1.2.2.1
      have lk := (List.getElem?_eq_some_iff.mp z1).1
      have ek : kk = k := by
        have := congrArg Int32.toInt (e71.symm.trans h3)
        rw [of_int (by omega), of_int (by omega)] at this
        omega
      rcases z4 with z4 | z4
      · exfalso
        rw [ek] at z4
        have := congrArg Int32.toInt (h2.symm.trans z4)
        rw [of_int (by omega), of_int (by omega)] at this
        omega
      · exact z4
  refine ⟨⟨⟨a9, c9, dI_aL i e9⟩, rfl, l8, by rw [j.1 32 (by decide) (by decide)]; exact e32, fun k K hk => kJ_of p (j9 k K hk) hk (Nat.le_of_lt hA) (by omega)⟩, fun m M hM => ?_, DTY_d p, fun n n1 n2 n3 => ?_, tcs_d p, fun d v hd ed => ?_, fun k hk => ?_, g29, hw, by omega, l72, ⟨a10, c10, dI_aL i e10⟩, ⟨by rw [j.1 42 (by decide) (by decide)]; exact j2, by rw [j.1 38 (by decide) (by decide), dj_r j (by decide)]; exact q64.1, by rw [dj_r j (by decide)]; exact q64.2, mn⟩, fun m M hM => ?_⟩
  · obtain ⟨kk, K, z1, z2, z3, _⟩ := all m M hM
    refine ⟨mJ_of p z2 (Nat.le_of_lt hA) hM, kk, K, z1, ?_, ?_, by rw [r66, r70]; exact z3⟩
    · obtain ⟨lo, hi, pl, ph, x, a1, _⟩ := z2
      exact dI_f i a1.2.1 (by unfold bdF; omega)
    · obtain ⟨lo, hi, pl, ph, x, a1, _⟩ := z2
      rw [r71]
      exact a1.2.2.1
  · rw [r44] at n3
    rw [j.2.2]
    exact c3 n n1 n2 n3
  · obtain ⟨fs, e1, _⟩ := fd_c ed
    obtain ⟨_, _, _, _, _, _, z2, _⟩ := DTY_d p d fs hd.1 hd.2 e1
    exact ⟨_, z2⟩
  · obtain ⟨K, hK⟩ : ∃ K, kl[k]? = some K := ⟨kl[k]'hk, List.getElem?_eq_getElem hk⟩
    obtain ⟨nm, pl, ac, fl, mlK, mk, af, cf, am, cm, fds, mks, f00, m0, k1, k2, k3, k4, k5, _⟩ := j9 k K hK
    rw [r66, k4]
    exact k5
  · obtain ⟨kk, K, z1, z2, z3⟩ := all m M hM
    exact MF_of p z2 hA hM j2
end PDK
