/-! METHODS, WHAT IS BEHIND NEW, AND MAIN ARE DECLARED BY THE REFERENCE. -/
/-- where the parameters of method m lie, and their types -/
def mRg (s : rS) (nk m : Nat) : Prop := ∃ kk p0 p1, s.2.1 71 m = Int32.ofNat kk ∧ kk < 8 ∧ s.2.1 77 m = Int32.ofNat p0 ∧ s.2.1 77 (m + 1) = Int32.ofNat p1 ∧ p0 ≤ p1 ∧ p1 ≤ 440 ∧ ∀ i, p0 ≤ i → i < p1 → ∃ y, y < 2000 ∧ s.2.1 81 i = Int32.ofNat y ∧ tcR s nk (dyK s nk y).1 (s.2.1 60 y)
/-- what is written behind new, at node n -/
def mdK (s : rS) (nk n : Nat) : Int32 × Option (Int32 × Int32) := dkF s nk 1 (some (s.2.2 56 n)) (s.2.1 54 n) (s.2.1 55 n) (s.2.1 51 n)
/-- rows of MADE nodes are written -/
def eJ (s s' : rS) : Prop := (∀ j, j ≠ 57 → j ≠ 58 → s'.1 j = s.1 j) ∧ (∀ p, p ≠ 53 → s'.2.1 p = s.2.1 p) ∧ s'.2.2 = s.2.2
section RD
variable {w k n nk nm m : Nat} {s0 sB s s1 s2 : rS} {S T : Int32 → Int32 → Prop}
theorem r_meth (hm : m < 72) (h8 : nk ≤ 8) (e : mRg sB nk m) (ns : nJF sB s) (p : rmn S s) (hw : 500 ≤ w) : ∃ s', (rM w (k + 3) 330 [.ref 36, .int (Int32.ofNat m)] s).bind rxV = some s' ∧ nJF s s' ∧ rmn (fun u v => S u v ∨ mS sB nk m u v) s' := by
  obtain ⟨kk, p0, p1, e1, e2, e3, e4, e5, e6, e7⟩ := e
  have v71 : nn sB 71 m = kk := by unfold nn; rw [e1, of_clamp (by omega)]
  have v77 : nn sB 77 m = p0 ∧ nn sB 77 (m + 1) = p1 := ⟨by unfold nn; rw [e3, of_clamp (by omega)], by unfold nn; rw [e4, of_clamp (by omega)]⟩
  have row : ∀ (s1 : rS) (p : Nat), nJF sB s1 → (37 ≤ p ∧ p ≤ 114) → rs_t p = (0, 72, false) → rs_aI s1 p (Int32.ofNat m) = some (sB.2.1 p m) := fun s1 p n1 h1 h2 => by
    rw [aI_at h1 h2 hm (by decide), n1.1]
  have g71 : rs_aI s 71 (Int32.ofNat m) = some (Int32.ofNat kk) := by rw [row s 71 ns (by decide) rfl, e1]
  have g66 : rs_aB s 66 (Int32.ofNat kk) = some (sB.2.1 66 kk) := by rw [aB_at (by decide) rfl e2 (by decide), ns.1]
  have tail : ∀ (s3 : rS) (S3 : Int32 → Int32 → Prop), nJF s s3 → rmn S3 s3 → (∀ u v, S3 u v ↔ (S u v ∨ (sB.2.1 66 (nn sB 71 m) ≠ 0 ∧ sB.2.1 70 m = 1 ∧ sB.2.1 72 m ≠ 2 ∧ u = 4 ∧ v = sB.2.1 73 m))) → ∃ s', s330_47 (rM w (k + 2)) w (Int32.ofNat m) (sB.2.1 66 kk) s3 = some (none, s') ∧ nJF s s' ∧ rmn (fun u v => S u v ∨ mS sB nk m u v) s' := by
    intro s3 S3 n3 p3 hS
    have ns3 := nJF_trans ns n3
    obtain ⟨s', q1, q2, q3⟩ := r_lp_p (w := w) (k := k) (S := S3) (z := sB.2.1 66 kk) hm e6 h8 e4 e3 e7 hw (p1 - p0) p0 w s3 (by omega) (by omega) (by omega) ns3 (mn_ext (fun u v => ⟨Or.inl, fun z => by
      rcases z with z | ⟨i, z1, z2, _⟩ | ⟨_, _, i, z1, z2, _⟩
      · exact z
      · omega
      · omega⟩) p3)
    refine ⟨s', ?_, nJF_trans n3 q2, mn_ext (fun u v => ?_) q3⟩
    · unfold s330_47
      refine bsq ?_ q1
      rw [aI_at (by decide) rfl (by omega) (by decide), ns3.1, e3]
    · rw [hS]
      unfold mS spR
      rw [v77.1, v77.2, v71]
      constructor
      · rintro ((z | z) | z | z)
        · exact Or.inl z
        · exact Or.inr (Or.inr (Or.inl z))
        · exact Or.inr (Or.inl z)
        · exact Or.inr (Or.inr (Or.inr z))
      · rintro (z | z | z | z)
        · exact Or.inl (Or.inl z)
        · exact Or.inr (Or.inl z)
        · exact Or.inl (Or.inr z)
        · exact Or.inr (Or.inr z)
  have wrap : ∀ s', s330_0 (rM w (k + 2)) w (Int32.ofNat m) s = some (none, s') → (rM w (k + 3) 330 [.ref 36, .int (Int32.ofNat m)] s).bind rxV = some s' := by
    intro s' e
    rw [y330]
    show (s330_0 (rM w (k + 2)) w (Int32.ofNat m) s).bind rxV = _
    rw [e]
    rfl
  have none' : (∀ u v : Int32, ¬ (sB.2.1 66 (nn sB 71 m) ≠ 0 ∧ sB.2.1 70 m = 1 ∧ sB.2.1 72 m ≠ 2 ∧ u = 4 ∧ v = sB.2.1 73 m)) → ∃ s', s330_47 (rM w (k + 2)) w (Int32.ofNat m) (sB.2.1 66 kk) s = some (none, s') ∧ nJF s s' ∧ rmn (fun u v => S u v ∨ mS sB nk m u v) s' := fun no => tail s _ nJF_refl p (fun u v => ⟨Or.inl, fun z => z.elim id (fun z => absurd z (no u v))⟩)
  have g70 := row s 70 ns (by decide) rfl
  have g72 := row s 72 ns (by decide) rfl
  have g73 := row s 73 ns (by decide) rfl
  by_cases c1 : sB.2.1 66 kk = 0
  · obtain ⟨s', t1, t2⟩ := none' (fun u v z => z.1 (by rw [v71]; exact c1))
    refine ⟨s', wrap _ ?_, t2⟩
    unfold s330_0
    exact bsq g71 (bsq g66 (itq (by rw [c1]; decide) t1))
  have n1 : ¬ mx_f1 .eq (sB.2.1 66 kk) = true := by rw [f1_eqd]; exact fun z => c1 (of_decide_eq_true z)
  by_cases c2 : sB.2.1 70 m = 1
  · have n2 : ¬ mx_f2 .ne (sB.2.1 70 m) 1 = true := by rw [c2]; decide
    by_cases c3 : sB.2.1 72 m = 2
    · obtain ⟨s', t1, t2⟩ := none' (fun u v z => z.2.2.1 c3)
      refine ⟨s', wrap _ ?_, t2⟩
      unfold s330_0
      exact bsq g71 (bsq g66 (inq n1 (bsq g70 (inq n2 (bsq g72 (itq (by rw [c3]; decide) t1))))))
    · have n3 : ¬ mx_f2 .eq (sB.2.1 72 m) 2 = true := by rw [f2_eqd]; exact fun z => c3 (of_decide_eq_true z)
      obtain ⟨s3, w1, w2, _, w3⟩ := r_noteF (w := w) (k := k + 1) p 4 (sB.2.1 73 m) (by decide)
      obtain ⟨s', t1, t2⟩ := tail s3 _ w2 w3 (fun u v => ⟨fun z => z.elim Or.inl (fun z => Or.inr ⟨by rw [v71]; exact c1, c2, c3, z⟩), fun z => z.elim Or.inl (fun z => Or.inr z.2.2.2)⟩)
      refine ⟨s', wrap _ ?_, t2⟩
      unfold s330_0
      exact bsq g71 (bsq g66 (inq n1 (bsq g70 (inq n2 (bsq g72 (inq n3 (bsq g73 (bsq (a := s3) (by rw [w1]; rfl) t1))))))))
  · obtain ⟨s', t1, t2⟩ := none' (fun u v z => c2 z.2.1)
    refine ⟨s', wrap _ ?_, t2⟩
    unfold s330_0
    exact bsq g71 (bsq g66 (inq n1 (bsq g70 (itq (by rw [f2_ne]; exact decide_eq_true c2) t1))))
theorem r_meths_l (e42 : sB.1 42 = Int32.ofNat nm) (hn : nm ≤ 72) (h8 : nk ≤ 8) (mr : ∀ m, m < nm → mRg sB nk m) (hw : 500 ≤ w) : ∀ (m i N : Nat) (s : rS), i + m = nm → m < N → nJF sB s → rmn (fun u v => S u v ∨ ∃ j, j < i ∧ mS sB nk j u v) s → ∃ s', s326_229 (rM w (k + 3)) w N (Int32.ofNat i) s = s326_250 (rM w (k + 3)) w w 1 s' ∧ nJF s s' ∧ rmn (fun u v => S u v ∨ ∃ j, j < nm ∧ mS sB nk j u v) s' := by
  intro m
  induction m with
  | zero =>
    intro i N s e hN ns p
    obtain ⟨N, rfl⟩ : ∃ M, N = M + 1 := ⟨N - 1, by omega⟩
    have ei : i = nm := by omega
    subst ei
    refine ⟨s, ?_, nJF_refl, p⟩
    rw [s326_229, ns.2 42 (by decide) (by decide), e42]
    refine itq ?_ rfl
    rw [f2_ge]
    simp
  | succ m ih =>
    intro i N s e hN ns p
    obtain ⟨N, rfl⟩ : ∃ M, N = M + 1 := ⟨N - 1, by omega⟩
    obtain ⟨s2, r1, r2, r3⟩ := r_meth (w := w) (k := k) (show i < 72 by omega) h8 (mr i (by omega)) ns p hw
    obtain ⟨s3, q1, q2, q3⟩ := ih (i + 1) N s2 (by omega) (by omega) (nJF_trans ns r2) (mn_ext (fun u v => by
      constructor
      · rintro ((z | ⟨j, z1, z2⟩) | z)
        · exact Or.inl z
        · exact Or.inr ⟨j, by omega, z2⟩
        · exact Or.inr ⟨i, by omega, z⟩
      · rintro (z | ⟨j, z1, z2⟩)
        · exact Or.inl (Or.inl z)
        · by_cases z : j = i
          · rw [z] at z2
            exact Or.inr z2
          · exact Or.inl (Or.inr ⟨j, by omega, z2⟩)) r3)
    refine ⟨s3, ?_, nJF_trans r2 q2, q3⟩
    rw [s326_229, ns.2 42 (by decide) (by decide), e42]
    refine inq ?_ (bsq r1 ?_)
    · rw [f2_ge, of_int (by omega), of_int (by omega)]
      simp
      omega
    · rw [show Int32.ofNat i + 1 = Int32.ofNat (i + 1) from of_add i 1]
      exact q1
theorem eJ_refl : eJ s s := ⟨fun _ _ _ => rfl, fun _ _ => rfl, rfl⟩
theorem eJ_trans (a : eJ s s1) (b : eJ s1 s2) : eJ s s2 := ⟨fun j h1 h2 => (b.1 j h1 h2).trans (a.1 j h1 h2), fun p h => (b.2.1 p h).trans (a.2.1 p h), b.2.2.trans a.2.2⟩
theorem nJF_eJ (a : nJF s s1) : eJ s s1 := ⟨a.2, fun p _ => by rw [a.1], by rw [a.1]⟩
theorem mdK_J (d : eJ s0 s) : mdK s nk n = mdK s0 nk n := by
  obtain ⟨d1, d2, d3⟩ := d
  unfold mdK dkF
  rw [d3, d2 54 (by decide), d2 55 (by decide), d2 51 (by decide), d2 66 (by decide)]
/-- the reference's end: Main -/
theorem r_main (kw : kW sB nk) (kg : ∀ j, j < nk → ∃ m0 p0 p1, sB.2.1 65 j = Int32.ofNat m0 ∧ m0 < 72 ∧ sB.2.1 77 m0 = Int32.ofNat p0 ∧ sB.2.1 77 (m0 + 1) = Int32.ofNat p1 ∧ p0 ≤ 440 ∧ p1 ≤ 440) (es : eJ sB s) (p : rmn S s) (e10 : sB.1 10 = Int32.ofNat n) (hw : 500 ≤ w) (N : Nat) : ∃ s', s326_250 (rM w (k + 3)) w (N + 1) (Int32.ofNat n) s = some (none, s') ∧ nJF s s' ∧ rmn (fun u v => S u v ∨ maS sB nk u v) s' := by
  obtain ⟨k1, k2, k3⟩ := kw
  have fn := r_find (w := w) (k := k + 2) (c := 1298229614) ((es.1 32 (by decide) (by decide)).trans k1) k2 (by omega)
  rw [es.2.2] at fn
  have ge : mx_f2 .ge (Int32.ofNat n) (s.1 10) = true := by
    rw [es.1 10 (by decide) (by decide), e10, f2_ge]
    simp
  have bad : (∀ k, kF (sB.2.2 62) 1298229614 nk 0 = some k → sB.2.1 66 k = 0 ∨ nn sB 77 (nn sB 65 k) < nn sB 77 (nn sB 65 k + 1)) → ∃ s', s326_394 (rM w (k + 3)) w s = some (none, s') ∧ nJF s s' ∧ rmn (fun u v => S u v ∨ maS sB nk u v) s' := by
    intro hb
    obtain ⟨s3, w1, w2, _, w3⟩ := r_noteF (w := w) (k := k + 2) p 3 (s.1 3) (by decide)
    refine ⟨s3, bse (a := s3) (by rw [w1]; rfl) rfl, w2, mn_ext (fun u v => ?_) w3⟩
    unfold maS
    rw [es.1 3 (by decide) (by decide)]
    exact ⟨fun z => z.elim Or.inl (fun z => Or.inr ⟨hb, z⟩), fun z => z.elim Or.inl (fun z => Or.inr z.2)⟩
  rw [s326_250]
  generalize hkf : kF (sB.2.2 62) 1298229614 nk 0 = kf at fn bad
  cases kf with
  | none =>
    obtain ⟨s', b1, b2⟩ := bad (fun k z => by cases z)
    exact ⟨s', itq ge (bsq (a := (kI none, s)) (by rw [fn]; rfl) (itq (show mx_f2 .eq (kI none) (-1) = true by decide) b1)), b2⟩
  | some kk =>
    obtain ⟨_, kk2, _, _⟩ := kF_some hkf
    obtain ⟨m0, p0, p1, g1, g2, g3, g4, g5, g6⟩ := kg kk (by omega)
    have v65 : nn sB 65 kk = m0 := by unfold nn; rw [g1, of_clamp (by omega)]
    have v77 : nn sB 77 m0 = p0 ∧ nn sB 77 (m0 + 1) = p1 := ⟨by unfold nn; rw [g3, of_clamp (by omega)], by unfold nn; rw [g4, of_clamp (by omega)]⟩
    have o66 : rs_aB s 66 (Int32.ofNat kk) = some (sB.2.1 66 kk) := by rw [aB_at (by decide) rfl (show kk < 8 by omega) (by decide), es.2.1 66 (by decide)]
    have o65 : rs_aI s 65 (Int32.ofNat kk) = some (Int32.ofNat m0) := by rw [aI_at (by decide) rfl (show kk < 9 by omega) (by decide), es.2.1 65 (by decide), g1]
    have o77 : rs_aI s 77 (Int32.ofNat m0) = some (Int32.ofNat p0) := by rw [aI_at (by decide) rfl (show m0 < 73 by omega) (by decide), es.2.1 77 (by decide), g3]
    have o78 : rs_aI s 77 (Int32.ofNat m0 + 1) = some (Int32.ofNat p1) := by rw [show Int32.ofNat m0 + 1 = Int32.ofNat (m0 + 1) from of_add m0 1, aI_at (by decide) rfl (show m0 + 1 < 73 by omega) (by decide), es.2.1 77 (by decide), g4]
    have nm1 : ¬ mx_f2 .eq (kI (some kk)) (-1) = true := by rw [f2_eqd]; exact fun z => kI_ne (show kk < 8 by omega) (of_decide_eq_true z)
    by_cases q1 : sB.2.1 66 kk = 0
    · obtain ⟨s', b1, b2⟩ := bad (fun k z => by cases z; exact Or.inl q1)
      exact ⟨s', itq ge (bsq (a := (kI (some kk), s)) (by rw [fn]; rfl) (inq nm1 (bsq o66 (itq (by rw [q1]; decide) b1)))), b2⟩
    have n1 : ¬ mx_f1 .eq (sB.2.1 66 kk) = true := by rw [f1_eqd]; exact fun z => q1 (of_decide_eq_true z)
    by_cases q2 : p1 ≤ p0
    · refine ⟨s, itq ge (bsq (a := (kI (some kk), s)) (by rw [fn]; rfl) (inq nm1 (bsq o66 (inq n1 (bsq o65 (bsq o78 (bsq o65 (bsq o77 (itq ?_ rfl))))))))), nJF_refl, mn_ext (fun u v => ⟨Or.inl, fun z => z.elim id (fun z => ?_)⟩) p⟩
      · rw [f2_le, of_int (by omega), of_int (by omega)]
        simp
        omega
      · have := z.1 kk hkf
        rw [v65, v77.1, v77.2] at this
        exact absurd this (fun y => y.elim q1 (by omega))
    · obtain ⟨s', b1, b2⟩ := bad (fun k z => by cases z; right; rw [v65, v77.1, v77.2]; omega)
      refine ⟨s', itq ge (bsq (a := (kI (some kk), s)) (by rw [fn]; rfl) (inq nm1 (bsq o66 (inq n1 (bsq o65 (bsq o78 (bsq o65 (bsq o77 (inq ?_ b1))))))))), b2⟩
      rw [f2_le, of_int (by omega), of_int (by omega)]
      simp
      omega
end RD
