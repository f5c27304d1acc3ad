/-! DECLARE, BY THE REFERENCE: from the beginning to the end. -/
section RF
variable {w k n nk nm gn m j : Nat} {s0 sB s s1 s2 : rS} {S T : Int32 → Int32 → Prop} {u v : Int32}
theorem nn_J {p i : Nat} (hp : p ≠ 53 ∧ p ≠ 60) (d : dJ s0 s) : nn s p i = nn s0 p i := by
  unfold nn
  rw [d.2.1 p hp.1 hp.2]
theorem kS_J (d : dJ s0 s) : kS s j u v ↔ kS s0 j u v := by
  unfold kS
  rw [nn_J (by decide) d, nn_J (by decide) d, nn_J (by decide) d, nn_J (by decide) d, d.2.2, d.2.1 63 (by decide) (by decide), d.2.1 68 (by decide) (by decide), d.2.1 74 (by decide) (by decide)]
theorem mS_J (d : dJ s0 s) : mS s nk j u v ↔ mS s0 nk j u v := by
  have pt : ∀ i, pTy s nk i = pTy s0 nk i := fun i => by
    unfold pTy
    rw [nn_J (by decide) d, dyK_J d]
  unfold mS
  rw [nn_J (by decide) d, nn_J (by decide) d, nn_J (by decide) d, d.2.2, d.2.1 80 (by decide) (by decide), d.2.1 66 (by decide) (by decide), d.2.1 70 (by decide) (by decide), d.2.1 72 (by decide) (by decide), d.2.1 73 (by decide) (by decide)]
  simp only [pt]
theorem maS_J (d : dJ s0 s) : maS s nk u v ↔ maS s0 nk u v := by
  unfold maS
  rw [d.2.2, d.1 3 (by decide) (by decide), d.2.1 66 (by decide) (by decide)]
  constructor
  · rintro ⟨a, b⟩
    refine ⟨fun k hk => ?_, b⟩
    have := a k hk
    rw [nn_J (by decide) d, nn_J (by decide) d, nn_J (by decide) d] at this
    exact this
  · rintro ⟨a, b⟩
    refine ⟨fun k hk => ?_, b⟩
    have := a k hk
    rw [← nn_J (p := 65) (by decide) d, ← nn_J (p := 77) (by decide) d, ← nn_J (p := 77) (by decide) d] at this
    exact this
theorem mdK_dJ (d : dJ s0 s) : mdK s nk j = mdK s0 nk j := by
  unfold mdK dkF
  rw [d.2.2, d.2.1 54 (by decide) (by decide), d.2.1 55 (by decide) (by decide), d.2.1 51 (by decide) (by decide), d.2.1 66 (by decide) (by decide)]
theorem eJ_dJ (e : eJ s s1) : dJ s s1 := ⟨e.1, fun p h1 _ => e.2.1 p h1, e.2.2⟩
/-- where the parameters of method m lie, before their types are found -/
def mRh (s : rS) (n m : Nat) : Prop := ∃ kk p0 p1, s.2.1 71 m = Int32.ofNat kk ∧ kk < 8 ∧ s.2.1 77 m = Int32.ofNat p0 ∧ s.2.1 77 (m + 1) = Int32.ofNat p1 ∧ p0 ≤ p1 ∧ p1 ≤ 440 ∧ ∀ i, p0 ≤ i → i < p1 → ∃ y, y < n ∧ s.2.1 81 i = Int32.ofNat y
theorem r_declare (kw : kW s0 nk) (kr : kRg s0 nk) (e26 : s0.1 26 = Int32.ofNat n) (hn : n ≤ 2000) (yw : ∀ y, y < n → dyW s0 y) (e42 : s0.1 42 = Int32.ofNat nm) (hnm : nm ≤ 72) (mr : ∀ m, m < nm → mRh s0 n m) (e10 : s0.1 10 = Int32.ofNat gn) (hg : 1 ≤ gn ∧ gn ≤ 4000) (kg : ∀ j, j < nk → ∃ m0 p0 p1, s0.2.1 65 j = Int32.ofNat m0 ∧ m0 < 72 ∧ s0.2.1 77 m0 = Int32.ofNat p0 ∧ s0.2.1 77 (m0 + 1) = Int32.ofNat p1 ∧ p0 ≤ 440 ∧ p1 ≤ 440) (f57 : s0.1 57 = 0) (f58 : s0.1 58 = -1) (hw : 4100 ≤ w) : ∃ s', rM w (k + 4) 326 [.ref 36] s0 = some (none, s') ∧ dJ s0 s' ∧ rmn (dSR s0 nk nm n gn) s' ∧ (∀ y, y < n → tcR s0 nk (dyK s0 nk y).1 (s'.2.1 60 y)) ∧ (∀ j, 1 ≤ j → j < gn → s0.2.1 44 j = 8 → s'.2.1 53 j = kI (kF (s0.2.2 62) (s0.2.2 56 j) nk 0)) ∧ ∀ j, ¬ (1 ≤ j ∧ j < gn ∧ s0.2.1 44 j = 8) → s'.2.1 53 j = s0.2.1 53 j := by
  have n8 := kw.2.1
  obtain ⟨sT, a1, t1, t2, t3, t4⟩ := r_types_l (w := w) (k := k + 1) kw e26 hn yw (by omega) n 0 w s0 (by omega) (by omega) ⟨dJ_refl, rfl, by
    unfold rmn
    rw [f57, f58]
    exact mn_0 (fun x y z => by
      obtain ⟨y, z, _⟩ := z
      omega), fun y hy => by omega⟩
  have r64 : ∀ p i, p ≠ 53 → p ≠ 60 → sT.2.1 p i = s0.2.1 p i := fun p i h1 h2 => by rw [t1.2.1 p h1 h2]
  obtain ⟨sK, b1, b2, b3⟩ := r_kinds_l (w := w) (k := k + 2) (sB := sT) (nk := nk) ⟨(t1.1 32 (by decide) (by decide)).trans kr.1, kr.2.1, fun j hj => by
    obtain ⟨f0, f1, m0, m1, q⟩ := kr.2.2 j hj
    refine ⟨f0, f1, m0, m1, ?_⟩
    rw [r64 64 _ (by decide) (by decide), r64 64 _ (by decide) (by decide), r64 65 _ (by decide) (by decide), r64 65 _ (by decide) (by decide)]
    exact q⟩ (by omega) nk 0 w sT (by omega) (by omega) nJF_refl (mn_ext (fun u v => ⟨Or.inl, fun z => by
    rcases z with z | ⟨j, z, _⟩
    · exact z
    · omega⟩) t3)
  have dK := dJ_trans t1 (nJF_dJ b2)
  have mrT : ∀ m, m < nm → mRg sT nk m := by
    intro m hm
    obtain ⟨kk, p0, p1, q1, q2, q3, q4, q5, q6, q7⟩ := mr m hm
    refine ⟨kk, p0, p1, (r64 71 _ (by decide) (by decide)).trans q1, q2, (r64 77 _ (by decide) (by decide)).trans q3, (r64 77 _ (by decide) (by decide)).trans q4, q5, q6, fun i i1 i2 => ?_⟩
    obtain ⟨y, y1, y2⟩ := q7 i i1 i2
    refine ⟨y, by omega, (r64 81 _ (by decide) (by decide)).trans y2, ?_⟩
    rw [dyK_J t1]
    exact (tcR_J t1).mpr (t4 y y1)
  obtain ⟨sM, c1, c2, c3⟩ := r_meths_l (w := w) (k := k) (sB := sT) ((t1.1 42 (by decide) (by decide)).trans e42) hnm n8 mrT (by omega) nm 0 w sK (by omega) (by omega) b2 (mn_ext (fun u v => ⟨Or.inl, fun z => by
    rcases z with z | ⟨j, z, _⟩
    · exact z
    · omega⟩) b3)
  have nTM := nJF_trans b2 c2
  have dM := dJ_trans t1 (nJF_dJ nTM)
  obtain ⟨sN, N', d1, d2, d3, d4, d5⟩ := r_made_l (w := w) (k := k) (sB := sM) (nk := nk) (kW_J dM kw) ((dM.1 10 (by decide) (by decide)).trans e10) hg.2 (by omega) (gn - 1) 1 w sM (by omega) (by omega) (by omega) ⟨eJ_refl, mn_ext (fun u v => ⟨Or.inl, fun z => by
    rcases z with z | ⟨j, ⟨z1, z2, _⟩, _⟩
    · exact z
    · omega⟩) c3, fun j h1 h2 => by omega, fun j _ => rfl⟩
  obtain ⟨sE, e1, e2, e3⟩ := r_main (w := w) (k := k) (kW_J dM kw) (fun j hj => by
    obtain ⟨m0, p0, p1, q⟩ := kg j hj
    refine ⟨m0, p0, p1, ?_⟩
    rw [dM.2.1 65 (by decide) (by decide), dM.2.1 77 (by decide) (by decide)]
    exact q) d2 d3 ((dM.1 10 (by decide) (by decide)).trans e10) (by omega) N'
  have dE := dJ_trans dM (dJ_trans (eJ_dJ d2) (nJF_dJ e2))
  have r60 : sE.2.1 60 = sT.2.1 60 := by rw [e2.1, d2.2.1 60 (by decide), nTM.1]
  have q44 : sM.2.1 44 = s0.2.1 44 := dM.2.1 44 (by decide) (by decide)
  refine ⟨sE, ?_, dE, mn_ext (fun u v => ?_) e3, fun y hy => by rw [r60]; exact t4 y hy, fun j h1 h2 h3 => ?_, fun j hj => ?_⟩
  · rw [y326]
    show s326_2 (rM w (k + 3)) w w (Int32.ofNat 0) s0 = _
    rw [a1]
    show s326_29 (rM w (k + 3)) w w (Int32.ofNat 0) sT = _
    rw [b1]
    show s326_229 (rM w (k + 3)) w w (Int32.ofNat 0) sK = _
    rw [c1]
    show s326_250 (rM w (k + 3)) w w (Int32.ofNat 1) sM = _
    rw [d1, e1]
  · unfold dSR
    rw [maS_J dM, q44]
    simp only [kS_J t1, mS_J t1, mdK_dJ dM]
  · rw [e2.1, d4 j h1 h2 (by rw [q44]; exact h3), dM.2.2]
  · rw [e2.1, d5 j (by rw [q44]; exact hj), nTM.1, t2]
end RF
