/-! ALL TYPES AND KINDS ARE DECLARED BY THE REFERENCE. -/
section RK
variable {w k n nk y : Nat} {s0 sB s s1 s2 : rS} {S T : Int32 → Int32 → Prop}
theorem dyK_J (d : dJ s0 s) : dyK s nk y = dyK s0 nk y := by
  obtain ⟨d1, d2, d3⟩ := d
  unfold dyK dyC dyP dkF
  rw [d3, d2 57 (by decide) (by decide), d2 58 (by decide) (by decide), d2 59 (by decide) (by decide), d2 66 (by decide) (by decide)]
theorem tcR_J {x r : Int32} (d : dJ s0 s) : tcR s nk x r ↔ tcR s0 nk x r := by
  unfold tcR
  rw [d.2.1 66 (by decide) (by decide)]
theorem kW_J (d : dJ s0 s) (e : kW s0 nk) : kW s nk := by
  obtain ⟨e1, e2, e3⟩ := e
  exact ⟨(d.1 32 (by decide) (by decide)).trans e1, e2, by rw [d.2.1 66 (by decide) (by decide)]; exact e3⟩
theorem dyW_J (d : dJ s0 s) (e : dyW s0 y) : dyW s y := by
  unfold dyW at e ⊢
  rw [d.2.1 57 (by decide) (by decide)]
  exact e
/-- i types are declared -/
def yI (s0 : rS) (nk i : Nat) (s : rS) : Prop := dJ s0 s ∧ s.2.1 53 = s0.2.1 53 ∧ rmn (fun u v => ∃ y, y < i ∧ (dyK s0 nk y).2 = some (u, v)) s ∧ ∀ y, y < i → tcR s0 nk (dyK s0 nk y).1 (s.2.1 60 y)
theorem r_types_l (kw : kW s0 nk) (e26 : s0.1 26 = Int32.ofNat n) (hn : n ≤ 2000) (yw : ∀ y, y < n → dyW s0 y) (hw : 200 ≤ w) : ∀ (m i N : Nat) (s : rS), i + m = n → m < N → yI s0 nk i s → ∃ s', s326_2 (rM w (k + 2)) w N (Int32.ofNat i) s = s326_29 (rM w (k + 2)) w w 0 s' ∧ yI s0 nk n s' := by
  intro m
  induction m with
  | zero =>
    intro i N s e hN t
    obtain ⟨N, rfl⟩ : ∃ M, N = M + 1 := ⟨N - 1, by omega⟩
    have ei : i = n := by omega
    subst ei
    refine ⟨s, ?_, t⟩
    rw [s326_2, t.1.1 26 (by decide) (by decide), e26]
    refine itq ?_ rfl
    rw [f2_ge]
    simp
  | succ m ih =>
    intro i N s e hN t
    obtain ⟨N, rfl⟩ : ∃ M, N = M + 1 := ⟨N - 1, by omega⟩
    obtain ⟨t1, t2, t3, t4⟩ := t
    obtain ⟨s2, r, r1, r2, r3, r4⟩ := r_type (w := w) (k := k) (kW_J t1 kw) (show i < 2000 by omega) (dyW_J t1 (yw i (by omega))) t3 hw
    rw [dyK_J t1, tcR_J t1] at r4
    have st := sI_at (s := s2) (p := 60) (n := 2000) (i := i) (x := r) (by decide) rfl (by omega) (by decide)
    have d2 := nJF_dJ r2
    have wd : dJ s2 (rs_wA s2 60 i r) := ⟨fun _ _ _ => rfl, fun p _ h2 => wA_ne _ _ _ h2, rfl⟩
    obtain ⟨s3, q1, q2⟩ := ih (i + 1) N (rs_wA s2 60 i r) (by omega) (by omega) ⟨dJ_trans t1 (dJ_trans d2 wd), by
      rw [wA_ne _ _ _ (by decide : (53 : Nat) ≠ 60), r2.1]
      exact t2, mn_ext (fun u v => by
      rw [dyK_J t1]
      constructor
      · rintro (⟨y, z1, z2⟩ | z)
        · exact ⟨y, by omega, z2⟩
        · exact ⟨i, by omega, z⟩
      · rintro ⟨y, z1, z2⟩
        by_cases z : y = i
        · rw [z] at z2
          exact Or.inr z2
        · exact Or.inl ⟨y, by omega, z2⟩) (show rmn _ (rs_wA s2 60 i r) from r3), fun y hy => by
      rw [wA_get]
      by_cases z : y = i
      · rw [if_pos ⟨rfl, z⟩, z]
        exact r4
      · rw [if_neg (fun q => z q.2), r2.1]
        exact t4 y (by omega)⟩
    refine ⟨s3, ?_, q2⟩
    rw [s326_2, t1.1 26 (by decide) (by decide), e26]
    refine inq ?_ (bsq (a := (r, s2)) (by rw [r1]; rfl) (bsq st ?_))
    · rw [f2_ge, of_int (by omega), of_int (by omega)]
      simp
      omega
    · rw [show Int32.ofNat i + 1 = Int32.ofNat (i + 1) from of_add i 1]
      exact q1
/-- where the fields and methods of the kinds lie -/
def kRg (s : rS) (nk : Nat) : Prop := s.1 32 = Int32.ofNat nk ∧ nk ≤ 8 ∧ ∀ j, j < nk → ∃ f0 f1 m0 m1, s.2.1 64 j = Int32.ofNat f0 ∧ s.2.1 64 (j + 1) = Int32.ofNat f1 ∧ f0 ≤ f1 ∧ f1 ≤ 64 ∧ s.2.1 65 j = Int32.ofNat m0 ∧ s.2.1 65 (j + 1) = Int32.ofNat m1 ∧ m0 + 1 ≤ m1 ∧ m1 ≤ 72
theorem r_kinds_l (kr : kRg sB nk) (hw : 200 ≤ w) : ∀ (m i N : Nat) (s : rS), i + m = nk → m < N → nJF sB s → rmn (fun u v => S u v ∨ ∃ j, j < i ∧ kS sB j u v) s → ∃ s', s326_29 (rM w (k + 1)) w N (Int32.ofNat i) s = s326_229 (rM w (k + 1)) w w 0 s' ∧ nJF s s' ∧ rmn (fun u v => S u v ∨ ∃ j, j < nk ∧ kS sB j u v) s' := by
  intro m
  obtain ⟨e32, n8, kr⟩ := kr
  induction m with
  | zero =>
    intro i N s e hN ns p
    obtain ⟨N, rfl⟩ : ∃ M, N = M + 1 := ⟨N - 1, by omega⟩
    have ei : i = nk := by omega
    subst ei
    refine ⟨s, ?_, nJF_refl, p⟩
    rw [s326_29, ns.2 32 (by decide) (by decide), e32]
    refine itq ?_ rfl
    rw [f2_ge]
    simp
  | succ m ih =>
    intro i N s e hN ns p
    obtain ⟨N, rfl⟩ : ∃ M, N = M + 1 := ⟨N - 1, by omega⟩
    obtain ⟨f0, f1, m0, m1, a1, a2, a3, a4, a5, a6, a7, a8⟩ := kr i (by omega)
    have v64 : nn sB 64 i = f0 ∧ nn sB 64 (i + 1) = f1 := ⟨by unfold nn; rw [a1, of_clamp (by omega)], by unfold nn; rw [a2, of_clamp (by omega)]⟩
    have v65 : nn sB 65 i = m0 ∧ nn sB 65 (i + 1) = m1 := ⟨by unfold nn; rw [a5, of_clamp (by omega)], by unfold nn; rw [a6, of_clamp (by omega)]⟩
    obtain ⟨s2, b1, b2, b3⟩ := r_in_k (w := w) (k := k) (sB := sB) (K29 := s326_29 (rM w (k + 1)) w N) (i := i) (by omega) hw i 0 w s _ (by omega) (by omega) ns p
    have ns2 := nJF_trans ns b2
    obtain ⟨s3, c1, c2, c3⟩ := r_lp_f (w := w) (k := k) (sB := sB) (K29 := s326_29 (rM w (k + 1)) w N) (a := i) (b := f1) (lo := f0) (by omega) a4 a2 a1 hw (f1 - f0) f0 w s2 (by omega) (by omega) (by omega) ns2 (mn_ext (fun u v => ⟨Or.inl, fun z => by
      rcases z with z | ⟨j, z1, z2, _⟩
      · exact z
      · omega⟩) b3)
    have ns3 := nJF_trans ns2 c2
    obtain ⟨s4, d1, d2, d3⟩ := r_lp_m (w := w) (k := k) (sB := sB) (K29 := s326_29 (rM w (k + 1)) w N) (a := i) (b := m1) (lo := m0 + 1) (l0 := m0) rfl (by omega) a8 a6 a5 hw (m1 - (m0 + 1)) (m0 + 1) w s3 (by omega) (by omega) (by omega) ns3 (mn_ext (fun u v => ⟨Or.inl, fun z => by
      rcases z with z | ⟨j, z1, z2, _⟩
      · exact z
      · omega⟩) c3)
    have ns4 := nJF_trans ns3 d2
    obtain ⟨s5, q1, q2, q3⟩ := ih (i + 1) N s4 (by omega) (by omega) ns4 (mn_ext (fun u v => by
      constructor
      · rintro (((z | z) | z) | z)
        · rcases z with z | ⟨j, z1, z2⟩
          · exact Or.inl z
          · exact Or.inr ⟨j, by omega, z2⟩
        · exact Or.inr ⟨i, by omega, Or.inl z⟩
        · exact Or.inr ⟨i, by omega, Or.inr (Or.inl (by rw [v64.1, v64.2]; exact z))⟩
        · exact Or.inr ⟨i, by omega, Or.inr (Or.inr (by rw [v65.1, v65.2]; exact z))⟩
      · rintro (z | ⟨j, z1, z2⟩)
        · exact Or.inl (Or.inl (Or.inl (Or.inl z)))
        · by_cases z : j = i
          · rw [z] at z2
            rcases z2 with z2 | z2 | z2
            · exact Or.inl (Or.inl (Or.inr z2))
            · exact Or.inl (Or.inr (by rw [v64.1, v64.2] at z2; exact z2))
            · exact Or.inr (by rw [v65.1, v65.2] at z2; exact z2)
          · exact Or.inl (Or.inl (Or.inl (Or.inr ⟨j, by omega, z2⟩)))) d3)
    refine ⟨s5, ?_, nJF_trans b2 (nJF_trans c2 (nJF_trans d2 q2)), q3⟩
    rw [s326_29, ns.2 32 (by decide) (by decide), e32]
    refine inq ?_ (Eq.trans b1 ?_)
    · rw [f2_ge, of_int (by omega), of_int (by omega)]
      simp
      omega
    · have g64 : rs_aI s2 64 (Int32.ofNat i) = some (Int32.ofNat f0) := by
        rw [aI_at (by decide) rfl (by omega) (by decide), ns2.1, a1]
      have g65 : rs_aI s3 65 (Int32.ofNat i) = some (Int32.ofNat m0) := by
        rw [aI_at (by decide) rfl (by omega) (by decide), ns3.1, a5]
      refine bsq g64 (c1.trans (bsq g65 ?_))
      rw [show Int32.ofNat m0 + 1 = Int32.ofNat (m0 + 1) from of_add m0 1]
      refine d1.trans ?_
      rw [show Int32.ofNat i + 1 = Int32.ofNat (i + 1) from of_add i 1]
      exact q1
end RK
