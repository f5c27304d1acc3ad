/-! ALL KINDS ARE DECLARED BY THE CLASS. -/
def nn (s : rS) (p j : Nat) : Nat := (s.2.1 p j).toNatClampNeg
/-- the faults of kind j -/
def kS (s : rS) (j : Nat) (u v : Int32) : Prop := rpS (s.2.2 62) (s.2.1 63) 0 j u v ∨ rpA (s.2.2 67) (s.2.1 68) (nn s 64 j) (nn s 64 (j + 1)) u v ∨ rpA (s.2.2 78) (s.2.1 74) (nn s 65 j + 1) (nn s 65 (j + 1)) u v
theorem rpA_sh {f : Nat → Int64} {g : Nat → Int32} {a n : Nat} {u v : Int32} : rpA (fun i => f (a + i)) (fun i => g (a + i)) 0 n u v ↔ rpA f g a (a + n) u v := by
  constructor
  · rintro ⟨i, _, i2, ⟨j, _, j2, j3⟩, i3, i4⟩
    exact ⟨a + i, by omega, by omega, ⟨a + j, by omega, by omega, j3⟩, i3, i4⟩
  · rintro ⟨i, i1, i2, ⟨j, j1, j2, j3⟩, i3, i4⟩
    refine ⟨i - a, by omega, by omega, ⟨j - a, by omega, by omega, ?_⟩, i3, ?_⟩
    · show f (a + (j - a)) = f (a + (i - a))
      rw [show a + (j - a) = j from by omega, show a + (i - a) = i from by omega]
      exact j3
    · show v = g (a + (i - a))
      rw [show a + (i - a) = i from by omega]
      exact i4
section KB
variable {L : Nat} {xs : Nat → Int32} {zf : Value} {w k n nk : Nat} {h0 h h1 : rm_H} {s0 s s1 : rS} {K a9 c9 : Nat} {kl : List Nat} {cx : Nat → Nat} {pt vr a b : Int32} {mv : Value} {S T : Int32 → Int32 → Prop}
/-- the Kinds with their fields and methods -/
def kB (L : Nat) (xs : Nat → Int32) (h : rm_H) (s : rS) (kl : List Nat) : Prop := kA L xs h s kl ∧ ∀ j K, kl[j]? = some K → fd h 9 K 1 = some (.int (s.2.1 63 j)) ∧ (∃ f0 fl af cf fds, fd h 9 K 4 = some (.ref fl) ∧ dL L xs h fl af cf fds (fun i => s.2.2 67 (f0 + i)) (fun i => s.2.1 68 (f0 + i)) ∧ s.2.1 64 j = Int32.ofNat f0 ∧ s.2.1 64 (j + 1) = Int32.ofNat (f0 + fds.length) ∧ f0 + fds.length ≤ 64) ∧ ∃ m0 ml am cm mks, fd h 9 K 5 = some (.ref ml) ∧ mL L xs h ml am cm mks (fun i => s.2.2 78 (m0 + 1 + i)) (fun i => s.2.1 70 (m0 + 1 + i)) (fun i => s.2.1 74 (m0 + 1 + i)) (m0 + 1) ∧ s.2.1 65 j = Int32.ofNat m0 ∧ s.2.1 65 (j + 1) = Int32.ofNat (m0 + 1 + mks.length) ∧ m0 + 1 + mks.length ≤ 72
theorem c_kinds_l (e9 : aL h0 (cx 9) a9 c9 kl) (kb : kB L xs h0 s kl) (hw : 200 ≤ w) : ∀ (m i N : Nat) (h : rm_H), i + m = kl.length → m < N → dI h0 h → pgS cx pt vr mv (fun u v => S u v ∨ ∃ j, j < i ∧ kS s j u v) h → ∃ h', b145_40 L xs zf (dM L xs zf w (k + 6)) w N (some (cx 8)) (Int32.ofNat i) h = b145_109 L xs zf (dM L xs zf w (k + 6)) w w (some (cx 8)) 0 h' ∧ st1 (cx 8) h h' ∧ pgS cx pt vr mv (fun u v => S u v ∨ ∃ j, j < kl.length ∧ kS s j u v) h' := by
  intro m
  have l8 := kb.1.2.1
  induction m with
  | zero =>
    intro i N h e hN di p
    obtain ⟨N, rfl⟩ : ∃ M, N = M + 1 := ⟨N - 1, by omega⟩
    have ei : i = kl.length := by omega
    subst ei
    refine ⟨h, ?_, st1_refl _ _, p⟩
    obtain ⟨a, b, p1, _⟩ := p
    have e1 := dI_aL di e9
    rw [b145_40]
    refine bsq (fd_R (o := some (cx 9)) (pg_1 p1) (by decide)) (bsq (a := (Int32.ofNat kl.length, h)) ?_ (itq ?_ rfl))
    · rw [al_v e1, al_size e1]
      rfl
    · rw [f2_ge]
      simp
  | succ m ih =>
    intro i N h e hN di p
    obtain ⟨N, rfl⟩ : ∃ M, N = M + 1 := ⟨N - 1, by omega⟩
    have il : i < kl.length := by omega
    have e1 := dI_aL di e9
    obtain ⟨K, hK⟩ : ∃ K, kl[i]? = some K := ⟨kl[i], List.getElem?_eq_getElem il⟩
    have kaI := kA_I di kb.1
    obtain ⟨nm, n1, n2⟩ := kaI.1 i K hK
    obtain ⟨_, _, n3⟩ := kaI.2.2 i K hK
    obtain ⟨fsK, n4, _⟩ := fd_c n1
    obtain ⟨k1, ⟨f0, fl, af, cf, fds, k2, k3, k4, k5, k6⟩, m0, ml, am, cm, mks, q2, q3, q4, q5, q6⟩ := kb.2 i K hK
    have v64 : nn s 64 i = f0 ∧ nn s 64 (i + 1) = f0 + fds.length := ⟨by unfold nn; rw [k4, of_clamp (by omega)], by unfold nn; rw [k5, of_clamp (by omega)]⟩
    have v65 : nn s 65 i = m0 ∧ nn s 65 (i + 1) = m0 + 1 + mks.length := ⟨by unfold nn; rw [q4, of_clamp (by omega)], by unfold nn; rw [q5, of_clamp (by omega)]⟩
    have gP : dgR L xs h 1 [4] (some (cx 8)) = some (some (cx 9)) := by
      obtain ⟨a, b, p1, _⟩ := id p
      exact fd_R (o := some (cx 9)) (pg_1 p1) (by decide)
    have sz : (dcV L xs (dM L xs zf w (k + 6)) 101 [5] (some (cx 9)) [] h).bind dxI = some (Int32.ofNat kl.length, h) := by
      rw [al_v e1, al_size e1]
      rfl
    have gt : (dcV L xs (dM L xs zf w (k + 6)) 146 [5] (some (cx 9)) [.int (Int32.ofNat i)] h).bind dxR = some (some K, h) := by
      rw [al_v e1, al_get e1 i hK]
      rfl
    have ge : ¬ mx_f2 .ge (Int32.ofNat i) (Int32.ofNat kl.length) = true := by
      rw [f2_ge, of_int (by omega), of_int (by omega)]
      simp
      omega
    obtain ⟨j, j1, j2, j3⟩ := kF_own (f := s.2.2 62) il
    have fn : (dcV L xs (dM L xs zf w (k + 6)) 150 [4] (some (cx 8)) [va_rf (some nm)] h).bind dxR = some (kl[j]?, h) := by
      obtain ⟨a, b, p1, _⟩ := id p
      have := c_find (zf := zf) (w := w) (k := k + 2) (pg_1 p1) e1 kaI.1 (by omega) n2 hw
      rw [j1] at this
      rw [hc_v p1 (by decide)]
      show (dM L xs zf w (k + 2 + 4) 150 [.ref (cx 8), .ref nm] h).bind dxR = _
      rw [this]
      show (some (some (va_rf kl[j]?), h) : Option dR).bind dxR = _
      cases kl[j]? <;> rfl
    obtain ⟨Kj, hj⟩ : ∃ K, kl[j]? = some K := ⟨kl[j]'(by omega), List.getElem?_eq_getElem (by omega)⟩
    obtain ⟨_, _, m3⟩ := kaI.2.2 j Kj hj
    have own : kl[j]? = some K ↔ j = i := by
      constructor
      · intro z
        rw [hj] at z
        cases z
        rw [n3] at m3
        have := congrArg Int32.toInt (Value.int.inj (Option.some.inj m3))
        rw [of_int (by omega), of_int (by omega)] at this
        omega
      · intro z
        rw [z]
        exact hK
    have cm : dcm kl[j]? (some K) = true := dcm_o (fun q hq => by rw [hj] at hq; cases hq; exact (fd_lt m3).2) (fd_lt n3).2
    -- the fields and methods
    have tail : ∀ (h2 : rm_H) (S2 : Int32 → Int32 → Prop), dI h0 h2 → pgS cx pt vr mv S2 h2 → (∀ u v, S2 u v ↔ ((S u v ∨ ∃ j, j < i ∧ kS s j u v) ∨ rpS (s.2.2 62) (s.2.1 63) 0 i u v)) → ∃ h', b145_88 L xs zf (dM L xs zf w (k + 6)) w (b145_40 L xs zf (dM L xs zf w (k + 6)) w N) (some (cx 8)) (Int32.ofNat i) (some K) h2 = b145_109 L xs zf (dM L xs zf w (k + 6)) w w (some (cx 8)) 0 h' ∧ st1 (cx 8) h2 h' ∧ pgS cx pt vr mv (fun u v => S u v ∨ ∃ j, j < kl.length ∧ kS s j u v) h' := by
      intro h2 S2 di2 p2 hS
      obtain ⟨h3, u1, u2, u3⟩ := c_rep (L := L) (xs := xs) (zf := zf) (w := w) (k := k + 2) k3 hw di2 p2
      have di3 := dI_st di2 p2 u2
      obtain ⟨h4, v1, v2, v3⟩ := c_rm (L := L) (xs := xs) (zf := zf) (w := w) (k := k + 1) q2 q3 hw di3 u3
      have di4 := dI_st di3 u3 v2
      obtain ⟨h5, x1, x2, x3⟩ := ih (i + 1) N h4 (by omega) (by omega) di4 (pgS_ext (fun u v => by
        rw [rpA_sh, rpA_sh, hS]
        constructor
        · rintro (((z | z) | z) | z)
          · rcases z with z | ⟨j, z1, z2⟩
            · exact Or.inl z
            · exact Or.inr ⟨j, by omega, z2⟩
          · exact Or.inr ⟨i, by omega, Or.inl z⟩
          · exact Or.inr ⟨i, by omega, Or.inr (Or.inl (by rw [v64.1, v64.2]; exact z))⟩
          · exact Or.inr ⟨i, by omega, Or.inr (Or.inr (by rw [v65.1, v65.2]; exact z))⟩
        · rintro (z | ⟨j, z1, z2⟩)
          · exact Or.inl (Or.inl (Or.inl (Or.inl z)))
          · by_cases z : j = i
            · rw [z] at z2
              rcases z2 with z2 | z2 | z2
              · exact Or.inl (Or.inl (Or.inr z2))
              · exact Or.inl (Or.inr (by rw [v64.1, v64.2] at z2; exact z2))
              · exact Or.inr (by rw [v65.1, v65.2] at z2; exact z2)
            · exact Or.inl (Or.inl (Or.inl (Or.inr ⟨j, by omega, z2⟩)))) v3)
      refine ⟨h5, ?_, st1_trans u2 (st1_trans v2 x2), x3⟩
      unfold b145_88
      refine bsq (fd_R (o := some fl) (dI_f di2 k2 nb9) (by decide)) (bsq u1 (bsq v1 ?_))
      rw [show Int32.ofNat i + 1 = Int32.ofNat (i + 1) from of_add i 1]
      exact x1
    have head : ∀ r, (if dsm kl[j]? (some K) = true then b145_88 L xs zf (dM L xs zf w (k + 6)) w (b145_40 L xs zf (dM L xs zf w (k + 6)) w N) (some (cx 8)) (Int32.ofNat i) (some K) h else ((dcV L xs (dM L xs zf w (k + 6)) 144 [4] (some (cx 8)) [.int 2, .int (s.2.1 63 i)] h).bind dxV).bind fun h30 => b145_88 L xs zf (dM L xs zf w (k + 6)) w (b145_40 L xs zf (dM L xs zf w (k + 6)) w N) (some (cx 8)) (Int32.ofNat i) (some K) h30) = r → b145_40 L xs zf (dM L xs zf w (k + 6)) w (N + 1) (some (cx 8)) (Int32.ofNat i) h = r := by
      intro r er
      rw [b145_40]
      refine bsq gP (bsq sz (inq ge (bsq gP (bsq gt (inq (by rw [ck_of n4]; decide) (bsq (fd_R (o := some nm) n1 (by decide)) (bsq fn (itq cm ?_))))))))
      rw [← er]
      dsimp only
      split
      · rfl
      · exact bsq (fd_I (dI_f di k1 nb9) (by decide)) rfl
    by_cases ji : j = i
    · obtain ⟨h', t1, t2, t3⟩ := tail h _ di p (fun u v => ⟨Or.inl, fun z => z.elim id (fun z => absurd ji (j3.mpr z.1))⟩)
      exact ⟨h', head _ (itq (decide_eq_true (own.mpr ji)) t1), t2, t3⟩
    · obtain ⟨h2, w1, w2, w3⟩ := c_noteS (L := L) (xs := xs) (zf := zf) (w := w) (k := k + 5) p 2 (s.2.1 63 i) (by decide)
      obtain ⟨h', t1, t2, t3⟩ := tail h2 _ (dI_st di p w2) w3 (fun u v => ⟨fun z => z.elim Or.inl (fun z => Or.inr ⟨j3.mp ji, z⟩), fun z => z.elim Or.inl (fun z => Or.inr z.2)⟩)
      exact ⟨h', head _ (inq (fun z => ji (own.mp (of_decide_eq_true z))) (bsq w1 t1)), st1_trans w2 t2, t3⟩
end KB
