/-! BOTH CHECK: the class makes its Checker, both check all bodies. -/
/-- the numbers where the check begins -/
def uB (cx : Nat → Nat) : Nat → Nat
  | 1 => 64
  | 3 => cx 12
  | 4 => cx 13
  | _ => 0
section JCH2
variable {L : Nat} {xs : Nat → Int32} {zf : Value} {w nk gn j j2 k p0 : Nat} {cx : Nat → Nat} {h h' : rm_H} {s s' : rS} {pt vr a b : Int32} {mv : Value} {kl ml : List Nat}
/-- a new Checker -/
theorem ck_new : ∃ h6, dM L xs zf w (k + 1) 162 [.ref (21 + h.length), .ref p0] (h ++ [.inr (13, ah_DV 13)]) = some (none, h6) ∧ hc h6 (21 + h.length) = some (.inr (13, [.ref p0, .ref (22 + h.length), .null, .int 0, .int 0, .int 0, .int 0])) ∧ hc h6 (22 + h.length) = some (scA (fun _ => none)) ∧ fr (fun _ => False) h h6 ∧ h6.length = h.length + 2 ∧ zh h6 = zh h + 23 := by
  have e1 : hc (h ++ [.inr (13, ah_DV 13)]) (21 + h.length) = some (.inr (13, ah_DV 13)) := hc_new _
  obtain ⟨h2, a1, a2, a3⟩ := pF_ex (v := .ref p0) (j := 0) (cis := [13]) e1 rfl (by decide) rfl (by decide)
  have l2 : h2.length = h.length + 1 := by rw [a3.2.1]; simp
  have n1 : dnR 6 16 h2 = some (h2 ++ [scA (fun _ => none)]) := rfl
  have e4 : hc (h2 ++ [scA (fun _ => none)]) (21 + h.length) = some (.inr (13, (ah_DV 13).set 0 (.ref p0))) := hc_up a2
  have eS : hc (h2 ++ [scA (fun _ => none)]) (22 + h.length) = some (scA (fun _ => none)) := by
    have := hc_new (h := h2) (scA (fun _ => none))
    rw [l2, show 21 + (h.length + 1) = 22 + h.length from by omega] at this
    exact this
  obtain ⟨h6, b1, b2, b3⟩ := pF_ex (v := .ref (22 + h.length)) (j := 1) (cis := [13]) e4 rfl (by decide) rfl (by decide)
  obtain ⟨h8, c1, c2, c3⟩ := pF_ex (v := .null) (j := 2) (cis := [13]) b2 rfl (by decide) rfl (by decide)
  obtain ⟨h10, d1, d2, d3⟩ := pF_ex (v := .int 0) (j := 3) (cis := [13]) c2 rfl (by decide) rfl (by decide)
  obtain ⟨h12, f1, f2, f3⟩ := pF_ex (v := .int 0) (j := 4) (cis := [13]) d2 rfl (by decide) rfl (by decide)
  obtain ⟨h14, g1, g2, g3⟩ := pF_ex (v := .int 0) (j := 5) (cis := [13]) f2 rfl (by decide) rfl (by decide)
  obtain ⟨h16, i1, i2, i3⟩ := pF_ex (v := .int 0) (j := 6) (cis := [13]) g2 rfl (by decide) rfl (by decide)
  have st := st1_trans (st1_trans (st1_trans (st1_trans (st1_trans b3 c3) d3) f3) g3) i3
  refine ⟨h16, ?_, i2, st1_old st eS (by omega), ?_, ?_, ?_⟩
  · rw [e162]
    show b162_0 L xs zf (dM L xs zf w k) w (some (21 + h.length)) (some p0) (h ++ [.inr (13, ah_DV 13)]) = _
    unfold b162_0
    refine inq (dnl_s _) (bsq a1 (bsq n1 (bsq (a := h6) ?_ (bsq c1 (bsq d1 (bsq f1 (bsq g1 (bsq i1 rfl))))))))
    rw [show 21 + List.length h2 = 22 + h.length from by omega]
    exact b1
  · have f0 : fr (fun _ => False) h (h ++ [.inr (13, ah_DV 13)]) := fr_app _ _
    have f2 : fr (fun _ => False) h h2 := fr_trans f0 a3.1 (fun q hq z => by have z : q = 21 + h.length := z; omega)
    have f4 : fr (fun _ => False) h (h2 ++ [scA (fun _ => none)]) := fr_trans f2 (fr_app (fun _ => False) _) (fun _ _ z => z)
    exact fr_trans f4 st.1 (fun q hq z => by have z : q = 21 + h.length := z; omega)
  · rw [st.2.1]
    simp
    omega
  · rw [st.2.2, zh_app, a3.2.2, zh_app]
    rfl
theorem gH_0 (f : fr (fun _ => False) h h') : gH L xs h h' := by
  have fo : ∀ ci p j v, fd h ci p j = some v → fd h' ci p j = some v := fun ci p j v e => fd_old f e id
  exact ⟨⟨fun p j v _ e => fo _ _ _ _ e, fun l ar cap es e => aL_fr f id (fun _ => id) e, fun q c e => nS_fr f e, fun p j v e => fo _ _ _ _ e, fun p e => by
    obtain ⟨v, hv⟩ := Option.isSome_iff_exists.mp e
    rw [fo _ _ _ _ hv]
    rfl⟩, fun p j v e => fo _ _ _ _ e, fun p j v _ e => fo _ _ _ _ e⟩
/-- both check all bodies -/
theorem j_chk (dc : DCX L xs w cx h s nk gn kl ml) (hP : hc h (cx 8) = some (pgD cx pt vr mv 0 b)) (h12 : hc h (cx 12) = some (iN0 64)) (h13 : hc h (cx 13) = some (iN0 64)) (hne : cx 12 ≠ cx 13) (h82 : cx 8 ≤ cx 12 ∧ cx 8 ≤ cx 13) (s57 : s.1 57 = 0) (s58 : s.1 58 = -1) (hb : b = -1) : ∃ hK i' h' s' a' b' u' A' B', ((some (h ++ [.inr (13, ah_DV 13)])).bind fun h4 => ((dcN (dM L xs zf w (255 + j)) 162 (some (21 + List.length h)) [va_rf (some (cx 8))] h4).bind dxV).bind fun h6 => ((dcV L xs (dM L xs zf w (255 + j)) 163 [13] (some (21 + List.length h)) [] h6).bind dxV).bind fun h13 => b43_81 L xs zf (dM L xs zf w (255 + j)) w (some 21) (some (cx 8)) h13) = b43_81 L xs zf (dM L xs zf w (255 + j)) w (some 21) (some (cx 8)) h' ∧ s294_142 (rM w (254 + j2)) w s = s294_170 (rM w (254 + j2)) w s' ∧ CI L xs cx (21 + h.length) (22 + h.length) pt vr mv h hK s gn ml (uB cx) i' h' s' a' b' u' A' B' ∧ (a' = 0 → i' = ml.length) ∧ hK.length = h.length + 2 ∧ zh hK = zh h + 23 := by
  obtain ⟨h6, a1, a2, a3, a4, a5, a6⟩ := ck_new (L := L) (xs := xs) (zf := zf) (w := w) (k := 254 + j) (h := h) (p0 := cx 8)
  rw [show 254 + j + 1 = 255 + j from by omega] at a1
  have o : ∀ p c, hc h p = some c → hc h6 p = some c := fun p c e => fr_old a4 e id
  have g := gH_0 (L := L) (xs := xs) a4
  have ci : CI L xs cx (21 + h.length) (22 + h.length) pt vr mv h h6 s gn ml (uB cx) 0 h6 s 0 b (uB cx) (fun _ => 0) (fun _ => 0) := by
    refine ⟨⟨⟨.null, 0, 0, a2⟩, o _ _ hP, ⟨_, a3⟩, ⟨o _ _ h12, o _ _ h13, hne, (show 1 ≤ 64 by decide), (show 64 ≤ 100000 by decide)⟩, ⟨(show 0 ≤ 64 by decide), fun _ => hb⟩, (show 64 ≤ 64 by decide), Or.inl rfl, rfl⟩, s57, ⟨fun z => absurd rfl z, fun _ => s58⟩, g, fr_mono a4 (fun _ _ z => z.elim), rK_refl, ⟨wK2_refl, Nat.le_refl _⟩, fun _ _ _ _ _ _ _ _ _ _ _ => rfl, ⟨fun j b2 _ _ _ _ => (by show 0 ≤ _; omega), (by show 0 ≤ _; omega), h82.1, h82.2, vFs_refl _⟩, fun j M hM => ?_, fun _ j M hj => absurd hj (by omega)⟩
    obtain ⟨_, _, _, _, _, _, _, _, _, _, _, _, _, mf⟩ := dc
    obtain ⟨lo, hi, c, pl, ph, Bn, bb, _, _, _, ⟨⟨en, hen⟩, _⟩, _⟩ := mf j M hM
    exact ⟨en, fd_old a4 hen id⟩
  obtain ⟨i', h', s', a', b', u', A', B', p1, p2, p3, p4⟩ := j_163 (zf := zf) (j := j) (j2 := j2) (by have := hc_lt hP; omega) (by have := hc_lt hP; omega) dc ci
  refine ⟨h6, i', h', s', a', b', u', A', B', ?_, p2, p3, p4, a5, a6⟩
  refine bsq rfl (bsq (a := h6) ?_ (bsq (a := h') ?_ rfl))
  · show (dM L xs zf w (255 + j) 162 [.ref (21 + h.length), .ref (cx 8)] (h ++ [.inr (13, ah_DV 13)])).bind dxV = _
    rw [a1]
    rfl
  · rw [hc_v a2 (by decide), p1]
    rfl
end JCH2
