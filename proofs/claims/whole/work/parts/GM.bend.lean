/-! BUILD: its end by both. -/
section BND
variable {L : Nat} {xs : Nat → Int32} {zf : Value} {w k p q : Nat} {h h' : rm_H} {s : rS}
theorem hc_ix (hp : 21 ≤ p) (e : ∀ i, i ≠ p - 21 → h'[i]? = h[i]?) (hq : q ≠ p) : hc h' q = hc h q := by
  unfold hc
  by_cases c : 21 ≤ q
  · rw [if_pos c, if_pos c]
    exact e _ (by omega)
  · rw [if_neg c, if_neg c]
/-- the world is cleared -/
theorem c_216 {W : Nat} {w0 w1 w2 w3 w4 w5 w6 w7 w8 w9 w10 w11 w12 w13 w14 w15 : Value} (hW : hc h W = some (.inr (2, [w0, w1, w2, w3, w4, w5, w6, w7, w8, w9, w10, w11, w12, w13, w14, w15]))) : ∃ h', dM L xs zf w (k + 1) 216 [.ref W] h = some (none, h') ∧ hc h' W = some (.inr (2, [w0, w1, w2, w3, w4, w5, w6, .null, .int 0, .int 0, .int 0, .int 0, .int 0, .int 0, .int 0, .int 0])) ∧ st1 W h h' := by
  obtain ⟨h1, a1, a2, a3⟩ := pF_ex (v := .null) (j := 7) (cis := [2]) hW rfl (by decide) rfl (by decide)
  obtain ⟨h2, b1, b2, b3⟩ := pF_ex (v := .int 0) (j := 8) (cis := [2]) a2 rfl (by decide) rfl (by decide)
  obtain ⟨h3, c1, c2, c3⟩ := pF_ex (v := .int 0) (j := 9) (cis := [2]) b2 rfl (by decide) rfl (by decide)
  obtain ⟨h4, d1, d2, d3⟩ := pF_ex (v := .int 0) (j := 10) (cis := [2]) c2 rfl (by decide) rfl (by decide)
  obtain ⟨h5, e1, e2, e3⟩ := pF_ex (v := .int 0) (j := 11) (cis := [2]) d2 rfl (by decide) rfl (by decide)
  obtain ⟨h6, f1, f2, f3⟩ := pF_ex (v := .int 0) (j := 12) (cis := [2]) e2 rfl (by decide) rfl (by decide)
  obtain ⟨h7, g1, g2, g3⟩ := pF_ex (v := .int 0) (j := 13) (cis := [2]) f2 rfl (by decide) rfl (by decide)
  obtain ⟨h8, i1, i2, i3⟩ := pF_ex (v := .int 0) (j := 14) (cis := [2]) g2 rfl (by decide) rfl (by decide)
  obtain ⟨h9, j1, j2, j3⟩ := pF_ex (v := .int 0) (j := 15) (cis := [2]) i2 rfl (by decide) rfl (by decide)
  refine ⟨h9, ?_, j2, st1_trans (st1_trans (st1_trans (st1_trans (st1_trans (st1_trans (st1_trans (st1_trans a3 b3) c3) d3) e3) f3) g3) i3) j3⟩
  rw [e216]
  show b216_0 L xs zf (dM L xs zf w k) w (some W) h = _
  unfold b216_0
  exact bsq a1 (bsq b1 (bsq c1 (bsq d1 (bsq e1 (bsq f1 (bsq g1 (bsq i1 (bsq j1 rfl))))))))
/-- what was told is cleared -/
theorem c_217 {T p2 b2 n2 m2 : Nat} {ml2 x4 x5 : Int32} {f2 : Nat → Int32} {t1 t2 t3 t6 : Value} (hT : hc h T = some (.inr (3, [.ref p2, t1, t2, t3, .int x4, .int x5, t6]))) (hS : sB h p2 b2 n2 m2 ml2 f2) : ∃ h' ml', dM L xs zf w (k + 4) 217 [.ref T] h = some (none, h') ∧ hc h' T = some (.inr (3, [.ref p2, t1, t2, t3, .int 0, .int (x5 + 1), t6])) ∧ sB h' p2 b2 0 m2 ml' f2 ∧ h'.length = h.length ∧ zh h' = zh h ∧ ∀ q, q ≠ p2 → q ≠ T → hc h' q = hc h q := by
  obtain ⟨h1, ml', a1, a2, a3, a4, a5⟩ := sb_cut (L := L) (xs := xs) (zf := zf) (w := w) (k := k) hS 0 (by omega)
  have p21 := hS.1
  have hp2 : hc h p2 = some (.inr (1, [.ref b2, .int 0, .int ml2, .int (Int32.ofNat n2)])) := by
    unfold hc
    rw [if_pos p21]
    exact hS.2.2.2.2.2.2.1
  have nT : T ≠ p2 := fun z => by rw [z, hp2] at hT; cases hT
  have hT1 : hc h1 T = some (.inr (3, [.ref p2, t1, t2, t3, .int x4, .int x5, t6])) := by rw [hc_ix p21 a5 nT]; exact hT
  obtain ⟨h3, b1, b2', b3⟩ := pF_ex (v := .int 0) (j := 4) (cis := [3]) hT1 rfl (by decide) rfl (by decide)
  obtain ⟨h5, c1, c2, c3⟩ := pF_ex (v := .int (x5 + 1)) (j := 5) (cis := [3]) b2' rfl (by decide) rfl (by decide)
  have st := st1_trans b3 c3
  refine ⟨h5, ml', ?_, c2, sB_fr st.1 (fun z => nT z.symm) a2, st.2.1.trans a3, st.2.2.trans a4, fun q h1 h2 => by rw [st1_ne st h2, hc_ix p21 a5 h1]⟩
  rw [e217]
  show b217_0 L xs zf (dM L xs zf w (k + 3)) w (some T) h = _
  unfold b217_0
  refine bsq (hc_gR (p := some p2) hT rfl (by decide)) (bsq (a := h1) ?_ (bsq b1 (bsq (hc_gI b2' rfl (by decide)) (bsq c1 rfl))))
  rw [hc_v hp2 (by decide), show (0 : Int32) = Int32.ofNat 0 from rfl, a1]
  rfl
end BND
