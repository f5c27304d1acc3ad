/-! WHAT A PROGRAM THAT WAS BUILT GIVES: all of it, at the end of build. -/
/-- method m as both have it: q is (depth, first node, last node, parameters, locals) -/
def mQ (L : Nat) (xs : Nat → Int32) (h : rm_H) (s : rS) (gn u2 : Nat) (A B : Nat → Int32) (m M : Nat) (q : Nat × Nat × Nat × Nat × Nat) : Prop := q.1 = q.2.2.1 - q.2.1 ∧ ∃ (c bb a0 e0 pl ph Bn : Nat), NRz L xs h s 49 1 (q.2.2.1 - q.2.1) q.2.1 q.2.2.1 pl ph c Bn ∧ (1 ≤ bb ∧ bb < q.2.1 ∧ q.2.1 ≤ q.2.2.1 ∧ q.2.2.1 ≤ gn ∧ gn ≤ 2990) ∧ s.2.1 76 m = Int32.ofNat bb ∧ s.2.1 44 bb = 31 ∧ s.2.1 45 bb = Int32.ofNat c ∧ s.2.1 49 c = Int32.ofNat bb ∧ s.2.1 54 bb = Int32.ofNat m ∧ fd h 11 M 10 = some (.int (Int32.ofNat q.2.2.2.2)) ∧ fd h 11 M 11 = some (.int (Int32.ofNat a0)) ∧ (q.2.2.2.1 ≤ q.2.2.2.2 ∧ q.2.2.2.2 ≤ 16) ∧ s.2.1 77 (m + 1) = s.2.1 77 m + Int32.ofNat q.2.2.2.1 ∧ DSL s q.2.1 q.2.2.1 q.2.2.2.1 ∧ (∀ n sl : Nat, q.2.1 ≤ n → n < q.2.2.1 → s.2.1 44 n = 20 → sl < 16 → s.2.1 53 n = Int32.ofNat sl → sl < q.2.2.2.2) ∧ MCT s (s.2.1 53) A B m c q.2.1 q.2.2.1 a0 e0 ∧ (s.2.1 75 m = -1 ∨ s.2.1 70 m = 1) ∧ ∀ k0 : Nat, k0 < 8 → s.2.1 71 m = Int32.ofNat k0 → s.2.1 66 k0 ≠ 0 → s.2.1 70 m ≠ 1 → ∃ us, pmT s m us ∧ ∀ t ∈ us, sdT t = true
section STB
variable {L : Nat} {xs : Nat → Int32} {w P : Nat} {h : rm_H} {s : rS}
theorem mnX_k {s s' : rS} {nk nm gn : Nat} (rk : rK s s') (e : mnX s nk nm gn) : mnX s' nk nm gn := by
  obtain ⟨⟨kk, a1, a2, a3⟩, b, t⟩ := e
  refine ⟨⟨kk, by rw [rk.2.2 62 (by decide)]; exact a1, by rw [rk_r rk (q := 66) (by decide)]; exact a2, fun m hm e => ?_⟩, fun k m0 m h1 h2 h3 h4 h5 => ?_, by unfold nTk at t ⊢; rw [rk.1 10 (by omega), rk.1 56 (by omega), rk_r rk (q := 52) (by decide)]; exact t⟩
  · rw [rk_r rk (q := 65) (by decide)] at e
    exact pmT_k rk (a3 m hm e)
  · rw [rk_r rk (q := 65) (by decide)] at h4
    rw [rk_r rk (q := 71) (by decide)] at h5
    rw [rk_r rk (q := 70) (by decide)]
    exact b k m0 m h1 h2 h3 h4 h5
theorem BLT_all (bl : BLT L xs w P h s) : ∃ (cx : Nat → Nat) (gn : Nat) (kl ml : List Nat) (vs : List Value) (u2 cap ca oa : Nat) (A B A0 : Nat → Int32), cx 8 = P ∧ JE L xs cx h s kl.length kl ml ∧ (∀ m M, ml[m]? = some M → bJ L xs h s kl.length kl M m) ∧ hc h P = some (.inr (4, vs)) ∧ vs[1]? = some (.ref (cx 9)) ∧ vs[2]? = some (.ref (cx 10)) ∧ vs[6]? = some (va_rf (kO kl (kF (s.2.2 62) 1298229614 kl.length 0))) ∧ (vs[9]? = some (.ref ca) ∧ vs[10]? = some (.ref oa) ∧ vs[11]? = some (.int (Int32.ofNat u2))) ∧ (∃ ar c, aL h (cx 9) ar c kl) ∧ (∃ ar c, aL h (cx 10) ar c ml) ∧ (ml.length ≤ 72 ∧ mnX s kl.length ml.length gn) ∧ (hc h ca = some (iaA cap A0) ∧ hc h oa = some (iaA cap B) ∧ u2 ≤ cap ∧ cap ≤ 100000 ∧ u2 ≤ 9000 ∧ P ≤ ca ∧ P ≤ oa) ∧ (∀ i, i < u2 → A i = A0 i) ∧ (∀ i, u2 ≤ i → A i = 99) ∧ ∀ m M, ml[m]? = some M → ∃ q, mQ L xs h s gn u2 A B m M q := by
  obtain ⟨cx, C, Sc, pt, vr, mv, hD, hK, sD, nk, gn, kl, ml, u, b, A, B, c8, dc, ⟨_, _, emv⟩, kb, s57, _, g, f, rk, _, _, ⟨_, ub, u3, u4, vv⟩, m11, codes⟩ := bl
  have nk' : kl.length = nk := dc.1.2.1
  subst nk'
  have g29 : gn ≤ 2990 := by obtain ⟨_, _, _, _, _, _, _, g29, _⟩ := dc; exact g29
  obtain ⟨_, k2, _, ⟨k6, k7, _, _, k8⟩, ⟨k11, _⟩, _⟩ := kb
  have l72 : ml.length ≤ 72 := by obtain ⟨_, _, _, _, _, _, _, _, _, _, l, _⟩ := dc; exact l
  have e10 : ∃ ar cap, aL hD (cx 10) ar cap ml := by obtain ⟨_, _, _, _, _, _, _, _, _, _, _, e, _⟩ := dc; exact e
  have mn : mnX sD kl.length ml.length gn := by obtain ⟨_, _, _, _, _, _, _, _, _, _, _, _, ⟨_, _, _, m⟩, _⟩ := dc; exact m
  obtain ⟨ar10, cap10, e10⟩ := e10
  have r62 : s.2.2 62 = sD.2.2 62 := rk.2.2 62 (by decide)
  have row : ∀ q, (q ≠ 53 ∧ q ≠ 83 ∧ q ≠ 84 ∧ q ≠ 85 ∧ q ≠ 86) → s.2.1 q = sD.2.1 q := fun q hq => rk_r rk hq
  have je := JE_g g rk dc.1
  rw [c8] at k2
  refine ⟨cx, gn, kl, ml, _, u 2, u 1, u 3, u 4, fun i => if i < u 2 then A i else 99, B, A, c8, je, fun m M hM => bJ_g g rk (dc.2.1 m M hM), k2, rfl, rfl, by rw [r62, ← emv]; rfl, ⟨rfl, rfl, rfl⟩, je.1, ⟨ar10, cap10, g.1.2.1 _ _ _ _ e10⟩, ⟨l72, mnX_k rk mn⟩, ⟨k6, k7, k11, k8, by omega, by omega, by omega⟩, fun i hi => if_pos hi, fun i hi => if_neg (by omega), fun m M hM => ?_⟩
  obtain ⟨lo, hi, c, a0, e0, mf, y1, y2, y3, y4⟩ := codes rfl m M (List.getElem?_eq_some_iff.mp hM).1 hM
  obtain ⟨pl, ph, Bn, bb, f1, f2, f3, ⟨_, x1, x2, x3, x4, xs', nl, np, x5, x6, x7, x8, x9⟩, f5, f6, f7, f8, f9, f10, _, f12, f13⟩ := mf
  have v53 : ∀ n, s.2.1 44 n = 20 → s.2.1 53 n = sD.2.1 53 n := fun n hn => vv.2 n (by rw [← row 44 (by decide)]; exact hn)
  have mct : MCT s (s.2.1 53) (fun i => if i < u 2 then A i else 99) B m c lo hi a0 e0 := MCT_of rk (y4 _ _ B (fun _ _ _ => rfl) (fun x h1 h2 => ⟨if_pos (by omega), rfl⟩))
  have nr : NRz L xs h s 49 1 (hi - lo) lo hi pl ph c Bn := NRz_nb (LO := lo) (HI := hi) (nb7_g g) ⟨fun q q1 q2 q3 _ => row q ⟨q3, by omega, by omega, by omega, by omega⟩, rk.2.2 56 (by decide), rk.2.2 61 (by decide), rk.1 26 (by omega), fun i _ _ e => vv.2 i e⟩ 49 1 _ _ _ _ _ _ _ f1 (Nat.le_refl _) (Nat.le_refl _)
  refine ⟨(hi - lo, lo, hi, np, nl), rfl, c, bb, a0, e0, pl, ph, Bn, nr, ⟨x1, f6, f7, f8, g29⟩, by rw [row 76 (by decide)]; exact f5, by rw [row 44 (by decide)]; exact x2, by rw [row 45 (by decide)]; exact f9, by rw [row 49 (by decide)]; exact x3, by rw [row 54 (by decide)]; exact x4, g.2.2 _ _ _ (by decide) x7, y1, ⟨x6, x5⟩, by rw [row 77 (by decide)]; exact x8, ⟨fun n n' h1 h2 h3 h4 h5 => ?_, fun n sl h1 h2 h3 h4 h5 => ?_⟩, fun n sl h1 h2 h3 h4 h5 => ?_, mct, by rw [row 75 (by decide), row 70 (by decide)]; exact f10, fun k0 h1 h2 h3 h4 => ?_⟩
  · rw [v53 n h4, v53 n' h5]
    rw [row 44 (by decide)] at h4 h5
    exact f12 n n' h1 h2 h3 h4 h5
  · rw [v53 n h3] at h5
    rw [row 44 (by decide)] at h3
    obtain ⟨sl', z1, z2, z3, z4⟩ := x9 n h1 h2 h3
    have e : sl = sl' := ofn_inj (by omega) (by omega) (h5.symm.trans z2)
    show np ≤ sl
    omega
  · rw [v53 n h3] at h5
    rw [row 44 (by decide)] at h3
    obtain ⟨sl', z1, z2, z3, z4⟩ := x9 n h1 h2 h3
    have e : sl = sl' := ofn_inj (by omega) (by omega) (h5.symm.trans z2)
    show sl < nl
    omega
  · rw [row 71 (by decide)] at h2
    rw [row 66 (by decide)] at h3
    rw [row 70 (by decide)] at h4
    obtain ⟨us, z1, z2⟩ := xs' k0 h1 h2 h3 h4
    exact ⟨us, pmT_k rk z1, z2⟩
end STB
