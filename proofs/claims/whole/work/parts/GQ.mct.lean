/-! THE CODE OF A METHOD, over the state as it is when all is checked. -/
/-- the code of method m, from a to e -/
def MCT (s : rS) (SL A B : Nat → Int32) (m c lo hi a e : Nat) : Prop := ∃ (G : List scN) (ts : List Nat) (p0 how tg : Nat) (gn' : Int32) (e' : Nat), pmT s m ts ∧ s.2.1 77 m = Int32.ofNat p0 ∧ GP s p0 ts G ∧ G.length = ts.length ∧ (TU s SL A B m (hi - lo)).2 0 G 0 c how tg gn' a e' ∧ ((how = 1 ∧ s.2.1 75 m ≠ -1 ∧ e = e') ∨ (how = 0 ∧ s.2.1 75 m = -1 ∧ e = e' + 1 ∧ A e' = 19 ∧ ∃ k : Nat, k < 8 ∧ s.2.1 71 m = Int32.ofNat k ∧ B e' = if s.2.1 70 m = 0 ∧ s.2.1 66 k = 0 then 1 else 0))
section MCS
variable {L : Nat} {xs : Nat → Int32} {w P : Nat} {h : rm_H} {s s' : rS} {SL A B : Nat → Int32} {m c lo hi a e : Nat}
theorem rK_symm (e : rK s s') : rK s' s := ⟨fun j hj => (e.1 j hj).symm, fun p q1 q2 q3 q4 q5 => (e.2.1 p q1 q2 q3 q4 q5).symm, fun p q => (e.2.2 p q).symm⟩
theorem MCT_of (rk : rK s s') (q : MCD s SL A B m c lo hi a e) : MCT s' SL A B m c lo hi a e := by
  obtain ⟨s0, G, ts, p0, how, tg, gn', e', q1, q2, q3, q4, q5, q6, q7⟩ := q
  have r0 : rK s0 s' := rK_trans (rK_symm q1) rk
  have r75 : s'.2.1 75 = s.2.1 75 := rk_r rk (by decide)
  have r71 : s'.2.1 71 = s.2.1 71 := rk_r rk (by decide)
  have r70 : s'.2.1 70 = s.2.1 70 := rk_r rk (by decide)
  have r66 : s'.2.1 66 = s.2.1 66 := rk_r rk (by decide)
  rw [← TU_k r0] at q6
  rw [← r75, ← r71, ← r70, ← r66] at q7
  exact ⟨G, ts, p0, how, tg, gn', e', pmT_k r0 q2, by rw [rk_A r0 (by decide)]; exact q3, GP_k r0 q4, q5, q6, q7⟩
/-- a built program: every method has its code, by its start -/
theorem BLT_code (b : BLT L xs w P h s) : ∃ (cx : Nat → Nat) (gn : Nat) (kl ml : List Nat) (hD : rm_H) (sD : rS) (u : Nat → Nat) (A B : Nat → Int32), cx 8 = P ∧ DCX L xs w cx hD sD kl.length gn kl ml ∧ gH L xs hD h ∧ rK sD s ∧ (∃ pt vr mv b, hc h P = some (pgK cx pt vr mv 0 b (u 3) (u 4) (u 2))) ∧ cdR h (u 3) (u 4) (u 1) A B ∧ u 2 ≤ u 1 ∧ u 2 ≤ 8970 ∧ ∀ m M, ml[m]? = some M → ∃ lo hi c a0 e0, MF L xs cx hD sD gn ml.length m M lo hi c ∧ fd h 11 M 11 = some (.int (Int32.ofNat a0)) ∧ a0 ≤ e0 ∧ e0 ≤ u 2 ∧ MCT s (s.2.1 53) A B m c lo hi a0 e0 := by
  obtain ⟨cx, C, Sc, pt, vr, mv, hD, hK, sD, nk, gn, kl, ml, u, b, A, B, c8, dc, _, kb, s57, _, g, f, rk, _, _, ⟨_, ub, _⟩, _, codes⟩ := b
  have nk' : kl.length = nk := dc.1.2.1
  subst nk'
  have g29 : gn ≤ 2990 := by obtain ⟨_, _, _, _, _, _, _, g29, _⟩ := dc; exact g29
  obtain ⟨_, k2, _, k6, ⟨k11, _⟩, _⟩ := kb
  refine ⟨cx, gn, kl, ml, hD, sD, u, A, B, c8, dc, g, rk, ⟨pt, vr, mv, b, by rw [← c8]; exact k2⟩, k6, k11, by omega, fun m M hM => ?_⟩
  obtain ⟨lo, hi, c, a0, e0, z1, z2, z3, z4, z5⟩ := codes rfl m M (List.getElem?_eq_some_iff.mp hM).1 hM
  exact ⟨lo, hi, c, a0, e0, z1, z2, z3, z4, MCT_of rk (z5 _ A B (fun _ _ _ => rfl) (fun _ _ _ => ⟨rfl, rfl⟩))⟩
end MCS
