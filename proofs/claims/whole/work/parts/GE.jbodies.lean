/-! BOTH CHECK ALL BODIES. -/
/-- both have checked the bodies below i, or a fault is noted -/
def CI (L : Nat) (xs : Nat → Int32) (cx : Nat → Nat) (C Sc : Nat) (pt vr : Int32) (mv : Value) (hD hK : rm_H) (sD : rS) (gn : Nat) (ml : List Nat) (u0 : Nat → Nat) (i : Nat) (h : rm_H) (s : rS) (a b : Int32) (u : Nat → Nat) (A B : Nat → Int32) : Prop :=
  KB cx C Sc pt vr mv h a b u A B ∧ s.1 57 = a ∧ ((a ≠ 0 → s.1 58 = b ∧ 0 < a.toInt) ∧ (a = 0 → s.1 58 = -1)) ∧ gH L xs hD h ∧ fr (fun q => cx 8 ≤ q) hD h ∧ rK sD s ∧ (wK2 u0 u hK h ∧ hK.length ≤ h.length)
  ∧ (∀ j M lo hi c : Nat, i ≤ j → ml[j]? = some M → MF L xs cx hD sD gn ml.length j M lo hi c → ∀ n, lo ≤ n → n < hi → s.2.1 53 n = sD.2.1 53 n)
  ∧ ((∀ j b2 : Nat, i ≤ j → j < ml.length → sD.2.1 76 j = Int32.ofNat b2 → b2 < 4400 → u 2 ≤ 3 * b2) ∧ u 2 ≤ 3 * gn ∧ cx 8 ≤ u 3 ∧ cx 8 ≤ u 4 ∧ vFs sD s)
  ∧ (∀ j M : Nat, ml[j]? = some M → ∃ en, fd h 11 M 11 = some (.int en))
  ∧ (a = 0 → ∀ j M : Nat, j < i → ml[j]? = some M → ∃ lo hi c a0 e0, MF L xs cx hD sD gn ml.length j M lo hi c ∧ fd h 11 M 11 = some (.int (Int32.ofNat a0)) ∧ a0 ≤ e0 ∧ e0 ≤ u 2 ∧ ∀ SL AA BB : Nat → Int32, (∀ n, lo ≤ n → n < hi → SL n = s.2.1 53 n) → (∀ x, a0 ≤ x → x < e0 → AA x = A x ∧ BB x = B x) → MCD sD SL AA BB j c lo hi a0 e0)
section JBS
variable {L : Nat} {xs : Nat → Int32} {zf : Value} {w C Sc nk gn j j2 i m M lo hi c : Nat} {cx : Nat → Nat} {hD hK h h' : rm_H} {sD s s' : rS} {pt vr a b : Int32} {mv : Value} {kl ml : List Nat} {u0 u : Nat → Nat} {A B : Nat → Int32}
theorem MCD_k {SL AA BB : Nat → Int32} {lo hi a e : Nat} (rk : rK s s') (q : MCD s' SL AA BB m c lo hi a e) : MCD s SL AA BB m c lo hi a e := by
  obtain ⟨s0, G, ts, p0, how, tg, gn', e', q1, q2, q3, q4, q5, q6, q7⟩ := q
  have r75 : s'.2.1 75 = s.2.1 75 := rk_r rk (by decide)
  have r71 : s'.2.1 71 = s.2.1 71 := rk_r rk (by decide)
  have r70 : s'.2.1 70 = s.2.1 70 := rk_r rk (by decide)
  have r66 : s'.2.1 66 = s.2.1 66 := rk_r rk (by decide)
  rw [r75, r71, r70, r66] at q7
  exact ⟨s0, G, ts, p0, how, tg, gn', e', rK_trans rk q1, q2, q3, q4, q5, q6, q7⟩
theorem nb7_g (g : gH L xs h h') : nb7 L xs h h' := ⟨g.1.1, g.1.2.1, g.1.2.2.1, fun p j v _ e => g.1.2.2.2.1 p j v e, g.1.2.2.2.2⟩
theorem rN_k (rk : rK s s') (v53 : ∀ i, lo ≤ i → i < hi → s'.2.1 53 i = s.2.1 53 i) : rN lo hi s s' := ⟨fun q q1 q2 q3 _ => rk_r rk ⟨q3, by omega, by omega, by omega, by omega⟩, rk.2.2 56 (by decide), rk.2.2 61 (by decide), rk.1 26 (by omega), fun i i1 i2 _ => v53 i i1 i2⟩
/-- one body more -/
theorem ci_s (hC8 : cx 8 ≤ C) (hS8 : cx 8 ≤ Sc) (dc : DCX L xs w cx hD sD nk gn kl ml) (ci : CI L xs cx C Sc pt vr mv hD hK sD gn ml u0 i h s 0 b u A B) (hm : ml[i]? = some M) : ∃ h' s' a' b' u' A' B', dM L xs zf w (254 + j) 164 [.ref C, .ref M] h = some (none, h') ∧ rM w (254 + j2) 334 [.ref 36, .int (Int32.ofNat i)] s = some (none, s') ∧ CI L xs cx C Sc pt vr mv hD hK sD gn ml u0 (i + 1) h' s' a' b' u' A' B' := by
  obtain ⟨kb, s57, ⟨_, s58⟩, g, f, rk, wk, v53, ⟨ub, _, ub3, ub4, vv⟩, m11, codes⟩ := ci
  have g29 : gn ≤ 2990 := dc.2.2.2.2.2.2.2.1
  have l72 : ml.length ≤ 72 := dc.2.2.2.2.2.2.2.2.2.2.1
  have il := (List.getElem?_eq_some_iff.mp hm).1
  obtain ⟨lo, hi, c, mf⟩ := dc.2.2.2.2.2.2.2.2.2.2.2.2.2 i M hm
  have vi := v53 i M lo hi c (Nat.le_refl _) hm mf
  obtain ⟨pl, ph, Bn, bb, f1, f2, f3, f4, f5, f6, f7, f8, f9, f10, ⟨np, f11, f11b, f11c⟩, f12, f13⟩ := id mf
  have r : ∀ q, (q ≠ 53 ∧ q ≠ 83 ∧ q ≠ 84 ∧ q ≠ 85 ∧ q ≠ 86) → s.2.1 q = sD.2.1 q := fun q hq => rk_r rk hq
  have ubb := ub i bb (Nat.le_refl _) il f5 (by omega)
  obtain ⟨h', s', a', b', u', A', B', q1, q2, q3, q4, q5, q5b, q6, q6b, q7, q8, q9, q10, q11, q12, q13, q14⟩ := j_164 (zf := zf) (j := j) (j2 := j2) (nk := nk) (kl := kl) (ml := ml) (lo := lo) (hi := hi) (pl := pl) (ph := ph) (c := c) (bb := bb) (m := i) (M := M) (L := L) (xs := xs) (w := w) kb s57 (s58 rfl) (by omega) (fun h' s' g' f' rk' v' => JCX_of dc hm mf (gH_trans g g') (fr_trans f f' (fun _ _ z => z)) (rK_trans rk rk') (fun n n1 n2 => (v' n).trans (vi n n1 n2))) (fun h' s' g' f' rk' v' => NRz_nb (nb7_g (gH_trans g g')) (rN_k (rK_trans rk rk') (fun n n1 n2 => (v' n).trans (vi n n1 n2))) 49 1 _ _ _ _ _ _ _ f1 (Nat.le_refl _) (Nat.le_refl _)) ⟨f2.1, f2.2.1⟩ ⟨hC8, hS8, f2.2.2, ub3, ub4⟩ (g.2.2 _ _ _ (by decide) f3) (m11 i M hm) (by rw [r 76 (by decide)]; exact f5) (by omega) (by rw [r 45 (by decide)]; exact f9) (by rw [r 75 (by decide), r 70 (by decide)]; exact f10) ⟨np, f11, by rw [r 77 (by decide)]; exact f11b, fun n n1 n2 n3 => by
    rw [r 44 (by decide)] at n3
    rw [vi n n1 n2]
    exact f11c n n1 n2 n3⟩
  have un : cx 8 ≤ u' 3 ∧ cx 8 ≤ u' 4 := by
    have lt := hc_lt kb.2.1
    refine ⟨?_, ?_⟩
    · rcases q9.1 with z | z <;> omega
    · rcases q9.2.1 with z | z <;> omega
  refine ⟨h', s', a', b', u', A', B', q1, q2, q3, q4, ⟨q5, q5b⟩, gH_trans g q6, fr_trans f q6b (fun _ _ z => z), rK_trans rk q7, ⟨wK2_trans wk.1 q9 wk.2, Nat.le_trans wk.2 q11⟩, fun j2 M2 lo2 hi2 c2 hj hM2 mf2 n n1 n2 => ?_, ⟨fun j2 b2 hj hl e76 hb => ?_, by omega, un.1, un.2, vFs_trans vv ((fEv_all w _).1 334 (by decide) _ _ _ _ q2)⟩, fun j2 M2 hM2 => ?_, fun z0 j2 M2 hj hM2 => ?_⟩
  · obtain ⟨_, _, _, b2, _, _, _, _, g5, g6, g7, g8, _⟩ := id mf2
    have jl := (List.getElem?_eq_some_iff.mp hM2).1
    have o := f13 j2 b2 (by omega) jl g5 (by omega)
    rw [q8 n (fun z => by omega)]
    exact v53 j2 M2 lo2 hi2 c2 (by omega) hM2 mf2 n n1 n2
  · have o := f13 j2 b2 (by omega) hl e76 hb
    omega
  · by_cases e : M2 = M
    · subst e
      exact ⟨_, q13⟩
    · obtain ⟨en, hen⟩ := m11 j2 M2 hM2
      exact ⟨en, q12 M2 _ e hen⟩
  · obtain ⟨p1, p3⟩ := q14 z0
    by_cases e : j2 = i
    · subst e
      rw [hm] at hM2
      cases hM2
      have uu : u 2 ≤ u' 2 := q9.2.2.2.2.1
      exact ⟨lo, hi, c, u 2, u' 2, mf, q13, uu, Nat.le_refl _, fun SL AA BB y1 y2 => MCD_k rk (p3 SL AA BB y1 y2)⟩
    · obtain ⟨lo2, hi2, c2, a0, e0, mf2, g1, g2, g3, g4⟩ := codes rfl j2 M2 (by omega) hM2
      have ne : M2 ≠ M := fun z => by
        subst z
        have z1 := (dc.2.1 j2 M2 hM2).1.2.2.1
        have z2 := (dc.2.1 i M2 hm).1.2.2.1
        rw [z1] at z2
        have z3 := Value.int.inj (Option.some.inj z2)
        have := congrArg Int32.toInt z3
        rw [of_int (by omega), of_int (by omega)] at this
        omega
      have uu : u 2 ≤ u' 2 := q9.2.2.2.2.1
      obtain ⟨_, _, _, b2, _, _, _, _, k5, k6, k7, k8, _, _, _, _, k13⟩ := id mf2
      have o := k13 i bb (by omega) il f5 (by omega)
      refine ⟨lo2, hi2, c2, a0, e0, mf2, q12 M2 _ ne g1, g2, by omega, fun SL AA BB y1 y2 => g4 SL AA BB (fun n n1 n2 => (y1 n n1 n2).trans (q8 n (fun z => by omega))) (fun x x1 x2 => ?_)⟩
      have q := y2 x x1 x2
      have o2 := p1 x (by omega)
      exact ⟨q.1.trans o2.1, q.2.trans o2.2⟩
end JBS
