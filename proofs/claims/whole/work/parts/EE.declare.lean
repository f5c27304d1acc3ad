/-! BOTH DECLARE: the same fault, and types that agree. -/
/-- what both know once all is declared -/
def DCL (L : Nat) (xs : Nat → Int32) (h : rm_H) (s : rS) (g : Nat → Nat) (ts kl ml : List Nat) (h' : rm_H) (s' : rS) : Prop := (∀ d ∈ ts, ∃ x, fd h' 10 d 7 = some (.int x) ∧ tyR L xs h s kl.length d x) ∧ (∀ y, y < g 5 → tcR s kl.length (dyK s kl.length y).1 (s'.2.1 60 y)) ∧ (∀ j, 1 ≤ j → j < g 4 → s.2.1 44 j = 8 → s'.2.1 53 j = kI (kF (s.2.2 62) (s.2.2 56 j) kl.length 0)) ∧ (∀ j, ¬ (1 ≤ j ∧ j < g 4 ∧ s.2.1 44 j = 8) → s'.2.1 53 j = s.2.1 53 j) ∧ ∀ m M, ml[m]? = some M → mD s kl.length h' m M
section BD
variable {L : Nat} {xs : Nat → Int32} {zf : Value} {w k k2 n nk : Nat} {cx : Nat → Nat} {F : Nat → Nat → Int32} {N : Nat → Int64} {q : List Value} {h hT h1 : rm_H} {s s1 : rS} {g : Nat → Nat} {ts kl ml : List Nat} {d y A B np f0 m M kk K gn a9 c9 a10 c10 : Nat} {pt vr : Int32}
theorem b_decl (z : SY cx F N q h s g ts) (hg0 : g 0 ≤ 2000) (l8 : kl.length ≤ 8) (n0 : kl.length ≠ 0) (e32 : s.1 32 = Int32.ofNat kl.length) (e9 : aL h (cx 9) a9 c9 kl) (e10 : aL h (cx 10) a10 c10 ml) (kj : KJs L xs cx F N q A h s g ts kl ml) (hA : cx 8 ≤ A) (h3 : s.1 3 = Int32.ofNat (cx 6)) (hw : 4100 ≤ w) : ∃ h' s' a b, dM L xs zf w (k + 7) 145 [.ref (cx 8)] h = some (none, h') ∧ rM w (k2 + 4) 326 [.ref 36] s = some (none, s') ∧ dI h h' ∧ dJ s s' ∧ hc h' (cx 8) = some (pgD cx (s.1 24) (s.1 25) (va_rf (kO kl (kF (s.2.2 62) 1298229614 kl.length 0))) a b) ∧ s'.1 57 = a ∧ s'.1 58 = b ∧ mn (dSR s kl.length ml.length (g 5) (g 4)) a b ∧ DCL L xs h s g ts kl ml h' s' := by
  obtain ⟨⟨p0, ⟨a1, a2, a3, a4⟩, rt, ch, ⟨c1, c2, c3, c4⟩, b1, b2, b3, b4⟩, g6, t⟩ := id z
  obtain ⟨j1, j2, j3, f0, np, j4, j5, j6, j7, j8, j9⟩ := kj
  obtain ⟨_, q2, q3, q4, q5⟩ := j3 n0
  have hl : ml.length ≤ 72 := by omega
  have v26 : (s.1 26).toInt ≤ 2000 := by rw [c3, of_int (by omega)]; omega
  have kb := kx_B l8 hl (by omega) j9
  have all := mx_all hl q5 (q3.trans j2) j9
  have kmk := kx_mk hl j9
  obtain ⟨t1, t2, t3, t4, _⟩ := id t
  have dat : ∀ d ∈ ts, ∃ bn c cp cq tq, dDat L xs h d bn c cp cq tq ∧ ((∃ y, y < g 5 ∧ dkF s kl.length bn c cp cq tq = dyK s kl.length y) ∨ ∃ n, (1 ≤ n ∧ n < g 4 ∧ s.2.1 44 n = 8) ∧ dkF s kl.length bn c cp cq tq = mdK s kl.length n) := by
    intro d hd
    obtain ⟨_, _, u⟩ := t2 d hd
    rcases u with ⟨y, u1, u2⟩ | ⟨n, u0, u1, u2, u3⟩
    · exact ⟨_, _, _, _, _, (tyD_dat (tyD_L u2)).1, Or.inl ⟨y, u1, rfl⟩⟩
    · exact ⟨_, _, _, _, _, nwD_dat (nwD_L u3), Or.inr ⟨n, ⟨u0, u1, u2⟩, rfl⟩⟩
  obtain ⟨h', x1, x2, ⟨a, b, x3, x4⟩, x5, x6⟩ := c_declare (L := L) (xs := xs) (zf := zf) (w := w) (k := k) (s := s) (ml := ml) (kl := kl) ch.1 e9 e10 ch.2.1 (by omega) (by omega) kb (fun d hd => by
    obtain ⟨_, ⟨fs, u1, _, u2⟩, _⟩ := t2 d hd
    obtain ⟨bn, c, cp, cq, tq, u3, _⟩ := dat d hd
    exact ⟨by rw [fd_of u1]; exact u2, bn, c, cp, cq, tq, u3⟩) (fun hT i m M hM => by
    obtain ⟨kk, K, u1, u2⟩ := all m M hM
    exact mx_mB t v26 hA u1 i u2) h3 kmk (by omega)
  have prm : ∀ m, m < ml.length → mRh s (g 5) m := by
    intro m hm
    obtain ⟨M, hM⟩ : ∃ M, ml[m]? = some M := ⟨ml[m], List.getElem?_eq_getElem hm⟩
    obtain ⟨kk, K, u1, u2⟩ := all m M hM
    have kk8 := (List.getElem?_eq_some_iff.mp u1).1
    obtain ⟨lo, hi', pl', ph, x, ⟨_, _, v2, _, _, ⟨l, ar, cap, ds, p0, w1, w2, w3, w4, w5, w6, w7, w8, w9⟩, _⟩, _⟩ := u2
    refine ⟨kk, p0, p0 + ds.length, v2, by omega, w5, w6, by omega, w8, fun i i1 i2 => ?_⟩
    obtain ⟨d, hd⟩ : ∃ d, ds[i - p0]? = some d := ⟨ds[i - p0]'(by omega), List.getElem?_eq_getElem (by omega)⟩
    obtain ⟨⟨_, _, _, y, y1, y2, _⟩, _⟩ := w9 _ d hd
    rw [show p0 + (i - p0) = i from by omega] at y1
    rw [c3, of_int (by omega)] at y2
    exact ⟨y, by omega, y1⟩
  have krg : ∀ j, j < kl.length → ∃ f0 f1 m0 m1, s.2.1 64 j = Int32.ofNat f0 ∧ s.2.1 64 (j + 1) = Int32.ofNat f1 ∧ f0 ≤ f1 ∧ f1 ≤ 64 ∧ s.2.1 65 j = Int32.ofNat m0 ∧ s.2.1 65 (j + 1) = Int32.ofNat m1 ∧ m0 + 1 ≤ m1 ∧ m1 ≤ 72 := by
    intro j hj
    obtain ⟨K, hK⟩ : ∃ K, kl[j]? = some K := ⟨kl[j], List.getElem?_eq_getElem hj⟩
    obtain ⟨_, ⟨f0, fl, af, cf, fds, _, _, u1, u2, u3⟩, m0, ml', am, cm, mks, _, _, u4, u5, u6⟩ := kb.2 j K hK
    exact ⟨f0, _, m0, _, u1, u2, by omega, u3, u4, u5, by omega, u6⟩
  obtain ⟨s', y1, y2, y3, y4, y5, y6⟩ := r_declare (w := w) (k := k2) (s0 := s) (nk := kl.length) (n := g 5) (nm := ml.length) (gn := g 4) ⟨e32, l8, fun j hj => by
    obtain ⟨K, hK⟩ : ∃ K, kl[j]? = some K := ⟨kl[j], List.getElem?_eq_getElem hj⟩
    exact (kb.1.2.2 j K hK).1⟩ ⟨e32, l8, krg⟩ c3 (by omega) (fun y hy => by
    obtain ⟨d, _, u⟩ := t3 y hy
    exact (tyD_dat u).2) j2 hl prm c2 ⟨c4, by omega⟩ (fun j hj => by
    obtain ⟨f0, f1, m0, m1, _, _, _, _, u5, u6, u7, u8⟩ := krg j hj
    obtain ⟨K, hK⟩ : ∃ K, kl[j]? = some K := ⟨kl[j], List.getElem?_eq_getElem hj⟩
    obtain ⟨mk, l, ar, cap, ds, p0, _, _, _, v1, v2, v3⟩ := kmk j K hK
    rw [show nn s 65 j = m0 from by unfold nn; rw [u5, of_clamp (by omega)]] at v1 v2
    exact ⟨m0, p0, _, u5, by omega, v1, v2, by omega, v3⟩) a1 a2 hw
  have sets : ∀ u v, dSC L xs h s kl.length ml.length ts u v ↔ dSR s kl.length ml.length (g 5) (g 4) u v := by
    intro u v
    unfold dSC dSR
    have ty : (∃ j d, j < ts.length ∧ ts[j]? = some d ∧ noR L xs h s kl.length d u v) ↔ ((∃ y, y < g 5 ∧ (dyK s kl.length y).2 = some (u, v)) ∨ ∃ i, (1 ≤ i ∧ i < g 4 ∧ s.2.1 44 i = 8) ∧ (mdK s kl.length i).2 = some (u, v)) := by
      constructor
      · rintro ⟨j, d, _, hd, bn, c, cp, cq, tq, r1, r2⟩
        obtain ⟨bn', c', cp', cq', tq', r3, r4⟩ := dat d (List.mem_of_getElem? hd)
        rw [dkF_uq r1 r3] at r2
        rcases r4 with ⟨y, r5, r6⟩ | ⟨n, r5, r6⟩
        · rw [r6] at r2
          exact Or.inl ⟨y, r5, r2⟩
        · rw [r6] at r2
          exact Or.inr ⟨n, r5, r2⟩
      · rintro (⟨y, r1, r2⟩ | ⟨n, ⟨r0, r1, r1b⟩, r2⟩)
        · obtain ⟨d, hd, e⟩ := t3 y r1
          obtain ⟨j, hj⟩ := List.getElem?_of_mem hd
          exact ⟨j, d, (List.getElem?_eq_some_iff.mp hj).1, hj, _, _, _, _, _, (tyD_dat (tyD_L e)).1, r2⟩
        · obtain ⟨d, hd, e⟩ := t4 n r0 r1 r1b
          obtain ⟨j, hj⟩ := List.getElem?_of_mem hd
          exact ⟨j, d, (List.getElem?_eq_some_iff.mp hj).1, hj, _, _, _, _, _, nwD_dat (nwD_L e), r2⟩
    rw [ty]
    constructor
    · rintro ((((r | r) | r) | r) | r)
      · exact Or.inl (Or.inl (Or.inl (Or.inl r)))
      · exact Or.inl (Or.inr r)
      · exact Or.inl (Or.inl (Or.inl (Or.inr r)))
      · exact Or.inl (Or.inl (Or.inr r))
      · exact Or.inr r
    · rintro ((((r | r) | r) | r) | r)
      · exact Or.inl (Or.inl (Or.inl (Or.inl r)))
      · exact Or.inl (Or.inl (Or.inr r))
      · exact Or.inl (Or.inr r)
      · exact Or.inl (Or.inl (Or.inl (Or.inr r)))
      · exact Or.inr r
  have mm := mn_ext sets x4
  obtain ⟨m1, m2⟩ := mn_uq y3 mm
  exact ⟨h', s', a, b, x1, y1, x2, y2, x3, m1, m2, mm, x5, y4, y5, y6, x6⟩
end BD
