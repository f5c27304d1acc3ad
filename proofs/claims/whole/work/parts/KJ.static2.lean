/-! WHAT A PROGRAM THAT WAS BUILT GIVES: kinds and methods. -/
section STM
variable {L : Nat} {xs : Nat → Int32} {w P k K nk m M kk : Nat} {cx : Nat → Nat} {h : rm_H} {s : rS} {Z : Nat → Prop} {kl ml : List Nat} {kc : kCi} {c : Int64} {so : Int32}
/-- kind k: its cell, its maker -/
theorem kK_of (zd : zDj h Z P) (je : JE L xs cx h s nk kl ml) (hk : k < nk) (kq : kQ L xs h s kl k (kc k)) : ∃ (mk m0 n1 : Nat), KBk h Z (kc k).2.2 (Int32.ofNat k) (kc k).1 (.ref mk) ∧ s.2.1 65 k = Int32.ofNat m0 ∧ s.2.1 65 (k + 1) = Int32.ofNat (m0 + 1 + n1) ∧ m0 + 1 + n1 ≤ 72 ∧ ml[m0]? = some mk ∧ s.2.1 70 m0 = 0 ∧ (∀ i, i ≤ n1 → s.2.1 71 (m0 + i) = Int32.ofNat k ∧ ∃ M, ml[m0 + i]? = some M) ∧ fd h 11 mk 3 = some (.ref 10) ∧ (∀ i, i < n1 → ∃ d nq, ml[m0 + 1 + i]? = some d ∧ fd h 11 d 3 = some (.ref nq) ∧ nS L xs h nq (s.2.2 78 (m0 + 1 + i))) ∧ ∃ nq, fd h 9 (kc k).2.2 0 = some (.ref nq) ∧ nS L xs h nq (s.2.2 62 k) := by
  obtain ⟨q1, q2, fl, ar, cap, f0, fs, q3, q4, q5, q6, q7, q8, q9⟩ := kq
  obtain ⟨⟨ac, a1, a2, a3⟩, b1, _, mk, l, am, cm, ms, m0, gg, d1, d2, d3, d4, d5, ⟨d6, d6b, d6c, d6d⟩, d7, d8, d9, d10, d11, d12, d13, ⟨nq, d14, d15⟩, d16⟩ := je.2.2.2.2 k _ q1
  obtain ⟨gs, e1, e2⟩ := fd_c q3
  rw [fd_of e1] at b1 d2
  obtain ⟨mc, l1, _⟩ := id q4
  refine ⟨mk, m0, ms.length, ⟨gs, fl, ar, .int mc, e1, b1, e2, d2, by rw [← q5]; exact l1, zd.1 _ _ _ e1 (by omega), (aL_z zd q4).1⟩, d3, d4, d5, d11, d9, fun i hi => ⟨d13 i hi, ?_⟩, d16, fun i hi => ?_, nq, d14, d15⟩
  · cases i with
    | zero => exact ⟨mk, d11⟩
    | succ i =>
      have lt : i < ms.length := by omega
      refine ⟨ms[i]'lt, ?_⟩
      rw [show m0 + (i + 1) = m0 + 1 + i from by omega]
      exact d12 i _ (List.getElem?_eq_getElem lt)
  · obtain ⟨⟨nq2, z1, z2⟩, _⟩ := d6d i (ms[i]'hi) (List.getElem?_eq_getElem hi)
    exact ⟨ms[i]'hi, nq2, d12 i _ (List.getElem?_eq_getElem hi), z1, z2⟩
theorem kBa_of (zd : zDj h Z P) (je : JE L xs cx h s nk kl ml) (kq : ∀ k, k < nk → kQ L xs h s kl k (kc k)) (k9 : ∀ k, nk ≤ k → (kc k).1 = 9) : kBa s kc h Z := fun k k8 f8 _ => by
  have hk : k < nk := by
    refine Decidable.byContradiction (fun z => ?_)
    have := k9 k (by omega)
    omega
  obtain ⟨mk, m0, n1, e, _⟩ := kK_of zd je hk (kq k hk)
  exact ⟨_, e⟩
theorem kFr_of (kq : ∀ k, k < nk → kQ L xs h s kl k (kc k)) (k9 : ∀ k, nk ≤ k → (kc k).1 = 9) : kFr s kc := fun k k8 f8 _ => by
  have hk : k < nk := by
    refine Decidable.byContradiction (fun z => ?_)
    have := k9 k (by omega)
    omega
  obtain ⟨em, e, _⟩ := kQ_em k8 (kq k hk)
  exact ⟨em, e⟩
theorem kSh_of {vs : List Value} {x9 ar cap : Nat} (zd : zDj h Z P) (je : JE L xs cx h s nk kl ml) (hP : hc h P = some (.inr (4, vs))) (v1 : vs[1]? = some (.ref x9)) (el : aL h x9 ar cap kl) (kq : ∀ k, k < nk → kQ L xs h s kl k (kc k)) (k9 : ∀ k, nk ≤ k → (kc k).1 = 9) : kSh L xs s kc h Z P := by
  obtain ⟨z1, z2⟩ := aL_z zd el
  refine ⟨vs, x9, ar, cap, kl, hP, v1, el, zd.1 _ _ _ hP (by omega), z1, z2, fun K hK => ?_, fun k k8 f8 => ?_⟩
  · obtain ⟨k, hk⟩ := List.getElem?_of_mem hK
    obtain ⟨⟨ac, a1, _⟩, _⟩ := je.2.2.2.2 k K hk
    obtain ⟨fs, e1, _⟩ := fd_c a1
    exact ⟨fs, e1, zd.1 _ _ _ e1 (by omega)⟩
  · have hk : k < nk := by
      refine Decidable.byContradiction (fun z => ?_)
      have := k9 k (by omega)
      omega
    obtain ⟨mk, m0, n1, _, _, _, _, _, _, _, _, _, nq, y1, y2⟩ := kK_of zd je hk (kq k hk)
    obtain ⟨q1, q2, fl, af, cf, f0, ds, q3, q4, q5, q6, q7, q8, q9⟩ := kq k hk
    obtain ⟨gs, e1, e2⟩ := fd_c q3
    rw [fd_of e1] at y1
    obtain ⟨u1, u2⟩ := aL_z zd q4
    refine ⟨q1, gs, nq, fl, af, cf, f0, ds, e1, y1, e2, q4, zd.1 _ _ _ e1 (by omega), u1, u2, nS_z zd y2, q5, q6, by rw [q5]; exact q7, by rw [q5]; exact q8, fun i d hd => ?_⟩
    obtain ⟨⟨⟨dq, c1, c2⟩, _, c3⟩, ⟨_, _, _, _, c4⟩⟩ := q9 i d hd
    obtain ⟨dfs, g1, g2⟩ := fd_c c1
    rw [fd_of g1] at c3
    exact ⟨dfs, dq, g1, g2, c3, zd.1 _ _ _ g1 (by omega), nS_z zd c2, c4⟩
/-- a method of a kind of the program -/
theorem mRl_M (zd : zDj h Z P) (je : JE L xs cx h s nk kl ml) (kq : ∀ k, k < nk → kQ L xs h s kl k (kc k)) (hm : mRl s m) : ∃ k M, k < nk ∧ ml[m]? = some M ∧ s.2.1 71 m = Int32.ofNat k ∧ m < 72 ∧ ((s.2.1 70 m = 0 ∧ s.2.1 65 k = Int32.ofNat m ∧ fd h 11 M 3 = some (.ref 10)) ∨ ∃ nq, fd h 11 M 3 = some (.ref nq) ∧ nS L xs h nq (s.2.2 78 m) ∧ (∃ m0 : Nat, s.2.1 65 k = Int32.ofNat m0 ∧ m0 < m)) := by
  obtain ⟨k, m0, m1, kr, h0, h1, l1, l2, l3⟩ := hm
  have hk := kRl_nk je kr
  obtain ⟨mk, m0', n1, _, e0, e1, e2, e3, e4, e5, e6, e7, _⟩ := kK_of zd je hk (kq k hk)
  have z0 : m0 = m0' := ofn_inj (by omega) (by omega) (h0.symm.trans e0)
  have z1 : m1 = m0' + 1 + n1 := ofn_inj (by omega) (by omega) (h1.symm.trans e1)
  subst z0
  obtain ⟨y1, M, y2⟩ := e5 (m - m0) (by omega)
  rw [show m0 + (m - m0) = m from by omega] at y1 y2
  refine ⟨k, M, hk, y2, y1, by omega, ?_⟩
  by_cases em : m = m0
  · subst em
    rw [e3] at y2
    cases y2
    exact Or.inl ⟨e4, e0, e6⟩
  · obtain ⟨d, nq, u1, u2, u3⟩ := e7 (m - m0 - 1) (by omega)
    rw [show m0 + 1 + (m - m0 - 1) = m from by omega] at u1 u3
    rw [u1] at y2
    cases y2
    exact Or.inr ⟨nq, u2, u3, m0, e0, by omega⟩
theorem mKd_of (zd : zDj h Z P) (je : JE L xs cx h s nk kl ml) (bj : ∀ m M, ml[m]? = some M → bJ L xs h s nk kl M m) (kq : ∀ k, k < nk → kQ L xs h s kl k (kc k)) : mKd s := by
  intro k so c m mt
  obtain ⟨m0, m1, y1, y2, y3, y4, y5, y6, _, kr⟩ := mt
  have hk := kRl_nk je kr
  obtain ⟨mk, m0', n1, _, e0, e1, e2, e3, e4, e5, _⟩ := kK_of zd je hk (kq k hk)
  have z0 : m0 = m0' := ofn_inj (by omega) (by omega) (y1.symm.trans e0)
  have z1 : m1 = m0' + 1 + n1 := ofn_inj (by omega) (by omega) (y2.symm.trans e1)
  subst z0
  obtain ⟨u1, M, u2⟩ := e5 (m - m0) (by omega)
  rw [show m0 + (m - m0) = m from by omega] at u1 u2
  refine ⟨kr.1, by omega, u1, fun s1 _ => ?_⟩
  obtain ⟨⟨_, _, _, ⟨c', c1, _, c3, _⟩, _⟩, _⟩ := bj m M u2
  exact ⟨c', c1, c3 (y6.trans s1)⟩
end STM
