/-! WHAT BOTH HAVE PARSED IS WHAT BOTH DECLARE. -/
section BG
variable {L : Nat} {xs : Nat → Int32} {zf : Value} {w k k2 n nk : Nat} {cx : Nat → Nat} {F : Nat → Nat → Int32} {N : Nat → Int64} {q : List Value} {h hT h1 : rm_H} {s s1 : rS} {g : Nat → Nat} {ts kl ml : List Nat} {d y A B np f0 m M kk K gn : Nat} {pt vr : Int32}
theorem tyD_dat (e : tyD L xs h s d y) : dDat L xs h d 0 (dyC s y) (dyP s y) (s.2.1 58 y) (s.2.1 59 y) ∧ dyW s y := by
  obtain ⟨e1, e2⟩ := e
  unfold dyC dyP dyW
  rcases e2 with ⟨e2, e3⟩ | ⟨tq, e2, e3, e4, e5⟩
  · exact ⟨⟨e1, Or.inl ⟨if_pos e2, e3⟩⟩, Or.inl e2⟩
  · rcases e5 with ⟨e5, e6⟩ | ⟨c, e5, e6, e7, e8⟩
    · refine ⟨⟨e1, Or.inr ⟨tq, _, if_neg (by rw [e5]; decide), e2, e3, e4, ?_, fun z => ?_⟩⟩, Or.inr (Or.inl e5)⟩
      · rw [if_pos e5]; exact e6
      · exact absurd (if_pos e5) z
    · have f6 : ∀ c, c < 5 → ¬ Int32.ofNat c = 6 ∧ ¬ Int32.ofNat c = 5 := by decide
      obtain ⟨g6, g5⟩ := f6 c e5
      rw [← e6] at g6 g5
      refine ⟨⟨e1, Or.inr ⟨tq, _, if_neg g6, e2, e3, e4, ?_, fun _ => e8⟩⟩, Or.inr (Or.inr ⟨c, e5, e6⟩)⟩
      rw [if_neg g5, e6]; exact e7
theorem nwD_dat (e : nwD L xs h s d n) : dDat L xs h d 1 (some (s.2.2 56 n)) (s.2.1 54 n) (s.2.1 55 n) (s.2.1 51 n) := by
  obtain ⟨e1, tq, e2, e3, e4, e5⟩ := e
  rcases e5 with ⟨e5, e6⟩ | ⟨c, e5, e6, e7, e8⟩
  · exact ⟨e1, Or.inr ⟨tq, _, rfl, e2, e3, e4, by rw [e5]; exact e6, fun z => absurd e5 z⟩⟩
  · exact ⟨e1, Or.inr ⟨tq, _, rfl, e2, e3, e4, by rw [e6]; exact e7, fun _ => e8⟩⟩
/-- a Decl's type, once types are declared -/
theorem ty_of (t : TSI cx h s g ts) (i : tI L xs cx pt vr s nk ts h ts.length hT) (h8 : cx 8 ≤ d) (e : tyD L xs h s d y) : d ∈ ts ∧ fd hT 10 d 7 = some (.int (dyK s nk y).1) := by
  obtain ⟨fs, e1, _⟩ := fd_c e.1
  have dm := t.1 d fs h8 e1
  obtain ⟨j, hj⟩ := List.getElem?_of_mem dm
  obtain ⟨x, x1, bn, c, cp, cq, tq, x2, x3⟩ := i.2.2.2.1 j d (List.getElem?_eq_some_iff.mp hj).1 hj
  refine ⟨dm, ?_⟩
  rw [x1, ← x3, dkF_uq x2 (tyD_dat e).1]
  rfl
theorem mx_mB (t : TSI cx h s g ts) (h26 : (s.1 26).toInt ≤ 2000) (hA : cx 8 ≤ A) (hk : kl[kk]? = some K) (i : tI L xs cx pt vr s kl.length ts h ts.length hT) (e : MX L xs h s gn A B np m M kk K) : mB L xs hT s kl m M := by
  obtain ⟨lo, hi, pl, ph, x, a1, a2, a3, a4, a5, a6, a7, a8, a9⟩ := e
  obtain ⟨⟨so, b1, b2, b3, b4, b5⟩, b6, b7, b8, b9, ⟨l, ar, cap, ds, p0, c1, c2, c3, c4, c5, c6, c7, c8, c9⟩, d1, ⟨Bb, bb, cc, lo', hi', pl', ph', u1, u2, u3, u4, u5, u6, u7, u8, u9, u10, u11, u12, u13, nl, np', en, ha, w1, w2, w3, w4, w5, w6, w7, w8⟩⟩ := a1
  have dI1 := i.1
  have m11 : ∀ p j, fd hT 11 p j = fd h 11 p j := i.2.2.2.2
  have so3 : ∀ so, so < 3 → Int32.ofNat so = 1 → so = 1 := by decide
  refine ⟨K, kk, Int32.ofNat so, l, ar, cap, ds, p0, ⟨(m11 M 1).trans b6, hk, b7⟩, ⟨(m11 M 0).trans b2, b3, fun z => ?_⟩, ⟨(m11 M 5).trans c1, dL_I dI1 ⟨c2, by omega, fun j d hj => ?_⟩, c5, c6, c8, fun j d hj => ?_⟩, ?_, (m11 M 12).trans w7, ⟨ha, (m11 M 13).trans w8⟩, (m11 M 2).trans b8⟩
  · rcases b5 with ⟨z1, _⟩ | ⟨_, c, z2, z3, z4, z5⟩
    · exact absurd (so3 so b1 z) z1
    · exact ⟨(m11 M 6).trans (by rw [z4]; exact z3), (m11 M 7).trans z5⟩
  · obtain ⟨⟨z1, z2, z3, z4⟩, _⟩ := c9 j d hj
    exact ⟨z1, z2⟩
  · obtain ⟨⟨z1, z2, z3, y, z4, z5, z6⟩, z7, z8⟩ := c9 j d hj
    have vy : nn s 81 (p0 + j) = y := by
      unfold nn
      rw [z4, of_clamp]
      omega
    rw [(ty_of t i (by omega) z6).2]
    unfold pTy
    rw [vy]
  · rcases d1 with ⟨z1, _⟩ | ⟨rd, y, z1, z2, z3, z4, z5, z6⟩
    · exact Or.inl ((m11 M 8).trans z1)
    · exact Or.inr ⟨rd, _, (m11 M 8).trans z1, (ty_of t i (by omega) z6).2⟩
end BG
section BH
variable {L : Nat} {xs : Nat → Int32} {zf : Value} {w k k2 n nk : Nat} {cx : Nat → Nat} {F : Nat → Nat → Int32} {N : Nat → Int64} {q : List Value} {h hT h1 : rm_H} {s s1 : rS} {g : Nat → Nat} {ts kl ml : List Nat} {d y A B np f0 m M kk K gn a9 c9 a10 c10 : Nat} {pt vr : Int32}
theorem kx_m (hl : ml.length ≤ 72) (e : KX L xs h s gn A B np f0 ml kk K) : ∃ m0 m1, s.2.1 65 kk = Int32.ofNat m0 ∧ s.2.1 65 (kk + 1) = Int32.ofNat m1 ∧ m0 + 1 ≤ m1 ∧ m1 ≤ ml.length ∧ ∀ m, m0 ≤ m → m < m1 → ∃ M, ml[m]? = some M ∧ MX L xs h s gn A B np m M kk K := by
  obtain ⟨nm, pl, ac, fl, mlK, mk, af, cf, am, cm, fds, mks, f00, m0, k1, k2, k3, k4, k5, ⟨k6, k7, k8, k9⟩, ⟨k10, k11, k12⟩, ⟨k13, k14⟩, ⟨k15, k16⟩, k17, ⟨k18, k19, k19b⟩, k20⟩ := e
  have all : ∀ m, m0 ≤ m → m < m0 + 1 + mks.length → ∃ M, ml[m]? = some M ∧ MX L xs h s gn A B np m M kk K := by
    intro m h1 h2
    by_cases z : m = m0
    · rw [z]
      exact ⟨mk, k19, k18⟩
    · obtain ⟨d, hd⟩ : ∃ d, mks[m - (m0 + 1)]? = some d := ⟨mks[m - (m0 + 1)]'(by omega), List.getElem?_eq_getElem (by omega)⟩
      obtain ⟨z1, z2, _⟩ := k20 _ d hd
      rw [show m0 + 1 + (m - (m0 + 1)) = m from by omega] at z1 z2
      exact ⟨d, z2, z1⟩
  refine ⟨m0, m0 + 1 + mks.length, k10, k11, by omega, ?_, all⟩
  obtain ⟨M, hM, _⟩ := all (m0 + mks.length) (by omega) (by omega)
  have := (List.getElem?_eq_some_iff.mp hM).1
  omega
/-- every method is of a kind -/
theorem mx_all (hl : ml.length ≤ 72) (h0 : s.2.1 65 0 = 0) (hn : s.2.1 65 kl.length = Int32.ofNat ml.length) (e : ∀ j K, kl[j]? = some K → KX L xs h s gn A B np f0 ml j K) : ∀ m M, ml[m]? = some M → ∃ kk K, kl[kk]? = some K ∧ MX L xs h s gn A B np m M kk K := by
  have cov : ∀ n, n ≤ kl.length → ∀ m, m < nn s 65 n → ∃ kk K, kl[kk]? = some K ∧ ∃ M, ml[m]? = some M ∧ MX L xs h s gn A B np m M kk K := by
    intro n
    induction n with
    | zero =>
      intro _ m hm
      have : nn s 65 0 = 0 := by unfold nn; rw [h0]; rfl
      omega
    | succ n ih =>
      intro hn m hm
      obtain ⟨K, hK⟩ : ∃ K, kl[n]? = some K := ⟨kl[n]'(by omega), List.getElem?_eq_getElem (by omega)⟩
      obtain ⟨m0, m1, a1, a2, a3, a4, a5⟩ := kx_m hl (e n K hK)
      have v : nn s 65 n = m0 ∧ nn s 65 (n + 1) = m1 := ⟨by unfold nn; rw [a1, of_clamp (by omega)], by unfold nn; rw [a2, of_clamp (by omega)]⟩
      by_cases z : m < m0
      · exact ih (by omega) m (by omega)
      · exact ⟨n, K, hK, a5 m (by omega) (by omega)⟩
  intro m M hM
  have lt := (List.getElem?_eq_some_iff.mp hM).1
  obtain ⟨kk, K, z1, M', z2, z3⟩ := cov kl.length (Nat.le_refl _) m (by unfold nn; rw [hn, of_clamp (by omega)]; exact lt)
  rw [hM] at z2
  cases z2
  exact ⟨kk, K, z1, z3⟩
theorem kx_B (l8 : kl.length ≤ 8) (hl : ml.length ≤ 72) (hf : f0 ≤ 64) (e : ∀ j K, kl[j]? = some K → KX L xs h s gn A B np f0 ml j K) : kB L xs h s kl := by
  refine ⟨⟨fun j K hj => ?_, l8, fun j K hj => ?_⟩, fun j K hj => ?_⟩
  · obtain ⟨nm, pl, ac, fl, mlK, mk, af, cf, am, cm, fds, mks, f00, m0, k1, k2, _⟩ := e j K hj
    exact ⟨nm, by rw [fd_of k1]; rfl, k2⟩
  · obtain ⟨nm, pl, ac, fl, mlK, mk, af, cf, am, cm, fds, mks, f00, m0, k1, k2, k3, k4, k5, _⟩ := e j K hj
    rw [k4]
    exact ⟨k5, by rw [fd_of k1]; rfl, by rw [fd_of k1]; rfl⟩
  · obtain ⟨m0', m1, a1, a2, a3, a4, a5⟩ := kx_m hl (e j K hj)
    obtain ⟨nm, pl, ac, fl, mlK, mk, af, cf, am, cm, fds, mks, f00, m0, k1, k2, k3, k4, k5, ⟨k6, k7, k8, k9⟩, ⟨k10, k11, k12⟩, ⟨k13, k14⟩, ⟨k15, k16⟩, k17, ⟨k18, k19, k19b⟩, k20⟩ := e j K hj
    have lt := (List.getElem?_eq_some_iff.mp k19).1
    have em : m1 = m0 + 1 + mks.length := by
      have := congrArg Int32.toInt (a2.symm.trans k11)
      rw [of_int (by omega), of_int (by omega)] at this
      omega
    refine ⟨by rw [fd_of k1, k3]; rfl, ⟨f00, fl, af, cf, fds, by rw [fd_of k1]; rfl, ⟨k13, by omega, fun i d hi => ?_⟩, k6, k7, by omega⟩, m0, mlK, am, cm, mks, by rw [fd_of k1]; rfl, ⟨k15, by omega, by omega, fun i d hi => ?_⟩, k10, k11, by omega⟩
    · obtain ⟨⟨z1, z2, _⟩, _⟩ := k17 i d hi
      exact ⟨z1, z2⟩
    · obtain ⟨⟨lo, hi', pl', ph, x, ⟨⟨so, b1, b2, b3, b4, b5⟩, b6, b7, b8, b9, _⟩, _⟩, z2, z3⟩ := k20 i d hi
      refine ⟨?_, by show fd h 11 d 0 = some (.int (s.2.1 70 (m0 + 1 + i))); rw [b3]; exact b2, b9, b8⟩
      rcases b4 with ⟨q1, q2, q3⟩ | ⟨_, nq, q2, q3⟩
      · exact absurd (by rw [b3, q1]; rfl) z3.1
      · exact ⟨nq, q2, q3⟩
theorem kx_mk (hl : ml.length ≤ 72) (e : ∀ j K, kl[j]? = some K → KX L xs h s gn A B np f0 ml j K) : ∀ j K, kl[j]? = some K → ∃ mk l ar cap ds p0, fd h 9 K 6 = some (.ref mk) ∧ fd h 11 mk 5 = some (.ref l) ∧ aL h l ar cap ds ∧ s.2.1 77 (nn s 65 j) = Int32.ofNat p0 ∧ s.2.1 77 (nn s 65 j + 1) = Int32.ofNat (p0 + ds.length) ∧ p0 + ds.length ≤ 440 := by
  intro j K hj
  obtain ⟨nm, pl, ac, fl, mlK, mk, af, cf, am, cm, fds, mks, f00, m0, k1, k2, k3, k4, k5, ⟨k6, k7, k8, k9⟩, ⟨k10, k11, k12⟩, ⟨k13, k14⟩, ⟨k15, k16⟩, k17, ⟨k18, k19, k19b⟩, k20⟩ := e j K hj
  have lt := (List.getElem?_eq_some_iff.mp k19).1
  have v : nn s 65 j = m0 := by unfold nn; rw [k10, of_clamp (by omega)]
  obtain ⟨lo, hi', pl', ph, x, ⟨_, _, _, _, _, ⟨l, ar, cap, ds, p0, c1, c2, c3, c4, c5, c6, c7, c8, c9⟩, _⟩, _⟩ := k18
  rw [v]
  exact ⟨mk, l, ar, cap, ds, p0, by rw [fd_of k1]; rfl, c1, c2, c5, c6, c8⟩
end BH
