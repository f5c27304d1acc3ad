/-! KINDS stay. -/
section KF
variable {L : Nat} {xs : Nat → Int32} {zf : Value} {w k k2 kk i f0 np m m0 : Nat} {cx : Nat → Nat} {F : Nat → Nat → Int32} {N : Nat → Int64} {q : List Value} {h h' h1 h2 : rm_H} {s s' s1 s2 : rS} {g g' : Nat → Nat} {ts ts' : List Nat} {K nm a9 c9 a10 c10 A B : Nat} {v : Nat → Int32} {pt vr pl ac ix i1 : Int32} {kl ml : List Nat} {P : Nat → Prop}
theorem MX_keepW {gn M kk K : Nat} (h14 : cx 14 = 0) (p1 : pC h cx F v) (ch : CH cx q h g ts pt vr) (f : fr (fun y => M4 cx (g 1) y ∨ P y) h h') (sx : sX s s' (g 4)) (ya : yA s s') (hA : bl cx A) (hP : Pok h P A B) (hgn : gn ≤ g 4) (hm : mA s s' m np) (hq : ∀ m2 b2 : Nat, m < m2 → (m2 : Int) < (s'.1 42).toInt → s'.2.1 76 m2 = Int32.ofNat b2 → b2 < 4400 → ((m2 : Int) < (s.1 42).toInt ∧ s.2.1 76 m2 = Int32.ofNat b2) ∨ gn ≤ b2) (e : MX L xs h s gn A B np m M kk K) : MX L xs h' s' gn A B np m M kk K := by
  obtain ⟨lo, hi, pl, ph, x, a1, a2, a3, a4, a5, a6, a7, a8, a9⟩ := e
  obtain ⟨fsM, eM, eM2⟩ := fd_c a1.2.1
  have eM' := ob_keepP h14 p1 ch f hP eM (by decide)
  refine ⟨lo, hi, pl, ph, x, MTR_fr (np := np) f (cA_gen p1 ch f hA hP a4 a5) (fun i h1 h2 => ?_) ⟨a6, a2⟩ ya (fun j _ => by rw [fd_of eM', fd_of eM]) hm (fun x' hx' hx4 => ?_) a1, a2, ⟨a3.1, fun m2 b2 h1 h2 h3 h4 => (hq m2 b2 h1 h2 h3 h4).elim (fun z => a3.2.1 m2 b2 h1 z.1 z.2 h4) (fun z => Nat.le_trans a3.1 z), a3.2.2⟩, a4, a5, a6, hm.2.2.1.trans a7, a8, a9⟩
  · have := sx i (by have := a3.1; omega)
    exact ⟨fun q hq => this.1 q (by omega) (by omega), this.2, fun _ => ⟨this.1 48 (by omega) (by omega), this.1 49 (by omega) (by omega)⟩, fun _ => this.1 53 (by omega) (by omega)⟩
  · have := congrArg Int32.toInt (a7.symm.trans hx')
    rw [of_int (by omega), of_int (by omega)] at this
    omega
theorem FX_keepW {d f i : Nat} (h14 : cx 14 = 0) (p1 : pC h cx F v) (ch : CH cx q h g ts pt vr) (fr' : fr (fun y => M4 cx (g 1) y ∨ P y) h h') (ya : yA s s') (hP : Pok h P A B) (r1 : s'.2.2 67 f = s.2.2 67 f) (r2 : s'.2.1 68 f = s.2.1 68 f) (r3 : s'.2.1 69 f = s.2.1 69 f) (e : FX L xs h s d f i) : FX L xs h' s' d f i := by
  refine DCR_fr (fun j _ u e0 => ?_) (fun _ _ e0 => nS_fr fr' e0) ya r1 r2 r3 e
  obtain ⟨fs, e1, e2⟩ := fd_c e0
  rw [fd_of (ob_keepP h14 p1 ch fr' hP e1 (by decide))]
  exact e2
/-- a Kind's cell stays where only lists are written -/
theorem K_keep {fs : List Value} (h14 : cx 14 = 0) (p1 : pC h cx F v) (ch : CH cx q h g ts pt vr) (f : fr (fun y => M4 cx (g 1) y ∨ (y = cx 9 ∨ (y = a9 ∧ 21 ≤ y) ∨ y = cx 10 ∨ (y = a10 ∧ 21 ≤ y))) h h') (e9 : aL h (cx 9) a9 c9 kl) (e10 : aL h (cx 10) a10 c10 ml) (hd : hc h K = some (.inr (9, fs))) : hc h' K = some (.inr (9, fs)) := by
  have lst : ∀ l ar cap es, aL h l ar cap es → (K ≠ l ∧ ¬ (K = ar ∧ 21 ≤ K)) := by
    intro l ar cap es e
    obtain ⟨mc, e1, _, _, e3⟩ := e
    refine ⟨fun u => (by rw [u, e1] at hd; cases hd), fun u => ?_⟩
    rcases e3 with ⟨e3, _⟩ | ⟨f0, e3, _⟩
    · omega
    · rw [u.1, e3] at hd; cases hd
  have ge := hc_ge hd
  refine fr_old f hd (fun u => ?_)
  rcases u with u | u
  · rcases u with u | u | u | u | u
    · rw [u, pC_r p1] at hd; cases hd
    · rw [u, ch.1] at hd; cases hd
    · exact (lst _ _ _ _ ch.2.1).1 u
    · omega
    · exact (lst _ _ _ _ ch.2.1).2 ⟨u, ge⟩
  · rcases u with u | u | u | u
    · exact (lst _ _ _ _ e9).1 u
    · exact (lst _ _ _ _ e9).2 u
    · exact (lst _ _ _ _ e10).1 u
    · exact (lst _ _ _ _ e10).2 u
/-- an earlier Kind stays in a later Kind's step -/
theorem KX_keep {gn gn2 B2 np2 f1 kj : Nat} {tl : List Nat} (h14 : cx 14 = 0) (p1 : pC h cx F v) (ch : CH cx q h g ts pt vr) (f : fr (fun y => M4 cx (g 1) y ∨ (y = cx 9 ∨ (y = a9 ∧ 21 ≤ y) ∨ y = cx 10 ∨ (y = a10 ∧ 21 ≤ y))) h h') (sx : sX s s' (g 4)) (ya : yA s s') (hA : bl cx A) (h9 : cx 9 < A ∧ cx 10 < A) (e9 : aL h (cx 9) a9 c9 kl) (e10 : aL h (cx 10) a10 c10 ml) (hgn : gn ≤ g 4) (r : rKd s s' kk f0 ml.length np) (r77 : s'.2.1 77 ml.length = s.2.1 77 ml.length) (lk : ∀ l2 ar2 cap2 es2, l2 ≠ cx 9 → l2 ≠ cx 10 → l2 ≠ cx 11 → aL h l2 ar2 cap2 es2 → aL h' l2 ar2 cap2 es2) (hk : kj < kk) (h64 : kj + 1 = kk → s'.2.1 64 kk = s.2.1 64 kk ∧ s'.2.1 65 kk = s.2.1 65 kk) (g2 : gn ≤ gn2) (b2 : B ≤ B2) (n2 : np ≤ np2) (hf : f0 ≤ f1) (e : KX L xs h s gn A B np f0 ml kj K) (x42 : s.1 42 = Int32.ofNat ml.length) (hml : ml.length ≤ 10000) (hq : ∀ m2 b2 : Nat, ml.length ≤ m2 → (m2 : Int) < (s'.1 42).toInt → s'.2.1 76 m2 = Int32.ofNat b2 → b2 < 4400 → gn ≤ b2) : KX L xs h' s' gn2 A B2 np2 f1 (ml ++ tl) kj K := by
  obtain ⟨nm, pl, ac, fl, mlK, mk, af, cf, am, cm, fds, mks, f00, m0, k1, k2, k3, k4, k5, ⟨k6, k7, k8, k9⟩, ⟨k10, k11, k12⟩, ⟨k13, k14⟩, ⟨k15, k16⟩, k17, ⟨k18, k19, k19b⟩, k20⟩ := e
  obtain ⟨r1, r2, r3, r4, r5, r6, r7, r8, r9⟩ := r
  have ok : Pok h (fun y => y = cx 9 ∨ (y = a9 ∧ 21 ≤ y) ∨ y = cx 10 ∨ (y = a10 ∧ 21 ≤ y)) A B := Pok_ml ch e9 e10 (Or.inl h9.1) (Or.inl h9.2)
  have c11 := hA.2.2.1
  have row : ∀ p, p = 64 ∨ p = 65 → s'.2.1 p (kj + 1) = s.2.1 p (kj + 1) := by
    intro p hp
    by_cases e : kj + 1 = kk
    · rw [e]
      rcases hp with u | u <;> subst u
      · exact (h64 e).1
      · exact (h64 e).2
    · exact r3 p _ (by omega) (by omega) (by omega)
  have mm : ∀ j M, ml[j]? = some M → mA s s' j np := by
    intro j M hj
    have lt := (List.getElem?_eq_some_iff.mp hj).1
    refine ⟨fun p h1 h2 => r5 p j h1 (by omega) lt, r5 77 j (by omega) (by omega) lt, ?_, r8 j lt, r9⟩
    by_cases e : j + 1 = ml.length
    · rw [e]; exact r77
    · exact r5 77 (j + 1) (by omega) (by omega) (by omega)
  have kp : ∀ j M, ml[j]? = some M → MX L xs h s gn A B np j M kj K → MX L xs h' s' gn2 A B2 np2 j M kj K := fun j M hj e => MX_le (MX_keepW h14 p1 ch f sx ya hA ok hgn (mm j M hj) (fun m2 b2 _ h2 h3 h4 => by
    by_cases c : m2 < ml.length
    · exact Or.inl ⟨by rw [x42, of_int (by omega)]; omega, by rw [← r5 76 m2 (by omega) (by omega) c]; exact h3⟩
    · exact Or.inr (hq m2 b2 (by omega) h2 h3 h4)) e) g2 b2 n2
  have up : ∀ j M, ml[j]? = some M → (ml ++ tl)[j]? = some M := fun j M hj => by rw [List.getElem?_append_left (List.getElem?_eq_some_iff.mp hj).1]; exact hj
  refine ⟨nm, pl, ac, fl, mlK, mk, af, cf, am, cm, fds, mks, f00, m0, K_keep h14 p1 ch f e9 e10 k1, ?_, (r3 63 kj (by omega) (by omega) hk).trans k3, (r3 66 kj (by omega) (by omega) hk).trans k4, k5, ⟨(r3 64 kj (by omega) (by omega) hk).trans k6, (row 64 (Or.inl rfl)).trans k7, k8, by omega⟩, ⟨(r3 65 kj (by omega) (by omega) hk).trans k10, (row 65 (Or.inr rfl)).trans k11, k12⟩, ⟨lk _ _ _ _ (by omega) (by omega) (by omega) k13, k14⟩, ⟨lk _ _ _ _ (by omega) (by omega) (by omega) k15, k16⟩, fun i d hi => ?_, ⟨kp _ _ k19 k18, up _ _ k19, by rw [(mm _ _ k19).1 70 (by omega) (by omega)]; exact k19b⟩, fun i d hi => ⟨kp _ _ (k20 i d hi).2.1 (k20 i d hi).1, up _ _ (k20 i d hi).2.1, by rw [(mm _ _ (k20 i d hi).2.1).1 70 (by omega) (by omega)]; exact (k20 i d hi).2.2⟩⟩
  · rw [r7 kj hk]
    exact nS_fr f k2
  · have lt := (List.getElem?_eq_some_iff.mp hi).1
    obtain ⟨q1, q2, q3⟩ := r4 (f00 + i) (by omega)
    exact ⟨FX_keepW h14 p1 ch f ya ok q1 q2 q3 (k17 i d hi).1, (k17 i d hi).2⟩
theorem kx_lo {gn fN ml0 b0 g4 : Nat} (e : KX L xs h s gn A B np fN ml kk K) (e65 : s.2.1 65 kk = Int32.ofNat ml0) (h0 : ml0 ≤ 10000) (hl : ml.length ≤ 10000) (e76 : s.2.1 76 ml0 = Int32.ofNat b0) (hb : g4 ≤ b0 ∧ b0 < 4400) : ∀ m2 b2 : Nat, ml0 ≤ m2 → (m2 : Int) < (s.1 42).toInt → s.2.1 76 m2 = Int32.ofNat b2 → b2 < 4400 → g4 ≤ b2 := by
  intro m2 b2 h1 h2 h3 h4
  by_cases q : m2 = ml0
  · subst q
    have := congrArg Int32.toInt (e76.symm.trans h3)
    rw [of_int (by omega), of_int (by omega)] at this
    omega
  · obtain ⟨nm, pl, ac, fl, mlK, mk, af, cf, am, cm, fds, mks, f00, m0, _, _, _, _, _, _, ⟨k10, _, _⟩, _, _, _, ⟨k18, k19, _⟩, _⟩ := e
    have lt := (List.getElem?_eq_some_iff.mp k19).1
    have em : m0 = ml0 := by
      have := congrArg Int32.toInt (k10.symm.trans e65)
      rw [of_int (by omega), of_int (by omega)] at this
      omega
    subst em
    obtain ⟨lo, hi, pl', ph, x, a1, a2, a3, _⟩ := k18
    have hb2 := a3.2.1 m2 b2 (by omega) h2 h3 h4
    obtain ⟨_, _, _, _, _, _, _, Bb, bb, cc, lo', hi', pl2, ph2, _, ob, l1, l2, l3, l4, _⟩ := a1
    have eb := congrArg Int32.toInt (e76.symm.trans ob)
    rw [of_int (by omega), of_int (by omega)] at eb
    omega
theorem KX_leA {gn fN kj A2 : Nat} (e : KX L xs h s gn A B np fN ml kj K) (h1 : A2 ≤ A) : KX L xs h s gn A2 B np fN ml kj K := by
  obtain ⟨nm, pl, ac, fl, mlK, mk, af, cf, am, cm, fds, mks, f00, m0, k1, k2, k3, k4, k5, k6, k10, ⟨k13, k14⟩, ⟨k15, k16⟩, k17, ⟨k18, k19⟩, k20⟩ := e
  exact ⟨nm, pl, ac, fl, mlK, mk, af, cf, am, cm, fds, mks, f00, m0, k1, k2, k3, k4, k5, k6, k10, ⟨k13, by omega⟩, ⟨k15, by omega⟩, fun i d hi => ⟨(k17 i d hi).1, by have := (k17 i d hi).2; omega⟩, ⟨MX_leA k18 h1, k19⟩, fun i d hi => ⟨MX_leA (k20 i d hi).1 h1, (k20 i d hi).2⟩⟩
end KF
