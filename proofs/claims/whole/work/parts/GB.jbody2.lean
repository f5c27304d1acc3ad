/-! BOTH CHECK A BODY. -/
/-- the code of method m, from a to e, is that of its body: block c, nodes lo to hi -/
def MCD (s : rS) (SL A B : Nat → Int32) (m c lo hi a e : Nat) : Prop := ∃ (s0 : rS) (G : List scN) (ts : List Nat) (p0 how tg : Nat) (gn' : Int32) (e' : Nat), rK s s0 ∧ pmT s0 m ts ∧ s0.2.1 77 m = Int32.ofNat p0 ∧ GP s0 p0 ts G ∧ G.length = ts.length ∧ (TU s0 SL A B m (hi - lo)).2 0 G 0 c how tg gn' a e' ∧ ((how = 1 ∧ s.2.1 75 m ≠ -1 ∧ e = e') ∨ (how = 0 ∧ s.2.1 75 m = -1 ∧ e = e' + 1 ∧ A e' = 19 ∧ ∃ k : Nat, k < 8 ∧ s.2.1 71 m = Int32.ofNat k ∧ B e' = if s.2.1 70 m = 0 ∧ s.2.1 66 k = 0 then 1 else 0))
section JBY
variable {L : Nat} {xs : Nat → Int32} {zf : Value} {w C Sc M nk m j j2 ci p lo hi pl ph c Bn bb : Nat} {cx : Nat → Nat} {hB h h1 h' : rm_H} {s0 s s1 : rS} {pt vr gn a b : Int32} {mv : Value} {ds kl ml : List Nat} {G : List scN} {u : Nat → Nat} {A B : Nat → Int32} {fs fs' : List Value} {f : Nat → Int64} {sl ty : Nat → Int32} {rc : Int32}
theorem vT_k (rk : rK s0 s) {t : Nat} (e : vT s0 nk t) : vT s nk t := by
  unfold vT at e ⊢
  rw [rk.2.1 66 (by decide) (by decide) (by decide) (by decide) (by decide)]
  exact e
theorem tyc_k (rk : rK s0 s) {y : Int32} {t : Nat} (e : tyc s0 y t) : tyc s y t := by
  unfold tyc at e ⊢
  rw [rk.2.1 60 (by decide) (by decide) (by decide) (by decide) (by decide)]
  exact e
theorem pmT_k (rk : rK s0 s) {ts : List Nat} (e : pmT s0 m ts) : pmT s m ts := by
  obtain ⟨p0, e1, e2, e3, e4⟩ := e
  refine ⟨p0, by rw [rk_A rk (by decide)]; exact e1, by rw [rk_A rk (by decide)]; exact e2, e3, fun i t ht => ?_⟩
  rw [rk_A rk (by decide)]
  exact tyc_k rk (e4 i t ht)
theorem GP_k (rk : rK s0 s) {p0 : Nat} {ts : List Nat} (e : GP s0 p0 ts G) : GP s p0 ts G := by
  intro j X hX
  rw [rk_B rk (by decide)]
  exact e j X hX
/-- what a walk may change lies behind the program -/
theorem wF_P {pl ph : Nat} (e : wF cx C Sc pl ph u h h') (h1 : cx 8 ≤ C) (h2 : cx 8 ≤ Sc) (h3 : cx 8 ≤ u 3) (h4 : cx 8 ≤ u 4) (hp : ∀ q, pl ≤ q → q < ph → cx 8 ≤ q) : fr (fun q => cx 8 ≤ q) h h' := fr_mono e.1 (fun q _ z => by
  show cx 8 ≤ q
  rcases z with z | z | z | z | z | ⟨z1, z2, _⟩
  · rw [z]; exact h1
  · rw [z]; exact Nat.le_refl _
  · rw [z]; exact h2
  · rw [z]; exact h3
  · rw [z]; exact h4
  · exact hp q z1 z2)
/-- a Method is written -/
theorem KH_M (kh : KH L xs cx C Sc M pt vr mv h ds f sl ty gn rc a b u A B) (st : st1 p h h1) (hM : hc h p = some (.inr (11, fs))) : KH L xs cx C Sc M pt vr mv h1 ds f sl ty gn rc a b u A B ∧ wK2 u u h h1 := by
  obtain ⟨k1, k2, ⟨g, k3, k3'⟩, k4, k5, ⟨k6, k7, k8, k9, k10⟩, k11, k12, k13, k14⟩ := kh
  have ne : ∀ q cell, hc h q = some cell → (∀ fs, cell ≠ .inr (11, fs)) → q ≠ p := fun q cell z hn y => by
    rw [y, hM] at z
    exact hn fs (Option.some.inj z).symm
  exact ⟨⟨st1_old st k1 (ne _ _ k1 (fun _ z => by cases z)), st1_old st k2 (ne _ _ k2 (fun _ z => by cases z)), ⟨g, st1_old st k3 (ne _ _ k3 (fun _ z => by cases z)), k3'⟩, k4, fun i d hi => dSn_o st.1 (fun fs z => st1_old st z (ne _ _ z (fun _ y => by cases y))) (k5 i d hi), ⟨st1_old st k6 (ne _ _ k6 (fun _ z => by cases z)), st1_old st k7 (ne _ _ k7 (fun _ z => by cases z)), k8, k9, k10⟩, k11, k12, k13, k14⟩, ⟨Or.inl rfl, Or.inl rfl, by rw [st.2.2], by rw [st.2.1]; exact Nat.le_refl _, Nat.le_refl _, Nat.le_refl _⟩⟩
theorem j_164 (kb : KB cx C Sc pt vr mv h 0 b u A B) (s57 : s.1 57 = 0) (s58 : s.1 58 = -1) (hz : u 2 + 3 * (hi - lo) + 1 ≤ 9000) (jcg : ∀ h' s', gH L xs h h' → fr (fun q => cx 8 ≤ q) h h' → rK s s' → (∀ i, s'.2.1 53 i = s.2.1 53 i) → JCX L xs w cx M h' s' nk m lo hi kl ml) (nr : ∀ h' s', gH L xs h h' → fr (fun q => cx 8 ≤ q) h h' → rK s s' → (∀ i, s'.2.1 53 i = s.2.1 53 i) → NRz L xs h' s' 49 1 (hi - lo) lo hi pl ph c Bn) (hpl : cx 8 ≤ pl ∧ ph ≤ cx 20) (hx8 : cx 8 ≤ C ∧ cx 8 ≤ Sc ∧ cx 8 ≤ M ∧ cx 8 ≤ u 3 ∧ cx 8 ≤ u 4) (m9 : fd h 11 M 9 = some (.ref Bn)) (m11 : ∃ en, fd h 11 M 11 = some (.int en)) (r76 : s.2.1 76 m = Int32.ofNat bb) (hbb : bb < 4400) (r45 : s.2.1 45 bb = Int32.ofNat c) (r71 : s.2.1 75 m = -1 ∨ s.2.1 70 m = 1) (hv : ∃ np, np ≤ 16 ∧ s.2.1 77 (m + 1) = s.2.1 77 m + Int32.ofNat np ∧ ∀ n, lo ≤ n → n < hi → s.2.1 44 n = 20 → ∃ sl, sl < 16 ∧ s.2.1 53 n = Int32.ofNat sl ∧ np ≤ sl) : ∃ h' s' a' b' u' A' B', dM L xs zf w (254 + j) 164 [.ref C, .ref M] h = some (none, h') ∧ rM w (254 + j2) 334 [.ref 36, .int (Int32.ofNat m)] s = some (none, s') ∧ KB cx C Sc pt vr mv h' a' b' u' A' B' ∧ s'.1 57 = a' ∧ (a' ≠ 0 → s'.1 58 = b' ∧ 0 < a'.toInt) ∧ (a' = 0 → s'.1 58 = -1) ∧ gH L xs h h' ∧ fr (fun q => cx 8 ≤ q) h h' ∧ rK s s' ∧ (∀ i, ¬ (lo ≤ i ∧ i < hi) → s'.2.1 53 i = s.2.1 53 i) ∧ wK2 u u' h h' ∧ u' 2 ≤ u 2 + 3 * (hi - lo) + 1 ∧ h.length ≤ h'.length ∧ (∀ p v, p ≠ M → fd h 11 p 11 = some v → fd h' 11 p 11 = some v) ∧ fd h' 11 M 11 = some (.int (Int32.ofNat (u 2))) ∧ (a' = 0 → (∀ i, i < u 2 → A' i = A i ∧ B' i = B i) ∧ ∀ SL AA BB : Nat → Int32, (∀ i, lo ≤ i → i < hi → SL i = s'.2.1 53 i) → (∀ i, u 2 ≤ i → i < u' 2 → AA i = A' i ∧ BB i = B' i) → MCD s SL AA BB m c lo hi (u 2) (u' 2)) := by
  have u0 : u 0 = 0 := kb.2.2.2.2.2.2.2
  -- both go in
  obtain ⟨h1, h3, h5, a1, a2, a3, kh5, st5, g5⟩ := kb_in (L := L) (xs := xs) (f := gN []) (sl := gSl []) (ty := gTp []) kb M
  obtain ⟨sI, hsI⟩ : ∃ sI, sI = rs_w (rs_w (rs_w (rs_w s 66 (Int32.ofNat m)) 62 0) 63 0) 64 0 := ⟨_, rfl⟩
  have rI : rK s sI := by
    rw [hsI]
    exact ⟨fun j hj => by rw [w_ne _ _ (by omega), w_ne _ _ (by omega), w_ne _ _ (by omega), w_ne _ _ (by omega)], fun _ _ _ _ _ _ => rfl, fun _ _ => rfl⟩
  have I53 : ∀ i, sI.2.1 53 i = s.2.1 53 i := fun i => by rw [hsI]; rfl
  have F5 : fr (fun q => cx 8 ≤ q) h h5 := fr_mono st5.1 (fun q _ z => by have z : q = C := z; rw [z]; exact hx8.1)
  have jc5 := jcg h5 sI g5 F5 rI I53
  obtain ⟨⟨m72, ⟨so, q0, q0'⟩, q2, _, l, ar, cap, ps, ts, p0, q5, qa, ql, q6, qp, q77, q440, qd, qn, _, qr⟩, kk, K, qk, q1, q71, _⟩ := id jc5.2.1
  obtain ⟨p0', w77, w77', w440, wt⟩ := id qp
  have ep : p0' = p0 := by
    have := congrArg Int32.toInt (w77.symm.trans q77)
    rw [of_int (by omega), of_int (by omega)] at this
    omega
  subst ep
  have E5 : CKJ L xs cx C Sc M pt vr mv h5 sI nk m h5 sI [] [] 0 0 0 b u A B := by
    refine ⟨kh5, rfl, ⟨⟨fun _ _ _ _ e => e, fun _ _ _ _ e => e, fun _ _ e => e, fun _ _ _ e => e, fun _ e => e⟩, fun _ _ _ e => e, fun _ _ _ e => e⟩, rK_refl, ?_, fun z => absurd rfl z, fun _ => ⟨?_, ?_, ?_, ?_, fun i x hx => by cases hx⟩, ⟨by decide, fun i j x y hx => by cases hx⟩, by decide, fun i x hx => (by cases hx), fun i j x y hx => by cases hx⟩
    · rw [hsI, w_ne _ _ (by decide), w_ne _ _ (by decide), w_ne _ _ (by decide), w_ne _ _ (by decide)]; exact s57
    · rw [hsI, w_ne _ _ (by decide), w_ne _ _ (by decide), w_eq]; rfl
    · rw [hsI, w_ne _ _ (by decide), w_eq]; rfl
    · rw [hsI, w_eq]
    · rw [hsI, w_ne _ _ (by decide), w_ne _ _ (by decide), w_ne _ _ (by decide), w_eq, w_ne _ _ (by decide), w_ne _ _ (by decide), w_ne _ _ (by decide), w_ne _ _ (by decide)]
      exact ⟨rfl, s58⟩
  have w8 : 4600 ≤ w := jc5.2.2.2.2.2.2.2
  obtain ⟨h6, s6, G, y1, y2, gp, E6, wf6, wk6, s53⟩ := pm_l (zf := zf) (w := w) (k := 249 + j) (k2 := 252 + j2) m72 q5 qa ql q6 w77' q77 (by omega) qd wt qn ps [] [] h5 sI w w rfl (by omega) (by omega) (fun j X hX => by cases hX) E5
  rw [show 249 + j + 4 = 253 + j from by omega] at y1
  rw [show 252 + j2 + 1 = 253 + j2 from by omega] at y2
  obtain ⟨kh6, dl6, bh6, rk6, e576, _, rg6, gw6⟩ := id E6
  have g6 : gH L xs h h6 := gH_trans g5 (gH_b bh6)
  -- where the code begins
  obtain ⟨en, hen⟩ := m11
  obtain ⟨en6, hen6⟩ : ∃ en6, fd h6 11 M 11 = some (.int en6) := by
    have q : fd h5 11 M 11 = some (.int en) := by
      have ne : M ≠ C := fun z => by
        obtain ⟨gs, g1, _⟩ := fd_c hen
        obtain ⟨⟨vM, sn, gn, k1⟩, _⟩ := kb
        rw [z, k1] at g1
        cases g1
      rw [fd_st st5 ne]
      exact hen
    exact ⟨en, bh6.2.2 _ _ _ q⟩
  obtain ⟨fsM, eM, eM2⟩ := fd_c hen6
  obtain ⟨h7, v1, v2, v3⟩ := pF_ex (v := .int (Int32.ofNat (u 2))) (j := 11) (cis := [11]) eM eM2 (by decide) rfl (by decide)
  obtain ⟨kh7, wk7⟩ := KH_M kh6 v3 eM
  have g67 : gH L xs h6 h7 := gH_st v3 eM v2 (Or.inr rfl) (fun j hj _ => List.getElem?_set_ne (fun z => hj z.symm))
  have g7 := gH_trans g6 g67
  have rk7 : rK s s6 := rK_trans rI rk6
  have f7 : ∀ i, s6.2.1 53 i = s.2.1 53 i := fun i => (s53 i).trans (I53 i)
  have F7 : fr (fun q => cx 8 ≤ q) h h7 := fr_trans (fr_trans F5 (wF_P wf6 hx8.1 hx8.2.1 hx8.2.2.2.1 hx8.2.2.2.2 (fun q _ q2 => absurd q2 (by omega))) (fun _ _ z => z)) (fr_mono v3.1 (fun q _ z => by have z : q = M := z; show cx 8 ≤ q; rw [z]; exact hx8.2.2.1)) (fun _ _ z => z)
  have jc7 := jcg h7 s6 g7 F7 rk7 f7
  have nr7 := nr h7 s6 g7 F7 rk7 f7
  have E7 : CKJ L xs cx C Sc M pt vr mv h7 s6 nk m h7 s6 ps G 0 0 0 b u A B := by
    refine ⟨kh7, dl6, ⟨⟨fun _ _ _ _ e => e, fun _ _ _ _ e => e, fun _ _ e => e, fun _ _ _ e => e, fun _ e => e⟩, fun _ _ _ e => e, fun _ _ _ e => e⟩, rK_refl, e576, fun z => absurd rfl z, rg6, gw6.1, gw6.2.1, fun i x hx => ?_, gw6.2.2.2⟩
    obtain ⟨t1, t2, t3, t4⟩ := gw6.2.2.1 i x hx
    exact ⟨t1, t2, vT_k rk6 t3, t4⟩
  have e11 : fd h7 11 M 11 = some (.int (Int32.ofNat (u 2))) := by rw [fd_of v2, List.getElem?_set_self (List.getElem?_eq_some_iff.mp eM2).1]
  -- the block
  obtain ⟨how, ehow⟩ : ∃ how, how = if s.2.1 75 m = -1 then 0 else 1 := ⟨_, rfl⟩
  have r75 : s6.2.1 75 m = s.2.1 75 m := rk_A rk7 (by decide) m
  have how2 : how ≤ 2 := by rw [ehow]; split <;> omega
  have how1 : how = 1 → s6.2.1 75 m ≠ -1 := fun q z => by rw [r75] at z; rw [ehow, if_pos z] at q; omega
  have bq := (p_all (zf := zf) (C := C) (Sc := Sc) (pt := pt) (vr := vr) (mv := mv) jc7 49).2.1 _ _ _ _ _ _ _ nr7 (Nat.le_refl _) (Nat.le_refl _) hpl how how2 how1
  obtain ⟨np, n16, n77, nv⟩ := hv
  have enp : np = ts.length := by
    have z1 : s.2.1 77 (m + 1) = Int32.ofNat (p0' + ts.length) := by rw [← rk_A rI (by decide)]; exact w77'
    have z2 : s.2.1 77 m = Int32.ofNat p0' := by rw [← rk_A rI (by decide)]; exact q77
    rw [z1, z2, of_add] at n77
    have := congrArg Int32.toInt n77
    rw [of_int (by omega), of_int (by omega)] at this
    omega
  have gl : G.length = ts.length := by rw [← dl6, ql]
  obtain ⟨t, h8, s8, b1, b2, gn8, a8, b8, u8, A8, B8, o1, o2, o3, o4, o5, o6, o7⟩ := bq.1 j j2 h7 s6 ps G 0 0 b u A B E7 (by omega) (fun n n1 n2 n3 => by
    obtain ⟨sn, t1, t2, t3⟩ := nv n n1 n2 (by rw [← rk_A rk7 (by decide)]; exact n3)
    refine ⟨sn, t1, by rw [f7]; exact t2, bi_ext (fun i hi => by rw [bi_and, bi_0]; rfl), fun i X hX => ?_⟩
    have il := (List.getElem?_eq_some_iff.mp hX).1
    rw [(gp i X hX).2.1]
    omega) (fun _ _ _ => rfl) (by omega)
  rw [show 8 + 5 * 49 + j = 253 + j from by omega] at b1
  rw [show 8 + 5 * 49 + j2 = 253 + j2 from by omega] at b2
  obtain ⟨kh8, dl8, bh8, rk8, e578, e588, rg8, gw8⟩ := id o1
  have g8 : gH L xs h h8 := gH_trans g7 (gH_b bh8)
  have rK8 := rK_trans rk7 rk8
  have F8 : fr (fun q => cx 8 ≤ q) h h8 := fr_trans F7 (wF_P o2 hx8.1 hx8.2.1 hx8.2.2.2.1 hx8.2.2.2.2 (fun q q1 _ => Nat.le_trans hpl.1 q1)) (fun _ _ z => z)
  -- the reference
  have ref : rM w (254 + j2) 334 [.ref 36, .int (Int32.ofNat m)] s = some (none, s8) := by
    rw [show 254 + j2 = 253 + j2 + 1 from by omega, y334]
    show s334_0 (rM w (253 + j2)) w (Int32.ofNat m) s = _
    unfold s334_0
    refine bsq (a := rs_w s 66 (Int32.ofNat m)) rfl (bsq (a := rs_w (rs_w s 66 (Int32.ofNat m)) 62 0) rfl (bsq (a := rs_w (rs_w (rs_w s 66 (Int32.ofNat m)) 62 0) 63 0) rfl (bsq (a := sI) (by rw [hsI]; rfl) (bsq (a := Int32.ofNat p0') ((aI_at (i := m) (n := 73) (by decide) rfl (by omega) (by decide)).trans (by rw [q77])) ?_))))
    refine y2.trans ?_
    have g76 : rs_aI s6 76 (Int32.ofNat m) = some (Int32.ofNat bb) := (aI_at (i := m) (n := 72) (by decide) rfl (by omega) (by decide)).trans (by rw [rk_A rk7 (by decide), r76])
    have g45 : rs_aI s6 45 (Int32.ofNat bb) = some (Int32.ofNat c) := (aI_at (i := bb) (by decide) rfl hbb (by decide)).trans (by rw [rk_A rk7 (by decide), r45])
    have g70 : rs_aI s6 70 (Int32.ofNat m) = some (s.2.1 70 m) := (aI_at (i := m) (n := 72) (by decide) rfl (by omega) (by decide)).trans (by rw [rk_A rk7 (by decide)])
    have g75 : rs_aI s6 75 (Int32.ofNat m) = some (s.2.1 75 m) := (aI_at (i := m) (n := 72) (by decide) rfl (by omega) (by decide)).trans (by rw [rk_A rk7 (by decide)])
    unfold s334e
    refine bsq g76 (bsq g45 (bsq g70 ?_))
    by_cases c75 : s.2.1 75 m = -1
    · rw [if_pos c75] at ehow
      subst ehow
      have f110 : s334_110 (rM w (253 + j2)) w (Int32.ofNat c) s6 = some (none, s8) := by
        unfold s334_110 s334_111
        exact bsq (a := s8) (by rw [show rM w (253 + j2) 336 [.ref 36, .int (Int32.ofNat c), .int 0] s6 = _ from b2]; rfl) rfl
      by_cases c70 : s.2.1 70 m = 1
      · exact inq (by rw [c70]; decide) (bsq g75 (itq (decide_eq_true c75) f110))
      · exact itq (by rw [f2_ne]; exact decide_eq_true c70) f110
    · rw [if_neg c75] at ehow
      subst ehow
      have c70 := r71.resolve_left c75
      refine inq (by rw [c70]; decide) (bsq g75 (inq (fun z => c75 (of_decide_eq_true z)) ?_))
      unfold s334_111
      exact bsq (a := s8) (by rw [show rM w (253 + j2) 336 [.ref 36, .int (Int32.ofNat c), .int 1] s6 = _ from b2]; rfl) rfl
  -- the class
  have m9' : fd h7 11 M 9 = some (.ref Bn) := g7.2.2 _ _ _ (by decide) m9
  have ch : ∀ hN, b164_97 L xs zf (dM L xs zf w (253 + j)) w (some C) (hwC how) (some Bn) (some C) h7 = some (none, hN) → dM L xs zf w (254 + j) 164 [.ref C, .ref M] h = some (none, hN) := by
    intro hN hh
    have gM : dgR L xs h7 2 [13] (some C) = some (some M) := ck_2 kh7
    have g8' : ∀ o, (fd h7 11 M 8 = some (va_rf o)) → dgR L xs h7 8 [11] (some M) = some o := fun o q => fd_R (o := o) q (by decide)
    rw [show 254 + j = 253 + j + 1 from by omega, e164]
    show b164_0 L xs zf (dM L xs zf w (253 + j)) w (some C) (some M) h = _
    unfold b164_0
    refine bsq a1 (bsq a2 (bsq a3 (y1.trans ?_)))
    unfold b164e
    refine bsq (ck_2 kh6) (bsq (ck_0 kh6) (bsq (hc_gI kh6.2.1 rfl (by decide)) (bsq v1 (bsq gM (bsq (fd_R (o := some Bn) m9' (by decide)) (bsq gM ?_))))))
    rcases jc7.2.1.1 with ⟨_, _, _, _, _, _, _, _, _, _, _, _, _, _, _, _, _, _, _, _, mr⟩
    rcases mr with ⟨z1, z2, _⟩ | ⟨d, tr, z1, z2, z3, _⟩
    · rw [r75] at z1
      rw [if_pos z1] at ehow
      subst ehow
      exact bsq (g8' none z2) (itq rfl hh)
    · have c75 : ¬ s.2.1 75 m = -1 := fun z => by
        obtain ⟨kq, kq1, kq2, _⟩ := z3
        rw [r75, z] at kq2
        have := congrArg Int32.toInt kq2
        rw [of_int (by omega), show (-1 : Int32).toInt = -1 from by decide] at this
        omega
      rw [if_neg c75] at ehow
      subst ehow
      exact bsq (g8' (some d) z1) (inq (dnl_s d) hh)
  have WA : wK2 u u8 h h8 := by
    have x1 : wK2 u u h h5 := ⟨Or.inl rfl, Or.inl rfl, by rw [st5.2.2], by rw [st5.2.1]; exact Nat.le_refl _, Nat.le_refl _, Nat.le_refl _⟩
    have l5 : h5.length = h.length := st5.2.1
    have l7 : h7.length = h6.length := v3.2.1
    have l6 := wf6.1.1
    exact wK2_trans (wK2_trans (wK2_trans x1 wk6 (by omega)) wk7 (by omega)) o3 (by omega)
  have u83 : cx 8 ≤ u8 3 ∧ cx 8 ≤ u8 4 := by
    have lt := hc_lt kb.2.1
    obtain ⟨_, _, _, y3, y4⟩ := hx8
    refine ⟨?_, ?_⟩
    · rcases WA.1 with z | z <;> omega
    · rcases WA.2.1 with z | z <;> omega
  have len8 : h.length ≤ h8.length := by
    have l5 : h5.length = h.length := st5.2.1
    have l7 : h7.length = h6.length := v3.2.1
    have l6 := wf6.1.1
    have l8 := o2.1.1
    omega
  have o11 : ∀ p v, p ≠ M → fd h 11 p 11 = some v → fd h8 11 p 11 = some v := by
    intro p v hp ef
    have ne : p ≠ C := fun z => by
      obtain ⟨gs, g1, _⟩ := fd_c ef
      obtain ⟨⟨vM, sn, gn, k1⟩, _⟩ := kb
      rw [z, k1] at g1
      cases g1
    have e1 : fd h5 11 p 11 = some v := by rw [fd_st st5 ne]; exact ef
    have e2 := bh6.2.2 _ _ _ e1
    have e3 : fd h7 11 p 11 = some v := by rw [fd_st v3 hp]; exact e2
    exact bh8.2.2 _ _ _ e3
  have r53' : ∀ i, ¬ (lo ≤ i ∧ i < hi) → s8.2.1 53 i = s.2.1 53 i := fun i hi => ((o6 i hi).1).trans (f7 i)
  have gM8 : dgR L xs h8 2 [13] (some C) = some (some M) := ck_2 kh8
  have u80 : u8 0 = 0 := o4.trans u0
  have kbo : ∀ (hh : rm_H) (uu : Nat → Nat) (AA BB : Nat → Int32), uu 0 = 0 → KH L xs cx C Sc M pt vr mv hh ps (gN G) (gSl G) (gTp G) gn8 (if 0 = 0 then 0 else 1) a8 b8 uu AA BB → KB cx C Sc pt vr mv hh a8 b8 uu AA BB := by
    intro hh uu AA BB z0 ⟨k1, k2, ⟨g, k3, _⟩, ⟨_, kb4⟩, _, k6, k11, k12, k13, k14⟩
    rw [z0] at k1
    exact ⟨⟨.ref M, _, _, k1⟩, k2, ⟨g, k3⟩, k6, ⟨k11, kb4⟩, k12, k13, z0⟩
  have e88 : fd h8 11 M 11 = some (.int (Int32.ofNat (u 2))) := bh8.2.2 _ _ _ e11
  by_cases c75 : s.2.1 75 m = -1
  · -- it gives nothing
    rw [if_pos c75] at ehow
    subst ehow
    obtain ⟨h9, u9, A9, B9, x1, x2, x3, x4, x5, x6, x7, x8⟩ := ck_emit (pl := 0) (ph := 0) (zf := zf) (w := w) (k := 250 + j) kh8 (by omega) 19 (if s.2.1 70 m = 0 ∧ s.2.1 66 kk = 0 then 1 else 0)
    rw [show 250 + j + 3 = 253 + j from by omega] at x1
    have bh9 := bH_w kh8 x3 bh8
    have q70 : s.2.1 70 m = so := by rw [← rk_A rI (by decide)]; exact q0'
    obtain ⟨⟨ac, k66, k66', kac⟩, _⟩ := jc5.1.2.2.2.2 kk K qk
    have r66 : s.2.1 66 kk = ac := by rw [← rk_A rI (by decide)]; exact k66'
    have gh58 : gH L xs h5 h8 := gH_trans (gH_trans (gH_b bh6) g67) (gH_b bh8)
    have z8 : fd h8 11 M 8 = some .null := by
      rcases jc5.2.1.1 with ⟨_, _, _, _, _, _, _, _, _, _, _, _, _, _, _, _, _, _, _, _, mr⟩
      rcases mr with ⟨_, z2, _⟩ | ⟨d, tr, _, _, z3, _⟩
      · exact gh58.2.2 _ _ _ (by decide) z2
      · obtain ⟨kq, kq1, kq2, _⟩ := z3
        rw [rk_A rI (by decide), c75] at kq2
        have := congrArg Int32.toInt kq2
        rw [of_int (by omega), show (-1 : Int32).toInt = -1 from by decide] at this
        omega
    have em : ∀ y, y = (if s.2.1 70 m = 0 ∧ s.2.1 66 kk = 0 then 1 else 0) → b164_155 L xs zf (dM L xs zf w (253 + j)) w y 19 (some (cx 8)) h8 = some (none, h9) := by
      intro y hy
      subst hy
      unfold b164_155
      exact bsq x1 rfl
    refine ⟨h9, s8, a8, b8, u9, A9, B9, ch h9 ?_, ref, kbo h9 u9 A9 B9 (x6.trans u80) x2, e578, e588, fun z => (rg8 z).2.2.2.1.2, gH_trans g8 (gH_b (bH_w (hB := h8) kh8 x3 ⟨⟨fun _ _ _ _ e => e, fun _ _ _ _ e => e, fun _ _ e => e, fun _ _ _ e => e, fun _ e => e⟩, fun _ _ _ e => e, fun _ _ _ e => e⟩)), fr_trans F8 (wF_P x3 hx8.1 hx8.2.1 u83.1 u83.2 (fun q _ q2 => absurd q2 (by omega))) (fun _ _ z => z), rK8, r53', wK2_trans WA x4 len8, by omega, Nat.le_trans len8 x3.1.1, fun p v hp ef => (bH_w (hB := h8) kh8 x3 ⟨⟨fun _ _ _ _ e => e, fun _ _ _ _ e => e, fun _ _ e => e, fun _ _ _ e => e, fun _ e => e⟩, fun _ _ _ e => e, fun _ _ _ e => e⟩).2.2 _ _ _ (o11 p v hp ef), bh9.2.2 _ _ _ e11, fun z0 => ?_⟩
    · unfold b164_97
      refine bsq b1 (bsq gM8 (bsq (fd_R (o := none) z8 (by decide)) (itq rfl (bsq gM8 (bsq (fd_I (gh58.2.2 _ _ _ (by decide) q0) (by decide)) ?_)))))
      by_cases s0' : so = 0
      · refine inq (by rw [s0']; decide) (bsq gM8 (bsq (fd_R (o := some K) (gh58.2.2 _ _ _ (by decide) q1) (by decide)) (bsq (fd_I (gh58.2.1 _ _ _ k66) (by decide)) ?_)))
        by_cases ca : ac = 0
        · refine inq (by rw [ca]; decide) ?_
          unfold b164_139
          exact bsq (ck_0 kh8) (inq (by decide) (em 1 (by rw [if_pos ⟨q70.trans s0', r66.trans ca⟩])))
        · refine itq (by rw [f1_ne]; exact decide_eq_true ca) ?_
          unfold b164_138 b164_139
          exact bsq (ck_0 kh8) (itq (by decide) (em 0 (by rw [if_neg (fun z => ca (r66.symm.trans z.2))])))
      · refine itq (by rw [f1_ne]; exact decide_eq_true s0') ?_
        unfold b164_138 b164_139
        exact bsq (ck_0 kh8) (itq (by decide) (em 0 (by rw [if_neg (fun z => s0' (q70.symm.trans z.1))])))
    · obtain ⟨p1, p2, tg, _, p4⟩ := o7 z0
      have uu : u 2 ≤ u8 2 := o3.2.2.2.2.1
      refine ⟨fun i hi => ⟨(x8 i (by omega)).1.trans (p1 i hi).1, (x8 i (by omega)).2.trans (p1 i hi).2⟩, fun SL AA BB y1 y2 => ?_⟩
      have yd := y2 (u8 2) uu (by omega)
      refine ⟨s6, G, ts, p0', 0, tg, gn8, u8 2, rk7, ?_, ?_, ?_, gl, p4 SL AA BB y1 (fun i i1 i2 => ?_), Or.inr ⟨rfl, c75, x5, yd.1.trans x7.1, kk, (by
        have z1 := (List.getElem?_eq_some_iff.mp qk).1
        have z2 := jc5.1.2.1
        have z3 := jc5.1.2.2.1
        omega), ?_, yd.2.trans x7.2⟩⟩
      · exact pmT_k rk6 qp
      · rw [rk_A rk6 (by decide)]; exact q77
      · exact GP_k rk6 gp
      · have q := y2 i i1 (by omega)
        exact ⟨q.1.trans (x8 i i2).1, q.2.trans (x8 i i2).2⟩
      · rw [← rk_A rI (by decide)]; exact q71
  · -- it gives a value
    rw [if_neg c75] at ehow
    subst ehow
    have gh58 : gH L xs h5 h8 := gH_trans (gH_trans (gH_b bh6) g67) (gH_b bh8)
    obtain ⟨d, z8⟩ : ∃ d, fd h8 11 M 8 = some (.ref d) := by
      rcases jc5.2.1.1 with ⟨_, _, _, _, _, _, _, _, _, _, _, _, _, _, _, _, _, _, _, _, mr⟩
      rcases mr with ⟨z1, _, _⟩ | ⟨d, tr, z2, _⟩
      · exact absurd (by rw [← rk_A rI (by decide)]; exact z1) c75
      · exact ⟨d, gh58.2.2 _ _ _ (by decide) z2⟩
    refine ⟨h8, s8, a8, b8, u8, A8, B8, ch h8 ?_, ref, kbo h8 u8 A8 B8 u80 kh8, e578, e588, fun z => (rg8 z).2.2.2.1.2, g8, F8, rK8, r53', WA, by omega, len8, o11, e88, fun z0 => ?_⟩
    · unfold b164_97
      exact bsq b1 (bsq gM8 (bsq (fd_R (o := some d) z8 (by decide)) (inq (dnl_s d) rfl)))
    · obtain ⟨p1, p2, tg, _, p4⟩ := o7 z0
      exact ⟨p1, fun SL AA BB y1 y2 => ⟨s6, G, ts, p0', 1, tg, gn8, u8 2, rk7, pmT_k rk6 qp, by rw [rk_A rk6 (by decide)]; exact q77, GP_k rk6 gp, gl, p4 SL AA BB y1 y2, Or.inl ⟨rfl, c75, rfl⟩⟩⟩
end JBY
