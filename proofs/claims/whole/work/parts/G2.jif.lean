/-! BOTH CHECK: a condition and the block behind it. -/
section JIF
variable {L : Nat} {xs : Nat → Int32} {zf : Value} {w C Sc M Pl Ph LO HI nk m lv n p q i d lo hi k k2 z z2 W ke kr ke2 kr2 l px q0 q1 pl ph how pb nb lo1 hi1 lo2 hi2 pl2 ph2 : Nat} {cx : Nat → Nat} {hB h h1 h2 : rm_H} {s0 s s1 s2 : rS} {pt vr gn gn1 a b a1 b1 x y rc t v : Int32} {mv : Value} {ds dx kl ml es : List Nat} {G gx : List scN} {u u1 u2 : Nat → Nat} {A B A1 B1 : Nat → Int32} {f f' : Nat → Int64} {sl ty sl' ty' : Nat → Int32}
/-- an instruction is aimed here -/
theorem ck_aim {c : Nat} (kh : KH L xs cx C Sc M pt vr mv h ds f sl ty gn rc a b u A B) (hcl : c < u 2) (hz : u 2 ≤ 9000) : ∃ h', (dcV L xs (dM L xs zf w (k + 1)) 212 [4] (some (cx 8)) [.int (Int32.ofNat c)] h).bind dxV = some h' ∧ KH L xs cx C Sc M pt vr mv h' ds f sl ty gn rc a b u A (upd B c (Int32.ofNat (u 2))) ∧ wF cx C Sc pl ph u h h' ∧ wK2 u u h h' := by
  obtain ⟨k1, k2, ⟨g, k3, k3'⟩, k4, k5, ⟨k6, k7, k8, k9, k10⟩, k11, k12, k13, k14⟩ := id kh
  have w1 : dsI h (some (u 4)) (Int32.ofNat c) (Int32.ofNat (u 2)) = some (h.set (u 4 - 21) (iaA (u 1) (upd B c (Int32.ofNat (u 2))))) := sI_of (hc_ge k7) (hc_at k7) (by omega) (by omega)
  have st : st1 (u 4) h (h.set (u 4 - 21) (iaA (u 1) (upd B c (Int32.ofNat (u 2))))) := st_ia k7
  have n7 : hc (h.set (u 4 - 21) (iaA (u 1) (upd B c (Int32.ofNat (u 2))))) (u 4) = some (iaA (u 1) (upd B c (Int32.ofNat (u 2)))) := hc_set k7
  have no : ∀ q ci fs, hc h q = some (.inr (ci, fs)) → q ≠ u 4 := fun q ci fs e z => by rw [z, k7] at e; cases e
  refine ⟨_, ?_, ⟨st1_old st k1 (no _ _ _ k1), st1_old st k2 (no _ _ _ k2), ⟨g, st1_old st k3 (fun z => by rw [z, k7] at k3; cases k3), k3'⟩, k4, fun i d hi => dSn_o st.1 (fun fs z => st1_old st z (no _ _ _ z)) (k5 i d hi), ⟨st1_old st k6 k8, n7, k8, k9, k10⟩, k11, k12, k13, k14⟩, ⟨fr_mono st.1 (fun q _ z => Or.inr (Or.inr (Or.inr (Or.inr (Or.inl z))))), fun p fs ep => ?_⟩, ⟨Or.inl rfl, Or.inl rfl, by rw [st.2.2], by rw [st.2.1]; exact Nat.le_refl _, Nat.le_refl _, Nat.le_refl _⟩⟩
  · rw [hc_v k2 (by decide), e212]
    show (b212_0 L xs zf (dM L xs zf w k) w (some (cx 8)) (Int32.ofNat c) h).bind dxV = _
    refine bsq (a := (none, h.set (u 4 - 21) (iaA (u 1) (upd B c (Int32.ofNat (u 2)))))) ?_ rfl
    have g11 : dgI L xs h 11 [4] (some (cx 8)) = some (Int32.ofNat (u 2)) := hc_gI k2 rfl (by decide)
    unfold b212_0
    refine inq ?_ (bsq g11 (inq ?_ (bsq (hc_gR (p := some (u 4)) k2 rfl (by decide)) (bsq g11 (bsq w1 rfl)))))
    · rw [f1_lt, of_int (by omega)]
      simp
    · rw [f2_ge, of_int (by omega), of_int (by omega)]
      simp
      omega
  · have e2 := st1_old st ep (no _ _ _ ep)
    exact Or.inl e2
/-- gone is set by both -/
theorem CK_gn (e : CKJ L xs cx C Sc M pt vr mv hB s0 nk m h s ds G lv gn a b u A B) (kh : KH L xs cx C Sc M pt vr mv h1 ds (gN G) (gSl G) (gTp G) x (if lv = 0 then 0 else 1) a b u A B) (wf : wF cx C Sc Pl Ph u h h1) : CKJ L xs cx C Sc M pt vr mv hB s0 nk m h1 (if a = 0 then rs_w s 64 x else s) ds G lv x a b u A B := by
  by_cases ha : a = 0
  · subst ha
    rw [if_pos rfl]
    exact CK_up e kh wf rfl (rL_w (by omega)) (w_eq _ _ _)
  · rw [if_neg ha]
    exact CK_fk e ha kh wf rfl
/-- a block, and what is known of it behind a fault -/
def BQ (L : Nat) (xs : Nat → Int32) (zf : Value) (w : Nat) (cx : Nat → Nat) (C Sc M : Nat) (pt vr : Int32) (mv : Value) (hB : rm_H) (s0 : rS) (nk m Pl Ph LO HI z how p n lo hi ke kr : Nat) : Prop := JB L xs zf w cx C Sc M pt vr mv hB s0 nk m Pl Ph LO HI z how p n lo hi ke kr ∧ 5 ≤ ke ∧ lo ≤ n ∧ n < hi ∧ 1 ≤ n ∧ n < 4400 ∧ ∃ (q0 q1 : Nat) (es : List Nat) (y1 : Int32), pts hB q0 q1 p es ∧ es.length ≤ 2000 ∧ (∀ e0 ∈ es, ∃ s w0, fd hB 12 e0 1 = some (.int s) ∧ fd hB 12 e0 0 = some (.int w0)) ∧ fd hB 12 p 1 = some (.int y1) ∧ fd hB 12 p 3 = some (.int (s0.2.1 55 n))
theorem BQ_le (e : BQ L xs zf w cx C Sc M pt vr mv hB s0 nk m pl2 ph2 LO HI z how p n lo hi ke kr) (h1 : pl ≤ pl2) (h2 : ph2 ≤ ph) (hz : z ≤ z2) (hk : ke ≤ ke2) (hk2 : kr ≤ kr2) : BQ L xs zf w cx C Sc M pt vr mv hB s0 nk m pl ph LO HI z2 how p n lo hi ke2 kr2 := by
  obtain ⟨e, e1, e2⟩ := e
  refine ⟨?_, by omega, e2⟩
  intro j j2 h s ds G lv gn b u A B ck hlz fv p53 hz
  obtain ⟨t, h', s', q1, q2, gn', a', b', u', A', B', o1, o2, o3⟩ := e (ke2 - ke + j) (kr2 - kr + j2) h s ds G lv gn b u A B ck (by omega) fv p53 hz
  rw [show ke + (ke2 - ke + j) = ke2 + j from by omega] at q1
  rw [show kr + (kr2 - kr + j2) = kr2 + j2 from by omega] at q2
  exact ⟨t, h', s', q1, q2, gn', a', b', u', A', B', o1, wF_mono o2 h1 h2, o3⟩
theorem JI_le (e : JI L xs zf w cx C Sc M pt vr mv hB s0 nk m pl2 ph2 LO HI z p n lo hi ke kr) (h1 : pl ≤ pl2) (h2 : ph2 ≤ ph) (hz : z ≤ z2) (hk : ke ≤ ke2) (hk2 : kr ≤ kr2) : JI L xs zf w cx C Sc M pt vr mv hB s0 nk m pl ph LO HI z2 p n lo hi ke2 kr2 := by
  intro j j2 h s ds G lv gn b u A B ck hlz fv p53 hz
  obtain ⟨h', s', r1, s1, q1, q2, q3, gn', a', b', u', A', B', o1, o2, o3⟩ := e (ke2 - ke + j) (kr2 - kr + j2) h s ds G lv gn b u A B ck (by omega) fv p53 hz
  rw [show ke + (ke2 - ke + j) = ke2 + j from by omega] at q1
  rw [show kr + (kr2 - kr + j2) = kr2 + j2 from by omega] at q2 q3
  exact ⟨h', s', r1, s1, q1, q2, q3, gn', a', b', u', A', B', o1, wF_mono o2 h1 h2, o3⟩
/-- a block, with a fault before it or without -/
theorem bk_u {j j2 : Nat} (bq : BQ L xs zf w cx C Sc M pt vr mv hB s0 nk m Pl Ph LO HI z how p n lo hi ke kr) (j0 : JE L xs cx hB s0 nk kl ml) (bj : bJ L xs hB s0 nk kl M m) (hw : 200 ≤ w) (e : CKJ L xs cx C Sc M pt vr mv hB s0 nk m h s ds G lv gn a b u A B) (hlz : lv + z ≤ 55) (fv : a = 0 → FV s0 G gn lo hi) (p53 : a = 0 → ∀ i, lo ≤ i → i < hi → s.2.1 53 i = s0.2.1 53 i) (hz : u 2 + 3 * (hi - lo) ≤ 9000) : ∃ t h' s' gn' a' b' u' A' B', (dcV L xs (dM L xs zf w (ke + j)) 166 [13] (some C) [va_rf (some p), .int (hwC how)] h).bind dxI = some (t, h') ∧ (a = 0 → rM w (kr + j2) 336 [.ref 36, .int (Int32.ofNat n), .int (Int32.ofNat how)] s = some (none, s')) ∧ CKJ L xs cx C Sc M pt vr mv hB s0 nk m h' s' ds G lv gn' a' b' u' A' B' ∧ wF cx C Sc Pl Ph u h h' ∧ wK2 u u' h h' ∧ u' 0 = u 0 ∧ u' 2 ≤ u 2 + 3 * (hi - lo) ∧ r53 lo hi s s' ∧ (a ≠ 0 → s' = s ∧ a' = a) ∧ (a' = 0 → (∀ i, i < u 2 → A' i = A i ∧ B' i = B i) ∧ (∀ lo2 hi2, (hi2 ≤ lo ∨ hi ≤ lo2) → LO ≤ lo2 → hi2 ≤ HI → FV s0 G gn lo2 hi2 → FV s0 G gn' lo2 hi2) ∧ ∃ tg, (how = 2 → vT s0 nk tg ∧ tg % 8 ≠ 6 ∧ tg ≠ 0 ∧ t = cT tg ∧ s'.1 65 = rTp tg) ∧ ∀ SL AA BB : Nat → Int32, (∀ i, lo ≤ i → i < hi → SL i = s'.2.1 53 i) → (∀ i, u 2 ≤ i → i < u' 2 → AA i = A' i ∧ BB i = B' i) → (TU s0 SL AA BB m (hi - lo)).2 lv G gn n how tg gn' (u 2) (u' 2)) := by
  obtain ⟨jb, k5, _, _, _, _, q0, q1, es, y1, b1, b2, b3, b4, b5⟩ := bq
  by_cases ha : a = 0
  · subst ha
    obtain ⟨t, h', s', q1, q2, gn', a', b', u', A', B', o1, o2, o3, o4, o5, o6, o7⟩ := jb j j2 h s ds G lv gn b u A B e hlz (fv rfl) (p53 rfl) hz
    exact ⟨t, h', s', gn', a', b', u', A', B', q1, fun _ => q2, o1, o2, o3, o4, o5, o6, fun z => absurd rfl z, o7⟩
  · obtain ⟨k', hk'⟩ : ∃ k', ke + j = k' + 5 := ⟨ke + j - 5, by omega⟩
    obtain ⟨t, h', r1, r2⟩ := zk_166 (pl := Pl) (ph := Ph) (zf := zf) (w := w) (k := k') (CK_EV j0 bj e ha) b1 b2 b3 b4 b5 (hwC how) hw
    rw [← hk'] at r1
    obtain ⟨gn1, A1, B1, c1⟩ := CK_ZR e ha r2
    exact ⟨t, h', s, gn1, a, b, u, A1, B1, r1, fun z => absurd z ha, c1, r2.2.1, r2.2.2.1, rfl, by omega, r53_refl, fun _ => ⟨rfl, rfl⟩, fun z => absurd z ha⟩
/-- a condition, a jump, a block -/
theorem cb_pre {j j2 : Nat} (IC : JI L xs zf w cx C Sc M pt vr mv hB s0 nk m Pl Ph LO HI z px l lo1 hi1 ke kr) (bq : BQ L xs zf w cx C Sc M pt vr mv hB s0 nk m Pl Ph LO HI z 0 pb nb lo2 hi2 ke kr) (j0 : JE L xs cx hB s0 nk kl ml) (bj : bJ L xs hB s0 nk kl M m) (hw : 200 ≤ w) (e : CKJ L xs cx C Sc M pt vr mv hB s0 nk m h s ds G lv gn 0 b u A B) (hlz : lv + z ≤ 55) (fv : FV s0 G gn lo hi) (p53 : ∀ i, lo ≤ i → i < hi → s.2.1 53 i = s0.2.1 53 i) (d1 : lo ≤ lo1) (d2 : hi1 ≤ lo2) (d3 : hi2 ≤ hi) (d4 : lo1 ≤ hi1) (hLO : LO ≤ lo) (hHI : hi ≤ HI) (hz : u 2 + 3 * (hi1 - lo1) + 1 + 3 * (hi2 - lo2) ≤ 9000) : ∃ h1 s1 r1 sA gn1 a1 b1 u1 A1 B1 h2 u2 A2 B2 t3 h3 s3 gn3 a3 b3 u3 A3 B3,
    (dcV L xs (dM L xs zf w (ke + j)) 211 [13] (some C) [va_rf (some px)] h).bind dxV = some h1 ∧ rM w (kr + j2) 339 [.ref 36, .int (Int32.ofNat l)] s = some (some (.int r1), sA) ∧ rM w (kr + j2) 367 [.ref 36, .int (Int32.ofNat l), .int r1] sA = some (none, s1) ∧ CKJ L xs cx C Sc M pt vr mv hB s0 nk m h1 s1 ds G lv gn1 a1 b1 u1 A1 B1 ∧
    (dcV L xs (dM L xs zf w (ke + j)) 175 [4] (some (cx 8)) [.int 18, .int 0] h1).bind dxI = some (Int32.ofNat (u1 2), h2) ∧ CKJ L xs cx C Sc M pt vr mv hB s0 nk m h2 s1 ds G lv gn1 a1 b1 u2 A2 B2 ∧
    (dcV L xs (dM L xs zf w (ke + j)) 166 [13] (some C) [va_rf (some pb), .int 0] h2).bind dxI = some (t3, h3) ∧ (a1 = 0 → rM w (kr + j2) 336 [.ref 36, .int (Int32.ofNat nb), .int 0] s1 = some (none, s3)) ∧ CKJ L xs cx C Sc M pt vr mv hB s0 nk m h3 s3 ds G lv gn3 a3 b3 u3 A3 B3 ∧
    wF cx C Sc Pl Ph u h h3 ∧ wK2 u u3 h h3 ∧ u3 0 = u 0 ∧ u 2 ≤ u1 2 ∧ u1 2 < u3 2 ∧ u3 2 ≤ u 2 + 3 * (hi1 - lo1) + 1 + 3 * (hi2 - lo2) ∧ r53 lo1 hi2 s s3 ∧ (a1 ≠ 0 → s3 = s1 ∧ a3 = a1) ∧ r53 lo1 hi1 s s1 ∧
    (a3 = 0 → a1 = 0 ∧ (∀ i, i < u 2 → A3 i = A i ∧ B3 i = B i) ∧ (∀ lo2 hi2, (hi2 ≤ lo1 ∨ hi1 ≤ lo2) → LO ≤ lo2 → hi2 ≤ HI → FV s0 G gn lo2 hi2 → FV s0 G gn1 lo2 hi2) ∧ (∀ lo3 hi3, (hi3 ≤ lo2 ∨ hi2 ≤ lo3) → LO ≤ lo3 → hi3 ≤ HI → FV s0 G gn1 lo3 hi3 → FV s0 G gn3 lo3 hi3) ∧ A3 (u1 2) = 18 ∧ ∀ (SL AA BB : Nat → Int32) (f : Nat), (∀ i, lo1 ≤ i → i < hi2 → SL i = s3.2.1 53 i) → (∀ i, u 2 ≤ i → i < u1 2 → AA i = A3 i ∧ BB i = B3 i) → (∀ i, u1 2 + 1 ≤ i → i < u3 2 → AA i = A3 i ∧ BB i = B3 i) → hi1 - lo1 ≤ f → hi2 - lo2 ≤ f → (TU s0 SL AA BB m f).1 lv G gn l 1 gn1 (u 2) (u1 2) ∧ ∃ x, (TU s0 SL AA BB m f).2 lv G gn1 nb 0 x gn3 (u1 2 + 1) (u3 2)) := by
  obtain ⟨h1, s1, r1, sA, q1, q2, q3, gn1, a1, b1, u1, A1, B1, o1, o2, o3, o4, o5, o6, o7⟩ := IC j j2 h s ds G lv gn b u A B e hlz (FV_sub fv d1 (by have := bq.2.2.1; have := bq.2.2.2.1; omega)) (fun i i1 i2 => p53 i (by omega) (by have := bq.2.2.1; have := bq.2.2.2.1; omega)) (by omega)
  obtain ⟨k1, hk1⟩ : ∃ k1, ke + j = k1 + 3 := ⟨ke + j - 3, by have := bq.2.1; omega⟩
  obtain ⟨h2, u2, A2, B2, m1, m2, m3, m4, m5, m6, m7, m8⟩ := ck_emit (pl := Pl) (ph := Ph) (zf := zf) (w := w) (k := k1) o1.1 (by omega) 18 0
  rw [← hk1] at m1
  have E2 := CK_e0 o1 m2 m3 m6
  have bl := bq.2.2.1
  have bl2 := bq.2.2.2.1
  obtain ⟨t3, h3, s3, gn3, a3, b3, u3, A3, B3, c1, c2, c3, c4, c5, c6, c7, c8, c9, c10⟩ := bk_u (j := j) (j2 := j2) bq j0 bj hw E2 hlz (fun z => (o7 z).2.1 lo2 hi2 (by omega) (by omega) (by omega) (FV_sub fv (by omega) d3)) (fun _ i i1 i2 => by rw [(o6 i (fun y => by omega)).1]; exact p53 i (by omega) (by omega)) (by omega)
  have W2 := wF_trans o2 o3 m3
  have K2 := wK2_trans o3 m4 o2.1.1
  have uu : u 2 ≤ u1 2 := o3.2.2.2.2.1
  have u23 : u2 2 ≤ u3 2 := c5.2.2.2.2.1
  refine ⟨h1, s1, r1, sA, gn1, a1, b1, u1, A1, B1, h2, u2, A2, B2, t3, h3, s3, gn3, a3, b3, u3, A3, B3, q1, q2, q3, o1, m1, E2, c1, c2, c3, wF_trans W2 K2 c4, wK2_trans K2 c5 W2.1.1, c6.trans (m6.trans o4), uu, by omega, by omega, r53_trans (r53_mono o6 (Nat.le_refl _) (by omega)) (r53_mono c8 (by omega) (Nat.le_refl _)), c9, o6, fun z3 => ?_⟩
  have ha : a1 = 0 := Decidable.byContradiction (fun q => q ((c9 q).2.symm.trans z3))
  obtain ⟨p1, p2, p3⟩ := o7 ha
  obtain ⟨g1, g2, tg, _, g4⟩ := c10 z3
  have old2 : ∀ i, i < u1 2 → A3 i = A1 i ∧ B3 i = B1 i := fun i hi => ⟨(g1 i (by omega)).1.trans (m8 i hi).1, (g1 i (by omega)).2.trans (m8 i hi).2⟩
  refine ⟨ha, fun i hi => ⟨(old2 i (by omega)).1.trans (p1 i hi).1, (old2 i (by omega)).2.trans (p1 i hi).2⟩, p2, g2, (g1 (u1 2) (by omega)).1.trans m7.1, fun SL AA BB f y1 y2 y3 y4 y5 => ⟨TU_e (p3 SL AA BB (fun i i1 i2 => ?_) (fun i i1 i2 => ?_)) y4, tg, ?_⟩⟩
  · exact (y1 i i1 (by omega)).trans (c8 i (fun y => by omega)).1
  · exact ⟨(y2 i i1 i2).1.trans (old2 i i2).1, (y2 i i1 i2).2.trans (old2 i i2).2⟩
  · have q := g4 SL AA BB (fun i i1 i2 => y1 i (by omega) i2) (fun i i1 i2 => y3 i (by omega) i2)
    rw [m5] at q
    exact TU_b q y5
theorem FV_oo {g1 g2 : Int32} (e1 : FV s0 G g1 lo hi) (e2 : FV s0 G g2 lo hi) : FV s0 G (g1 ||| g2) lo hi := by
  intro j j1 j2 j3
  obtain ⟨sn, t1, t2, t3, t4⟩ := e1 j j1 j2 j3
  obtain ⟨sn2, r1, r2, r3, r4⟩ := e2 j j1 j2 j3
  have es : sn2 = sn := by
    have := congrArg Int32.toInt (r2.symm.trans t2)
    rw [of_int (by omega), of_int (by omega)] at this
    omega
  subst es
  refine ⟨sn2, t1, t2, (bt_c t1).mpr ?_, t4⟩
  rw [bi_or, (bt_c t1).mp t3, (bt_c t1).mp r3]
  rfl
end JIF
