/-! BOTH CHECK A BODY: its parameters. -/
/-- what stays on the class's side from body to body -/
def gH (L : Nat) (xs : Nat → Int32) (h h' : rm_H) : Prop := nbH L xs h h' ∧ (∀ p j v, fd h 9 p j = some v → fd h' 9 p j = some v) ∧ ∀ p j v, j ≠ 11 → fd h 11 p j = some v → fd h' 11 p j = some v
/-- the class's Checker between bodies -/
def KB (cx : Nat → Nat) (C Sc : Nat) (pt vr : Int32) (mv : Value) (h : rm_H) (a b : Int32) (u : Nat → Nat) (A B : Nat → Int32) : Prop := (∃ (vM : Value) (sn gn : Int32), hc h C = some (.inr (13, [.ref (cx 8), .ref Sc, vM, .int sn, .int gn, .int 0, .int 0]))) ∧ hc h (cx 8) = some (pgK cx pt vr mv a b (u 3) (u 4) (u 2)) ∧ (∃ g, hc h Sc = some (scA g)) ∧ cdR h (u 3) (u 4) (u 1) A B ∧ (u 2 ≤ u 1 ∧ (a = 0 → b = -1)) ∧ 64 ≤ u 1 ∧ (u 1 = 64 ∨ u 1 ≤ 2 * u 2) ∧ u 0 = 0
/-- the class behind the parameters -/
def b164e (L : Nat) (xs : Nat → Int32) (zf : Value) (D : dD) (w : Nat) (o0 : Option Nat) (h : rm_H) : Option dR :=
  (dgR L xs h 2 [13] o0).bind fun p10 =>
  (dgR L xs h 0 [13] o0).bind fun p12 =>
  (dgI L xs h 11 [4] p12).bind fun x14 =>
  (dpF h 11 [11] p10 (.int x14)).bind fun h16 =>
  (dgR L xs h16 2 [13] o0).bind fun p18 =>
  (dgR L xs h16 9 [11] p18).bind fun p20 =>
  (dgR L xs h16 2 [13] o0).bind fun p22 =>
  (dgR L xs h16 8 [11] p22).bind fun p24 =>
  if dnl p24 = true then
    b164_97 L xs zf D w o0 0 p20 o0 h16
  else
    b164_97 L xs zf D w o0 19 p20 o0 h16
/-- and the reference -/
def s334e (E : rE) (w : Nat) (i1 : Int32) (s : rS) : Option rA :=
  (rs_aI s 76 i1).bind fun x4 =>
  (rs_aI s 45 x4).bind fun x6 =>
  (rs_aI s 70 i1).bind fun x8 =>
  if mx_f2 .ne x8 1 = true then
    s334_110 E w x6 s
  else
    (rs_aI s 75 i1).bind fun x11 =>
    if mx_f2 .eq x11 (-1) = true then
      s334_110 E w x6 s
    else
      s334_111 E w 1 x6 s
/-- the parameters that are seen -/
def GP (s0 : rS) (p0 : Nat) (ts : List Nat) (G : List scN) : Prop := ∀ (j : Nat) (X : scN), G[j]? = some X → X.1 = s0.2.2 79 (p0 + j) ∧ X.2.1 = j ∧ ts[j]? = some X.2.2.1 ∧ X.2.2.2 = 0
section JPM
variable {L : Nat} {xs : Nat → Int32} {zf : Value} {w C Sc M nk m k k2 ci p : Nat} {cx : Nat → Nat} {hB h h1 h' : rm_H} {s0 s s1 : rS} {pt vr gn a b : Int32} {mv : Value} {ds kl ml : List Nat} {G : List scN} {u : Nat → Nat} {A B : Nat → Int32} {fs fs' : List Value}
theorem gH_refl : gH L xs h h := ⟨⟨fun _ _ _ _ e => e, fun _ _ _ _ e => e, fun _ _ e => e, fun _ _ _ e => e, fun _ e => e⟩, fun _ _ _ e => e, fun _ _ _ _ e => e⟩
theorem gH_trans (a : gH L xs h h1) (b : gH L xs h1 h') : gH L xs h h' := ⟨⟨fun p j v q e => b.1.1 p j v q (a.1.1 p j v q e), fun l ar cap es e => b.1.2.1 _ _ _ _ (a.1.2.1 _ _ _ _ e), fun q c e => b.1.2.2.1 _ _ (a.1.2.2.1 _ _ e), fun p j v e => b.1.2.2.2.1 _ _ _ (a.1.2.2.2.1 _ _ _ e), fun p e => b.1.2.2.2.2 _ (a.1.2.2.2.2 _ e)⟩, fun p j v e => b.2.1 _ _ _ (a.2.1 _ _ _ e), fun p j v q e => b.2.2 _ _ _ q (a.2.2 _ _ _ q e)⟩
theorem gH_b (a : bH L xs h h') : gH L xs h h' := ⟨a.1, a.2.1, fun p j v _ e => a.2.2 p j v e⟩
/-- one cell is written, of a Checker or of a Method -/
theorem gH_st {q : Nat} (st : st1 q h h') (e : hc h q = some (.inr (ci, fs))) (e' : hc h' q = some (.inr (ci, fs'))) (hci : ci = 13 ∨ ci = 11) (hf : ∀ j, j ≠ 11 → ci = 11 → fs'[j]? = fs[j]?) : gH L xs h h' := by
  have other : ∀ cj p j v, cj ≠ ci → fd h cj p j = some v → fd h' cj p j = some v := by
    intro cj p j v hc ef
    obtain ⟨gs, g1, g2⟩ := fd_c ef
    have ne : p ≠ q := fun z => by
      rw [z, e] at g1
      have := Sum.inr.inj (Option.some.inj g1)
      exact hc (congrArg (fun x : Nat × List Value => x.1) this).symm
    rw [fd_st st ne]
    exact ef
  refine ⟨⟨fun p j v _ ef => other 12 p j v (by omega) ef, fun l ar cap es ea => aL_st e (by omega) st ea, fun q c en => nS_fr st.1 en, fun p j v ef => other 10 p j v (by omega) ef, fun p ef => ?_⟩, fun p j v ef => other 9 p j v (by omega) ef, fun p j v hj ef => ?_⟩
  · obtain ⟨v, hv⟩ := Option.isSome_iff_exists.mp ef
    rw [other 12 p 12 v (by omega) hv]
    rfl
  · rcases hci with z | z
    · exact other 11 p j v (by omega) ef
    · by_cases c : p = q
      · subst c
        subst z
        rw [fd_of e] at ef
        rw [fd_of e', hf j hj rfl]
        exact ef
      · rw [fd_st st c]
        exact ef
/-- a body begins -/
theorem kb_in {f : Nat → Int64} {sl ty : Nat → Int32} (kb : KB cx C Sc pt vr mv h a b u A B) (M : Nat) : ∃ h1 h3 h5, dpF h 2 [13] (some C) (.ref M) = some h1 ∧ dpF h1 3 [13] (some C) (.int 0) = some h3 ∧ dpF h3 4 [13] (some C) (.int 0) = some h5 ∧ KH L xs cx C Sc M pt vr mv h5 [] f sl ty 0 0 a b u A B ∧ st1 C h h5 ∧ gH L xs h h5 := by
  obtain ⟨⟨vM, sn, gn, k1⟩, k2, ⟨g, k3⟩, ⟨k6, k7, k8, k9, k10⟩, ⟨k11, kbb⟩, k12, k13, k14⟩ := kb
  obtain ⟨h1, a1, a2, a3⟩ := pF_ex (v := .ref M) (j := 2) (cis := [13]) k1 rfl (by decide) rfl (by decide)
  obtain ⟨h3, b1, b2, b3⟩ := pF_ex (v := .int 0) (j := 3) (cis := [13]) a2 rfl (by decide) rfl (by decide)
  obtain ⟨h5, c1, c2, c3⟩ := pF_ex (v := .int 0) (j := 4) (cis := [13]) b2 rfl (by decide) rfl (by decide)
  have st := st1_trans (st1_trans a3 b3) c3
  have n1 : cx 8 ≠ C := fun z => by rw [z, k1] at k2; cases k2
  have n2 : Sc ≠ C := fun z => by rw [z, k1] at k3; cases k3
  have n3 : u 3 ≠ C := fun z => by rw [z, k1] at k6; cases k6
  have n4 : u 4 ≠ C := fun z => by rw [z, k1] at k7; cases k7
  refine ⟨h1, h3, h5, a1, b1, c1, ⟨?_, st1_old st k2 n1, ⟨g, st1_old st k3 n2, fun i hi => by cases hi⟩, ⟨by decide, kbb⟩, fun i d hd => (by cases hd), ⟨st1_old st k6 n3, st1_old st k7 n4, k8, k9, k10⟩, k11, k12, k13, by rw [k14]; exact Nat.le_refl _⟩, st, gH_st st k1 c2 (Or.inl rfl) (fun j _ z => absurd z (by decide))⟩
  rw [k14]
  exact c2
theorem dfr {m n : Nat} (h : m + n ≤ 1000000) : Int32.ofNat (m + n) - Int32.ofNat m = Int32.ofNat n := by
  apply i32_of
  rw [of_sub (by omega) (by omega), of_int (by omega)]
  omega
/-- parameters are declared by both -/
theorem pm_l {l ar cap p0 : Nat} {ps ts : List Nat} (m72 : m < 72) (e5 : fd hB 11 M 5 = some (.ref l)) (el : aL hB l ar cap ps) (lt : ps.length = ts.length) (l6 : ts.length ≤ 6) (r77 : s0.2.1 77 (m + 1) = Int32.ofNat (p0 + ts.length)) (r77' : s0.2.1 77 m = Int32.ofNat p0) (p440 : p0 + ts.length ≤ 440) (dcl : ∀ i d t, ps[i]? = some d → ts[i]? = some t → dSn L xs hB d (s0.2.2 79 (p0 + i)) (Int32.ofNat i) (cT t) ∧ vT s0 nk t) (tcs : ∀ i t, ts[i]? = some t → tyc s0 (s0.2.1 81 (p0 + i)) t) (dist : ∀ i j, i < ts.length → j < ts.length → s0.2.2 79 (p0 + i) = s0.2.2 79 (p0 + j) → i = j) : ∀ (r ds : List Nat) (G : List scN) (h : rm_H) (s : rS) (N N2 : Nat), ds ++ r = ps → r.length < N → r.length < N2 → GP s0 p0 ts G → CKJ L xs cx C Sc M pt vr mv hB s0 nk m h s ds G 0 0 0 b u A B → ∃ h' s' G', b164_17 L xs zf (dM L xs zf w (k + 4)) w N (some C) (Int32.ofNat ds.length) h = b164e L xs zf (dM L xs zf w (k + 4)) w (some C) h' ∧ s334_27 (rM w (k2 + 1)) w N2 (Int32.ofNat m) (Int32.ofNat (p0 + ds.length)) s = s334e (rM w (k2 + 1)) w (Int32.ofNat m) s' ∧ GP s0 p0 ts G' ∧ CKJ L xs cx C Sc M pt vr mv hB s0 nk m h' s' ps G' 0 0 0 b u A B ∧ wF cx C Sc 0 0 u h h' ∧ wK2 u u h h' ∧ (∀ i, s'.2.1 53 i = s.2.1 53 i) := by
  intro r
  induction r with
  | nil =>
    intro ds G h s N N2 hds hN hN2 gp e
    obtain ⟨N, rfl⟩ : ∃ M, N = M + 1 := ⟨N - 1, by omega⟩
    obtain ⟨N2, rfl⟩ : ∃ M, N2 = M + 1 := ⟨N2 - 1, by omega⟩
    rw [List.append_nil] at hds
    subst hds
    obtain ⟨kh, dl, bh, rk, e57, _, rg, gw⟩ := id e
    refine ⟨h, s, G, ?_, ?_, gp, e, wF_refl, wK2_refl, fun _ => rfl⟩
    · have z2 := bh.1.2.1 _ _ _ _ el
      rw [b164_17]
      refine bsq (ck_2 kh) (bsq (fd_R (o := some l) (bh.2.2 _ _ _ e5) (by decide)) (bsq (a := (Int32.ofNat ds.length, h)) (by rw [al_v z2, al_size z2]; rfl) (itq ?_ rfl)))
      show mx_f2 .ge (Int32.ofNat ds.length) (Int32.ofNat ds.length) = true
      rw [f2_ge]
      simp
    · rw [s334_27, show Int32.ofNat m + 1 = Int32.ofNat (m + 1) from of_add m 1]
      refine bsq (a := Int32.ofNat (p0 + ts.length)) ((aI_at (i := m + 1) (n := 73) (by decide) rfl (by omega) (by decide)).trans (by rw [rk_A rk (by decide), r77])) (itq ?_ rfl)
      rw [f2_ge, lt]
      simp
  | cons d r ih =>
    intro ds G h s N N2 hds hN hN2 gp e
    obtain ⟨N, rfl⟩ : ∃ M, N = M + 1 := ⟨N - 1, by omega⟩
    obtain ⟨N2, rfl⟩ : ∃ M, N2 = M + 1 := ⟨N2 - 1, by omega⟩
    simp only [List.length_cons] at hN hN2
    obtain ⟨kh, dl, bh, rk, e57, _, rg, gw⟩ := id e
    have hlen : ds.length + (r.length + 1) = ts.length := by rw [← lt, ← hds, List.length_append, List.length_cons]
    have hd : ps[ds.length]? = some d := by rw [← hds, List.getElem?_append_right (Nat.le_refl _), Nat.sub_self]; rfl
    have ht : ts[ds.length]? = some (ts[ds.length]'(by omega)) := List.getElem?_eq_getElem (by omega)
    obtain ⟨dn, vt⟩ := dcl _ _ _ hd ht
    have tc := tcs _ _ ht
    obtain ⟨r60, dty⟩ := tyc_r rk tc
    obtain ⟨h2, c1, c2, c3, c4⟩ := ck_seen (pl := 0) (ph := 0) (zf := zf) (w := w) (k := k + 3) kh (bH_dSn bh dn)
    have kk := c4.resolve_right (fun z => by omega)
    have r62 := (rg rfl).1
    have nn : ∀ X ∈ G, X.1 ≠ s0.2.2 79 (p0 + ds.length) := by
      intro X hX q
      obtain ⟨i, hi⟩ := List.getElem?_of_mem hX
      have il := (List.getElem?_eq_some_iff.mp hi).1
      rw [(gp i X hi).1] at q
      have := dist _ _ (by omega) (by omega) q
      omega
    have ns : ∀ (i : Nat) (X : scN), G[i]? = some X → X.2.1 ≠ ds.length := by
      intro i X hi q
      have il := (List.getElem?_eq_some_iff.mp hi).1
      rw [(gp i X hi).2.1] at q
      omega
    have F := CK_se e (by omega) dty vt nn ns (bi_ext (fun i hi => by rw [bi_and, bi_0]; rfl)) kk.2 rfl c2
    obtain ⟨h', s', G', q1, q2, q3, q4, q5, q6, q7⟩ := ih (ds ++ [d]) _ h2 _ N N2 (by rw [List.append_assoc]; exact hds) (by omega) (by omega) (fun j X hX => by
      by_cases qi : j < G.length
      · rw [List.getElem?_append_left qi] at hX
        exact gp j X hX
      · have hl2 := (List.getElem?_eq_some_iff.mp hX).1
        rw [List.length_append, List.length_singleton] at hl2
        rw [show j = G.length from by omega, List.getElem?_append_right (Nat.le_refl _), Nat.sub_self] at hX
        have hX : some (s0.2.2 79 (p0 + ds.length), ds.length, ts[ds.length]'(by omega), 0) = some X := hX
        rw [← Option.some.inj hX, show j = ds.length from by omega]
        exact ⟨rfl, rfl, ht, rfl⟩) F
    have ll : (ds ++ [d]).length = ds.length + 1 := by rw [List.length_append]; rfl
    rw [ll] at q1 q2
    refine ⟨h', s', G', ?_, ?_, q3, q4, wF_trans c2 c3 q5, wK2_trans c3 q6 c2.1.1, fun i => (q7 i).trans ?_⟩
    · have z2 := bh.1.2.1 _ _ _ _ el
      obtain ⟨fs, hs2, _⟩ := fd_c (bH_dSn bh dn).2.1
      have g5 : dgR L xs h 5 [11] (some M) = some (some l) := fd_R (o := some l) (bh.2.2 _ _ _ e5) (by decide)
      rw [b164_17]
      refine bsq (ck_2 kh) (bsq g5 (bsq (a := (Int32.ofNat ps.length, h)) (by rw [al_v z2, al_size z2]; rfl) (inq ?_ (bsq (ck_2 kh) (bsq g5 (bsq (a := (some d, h)) (by rw [al_v z2, al_get z2 ds.length hd]; rfl) (inq (by rw [ck_of hs2]; decide) (bsq c1 ?_))))))))
      · show ¬ mx_f2 .ge (Int32.ofNat ds.length) (Int32.ofNat ps.length) = true
        rw [f2_ge, of_int (by omega), of_int (by omega)]
        simp
        omega
      · rw [show Int32.ofNat ds.length + 1 = Int32.ofNat (ds.length + 1) from of_add _ 1]
        exact q1
    · have g79 : rs_aJ s 79 (Int32.ofNat (p0 + ds.length)) = some (s0.2.2 79 (p0 + ds.length)) := (aJ_at (i := p0 + ds.length) (n := 440) (by decide) rfl (by omega) (by decide)).trans (by rw [rk_B rk (by decide)])
      have g77 : rs_aI s 77 (Int32.ofNat m) = some (Int32.ofNat p0) := (aI_at (i := m) (n := 73) (by decide) rfl (by omega) (by decide)).trans (by rw [rk_A rk (by decide), r77'])
      have g81 : rs_aI s 81 (Int32.ofNat (p0 + ds.length)) = some (s0.2.1 81 (p0 + ds.length)) := (aI_at (i := p0 + ds.length) (n := 440) (by decide) rfl (by omega) (by decide)).trans (by rw [rk_A rk (by decide)])
      rw [s334_27, show Int32.ofNat m + 1 = Int32.ofNat (m + 1) from of_add m 1]
      refine bsq (a := Int32.ofNat (p0 + ts.length)) ((aI_at (i := m + 1) (n := 73) (by decide) rfl (by omega) (by decide)).trans (by rw [rk_A rk (by decide), r77])) (inq ?_ (bsq g79 (bsq g77 (bsq g81 (bsq r60 (bsq (a := seS s G.length (s0.2.2 79 (p0 + ds.length)) (Int32.ofNat ds.length) (rTp (ts[ds.length]'(by omega)))) ?_ ?_))))))
      · rw [f2_ge, of_int (by omega), of_int (by omega)]
        simp
        omega
      · rw [dfr (by omega), r_335 r62 (by omega)]
        rfl
      · rw [show Int32.ofNat (p0 + ds.length) + 1 = Int32.ofNat (p0 + (ds.length + 1)) from of_add _ 1]
        exact q2
    · show (rs_wA (rs_wA (rs_wA (rs_wB s 82 G.length (s0.2.2 79 (p0 + ds.length))) 83 G.length (Int32.ofNat ds.length)) 84 G.length (rTp (ts[ds.length]'(by omega)))) 85 G.length (s.1 63)).2.1 53 i = _
      rw [wA_ne _ _ _ (by decide), wA_ne _ _ _ (by decide), wA_ne _ _ _ (by decide)]
      rfl
end JPM
