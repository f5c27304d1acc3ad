/-! DECLARE, BY THE CLASS: the whole. -/
/-- all faults, by the class -/
def dSC (L : Nat) (xs : Nat → Int32) (h : rm_H) (s : rS) (nk nm : Nat) (ts : List Nat) (u v : Int32) : Prop := (((∃ j d, j < ts.length ∧ ts[j]? = some d ∧ noR L xs h s nk d u v) ∨ ∃ j, j < nk ∧ kS s j u v) ∨ ∃ j, j < nm ∧ mS s nk j u v) ∨ maS s nk u v
section DW
variable {L : Nat} {xs : Nat → Int32} {zf : Value} {w k n nk : Nat} {h0 hT h h1 h2 : rm_H} {s0 s s1 : rS} {M m l ar cap a9 c9 a10 c10 a11 c11 : Nat} {kl ml ts : List Nat} {cx : Nat → Nat} {pt vr a b : Int32} {mv : Value} {S T : Int32 → Int32 → Prop}
/-- i Methods are declared -/
def mI (cx : Nat → Nat) (pt vr : Int32) (S : Int32 → Int32 → Prop) (s : rS) (nk : Nat) (ml : List Nat) (hT : rm_H) (i : Nat) (h : rm_H) : Prop := dI hT h ∧ (∀ p, fd h 10 p 7 = fd hT 10 p 7) ∧ pgS cx pt vr .null (fun u v => S u v ∨ ∃ j, j < i ∧ mS s nk j u v) h ∧ (∀ j M, i ≤ j → ml[j]? = some M → ∀ x, fd h 11 M x = fd hT 11 M x) ∧ ∀ j M, j < i → ml[j]? = some M → mD s nk h j M
theorem c_meths_l (e10 : aL hT (cx 10) a10 c10 ml) (hl : ml.length ≤ 100) (ka : kA L xs hT s kl) (mb : ∀ m M, ml[m]? = some M → mB L xs hT s kl m M) (hw : 200 ≤ w) : ∀ (m i N : Nat) (h : rm_H), i + m = ml.length → m < N → mI cx pt vr S s kl.length ml hT i h → ∃ h', b145_109 L xs zf (dM L xs zf w (k + 6)) w N (some (cx 8)) (Int32.ofNat i) h = dMn L xs zf (dM L xs zf w (k + 6)) w (cx 8) h' ∧ mI cx pt vr S s kl.length ml hT ml.length h' := by
  intro m
  induction m with
  | zero =>
    intro i N h e hN t
    obtain ⟨N, rfl⟩ : ∃ M, N = M + 1 := ⟨N - 1, by omega⟩
    have ei : i = ml.length := by omega
    subst ei
    refine ⟨h, ?_, t⟩
    obtain ⟨t1, _, ⟨a, b, t2, _⟩, _⟩ := t
    have e1 := dI_aL t1 e10
    have g3 : dgR L xs h 2 [4] (some (cx 8)) = some (some (cx 10)) := hc_gR (p := some (cx 10)) t2 rfl (by decide)
    have sz : (dcV L xs (dM L xs zf w (k + 6)) 101 [5] (some (cx 10)) [] h).bind dxI = some (Int32.ofNat ml.length, h) := by
      rw [al_v e1, al_size e1]
      rfl
    rw [b145_109]
    refine bsq g3 (bsq sz (itq ?_ rfl))
    rw [f2_ge]
    simp
  | succ m ih =>
    intro i N h e hN t
    obtain ⟨N, rfl⟩ : ∃ M, N = M + 1 := ⟨N - 1, by omega⟩
    obtain ⟨t1, t2, t3, t4, t5⟩ := t
    have e1 := dI_aL t1 e10
    obtain ⟨M, hM⟩ : ∃ d, ml[i]? = some d := ⟨ml[i]'(by omega), List.getElem?_eq_getElem (by omega)⟩
    have g3 : dgR L xs h 2 [4] (some (cx 8)) = some (some (cx 10)) := by
      obtain ⟨a, b, z, _⟩ := id t3
      exact hc_gR (p := some (cx 10)) z rfl (by decide)
    have sz : (dcV L xs (dM L xs zf w (k + 6)) 101 [5] (some (cx 10)) [] h).bind dxI = some (Int32.ofNat ml.length, h) := by
      rw [al_v e1, al_size e1]
      rfl
    have gt : (dcV L xs (dM L xs zf w (k + 6)) 146 [5] (some (cx 10)) [.int (Int32.ofNat i)] h).bind dxR = some (some M, h) := by
      rw [al_v e1, al_get e1 i hM]
      rfl
    have ge : ¬ mx_f2 .ge (Int32.ofNat i) (Int32.ofNat ml.length) = true := by
      rw [f2_ge, of_int (by omega), of_int (by omega)]
      simp
      omega
    have mbM := mb i M hM
    have nM : fd hT 11 M 2 = some (.int (Int32.ofNat i)) := by
      obtain ⟨_, _, _, _, _, _, _, _, _, _, _, _, _, _, z⟩ := mbM
      exact z
    obtain ⟨fsM, cM, _⟩ := fd_c ((t4 i M (Nat.le_refl _) hM 2).trans nM)
    have oth : ∀ j M', j ≠ i → ml[j]? = some M' → M' ≠ M := by
      intro j M' hj hM' z
      have lj := (List.getElem?_eq_some_iff.mp hM').1
      have q : fd hT 11 M' 2 = some (.int (Int32.ofNat j)) := by
        obtain ⟨_, _, _, _, _, _, _, _, _, _, _, _, _, _, z⟩ := mb j M' hM'
        exact z
      rw [z, nM] at q
      have := congrArg Int32.toInt (Value.int.inj (Option.some.inj q))
      rw [of_int (by omega), of_int (by omega)] at this
      omega
    obtain ⟨h2, w1, w2, w3, w4⟩ := c_meth (L := L) (xs := xs) (zf := zf) (w := w) (k := k + 1) (kA_I t1 ka) (mB_I t1 t2 (t4 i M (Nat.le_refl _) hM) mbM) t3 hw
    obtain ⟨h3, r1, r2⟩ := ih (i + 1) N h2 (by omega) (by omega) ⟨dI_trans t1 w2.1, fun p => (w2.2.1 p).trans (t2 p), pgS_ext (fun u v => by
      constructor
      · rintro ((z | ⟨j, z1, z2⟩) | z)
        · exact Or.inl z
        · exact Or.inr ⟨j, by omega, z2⟩
        · exact Or.inr ⟨i, by omega, z⟩
      · rintro (z | ⟨j, z1, z2⟩)
        · exact Or.inl (Or.inl z)
        · by_cases z : j = i
          · rw [z] at z2
            exact Or.inr z2
          · exact Or.inl (Or.inr ⟨j, by omega, z2⟩)) w3, fun j M' hj hM' x => by
      rw [w2.2.2 M' (oth j M' (by omega) hM') x]
      exact t4 j M' (by omega) hM' x, fun j M' hj hM' => by
      by_cases z : j = i
      · rw [z, hM] at hM'
        cases hM'
        rw [z]
        exact w4
      · exact mD_k w2.2.1 (fun x => w2.2.2 M' (oth j M' z hM') x) (t5 j M' (by omega) hM')⟩
    refine ⟨h3, ?_, r2⟩
    rw [b145_109]
    refine bsq g3 (bsq sz (inq ge (bsq g3 (bsq gt (inq (by rw [ck_of cM]; decide) (bsq w1 ?_))))))
    rw [show Int32.ofNat i + 1 = Int32.ofNat (i + 1) from of_add i 1]
    exact r1
theorem c_declare (hp : hc h0 (cx 8) = some (pgC cx pt vr)) (e9 : aL h0 (cx 9) a9 c9 kl) (e10 : aL h0 (cx 10) a10 c10 ml) (e11 : aL h0 (cx 11) a11 c11 ts) (l10 : ml.length ≤ 100) (l11 : ts.length ≤ 3000) (kb : kB L xs h0 s kl) (dd : ∀ d ∈ ts, fd h0 10 d 7 = some (.int 0) ∧ ∃ bn c cp cq tq, dDat L xs h0 d bn c cp cq tq) (mb : ∀ hT, tI L xs cx pt vr s kl.length ts h0 ts.length hT → ∀ m M, ml[m]? = some M → mB L xs hT s kl m M) (h3 : s.1 3 = Int32.ofNat (cx 6)) (hmk : ∀ j K, kl[j]? = some K → ∃ mk l ar cap ds p0, fd h0 9 K 6 = some (.ref mk) ∧ fd h0 11 mk 5 = some (.ref l) ∧ aL h0 l ar cap ds ∧ s.2.1 77 (nn s 65 j) = Int32.ofNat p0 ∧ s.2.1 77 (nn s 65 j + 1) = Int32.ofNat (p0 + ds.length) ∧ p0 + ds.length ≤ 440) (hw : 3100 ≤ w) : ∃ h', dM L xs zf w (k + 7) 145 [.ref (cx 8)] h0 = some (none, h') ∧ dI h0 h' ∧ pgS cx pt vr (va_rf (kO kl (kF (s.2.2 62) 1298229614 kl.length 0))) (dSC L xs h0 s kl.length ml.length ts) h' ∧ (∀ d ∈ ts, ∃ x, fd h' 10 d 7 = some (.int x) ∧ tyR L xs h0 s kl.length d x) ∧ ∀ m M, ml[m]? = some M → mD s kl.length h' m M := by
  have hp : hc h0 (cx 8) = some (pgD cx pt vr .null 0 (-1)) := hp
  have l8 := kb.1.2.1
  -- the types
  obtain ⟨hT, a1, a2⟩ := c_types_l (L := L) (xs := xs) (zf := zf) (w := w) (k := k) (pt := pt) (vr := vr) e9 kb.1 e11 l11 (fun d hd => (dd d hd).2) (by omega) ts.length 0 w h0 (by omega) (by omega) ⟨dI_refl, ⟨0, -1, hp, mn_0 (fun x y z => by
    obtain ⟨j, d, z, _⟩ := z
    omega)⟩, fun d hd => ⟨0, (dd d hd).1, Or.inl rfl⟩, fun j d hj _ => by omega, fun _ _ => rfl⟩
  obtain ⟨t1, t2, t3, t4, t5⟩ := id a2
  -- the kinds
  obtain ⟨hK, b1, b2, b3⟩ := c_kinds_l (L := L) (xs := xs) (zf := zf) (w := w) (k := k) e9 kb (by omega) kl.length 0 w hT (by omega) (by omega) t1 (pgS_ext (fun u v => ⟨Or.inl, fun z => by
    rcases z with z | ⟨j, z, _⟩
    · exact z
    · omega⟩) t2)
  obtain ⟨k1, k2⟩ := mSt_P (M := 0) t2 b2
  have k3 : ∀ p j, fd hK 11 p j = fd hT 11 p j := fun p j => (mSt_P (M := p) t2 b2).2 j
  have dK := dI_trans t1 k1.1
  -- the methods
  obtain ⟨hM, c1, c2, c3, c4, c5, c6⟩ := c_meths_l (L := L) (xs := xs) (zf := zf) (w := w) (k := k) (hT := hK) (dI_aL dK e10) l10 (kA_I dK kb.1) (fun m M hm => mB_I k1.1 k1.2.1 (k3 M) (mb hT a2 m M hm)) (by omega) ml.length 0 w hK (by omega) (by omega) ⟨dI_refl, fun _ => rfl, pgS_ext (fun u v => ⟨Or.inl, fun z => by
    rcases z with z | ⟨j, z, _⟩
    · exact z
    · omega⟩) b3, fun _ _ _ _ _ => rfl, fun j _ hj _ => by omega⟩
  have dMm := dI_trans dK c2
  -- Main
  obtain ⟨hE, d1, d2, d3⟩ := c_main (L := L) (xs := xs) (zf := zf) (w := w) (k := k) (dI_aL dMm e9) (kA_I dMm kb.1) h3 (fun j K hj => by
    obtain ⟨mk, l, ar, cap, ds, p0, m1, m2, m3, m4⟩ := hmk j K hj
    exact ⟨mk, l, ar, cap, ds, p0, dI_f dMm m1 nb9, dI_f dMm m2 (nb11 (by decide)), dI_aL dMm m3, m4⟩) c4 (by omega)
  obtain ⟨e1, e2⟩ := mSt_P (M := 0) c4 d2
  have e3 : ∀ p j, fd hE 11 p j = fd hM 11 p j := fun p j => (mSt_P (M := p) c4 d2).2 j
  refine ⟨hE, ?_, dI_trans dMm e1.1, d3, fun d hd => ?_, fun m M hm => mD_k e1.2.1 (e3 M) (c6 m M (List.getElem?_eq_some_iff.mp hm).1 hm)⟩
  · rw [e145]
    show b145_2 L xs zf (dM L xs zf w (k + 6)) w w (some (cx 8)) (Int32.ofNat 0) h0 = _
    rw [a1]
    show b145_40 L xs zf (dM L xs zf w (k + 6)) w w (some (cx 8)) (Int32.ofNat 0) hT = _
    rw [b1]
    show b145_109 L xs zf (dM L xs zf w (k + 6)) w w (some (cx 8)) (Int32.ofNat 0) hK = _
    rw [c1]
    exact d1
  · obtain ⟨i, hi⟩ := List.getElem?_of_mem hd
    obtain ⟨x, x1, x2⟩ := t4 i d (List.getElem?_eq_some_iff.mp hi).1 hi
    exact ⟨x, (e1.2.1 d).trans ((c3 d).trans ((k1.2.1 d).trans x1)), x2⟩
end DW
