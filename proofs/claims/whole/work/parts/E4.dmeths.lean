/-! ALL METHODS ARE DECLARED BY THE CLASS. -/
/-- the class's type of parameter i -/
def pTy (s : rS) (nk i : Nat) : Int32 := (dyK s nk (nn s 81 i)).1
/-- the faults of method m -/
def mS (s : rS) (nk m : Nat) (u v : Int32) : Prop := rpA (s.2.2 79) (s.2.1 80) (nn s 77 m) (nn s 77 (m + 1)) u v ∨ (s.2.1 66 (nn s 71 m) ≠ 0 ∧ s.2.1 70 m = 1 ∧ s.2.1 72 m ≠ 2 ∧ u = 4 ∧ v = s.2.1 73 m) ∨ (s.2.1 66 (nn s 71 m) ≠ 0 ∧ s.2.1 70 m ≠ 1 ∧ ∃ i, nn s 77 m ≤ i ∧ i < nn s 77 (m + 1) ∧ pTy s nk i ≠ 0 ∧ sdC (pTy s nk i) = 0 ∧ u = 4 ∧ v = s.2.1 80 i)
/-- Method M before it is declared -/
def mB (L : Nat) (xs : Nat → Int32) (h : rm_H) (s : rS) (kl : List Nat) (m M : Nat) : Prop := ∃ K kk so l ar cap ds p0, (fd h 11 M 1 = some (.ref K) ∧ kl[kk]? = some K ∧ s.2.1 71 m = Int32.ofNat kk) ∧ (fd h 11 M 0 = some (.int so) ∧ s.2.1 70 m = so ∧ (so = 1 → fd h 11 M 6 = some (.int (s.2.1 72 m)) ∧ fd h 11 M 7 = some (.int (s.2.1 73 m)))) ∧ (fd h 11 M 5 = some (.ref l) ∧ dL L xs h l ar cap ds (fun i => s.2.2 79 (p0 + i)) (fun i => s.2.1 80 (p0 + i)) ∧ s.2.1 77 m = Int32.ofNat p0 ∧ s.2.1 77 (m + 1) = Int32.ofNat (p0 + ds.length) ∧ p0 + ds.length ≤ 440 ∧ ∀ i d, ds[i]? = some d → fd h 10 d 7 = some (.int (pTy s kl.length (p0 + i)))) ∧ (fd h 11 M 8 = some .null ∨ ∃ rd rt, fd h 11 M 8 = some (.ref rd) ∧ fd h 10 rd 7 = some (.int rt)) ∧ fd h 11 M 12 = some (.int 1) ∧ (∃ u, fd h 11 M 13 = some (.int u)) ∧ fd h 11 M 2 = some (.int (Int32.ofNat m))
/-- and behind that -/
def mD (s : rS) (nk : Nat) (h : rm_H) (m M : Nat) : Prop := ∃ tk hm, fd h 11 M 12 = some (.int tk) ∧ fd h 11 M 13 = some (.int hm) ∧ ((tk = 1 ∧ ∀ i, nn s 77 m ≤ i → i < nn s 77 (m + 1) → sdC (pTy s nk i) = 1) ∨ (tk = 0 ∧ ∃ i, nn s 77 m ≤ i ∧ i < nn s 77 (m + 1) ∧ sdC (pTy s nk i) = 0)) ∧ ((fd h 11 M 8 = some .null ∧ hm = tk) ∨ ∃ rd rt, fd h 11 M 8 = some (.ref rd) ∧ fd h 10 rd 7 = some (.int rt) ∧ hm = if tk = 0 then 0 else sdC rt)
section DMS
variable {L : Nat} {xs : Nat → Int32} {zf : Value} {w k n nk : Nat} {h0 h h1 h2 : rm_H} {s0 s s1 : rS} {M m l ar cap : Nat} {kl ml : List Nat} {cx : Nat → Nat} {pt vr a b : Int32} {mv : Value} {S T : Int32 → Int32 → Prop}
theorem mB_I (di : dI h0 h) (d7 : ∀ p, fd h 10 p 7 = fd h0 10 p 7) (dM : ∀ j, fd h 11 M j = fd h0 11 M j) (e : mB L xs h0 s kl m M) : mB L xs h s kl m M := by
  obtain ⟨K, kk, so, l, ar, cap, ds, p0, ⟨a1, a2, a3⟩, ⟨b1, b2, b3⟩, ⟨c1, c2, c3, c4, c5, c6⟩, d1, d2, ⟨u, d3⟩, d4⟩ := e
  refine ⟨K, kk, so, l, ar, cap, ds, p0, ⟨(dM 1).trans a1, a2, a3⟩, ⟨(dM 0).trans b1, b2, fun z => ⟨(dM 6).trans (b3 z).1, (dM 7).trans (b3 z).2⟩⟩, ⟨(dM 5).trans c1, dL_I di c2, c3, c4, c5, fun i d hd => (d7 d).trans (c6 i d hd)⟩, ?_, (dM 12).trans d2, ⟨u, (dM 13).trans d3⟩, (dM 2).trans d4⟩
  rcases d1 with z | ⟨rd, rt, z1, z2⟩
  · exact Or.inl ((dM 8).trans z)
  · exact Or.inr ⟨rd, rt, (dM 8).trans z1, (d7 rd).trans z2⟩
theorem mD_k (d7 : ∀ p, fd h 10 p 7 = fd h0 10 p 7) (dM : ∀ j, fd h 11 M j = fd h0 11 M j) (e : mD s nk h0 m M) : mD s nk h m M := by
  obtain ⟨tk, hm, a1, a2, a3, a4⟩ := e
  refine ⟨tk, hm, (dM 12).trans a1, (dM 13).trans a2, a3, ?_⟩
  rcases a4 with ⟨z1, z2⟩ | ⟨rd, rt, z1, z2, z3⟩
  · exact Or.inl ⟨(dM 8).trans z1, z2⟩
  · exact Or.inr ⟨rd, rt, (dM 8).trans z1, (d7 rd).trans z2, z3⟩
theorem c_meth (ka : kA L xs h s kl) (e : mB L xs h s kl m M) (p : pgS cx pt vr mv S h) (hw : 200 ≤ w) : ∃ h', (dcV L xs (dM L xs zf w (k + 5)) 157 [4] (some (cx 8)) [va_rf (some M)] h).bind dxV = some h' ∧ mSt M h h' ∧ pgS cx pt vr mv (fun u v => S u v ∨ mS s kl.length m u v) h' ∧ mD s kl.length h' m M := by
  obtain ⟨K, kk, so, l, ar, cap, ds, p0, ⟨a1, a2, a3⟩, ⟨b1, b2, b3⟩, ⟨c1, c2, c3, c4, c5, c6⟩, d1, d2, ⟨u13, d3⟩, d4⟩ := e
  have kk8 : kk < kl.length := (List.getElem?_eq_some_iff.mp a2).1
  have l8 := ka.2.1
  obtain ⟨_, ka2, _⟩ := ka.2.2 kk K a2
  have v71 : nn s 71 m = kk := by unfold nn; rw [a3, of_clamp (by omega)]
  have v77 : nn s 77 m = p0 ∧ nn s 77 (m + 1) = p0 + ds.length := ⟨by unfold nn; rw [c3, of_clamp (by omega)], by unfold nn; rw [c4, of_clamp (by omega)]⟩
  obtain ⟨h2, x1, x2, x3⟩ := c_rep (L := L) (xs := xs) (zf := zf) (w := w) (k := k) c2 hw dI_refl p
  obtain ⟨y1, y2⟩ := mSt_P (M := M) p x2
  have g1 : dgR L xs h2 1 [11] (some M) = some (some K) := fd_R (o := some K) ((y2 1).trans a1) (by decide)
  have g2 : dgI L xs h2 2 [9] (some K) = some (s.2.1 66 kk) := fd_I (dI_f y1.1 ka2 nb9) (by decide)
  have g0 : dgI L xs h2 0 [11] (some M) = some so := fd_I ((y2 0).trans b1) (by decide)
  -- the parameters
  have tail : ∀ (h3 : rm_H) (S3 : Int32 → Int32 → Prop), mSt M h h3 → (∀ j, fd h3 11 M j = fd h 11 M j) → pgS cx pt vr mv S3 h3 → (∀ u v, S3 u v ↔ ((S u v ∨ rpA (s.2.2 79) (s.2.1 80) (nn s 77 m) (nn s 77 (m + 1)) u v) ∨ (s.2.1 66 (nn s 71 m) ≠ 0 ∧ s.2.1 70 m = 1 ∧ s.2.1 72 m ≠ 2 ∧ u = 4 ∧ v = s.2.1 73 m))) → ∃ h', b157_45 L xs zf (dM L xs zf w (k + 4)) w (some (cx 8)) (some M) (s.2.1 66 kk) h3 = some (none, h') ∧ mSt M h h' ∧ pgS cx pt vr mv (fun u v => S u v ∨ mS s kl.length m u v) h' ∧ mD s kl.length h' m M := by
    intro h3 S3 m3 mf p3 hS
    have d8 : fd h3 11 M 8 = some .null ∨ ∃ rd rt, fd h3 11 M 8 = some (.ref rd) ∧ fd h3 10 rd 7 = some (.int rt) := by
      rcases d1 with z | ⟨rd, rt, z1, z2⟩
      · exact Or.inl ((mf 8).trans z)
      · exact Or.inr ⟨rd, rt, (mf 8).trans z1, (m3.2.1 rd).trans z2⟩
    obtain ⟨h', tk, r1, r2, r3, r4, r5, hm, r6, r7⟩ := c_pm_l (L := L) (xs := xs) (zf := zf) (w := w) (k := k + 1) (S := S3) (ac := s.2.1 66 kk) (so := so) (tx := fun i => pTy s kl.length (p0 + i)) (h0 := h3) ((mf 5).trans c1) ((mf 0).trans b1) d8 (dL_I m3.1 c2) (fun i d hd => (m3.2.1 d).trans (c6 i d hd)) hw ds.length 0 w h3 1 u13 (by omega) (by have := c2.2.1; omega) mSt_refl (pgS_ext (fun u v => ⟨Or.inl, fun z => by
      rcases z with z | ⟨_, _, i, z, _⟩
      · exact z
      · omega⟩) p3) ((mf 12).trans d2) (Or.inl ⟨rfl, fun i hi => by omega⟩) ((mf 13).trans d3)
    have mm := mSt_trans m3 r2
    refine ⟨h', r1, mm, pgS_ext (fun u v => ?_) r3, tk, hm, r4, r6, ?_, ?_⟩
    · rw [hS, v77.1, v77.2, v71]
      unfold mS
      rw [v77.1, v77.2, v71]
      constructor
      · rintro (((z | z) | z) | ⟨z1, z2, i, z3, z4⟩)
        · exact Or.inl z
        · exact Or.inr (Or.inl z)
        · exact Or.inr (Or.inr (Or.inl z))
        · exact Or.inr (Or.inr (Or.inr ⟨z1, by rw [b2]; exact z2, p0 + i, by omega, by omega, z4⟩))
      · rintro (z | z | z | ⟨z1, z2, i, z3, z3', z4, z5, z6, z7⟩)
        · exact Or.inl (Or.inl (Or.inl z))
        · exact Or.inl (Or.inl (Or.inr z))
        · exact Or.inl (Or.inr z)
        · have ei : p0 + (i - p0) = i := by omega
          exact Or.inr ⟨z1, by rw [← b2]; exact z2, i - p0, by omega, by show pTy s kl.length (p0 + (i - p0)) ≠ 0; rw [ei]; exact z4, by show sdC (pTy s kl.length (p0 + (i - p0))) = 0; rw [ei]; exact z5, z6, by show v = s.2.1 80 (p0 + (i - p0)); rw [ei]; exact z7⟩
    · rw [v77.1, v77.2]
      rcases r5 with ⟨z1, z2⟩ | ⟨z1, i, z2, z3⟩
      · refine Or.inl ⟨z1, fun i h1 h2 => ?_⟩
        have := z2 (i - p0) (by omega)
        dsimp only at this
        rw [show p0 + (i - p0) = i from by omega] at this
        exact this
      · exact Or.inr ⟨z1, p0 + i, by omega, by omega, z3⟩
    · have k8 : fd h' 11 M 8 = fd h3 11 M 8 := r2.1.2.2.2 11 M 8 (nb11 (by decide))
      rcases r7 with ⟨z1, z2⟩ | ⟨rd, rt, z1, z2, z3⟩
      · exact Or.inl ⟨k8.trans z1, z2⟩
      · exact Or.inr ⟨rd, rt, k8.trans z1, (r2.2.1 rd).trans z2, z3⟩
  have wrap : ∀ h', b157_0 L xs zf (dM L xs zf w (k + 4)) w (some (cx 8)) (some M) h = some (none, h') → (dcV L xs (dM L xs zf w (k + 5)) 157 [4] (some (cx 8)) [va_rf (some M)] h).bind dxV = some h' := by
    intro h' e
    obtain ⟨a, b, p1, _⟩ := id p
    rw [hc_v p1 (by decide), e157]
    show (b157_0 L xs zf (dM L xs zf w (k + 4)) w (some (cx 8)) (some M) h).bind dxV = _
    rw [e]
    rfl
  have sh : ∀ u v, rpA (fun i => s.2.2 79 (p0 + i)) (fun i => s.2.1 80 (p0 + i)) 0 ds.length u v ↔ rpA (s.2.2 79) (s.2.1 80) (nn s 77 m) (nn s 77 (m + 1)) u v := fun u v => by
    rw [v77.1, v77.2]
    exact rpA_sh
  have head : ∀ r, (if mx_f1 .eq (s.2.1 66 kk) = true then b157_45 L xs zf (dM L xs zf w (k + 4)) w (some (cx 8)) (some M) (s.2.1 66 kk) h2 else if mx_f2 .ne so 1 = true then b157_45 L xs zf (dM L xs zf w (k + 4)) w (some (cx 8)) (some M) (s.2.1 66 kk) h2 else (dgI L xs h2 6 [11] (some M)).bind fun x18 => if mx_f2 .eq x18 2 = true then b157_45 L xs zf (dM L xs zf w (k + 4)) w (some (cx 8)) (some M) (s.2.1 66 kk) h2 else (dgI L xs h2 7 [11] (some M)).bind fun x21 => ((dcV L xs (dM L xs zf w (k + 4)) 144 [4] (some (cx 8)) [.int 4, .int x21] h2).bind dxV).bind fun h23 => b157_45 L xs zf (dM L xs zf w (k + 4)) w (some (cx 8)) (some M) (s.2.1 66 kk) h23) = r → b157_0 L xs zf (dM L xs zf w (k + 4)) w (some (cx 8)) (some M) h = r := by
    intro r er
    unfold b157_0
    refine bsq (fd_R (o := some l) c1 (by decide)) (bsq x1 (bsq g1 (bsq g2 ?_)))
    rw [← er]
    split
    · rfl
    · exact bsq g0 rfl
  have none' : (∀ u v : Int32, ¬ (s.2.1 66 (nn s 71 m) ≠ 0 ∧ s.2.1 70 m = 1 ∧ s.2.1 72 m ≠ 2 ∧ u = 4 ∧ v = s.2.1 73 m)) → ∃ h', b157_45 L xs zf (dM L xs zf w (k + 4)) w (some (cx 8)) (some M) (s.2.1 66 kk) h2 = some (none, h') ∧ mSt M h h' ∧ pgS cx pt vr mv (fun u v => S u v ∨ mS s kl.length m u v) h' ∧ mD s kl.length h' m M := fun no => tail h2 _ y1 y2 x3 (fun u v => by
    rw [sh]
    exact ⟨Or.inl, fun z => z.elim id (fun z => absurd z (no u v))⟩)
  by_cases q1 : s.2.1 66 kk = 0
  · obtain ⟨h', t1, t2⟩ := none' (fun u v z => z.1 (by rw [v71]; exact q1))
    exact ⟨h', wrap _ (head _ (itq (by rw [q1]; decide) t1)), t2⟩
  have n1 : ¬ mx_f1 .eq (s.2.1 66 kk) = true := by rw [f1_eqd]; exact fun z => q1 (of_decide_eq_true z)
  by_cases q2 : so = 1
  · obtain ⟨b4, b5⟩ := b3 q2
    have n2 : ¬ mx_f2 .ne so 1 = true := by rw [q2]; decide
    have g6 : dgI L xs h2 6 [11] (some M) = some (s.2.1 72 m) := fd_I ((y2 6).trans b4) (by decide)
    by_cases q3 : s.2.1 72 m = 2
    · obtain ⟨h', t1, t2⟩ := none' (fun u v z => z.2.2.1 q3)
      exact ⟨h', wrap _ (head _ (inq n1 (inq n2 (bsq g6 (itq (by rw [q3]; decide) t1))))), t2⟩
    · have n3 : ¬ mx_f2 .eq (s.2.1 72 m) 2 = true := by rw [f2_eqd]; exact fun z => q3 (of_decide_eq_true z)
      obtain ⟨h3, w1, w2, w3⟩ := c_noteS (L := L) (xs := xs) (zf := zf) (w := w) (k := k + 3) x3 4 (s.2.1 73 m) (by decide)
      obtain ⟨z1, z2⟩ := mSt_P (M := M) x3 w2
      obtain ⟨h', t1, t2⟩ := tail h3 _ (mSt_trans y1 z1) (fun j => (z2 j).trans (y2 j)) w3 (fun u v => by
        rw [sh]
        exact ⟨fun z => z.elim Or.inl (fun z => Or.inr ⟨by rw [v71]; exact q1, b2.trans q2, q3, z⟩), fun z => z.elim Or.inl (fun z => Or.inr z.2.2.2)⟩)
      exact ⟨h', wrap _ (head _ (inq n1 (inq n2 (bsq g6 (inq n3 (bsq (fd_I ((y2 7).trans b5) (by decide)) (bsq w1 t1))))))), t2⟩
  · obtain ⟨h', t1, t2⟩ := none' (fun u v z => q2 (b2.symm.trans z.2.1))
    exact ⟨h', wrap _ (head _ (inq n1 (itq (by rw [f2_ne]; exact decide_eq_true q2) t1))), t2⟩
end DMS
