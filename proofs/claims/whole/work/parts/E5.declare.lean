/-! DECLARE, BY THE CLASS. -/
/-- the fault of Main -/
def maS (s : rS) (nk : Nat) (u v : Int32) : Prop := (∀ k, kF (s.2.2 62) 1298229614 nk 0 = some k → s.2.1 66 k = 0 ∨ nn s 77 (nn s 65 k) < nn s 77 (nn s 65 k + 1)) ∧ u = 3 ∧ v = s.1 3
/-- what declare does at its end -/
def dMn (L : Nat) (xs : Nat → Int32) (zf : Value) (D : dD) (w P : Nat) (h : rm_H) : Option dR := (((dcV L xs D 150 [4] (some P) [va_rf (some 11)] h).bind dxR).bind fun p8 => (dpF p8.2 6 [4] (some P) (va_rf p8.1)).bind fun h12 => (dgR L xs h12 6 [4] (some P)).bind fun p14 => if dnl p14 = true then b145_200 L xs zf D w (some P) h12 else (dgR L xs h12 6 [4] (some P)).bind fun p17 => (dgI L xs h12 2 [9] p17).bind fun x19 => if mx_f1 .eq x19 = true then b145_200 L xs zf D w (some P) h12 else (dgR L xs h12 6 [4] (some P)).bind fun p22 => (dgR L xs h12 6 [9] p22).bind fun p24 => if dnl p24 = true then b145_200 L xs zf D w (some P) h12 else (dgR L xs h12 6 [4] (some P)).bind fun p27 => (dgR L xs h12 6 [9] p27).bind fun p29 => (dgR L xs h12 5 [11] p29).bind fun p31 => ((dcV L xs D 161 [5] p31 [] h12).bind dxI).bind fun x33 => if mx_f1 .ne x33.1 = true then b145_209 L xs zf D w x33.2 else b145_200 L xs zf D w (some P) x33.2)
section DC
variable {L : Nat} {xs : Nat → Int32} {zf : Value} {w k n nk : Nat} {h0 h h1 h2 : rm_H} {s0 s s1 : rS} {M m l ar cap a9 c9 a10 c10 a11 c11 : Nat} {kl ml ts : List Nat} {cx : Nat → Nat} {pt vr a b : Int32} {mv : Value} {S T : Int32 → Int32 → Prop}
theorem kB_I (di : dI h0 h) (e : kB L xs h0 s kl) : kB L xs h s kl := ⟨kA_I di e.1, fun j K hj => by
  obtain ⟨a1, ⟨f0, fl, af, cf, fds, a2, a3, a4⟩, m0, mk, am, cm, mks, b2, b3, b4⟩ := e.2 j K hj
  exact ⟨dI_f di a1 nb9, ⟨f0, fl, af, cf, fds, dI_f di a2 nb9, dL_I di a3, a4⟩, m0, mk, am, cm, mks, dI_f di b2 nb9, mL_I di b3, b4⟩⟩
/-- Main, once the methods are declared -/
theorem c_main (e9 : aL h (cx 9) a9 c9 kl) (ka : kA L xs h s kl) (h3 : s.1 3 = Int32.ofNat (cx 6)) (hmk : ∀ j K, kl[j]? = some K → ∃ mk l ar cap ds p0, fd h 9 K 6 = some (.ref mk) ∧ fd h 11 mk 5 = some (.ref l) ∧ aL h l ar cap ds ∧ s.2.1 77 (nn s 65 j) = Int32.ofNat p0 ∧ s.2.1 77 (nn s 65 j + 1) = Int32.ofNat (p0 + ds.length) ∧ p0 + ds.length ≤ 440) (p : pgS cx pt vr .null S h) (hw : 200 ≤ w) : ∃ h', dMn L xs zf (dM L xs zf w (k + 6)) w (cx 8) h = some (none, h') ∧ st1 (cx 8) h h' ∧ pgS cx pt vr (va_rf (kO kl (kF (s.2.2 62) 1298229614 kl.length 0))) (fun u v => S u v ∨ maS s kl.length u v) h' := by
  obtain ⟨a, b, p1, p2⟩ := p
  have l8 := ka.2.1
  have fn : (dcV L xs (dM L xs zf w (k + 6)) 150 [4] (some (cx 8)) [va_rf (some 11)] h).bind dxR = some (kO kl (kF (s.2.2 62) 1298229614 kl.length 0), h) := by
    have := c_find (zf := zf) (w := w) (k := k + 2) (q := 11) (pg_1 p1) e9 ka.1 (by omega) nS_main hw
    rw [hc_v p1 (by decide)]
    show (dM L xs zf w (k + 2 + 4) 150 [.ref (cx 8), .ref 11] h).bind dxR = _
    rw [this]
    cases kO kl (kF (s.2.2 62) 1298229614 kl.length 0) <;> rfl
  generalize hkf : kF (s.2.2 62) 1298229614 kl.length 0 = kf at fn
  obtain ⟨h2, w1, w2, w3⟩ := pF_ex (v := va_rf (kO kl kf)) (j := 6) (cis := [4]) p1 rfl (by decide) (by cases kO kl kf <;> rfl) (by decide)
  have w2 : hc h2 (cx 8) = some (pgD cx pt vr (va_rf (kO kl kf)) a b) := w2
  have g6 : dgR L xs h2 6 [4] (some (cx 8)) = some (kO kl kf) := hc_gR w2 rfl (by decide)
  have pS2 : pgS cx pt vr (va_rf (kO kl kf)) S h2 := ⟨a, b, w2, p2⟩
  have fdk : ∀ ci q j, ci ≠ 4 → fd h2 ci q j = fd h ci q j := fun ci q j hci => st_dc p1 (fun z => hci z.symm) w3 q j
  -- a fault
  have bad : (∀ k, kf = some k → s.2.1 66 k = 0 ∨ nn s 77 (nn s 65 k) < nn s 77 (nn s 65 k + 1)) → ∃ h', b145_200 L xs zf (dM L xs zf w (k + 6)) w (some (cx 8)) h2 = some (none, h') ∧ st1 (cx 8) h h' ∧ pgS cx pt vr (va_rf (kO kl kf)) (fun u v => S u v ∨ maS s kl.length u v) h' := by
    intro hb
    obtain ⟨h', x1, x2, x3⟩ := c_noteS (L := L) (xs := xs) (zf := zf) (w := w) (k := k + 5) pS2 3 (Int32.ofNat (cx 6)) (by decide)
    refine ⟨h', ?_, st1_trans w3 x2, pgS_ext (fun u v => ?_) x3⟩
    · unfold b145_200
      exact bse (hc_gI w2 rfl (by decide)) (bse x1 rfl)
    · unfold maS
      rw [hkf, h3]
      exact ⟨fun z => z.elim Or.inl (fun z => Or.inr ⟨hb, z⟩), fun z => z.elim Or.inl (fun z => Or.inr z.2)⟩
  cases kf with
  | none =>
    obtain ⟨h', b1, b2⟩ := bad (fun k z => by cases z)
    refine ⟨h', ?_, b2⟩
    unfold dMn
    exact bsq fn (bsq w1 (bsq g6 (itq rfl b1)))
  | some kk =>
    obtain ⟨_, k2, _, _⟩ := kF_some hkf
    obtain ⟨K, hK⟩ : ∃ K, kl[kk]? = some K := ⟨kl[kk]'(by omega), List.getElem?_eq_getElem (by omega)⟩
    have ek : kO kl (some kk) = some K := hK
    rw [ek] at fn w1 g6 bad pS2 ⊢
    obtain ⟨r1, r2, _⟩ := ka.2.2 kk K hK
    obtain ⟨mk, l, ar, cap, ds, p0, m1, m2, m3, m4, m5, m6⟩ := hmk kk K hK
    have v77 : nn s 77 (nn s 65 kk) = p0 ∧ nn s 77 (nn s 65 kk + 1) = p0 + ds.length := ⟨by unfold nn at m4 ⊢; rw [m4, of_clamp (by omega)], by unfold nn at m5 ⊢; rw [m5, of_clamp (by omega)]⟩
    have o2 : dgI L xs h2 2 [9] (some K) = some (s.2.1 66 kk) := fd_I ((fdk 9 K 2 (by decide)).trans r2) (by decide)
    by_cases q1 : s.2.1 66 kk = 0
    · obtain ⟨h', b1, b2⟩ := bad (fun k z => by cases z; exact Or.inl q1)
      refine ⟨h', ?_, b2⟩
      unfold dMn
      exact bsq fn (bsq w1 (bsq g6 (inq (dnl_s K) (bsq g6 (bsq o2 (itq (by rw [q1]; decide) b1))))))
    have n1 : ¬ mx_f1 .eq (s.2.1 66 kk) = true := by rw [f1_eqd]; exact fun z => q1 (of_decide_eq_true z)
    have o6 : dgR L xs h2 6 [9] (some K) = some (some mk) := fd_R (o := some mk) ((fdk 9 K 6 (by decide)).trans m1) (by decide)
    have o5 : dgR L xs h2 5 [11] (some mk) = some (some l) := fd_R (o := some l) ((fdk 11 mk 5 (by decide)).trans m2) (by decide)
    have al2 : aL h2 l ar cap ds := aL_st p1 (by decide) w3 m3
    have emp : (dcV L xs (dM L xs zf w (k + 6)) 161 [5] (some l) [] h2).bind dxI = some ((if ds.length = 0 then 1 else 0 : Int32), h2) := by
      rw [al_v al2, e161]
      show (b161_0 L xs zf (dM L xs zf w (k + 5)) w (some l) h2).bind dxI = _
      obtain ⟨mc, e1, _⟩ := al2
      unfold b161_0
      refine bsq (a := (some (.int (if ds.length = 0 then 1 else 0 : Int32)), h2)) (bsq (hc_gI e1 rfl (by decide)) ?_) rfl
      by_cases z : ds.length = 0
      · rw [if_pos z]
        exact inq (by rw [z]; decide) rfl
      · rw [if_neg z]
        refine itq ?_ rfl
        rw [f1_ne]
        refine decide_eq_true (fun y => z ?_)
        have := congrArg Int32.toInt y
        rw [of_int (by omega), show (0 : Int32).toInt = 0 from by decide] at this
        omega
    have hd : ∀ r : Option dR, (if mx_f1 .ne (if ds.length = 0 then 1 else 0 : Int32) = true then b145_209 L xs zf (dM L xs zf w (k + 6)) w h2 else b145_200 L xs zf (dM L xs zf w (k + 6)) w (some (cx 8)) h2) = r → dMn L xs zf (dM L xs zf w (k + 6)) w (cx 8) h = r := fun r er => by
      unfold dMn
      exact bsq fn (bsq w1 (bsq g6 (inq (dnl_s K) (bsq g6 (bsq o2 (inq n1 (bsq g6 (bsq o6 (inq (dnl_s mk) (bsq g6 (bsq o6 (bsq o5 (bsq emp er)))))))))))))
    by_cases z : ds.length = 0
    · refine ⟨h2, hd _ ?_, w3, pgS_ext (fun u v => ⟨Or.inl, fun y => y.elim id (fun y => ?_)⟩) pS2⟩
      · rw [if_pos z]
        exact itq (by decide) rfl
      · have := y.1 kk hkf
        rw [v77.1, v77.2] at this
        exact absurd this (fun y => y.elim q1 (by omega))
    · obtain ⟨h', b1, b2⟩ := bad (fun k y => by
        cases y
        right
        rw [v77.1, v77.2]
        omega)
      refine ⟨h', hd _ ?_, b2⟩
      rw [if_neg z]
      exact inq (by decide) b1
end DC
