/-! PROGRAM by both. -/
section PRG
variable {L : Nat} {xs : Nat → Int32} {zf : Value} {w k P x9 x10 ar cap ar2 cap2 : Nat} {h : rm_H} {s : rS} {kl ml : List Nat} {vs fs0 : List Value} {F : Nat → Nat} {pt vr : Int32}
/-- how many fields -/
theorem c_220 (hP : hc h P = some (.inr (4, vs))) (v1 : vs[1]? = some (.ref x9)) (el : aL h x9 ar cap kl) (l8 : kl.length ≤ 8) (F0 : F 0 = 0) (ks : ∀ i K, kl[i]? = some K → ∃ fl af cf fs, fd h 9 K 4 = some (.ref fl) ∧ aL h fl af cf fs ∧ F (i + 1) = F i + fs.length) (hw : 200 ≤ w) : dM L xs zf w (k + 4) 220 [.ref P] h = some (some (.int (Int32.ofNat (F kl.length))), h) := by
  have g1 : dgR L xs h 1 [4] (some P) = some (some x9) := hc_gR (p := some x9) hP v1 (by decide)
  have lp : ∀ (r i N : Nat), i + r = kl.length → r < N → b220_4 L xs zf (dM L xs zf w (k + 3)) w N (some P) (Int32.ofNat (F i)) (Int32.ofNat i) h = some (some (.int (Int32.ofNat (F kl.length))), h) := by
    intro r
    induction r with
    | zero =>
      intro i N hi hN
      obtain ⟨N, rfl⟩ : ∃ M, N = M + 1 := ⟨N - 1, by omega⟩
      rw [b220_4]
      refine bsq g1 (bsq (a := (Int32.ofNat kl.length, h)) (by rw [al_v el, al_size el]; rfl) (itq ?_ ?_))
      · show mx_f2 .ge (Int32.ofNat i) (Int32.ofNat kl.length) = true
        rw [f2_ge, show i = kl.length from by omega]
        simp
      · rw [show i = kl.length from by omega]
        rfl
    | succ r ih =>
      intro i N hi hN
      obtain ⟨N, rfl⟩ : ∃ M, N = M + 1 := ⟨N - 1, by omega⟩
      have hK : kl[i]? = some (kl[i]'(by omega)) := List.getElem?_eq_getElem (by omega)
      obtain ⟨fl, af, cf, fs, z1, z2, z3⟩ := ks i _ hK
      obtain ⟨gs, hs2, _⟩ := fd_c z1
      rw [b220_4]
      refine bsq g1 (bsq (a := (Int32.ofNat kl.length, h)) (by rw [al_v el, al_size el]; rfl) (inq ?_ (bsq g1 (bsq (a := (some (kl[i]'(by omega)), h)) (by rw [al_v el, al_get el i hK]; rfl) (inq (by rw [ck_of hs2]; decide) (bsq (fd_R (o := some fl) z1 (by decide)) (bsq (a := (Int32.ofNat fs.length, h)) (by rw [al_v z2, al_size z2]; rfl) ?_)))))))
      · show ¬ mx_f2 .ge (Int32.ofNat i) (Int32.ofNat kl.length) = true
        rw [f2_ge, of_int (by omega), of_int (by omega)]
        simp
        omega
      · show b220_4 L xs zf (dM L xs zf w (k + 3)) w N (some P) (Int32.ofNat (F i) + Int32.ofNat fs.length) (Int32.ofNat i + 1) h = _
        rw [of_add, ← z3, show Int32.ofNat i + 1 = Int32.ofNat (i + 1) from of_add i 1]
        exact ih (i + 1) N (by omega) (by omega)
  rw [e220]
  show b220_0 L xs zf (dM L xs zf w (k + 3)) w (some P) h = _
  unfold b220_0
  have := lp kl.length 0 w (by omega) (by omega)
  rw [F0] at this
  exact this
/-- no program: -1 -/
theorem b_prog0 (h21 : hc h 21 = some (.inr (0, fs0))) (v3 : fs0[3]? = some .null) (s73 : s.1 73 = 0) (x : Int32) : dM L xs zf w (k + 1) 219 [.ref 21, .int x] h = some (some (.int (-1)), h) ∧ rM w (k + 1) 371 [.ref 36, .int x] s = some (some (.int (-1)), s) := by
  refine ⟨?_, ?_⟩
  · rw [e219]
    show b219_0 L xs zf (dM L xs zf w k) w (some 21) x h = _
    unfold b219_0
    exact bsq (hc_gR (p := none) h21 v3 (by decide)) (itq rfl rfl)
  · rw [y371]
    show s371_0 (rM w k) w x s = _
    unfold s371_0
    exact inq (by rw [s73]; decide) rfl
/-- program -/
theorem b_prog (h21 : hc h 21 = some (.inr (0, fs0))) (v3 : fs0[3]? = some (.ref P)) (hP : hc h P = some (.inr (4, vs))) (v1 : vs[1]? = some (.ref x9)) (v2 : vs[2]? = some (.ref x10)) (v4 : vs[4]? = some (.int pt)) (v5 : vs[5]? = some (.int vr)) (el : aL h x9 ar cap kl) (em : aL h x10 ar2 cap2 ml) (l8 : kl.length ≤ 8) (F0 : F 0 = 0) (ks : ∀ i K, kl[i]? = some K → ∃ fl af cf fs, fd h 9 K 4 = some (.ref fl) ∧ aL h fl af cf fs ∧ F (i + 1) = F i + fs.length) (hw : 200 ≤ w) (s73 : s.1 73 = 1) (s32 : s.1 32 = Int32.ofNat kl.length) (s42 : s.1 42 = Int32.ofNat ml.length) (s38 : s.1 38 = Int32.ofNat (F kl.length)) (s24 : s.1 24 = pt) (s25 : s.1 25 = vr) (x : Int32) : ∃ v, dM L xs zf w (k + 5) 219 [.ref 21, .int x] h = some (some (.int v), h) ∧ rM w (k + 1) 371 [.ref 36, .int x] s = some (some (.int v), s) := by
  have g3 : dgR L xs h 3 [0] (some 21) = some (some P) := hc_gR (p := some P) h21 v3 (by decide)
  have sz : ∀ {l a c : Nat} {es : List Nat}, aL h l a c es → (dcV L xs (dM L xs zf w (k + 4)) 101 [5] (some l) [] h).bind dxI = some (Int32.ofNat es.length, h) := by
    intro l a c es e
    rw [al_v e, al_size e]
    rfl
  have c1 : dgR L xs h 1 [4] (some P) = some (some x9) := hc_gR (p := some x9) hP v1 (by decide)
  have c2 : dgR L xs h 2 [4] (some P) = some (some x10) := hc_gR (p := some x10) hP v2 (by decide)
  have cl : ∀ v, (if dsw 0 4 x = true then drI (some .int) (-1) h else if x = 0 then drI (some .int) (Int32.ofNat kl.length) h else if x = 1 then drI (some .int) (Int32.ofNat (F kl.length)) h else if x = 2 then drI (some .int) (Int32.ofNat ml.length - Int32.ofNat kl.length) h else if x = 3 then drI (some .int) pt h else if x = 4 then drI (some .int) vr h else none) = some (some (.int v), h) → dM L xs zf w (k + 5) 219 [.ref 21, .int x] h = some (some (.int v), h) := by
    intro v hv
    rw [e219]
    show b219_0 L xs zf (dM L xs zf w (k + 4)) w (some 21) x h = _
    unfold b219_0
    refine bsq g3 (inq (dnl_s P) ?_)
    by_cases d : dsw 0 4 x = true
    · rw [if_pos d] at hv ⊢
      exact hv
    · rw [if_neg d] at hv ⊢
      by_cases x0 : x = 0
      · rw [if_pos x0] at hv ⊢
        exact bsq g3 (bsq c1 (bsq (sz el) hv))
      · rw [if_neg x0] at hv ⊢
        by_cases x1 : x = 1
        · rw [if_pos x1] at hv ⊢
          refine bsq g3 (bsq (a := (Int32.ofNat (F kl.length), h)) ?_ hv)
          rw [hc_v hP (by decide), c_220 hP v1 el l8 F0 ks hw]
          rfl
        · rw [if_neg x1] at hv ⊢
          by_cases x2 : x = 2
          · rw [if_pos x2] at hv ⊢
            exact bsq g3 (bsq c2 (bsq (sz em) (bsq g3 (bsq c1 (bsq (sz el) hv)))))
          · rw [if_neg x2] at hv ⊢
            by_cases x3 : x = 3
            · rw [if_pos x3] at hv ⊢
              exact bsq g3 (bsq (hc_gI hP v4 (by decide)) hv)
            · rw [if_neg x3] at hv ⊢
              by_cases x4 : x = 4
              · rw [if_pos x4] at hv ⊢
                exact bsq g3 (bsq (hc_gI hP v5 (by decide)) hv)
              · rw [if_neg x4] at hv
                cases hv
  have rf : ∀ v, (if dsw 0 4 x = true then rrI (some .int) (-1) s else if x = 0 then rrI (some .int) (s.1 32) s else if x = 1 then rrI (some .int) (s.1 38) s else if x = 2 then rrI (some .int) ((s.1 42) - (s.1 32)) s else if x = 3 then rrI (some .int) (s.1 24) s else if x = 4 then rrI (some .int) (s.1 25) s else none) = some (some (.int v), s) → rM w (k + 1) 371 [.ref 36, .int x] s = some (some (.int v), s) := by
    intro v hv
    rw [y371]
    show s371_0 (rM w k) w x s = _
    unfold s371_0
    exact itq (by rw [s73]; decide) hv
  rw [s32, s38, s42, s24, s25] at rf
  have key : ∃ v, (if dsw 0 4 x = true then drI (some .int) (-1) h else if x = 0 then drI (some .int) (Int32.ofNat kl.length) h else if x = 1 then drI (some .int) (Int32.ofNat (F kl.length)) h else if x = 2 then drI (some .int) (Int32.ofNat ml.length - Int32.ofNat kl.length) h else if x = 3 then drI (some .int) pt h else if x = 4 then drI (some .int) vr h else none) = some (some (.int v), h) ∧ (if dsw 0 4 x = true then rrI (some .int) (-1) s else if x = 0 then rrI (some .int) (Int32.ofNat kl.length) s else if x = 1 then rrI (some .int) (Int32.ofNat (F kl.length)) s else if x = 2 then rrI (some .int) (Int32.ofNat ml.length - Int32.ofNat kl.length) s else if x = 3 then rrI (some .int) pt s else if x = 4 then rrI (some .int) vr s else none) = some (some (.int v), s) := by
    by_cases d : dsw 0 4 x = true
    · exact ⟨-1, by rw [if_pos d]; rfl, by rw [if_pos d]; rfl⟩
    · simp only [if_neg d]
      by_cases x0 : x = 0
      · simp only [if_pos x0]
        exact ⟨_, rfl, rfl⟩
      · simp only [if_neg x0]
        by_cases x1 : x = 1
        · simp only [if_pos x1]
          exact ⟨_, rfl, rfl⟩
        · simp only [if_neg x1]
          by_cases x2 : x = 2
          · simp only [if_pos x2]
            exact ⟨_, rfl, rfl⟩
          · simp only [if_neg x2]
            by_cases x3 : x = 3
            · simp only [if_pos x3]
              exact ⟨_, rfl, rfl⟩
            · simp only [if_neg x3]
              by_cases x4 : x = 4
              · simp only [if_pos x4]
                exact ⟨_, rfl, rfl⟩
              · exfalso
                have dd : ¬ (x.toInt < 0 ∨ 4 < x.toInt) := fun z => d (decide_eq_true z)
                have e : x.toInt = 0 ∨ x.toInt = 1 ∨ x.toInt = 2 ∨ x.toInt = 3 ∨ x.toInt = 4 := by omega
                rcases e with e | e | e | e | e
                · exact x0 (i32_of (by rw [e]; decide))
                · exact x1 (i32_of (by rw [e]; decide))
                · exact x2 (i32_of (by rw [e]; decide))
                · exact x3 (i32_of (by rw [e]; decide))
                · exact x4 (i32_of (by rw [e]; decide))
  obtain ⟨v, k1, k2⟩ := key
  exact ⟨v, cl v k1, rf v k2⟩
/-- program, when one is built -/
theorem BLT_prog (b : BLT L xs w P h s) : ∃ (x9 x10 ar cap ar2 cap2 : Nat) (kl ml : List Nat) (vs : List Value) (F : Nat → Nat), hc h P = some (.inr (4, vs)) ∧ vs[1]? = some (.ref x9) ∧ vs[2]? = some (.ref x10) ∧ vs[4]? = some (.int (s.1 24)) ∧ vs[5]? = some (.int (s.1 25)) ∧ aL h x9 ar cap kl ∧ aL h x10 ar2 cap2 ml ∧ kl.length ≤ 8 ∧ F 0 = 0 ∧ (∀ i K, kl[i]? = some K → ∃ fl af cf fs, fd h 9 K 4 = some (.ref fl) ∧ aL h fl af cf fs ∧ F (i + 1) = F i + fs.length) ∧ s.1 32 = Int32.ofNat kl.length ∧ s.1 42 = Int32.ofNat ml.length ∧ s.1 38 = Int32.ofNat (F kl.length) := by
  obtain ⟨cx, C, Sc, pt, vr, mv, hD, hK, sD, nk, gn, kl, ml, u, b, A, B, c8, dc, ⟨ept, evr, _⟩, kb, s57, _, g, f, rk, _⟩ := b
  obtain ⟨⟨⟨ar, cap, el⟩, nk', nk8, s32, kJs⟩, _, _, _, _, _, _, _, _, _, l72, ⟨ar2, cap2, em⟩, ⟨x42, x38, x64, _⟩, _⟩ := dc
  subst nk'
  obtain ⟨_, k2, _⟩ := kb
  rw [c8] at k2
  refine ⟨cx 9, cx 10, ar, cap, ar2, cap2, kl, ml, _, nn sD 64, k2, rfl, rfl, by rw [← ept]; rfl, by rw [← evr]; rfl, g.1.2.1 _ _ _ _ el, g.1.2.1 _ _ _ _ em, nk8, by unfold nn; rw [x64]; rfl, fun i K hK => ?_, by rw [rk.1 32 (by omega)]; exact s32, by rw [rk.1 42 (by omega)]; exact x42, ?_⟩
  · obtain ⟨_, _, ⟨fl, af, cf, fs, f0, z1, z2, z3, z4, z5, z6, _⟩, _⟩ := kJs i K hK
    exact ⟨fl, af, cf, fs, g.2.1 _ _ _ z1, g.1.2.1 _ _ _ _ z2, by rw [nn_of z3 (by omega), nn_of z4 (by omega)]⟩
  · rw [rk.1 38 (by omega), ← x38]
    by_cases c : kl.length = 0
    · rw [c]
      unfold nn
      rw [x64]
      rfl
    · have hK : kl[kl.length - 1]? = some (kl[kl.length - 1]'(by omega)) := List.getElem?_eq_getElem (by omega)
      obtain ⟨_, _, ⟨fl, af, cf, fs, f0, z1, z2, z3, z4, z5, z6, _⟩, _⟩ := kJs _ _ hK
      rw [show kl.length - 1 + 1 = kl.length from by omega] at z4
      rw [nn_of z4 (by omega)]
      exact z4
end PRG
