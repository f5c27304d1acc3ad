/-! THE CLASS MAKES AN ACTOR. -/
abbrev sA2 (sg0 : cS) (b K tk : Nat) : cS := sXc (sZr sg0 b K (Int32.ofNat tk)) 8 (Int32.ofNat (b + 1))
abbrev sA3 (sg2 : cS) (a b bs : Nat) (g : Nat → Int32) : cS := sXc (sA' (sA' (sM sg2 b g) a 13 (Int32.ofNat bs)) b 4 (Int32.ofNat (0 + 1))) 13 (sg2.1 13 + 1)
abbrev sA1 (sg : cS) (tk nf : Nat) (cf : Nat → Int32) : cS := sC (sXc sg 10 (Int32.ofNat (tk + nf + 1))) cf
section EXA
variable {L : Nat} {xs : Nat → Int32} {zf : Value} {w k : Nat} {n n' : Nat} {sg sg' : cS} {Z : Nat → Prop} {hB h h' : rm_H} {a b c i j P K st : Nat} {v : Int32}
theorem zr_ne (hc : c ≠ b) : (sZr sg b K v).2.2.1 c j = sg.2.2.1 c j := by
  unfold sZr
  rw [sA_ne (Or.inr hc), sA_ne (Or.inr hc), sA_ne (Or.inr hc), sA_ne (Or.inr hc), sA_ne (Or.inr hc), sA_ne (Or.inr hc), sA_ne (Or.inr hc)]
  rfl
theorem zr_0 : (sZr sg b K v).2.2.1 b 0 = sg.2.2.1 b 0 := by
  unfold sZr
  rw [sA_ne (Or.inl (by decide)), sA_ne (Or.inl (by decide)), sA_ne (Or.inl (by decide)), sA_ne (Or.inl (by decide)), sA_ne (Or.inl (by decide)), sA_ne (Or.inl (by decide)), sA_ne (Or.inl (by decide))]
  rfl
theorem zr_2 : (sZr sg b K v).2.2.1 b 2 = v := by
  unfold sZr
  rw [sA_ne (Or.inl (by decide)), sA_ne (Or.inl (by decide)), sA_ne (Or.inl (by decide)), sA_ne (Or.inl (by decide)), sA_ne (Or.inl (by decide)), sA_ne (Or.inl (by decide)), sA_at]
theorem zr_z (hj : j = 4 ∨ j = 5 ∨ j = 6 ∨ j = 11 ∨ j = 3 ∨ j = 13) : (sZr sg b K v).2.2.1 b j = 0 := by
  unfold sZr
  by_cases e1 : j = 13
  · subst e1; rw [sA_at]
  rw [sA_ne (Or.inl e1)]
  by_cases e2 : j = 3
  · subst e2; rw [sA_at]
  rw [sA_ne (Or.inl e2)]
  by_cases e3 : j = 11
  · subst e3; rw [sA_at]
  rw [sA_ne (Or.inl e3)]
  by_cases e4 : j = 6
  · subst e4; rw [sA_at]
  rw [sA_ne (Or.inl e4)]
  by_cases e5 : j = 5
  · subst e5; rw [sA_at]
  rw [sA_ne (Or.inl e5)]
  by_cases e6 : j = 4
  · subst e6; rw [sA_at]
  omega
theorem zr_P (h : ¬ (c = b ∧ j = 1)) : (sZr sg b K v).2.2.2.2 c j = sg.2.2.2.2 c j := if_neg h
theorem zr_K : (sZr sg b K v).2.2.2.2 b 1 = K := if_pos ⟨rfl, rfl⟩
theorem z2_ne {tk : Nat} (hc : c ≠ b) : (sA2 sg b K tk).2.2.1 c j = sg.2.2.1 c j := by
  show (sZr sg b K (Int32.ofNat tk)).2.2.1 c j = _
  exact zr_ne hc
theorem z2_0 {tk : Nat} : (sA2 sg b K tk).2.2.1 b 0 = sg.2.2.1 b 0 := by
  show (sZr sg b K (Int32.ofNat tk)).2.2.1 b 0 = _
  exact zr_0
theorem z2_2 {tk : Nat} : (sA2 sg b K tk).2.2.1 b 2 = Int32.ofNat tk := by
  show (sZr sg b K (Int32.ofNat tk)).2.2.1 b 2 = _
  exact zr_2
theorem z2_z {tk : Nat} (hj : j = 4 ∨ j = 5 ∨ j = 6 ∨ j = 11 ∨ j = 3 ∨ j = 13) : (sA2 sg b K tk).2.2.1 b j = 0 := by
  show (sZr sg b K (Int32.ofNat tk)).2.2.1 b j = _
  exact zr_z hj
theorem z2_P {tk : Nat} (h : ¬ (c = b ∧ j = 1)) : (sA2 sg b K tk).2.2.2.2 c j = sg.2.2.2.2 c j := by
  show (sZr sg b K (Int32.ofNat tk)).2.2.2.2 c j = _
  exact zr_P h
theorem z2_K {tk : Nat} : (sA2 sg b K tk).2.2.2.2 b 1 = K := by
  show (sZr sg b K (Int32.ofNat tk)).2.2.2.2 b 1 = _
  exact zr_K
theorem z2_R {tk : Nat} : (sA2 sg b K tk).2.2.2.1 c j = sg.2.2.2.1 c j := rfl
theorem pot_e : ∀ n, (∀ c, c < n → sg'.2.2.2.2 c 13 = sg.2.2.2.2 c 13) → pot n sg' = pot n sg
  | 0, _ => rfl
  | n + 1, e => by
    show pot n sg' + _ = pot n sg + _
    rw [pot_e n (fun c hc => e c (by omega)), e n (Nat.lt_succ_self n)]
/-- there are twelve -/
theorem k_newA4 (q : RH (.ref P) n sg Z hB h) (ha : a < n) {M : Nat} (h8 : sg.1 8 = Int32.ofNat 12) : ∃ h' : rm_H, dM L xs zf w (k + 3) 264 [.ref 24, .ref (sg.2.2.2.2 a 0), .ref M] h = some (none, h') ∧ RH (.ref P) n (sA' (sA' (sA' (sXc sg 15 (sg.1 15 + 1)) a 6 4) a 3 0) a 13 0) Z hB h' ∧ h'.length = h.length ∧ zh h' = zh h := by
  obtain ⟨h', r1, r2, r3, r4⟩ := k_fail (L := L) (xs := xs) (zf := zf) (w := w) (k := k) (x := 4) q ha
  refine ⟨h', ?_, r2, r3, r4⟩
  rw [e264]
  show b264_0 L xs zf (dM L xs zf w (k + 2)) w (some 24) (some (sg.2.2.2.2 a 0)) (some M) h = _
  unfold b264_0
  refine bse ((gX (L := L) (xs := xs) q (j := 8) (by decide)).trans (congrArg some h8)) ?_
  refine ifn (by decide) ?_
  refine bse (a := h') ?_ rfl
  rw [cV_w q, show (va_rf (some (sg.2.2.2.2 a 0)) : Value) = .ref (sg.2.2.2.2 a 0) from rfl, r1]
  rfl
theorem k_newA {M np loc nf tk mc bs : Nat} {num en kn : Int32} {mk : Value} (mb : MB hB Z M num np loc en) (mo : MOw hB Z M K) (kb : KBk hB Z K kn nf mk) (pb : PBp hB Z P) (q : RH (.ref P) n sg Z hB h) (ha : a < n) (so : SOK sg a (bs + np)) (h8 : sg.1 8 = Int32.ofNat b) (hbn : b ≤ n) (h11 : b ≤ 11) (hab : a < b) (b0 : b < n → sg.2.2.1 b 0 = Int32.ofNat b) (h5 : sg.1 5 = Int32.ofNat mc) (m4 : mc ≤ 400) (h10 : sg.1 10 = Int32.ofNat tk) (htk : tk ≤ mc) (hnf : nf ≤ 8) (n6 : np ≤ 6) (hw : 2000 ≤ w) :
    (mc < tk + nf + 1 ∧ ∃ h' : rm_H, dM L xs zf w (k + 5) 264 [.ref 24, .ref (sg.2.2.2.2 a 0), .ref M] h = some (none, h') ∧ RH (.ref P) n (sA' (sA' (sA' (sXc sg 15 (sg.1 15 + 1)) a 6 2) a 3 0) a 13 0) Z hB h' ∧ h'.length = h.length ∧ zh h' = zh h)
    ∨ (tk + nf + 1 ≤ mc ∧ ∃ (h' : rm_H) (n' : Nat) (sg0 : cS) (z c q0 : Nat) (g f cf : Nat → Int32), dM L xs zf w (k + 5) 264 [.ref 24, .ref (sg.2.2.2.2 a 0), .ref M] h = some (none, h') ∧ RH (.ref P) n' (sQ (sA3 (sA2 sg0 b K tk) a b bs g) a z c f (bs + 1)) Z hB h' ∧ (b < n' ∧ n ≤ n') ∧ ((b < n ∧ n' = n ∧ sg0 = sA1 sg tk nf cf) ∨ (b = n ∧ n' = n + 1 ∧ sg0 = sN (sA1 sg tk nf cf) n q0)) ∧ (cf tk = kn ∧ (∀ j, tk < j → j < tk + nf + 1 → cf j = 0) ∧ ∀ j, j < tk ∨ tk + nf + 1 ≤ j → cf j = sg.2.1 0 j) ∧ (g ((0 + 0) % 6 * 7) = num ∧ (∀ i, i < np → g ((0 + 0) % 6 * 7 + 1 + i) = sg.2.2.2.1 a 12 (bs + i)) ∧ ∀ i, i < (0 + 0) % 6 * 7 ∨ (0 + 0) % 6 * 7 + np < i → g i = sg0.2.2.2.1 b 10 i) ∧ STN sg a bs z c f (bs + 1) ∧ f bs = Int32.ofNat (b + 1) ∧ cNt n sg h n' (sQ (sA3 (sA2 sg0 b K tk) a b bs g) a z c f (bs + 1)) h') := by
  have K0 : K ≠ 0 := by
    obtain ⟨fs, _, _, _, z, _⟩ := kb
    have := hc_ge z
    omega
  obtain ⟨v, h1, sg1, c1, c2, c3, c4, cc⟩ := k_cells (L := L) (xs := xs) (zf := zf) (w := w) (k := k + 1) pb kb q h5 m4 h10 htk hnf hw
  have hd : ∀ X, b264_32 L xs zf (dM L xs zf w (k + 4)) w (some 24) (some (sg.2.2.2.2 a 0)) (some M) v h1 = X → dM L xs zf w (k + 5) 264 [.ref 24, .ref (sg.2.2.2.2 a 0), .ref M] h = X := by
    intro X hX
    rw [e264]
    show b264_0 L xs zf (dM L xs zf w (k + 4)) w (some 24) (some (sg.2.2.2.2 a 0)) (some M) h = _
    unfold b264_0
    refine bsq ((gX (L := L) (xs := xs) q (j := 8) (by decide)).trans (congrArg some h8)) ?_
    rw [if_pos (by rw [f2_lt, of_int (by omega), show (12 : Int32).toInt = 12 from by decide]; exact decide_eq_true (by omega)), if_neg (fun z => by cases z)]
    refine bsq (mo_g mo q) ?_
    refine bsq (a := (v, h1)) ?_ hX
    rw [cV_w q, show (va_rf (some K) : Value) = .ref K from rfl, c1]
    rfl
  rcases cc with ⟨z1, z2, z3, z4⟩ | ⟨z1, z2, cf, z3, z4, z5, z6⟩
  · subst z2 z3 z4
    obtain ⟨h', r1, r2, r3, r4⟩ := k_fail (L := L) (xs := xs) (zf := zf) (w := w) (k := k + 2) (x := 2) q ha
    refine Or.inl ⟨z1, h', hd _ ?_, r2, r3, r4⟩
    unfold b264_32
    refine ifn (by decide) ?_
    refine bse (a := h') ?_ rfl
    rw [cV_w q, show (va_rf (some (sg1.2.2.2.2 a 0)) : Value) = .ref (sg1.2.2.2.2 a 0) from rfl, r1]
    rfl
  · subst z2 z3
    obtain ⟨h2, n', sg0, a1, a2, a3, a4⟩ := k_add (L := L) (xs := xs) (zf := zf) (w := w) (k := k + 1) (K := K) (st := Int32.ofNat tk) (ac := b) c2 h8 hbn h11 K0
    obtain ⟨s1, s2, s3, s4⟩ := so
    have oth : ∀ c, c ≠ b → (∀ j, sg0.2.2.1 c j = sg.2.2.1 c j) ∧ (∀ j, sg0.2.2.2.1 c j = sg.2.2.2.1 c j) ∧ ∀ j, sg0.2.2.2.2 c j = sg.2.2.2.2 c j := by
      intro c hcb
      rcases a4 with ⟨_, _, y, _⟩ | ⟨y0, _, y, _⟩
      · rw [y]; exact ⟨fun _ => rfl, fun _ => rfl, fun _ => rfl⟩
      · rw [y]
        have e : c ≠ n := fun z => hcb (z.trans y0.symm)
        exact ⟨fun _ => if_neg e, fun _ => if_neg e, fun _ => if_neg e⟩
    have nn : n ≤ n' := by
      rcases a4 with ⟨_, y, _⟩ | ⟨_, y, _⟩ <;> omega
    have ab : a ≠ b := by omega
    have e0 : sg0.2.2.1 b 0 = Int32.ofNat b := by
      rcases a4 with ⟨y0, _, y, _⟩ | ⟨y0, _, y, _⟩
      · rw [y]; exact b0 y0
      · rw [y, y0]
        exact (if_pos rfl).trans (if_pos rfl)
    have e13 : (sA2 sg0 b K tk).2.2.1 a 13 = Int32.ofNat (bs + np) := by
      rw [z2_ne ab, (oth a ab).1 13]
      exact s1
    have p13 : (sA2 sg0 b K tk).2.2.2.2 a 13 = sg.2.2.2.2 a 13 := by rw [z2_P (fun z => ab z.1), (oth a ab).2.2 13]
    have p0 : (sA2 sg0 b K tk).2.2.2.2 a 0 = sg.2.2.2.2 a 0 := by rw [z2_P (fun z => ab z.1), (oth a ab).2.2 0]
    have pb0 : (sA2 sg0 b K tk).2.2.2.2 b 0 = sg0.2.2.2.2 b 0 := z2_P (fun z => absurd z.2 (by decide))
    have z11 : (sA2 sg0 b K tk).2.2.1 b 11 = Int32.ofNat 0 := z2_z (by decide)
    have z4b : (sA2 sg0 b K tk).2.2.1 b 4 = Int32.ofNat 0 := z2_z (by decide)
    obtain ⟨h3, g, r1, r2, r3, r4, r5, r6, r7⟩ := k_deliver (L := L) (xs := xs) (zf := zf) (w := w) (k := k) (a := b) (b := a) (bs := bs) (fr0 := 0) (wt := 0) (sg := sA2 sg0 b K tk) mb a2 a3 (by omega) z11 (by decide) z4b (by decide) e13 (by rw [p13]; omega) (by rw [p13]; omega) n6 hw
    rw [p0, pb0] at r1
    have hso : SOK (sA3 (sA2 sg0 b K tk) a b bs g) a bs := by
      refine ⟨?_, ?_, ?_, ?_⟩
      · show (sA' (sA' (sM (sA2 sg0 b K tk) b g) a 13 (Int32.ofNat bs)) b 4 (Int32.ofNat (0 + 1))).2.2.1 a 13 = _
        rw [sA_ne (Or.inl (by decide)), sA_at]
      · show bs ≤ (sA2 sg0 b K tk).2.2.2.2 a 13
        rw [p13]; omega
      · show 64 ≤ (sA2 sg0 b K tk).2.2.2.2 a 13
        rw [p13]; exact s3
      · show (sA2 sg0 b K tk).2.2.2.2 a 13 ≤ 40000
        rw [p13]; exact s4
    have r2' : RH (.ref P) n' (sA3 (sA2 sg0 b K tk) a b bs g) Z hB h3 := r2
    obtain ⟨h', z, c, f, t1, t2, t3, t4, t5⟩ := k_push0 (L := L) (xs := xs) (zf := zf) (w := w) (k := k + 1) (v := Int32.ofNat (b + 1)) (sg := sA3 (sA2 sg0 b K tk) a b bs g) r2' (by omega) hso
    rw [show (sA3 (sA2 sg0 b K tk) a b bs g).2.2.2.2 a 0 = sg.2.2.2.2 a 0 from p0] at t1
    have ef : (sA3 (sA2 sg0 b K tk) a b bs g).2.2.2.1 a 12 = sg.2.2.2.1 a 12 := by
      show (sM (sA2 sg0 b K tk) b g).2.2.2.1 a 12 = _
      rw [sM_R (Or.inl (by decide))]
      exact (oth a ab).2.1 12
    have ec : (sA3 (sA2 sg0 b K tk) a b bs g).2.2.2.2 a 13 = sg.2.2.2.2 a 13 := p13
    have g0 : dgI L xs h3 0 [14] (some (sg0.2.2.2.2 b 0)) = some (Int32.ofNat b) := by
      have := gA (L := L) (xs := xs) r2' a3 (j := 0) (by decide)
      rw [show (sA3 (sA2 sg0 b K tk) a b bs g).2.2.2.2 b 0 = sg0.2.2.2.2 b 0 from pb0] at this
      rw [this]
      have e2 : (sA3 (sA2 sg0 b K tk) a b bs g).2.2.1 b 0 = Int32.ofNat b := by
        show (sA' (sA' (sM (sA2 sg0 b K tk) b g) a 13 (Int32.ofNat bs)) b 4 (Int32.ofNat (0 + 1))).2.2.1 b 0 = _
        rw [sA_ne (Or.inl (by decide)), sA_ne (Or.inl (by decide))]
        show (sA2 sg0 b K tk).2.2.1 b 0 = _
        rw [z2_0]
        exact e0
      rw [e2]
    obtain ⟨y1, y2, y3, y4⟩ := t3
    rw [ec] at y4
    have q0x : ∃ q0, (b < n ∧ n' = n ∧ sg0 = sA1 sg tk nf cf) ∨ (b = n ∧ n' = n + 1 ∧ sg0 = sN (sA1 sg tk nf cf) n q0) := by
      rcases a4 with ⟨x1, x2, x3, _⟩ | ⟨x1, x2, x3, _⟩
      · exact ⟨0, Or.inl ⟨x1, x2, x3⟩⟩
      · exact ⟨_, Or.inr ⟨x1, x2, x3⟩⟩
    obtain ⟨q0, hq0⟩ := q0x
    refine Or.inr ⟨z1, h', n', sg0, z, c, q0, g, f, cf, hd _ ?_, t2, ⟨a3, nn⟩, hq0, ⟨z4, z5, z6⟩, ⟨r3, fun i hi => by rw [r4 i hi]; exact congrFun ((oth a ab).2.1 12) _, r5⟩, ⟨fun i hi => by rw [y1 i hi, ef], y2, y3, y4⟩, t4, ?_⟩
    · unfold b264_32
      refine ift (ne_t (fun z => by
        have := congrArg Int32.toInt z
        rw [of_int (by omega), show (-1 : Int32).toInt = -1 from by decide] at this
        omega)) ?_
      refine bse (mo_g mo c2) ?_
      refine bse (a := (some (sg0.2.2.2.2 b 0), h2)) ?_ ?_
      · rw [cV_w c2, show (va_rf (some K) : Value) = .ref K from rfl, a1]
        rfl
      refine bse (a := h3) ?_ ?_
      · rw [cV_w a2]
        show (dM L xs zf w (k + 4) 230 [.ref 24, .ref (sg0.2.2.2.2 b 0), .ref M, .ref (sg.2.2.2.2 a 0)] h2).bind dxV = _
        rw [r1]
        rfl
      refine bse g0 ?_
      rw [of_inc]
      refine bse t1 rfl
    · have pn : pot n sg + (if b = n then 64 else 0) = pot n' (sA3 (sA2 sg0 b K tk) a b bs g) := by
        rcases a4 with ⟨x1, x2, x3, _⟩ | ⟨x1, x2, x3, _⟩
        · rw [if_neg (by omega), x2, Nat.add_zero]
          refine (pot_e n (fun c hc => ?_)).symm
          show (sA2 sg0 b K tk).2.2.2.2 c 13 = _
          rw [z2_P (fun z => absurd z.2 (by decide)), x3]
          rfl
        · rw [if_pos x1, x2]
          show _ = pot n (sA3 (sA2 sg0 b K tk) a b bs g) + (sA2 sg0 b K tk).2.2.2.2 n 13
          rw [z2_P (fun z => absurd z.2 (by decide)), x3]
          have e64 : (sN (sA1 sg tk nf cf) n (21 + h1.length)).2.2.2.2 n 13 = 64 := if_pos rfl
          rw [e64]
          refine congrArg (fun y => y + 64) ((pot_e n (fun c hc => ?_)).symm)
          show (sA2 (sN (sA1 sg tk nf cf) n (21 + h1.length)) b K tk).2.2.2.2 c 13 = _
          rw [z2_P (fun z => absurd z.2 (by decide))]
          exact if_neg (by omega)
      obtain ⟨u1, u2⟩ := t5
      rcases a4 with ⟨x1, x2, x3, x4, x5⟩ | ⟨x1, x2, x3, x4, x5⟩
      · rw [if_neg (by omega)] at pn
        refine ⟨?_, ?_⟩
        · rw [x2] at u1 pn ⊢
          omega
        · rw [x2] at u2 pn ⊢
          omega
      · rw [if_pos x1] at pn
        refine ⟨?_, ?_⟩
        · rw [x2] at u1 pn ⊢
          omega
        · rw [x2] at u2 pn ⊢
          omega
end EXA
