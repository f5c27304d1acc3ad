/-! STEP BY BOTH: a program runs. -/
/-- the house: its world stands at 24 -/
def hSe (hB : rm_H) (Z : Nat → Prop) : Prop := ∃ vs, hc hB 21 = some (.inr (0, vs)) ∧ vs[1]? = some (.ref 24) ∧ ¬ Z 21
section JSTP
variable {sB : rS} {A B : Nat → Int32} {mi : Nat → Nat × Nat × Nat × Nat × Nat} {kc : kCi} {om om' : oMg} {ka ka' : kAp} {la : lAy} {ms : mSg} {N N' cn : Nat} {sg sg' sg2 : cS} {s s' s2 S1 : rS} {a b d e lo q0 J l t r i n p q k k2 f0 w P L sz lv : Nat} {xs : Nat → Int32} {zf : Value} {Z : Nat → Prop} {hB h h' : rm_H} {es : List Nat} {x : Nat → Nat → fDs} {D : Nat → Nat} {S S0 X : List stE} {v : Int64} {y : Int32}
variable {ac wt cnt : Nat} {i1 i2 : Int32} {n' : Nat} {h2 : rm_H}
theorem hs_w (hs : hSe hB Z) (q : RH (.ref P) n sg Z hB h) : dgR L xs h 1 [0] (some 21) = some (some 24) := by
  obtain ⟨vs, h1, h2, h3⟩ := hs
  exact hc_gR (p := some 24) (fr_old q.1 h1 h3) h2 rfl
theorem k_findN (q : RH (.ref P) n sg Z hB h) (h8 : sg.1 8 = Int32.ofNat ac) (h12 : ac ≤ 12) (hi : i1.toInt < 0 ∨ (ac : Int) ≤ i1.toInt) : dM L xs zf w (k + 1) 236 [.ref 24, .int i1] h = some (some .null, h) := by
  rw [e236]
  show b236_0 L xs zf (dM L xs zf w k) w (some 24) i1 h = _
  unfold b236_0
  by_cases c : i1.toInt < 0
  · exact ift (by rw [f1_lt]; exact decide_eq_true c) rfl
  · refine ifn (by rw [f1_lt]; exact fun z => c (of_decide_eq_true z)) ?_
    refine bse ((gX (L := L) (xs := xs) q (j := 8) (by decide)).trans (congrArg some h8)) ?_
    exact ifn (by rw [f2_lt, of_int (by omega)]; exact fun z => absurd (of_decide_eq_true z) (by omega)) rfl
theorem r_381 (h74 : s.1 74 = 1) (h75 : s.1 75 = Int32.ofNat ac) (h12 : ac ≤ 12) : rM w (k + 1) 381 [.ref 36, .int i1] s = some (some (.int (if i1.toInt < 0 ∨ (ac : Int) ≤ i1.toInt then 0 else 1)), s) := by
  rw [y381]
  show s381_0 (rM w k) w i1 s = _
  unfold s381_0
  refine ifn (by rw [h74]; decide) ?_
  by_cases c : i1.toInt < 0
  · rw [if_pos (Or.inl c)]
    exact ift (by rw [f1_lt]; exact decide_eq_true c) rfl
  · refine ifn (by rw [f1_lt]; exact fun z => c (of_decide_eq_true z)) ?_
    rw [h75]
    by_cases c2 : (ac : Int) ≤ i1.toInt
    · rw [if_pos (Or.inr c2)]
      exact ift (by rw [f2_ge, of_int (by omega)]; exact decide_eq_true c2) rfl
    · have e : (if i1.toInt < 0 ∨ (ac : Int) ≤ i1.toInt then (0 : Int32) else 1) = 1 := if_neg (fun z => z.elim c c2)
      rw [e]
      exact ifn (by rw [f2_ge, of_int (by omega)]; exact fun z => c2 (of_decide_eq_true z)) rfl
theorem r_382 {d0 : Nat} (ha : a < 12) (h92 : s.2.1 92 a = Int32.ofNat d0) (d10 : d0 ≤ 10) (h94 : s.2.1 94 a = Int32.ofNat wt) (w6 : wt ≤ 6) : rM w (k + 1) 382 [.ref 36, .int (Int32.ofNat a)] s = some (some (.int (if d0 ≠ 0 ∨ wt ≠ 0 then 1 else 0)), s) := by
  rw [y382]
  show s382_0 (rM w k) w (Int32.ofNat a) s = _
  unfold s382_0
  refine bse ((aI_at (p := 92) (i := a) (n := 12) (by decide) rfl ha (by decide)).trans (congrArg some h92)) ?_
  by_cases c : d0 = 0
  · refine ifn (by rw [f1_gt, of_int (by omega)]; exact fun z => absurd (of_decide_eq_true z) (by omega)) ?_
    refine bse ((aI_at (p := 94) (i := a) (n := 12) (by decide) rfl ha (by decide)).trans (congrArg some h94)) ?_
    by_cases c2 : wt = 0
    · have e : (if d0 ≠ 0 ∨ wt ≠ 0 then (1 : Int32) else 0) = 0 := if_neg (by omega)
      rw [e]
      exact ift (by rw [f1_le, of_int (by omega)]; exact decide_eq_true (by omega)) rfl
    · rw [if_pos (Or.inr c2)]
      exact ifn (by rw [f1_le, of_int (by omega)]; exact fun z => absurd (of_decide_eq_true z) (by omega)) rfl
  · rw [if_pos (Or.inl c)]
    exact ift (by rw [f1_gt, of_int (by omega)]; exact decide_eq_true (by omega)) rfl
theorem cNt_r : cNt n sg h n sg h := ⟨Nat.le_refl _, Nat.le_refl _⟩
theorem cNt_t {n2 : Nat} (e1 : cNt n sg h n' sg' h') (e2 : cNt n' sg' h' n2 sg2 h2) : cNt n sg h n2 sg2 h2 := by
  obtain ⟨a1, a2⟩ := e1
  obtain ⟨b1, b2⟩ := e2
  exact ⟨by omega, by omega⟩
theorem rUn_m {cn' : Nat} (h : rUn sB A B mi kc om ka la ms N cn sg s D x) (hc : cn ≤ cn') : rUn sB A B mi kc om ka la ms N cn' sg s D x := by
  obtain ⟨⟨x1, gi, ⟨clm, mb, tn, n1, n2, n3, n4, n5, n6, n7, ⟨n8, n8b, n8c, n8d⟩, n9⟩, wo⟩, bd⟩ := h
  exact ⟨⟨x1, gi, ⟨clm, mb, tn, n1, n2, n3, n4, n5, n6, n7, ⟨n8, n8b, Nat.le_trans n8c hc, n8d⟩, n9⟩, wo⟩, bd⟩
/-- the loop of both -/
theorem st_lp (cb : CB hB Z P A B sz es) (hs : hSe hB Z) (st : sTc sB A B mi kc hB Z P es) (hw : 10000 ≤ w) (c2 : cnt ≤ 200) : ∀ (r i N1 N2 n cn : Nat) (sg : cS) (h : rm_H) (s : rS) (om : oMg) (ka : kAp) (la : lAy) (ms : mSg) (N : Nat) (D : Nat → Nat) (x : Nat → Nat → fDs), i + r = cnt → r < N1 → r < N2 → RH (.ref P) n sg Z hB h → ka.2.2.2 ≤ n → rUn sB A B mi kc om ka la ms N cn sg s D x → a < ka.2.2.2 → cn + r ≤ 1000000 → ∃ (j : Nat) (h' : rm_H) (n' : Nat) (sg' : cS) (s' : rS) (om' : oMg) (ka' : kAp) (la' : lAy) (ms' : mSg) (N' : Nat) (D' : Nat → Nat) (x' : Nat → Nat → fDs), b235_32 L xs zf (dM L xs zf w (k + 13)) w N1 (some 21) (Int32.ofNat cnt) (some (sg.2.2.2.2 a 0)) (Int32.ofNat i) h = some (some (.int (Int32.ofNat j)), h') ∧ s380_24 (rM w (k2 + 13)) w N2 (Int32.ofNat a) (Int32.ofNat cnt) (Int32.ofNat i) s = some (some (.int (Int32.ofNat j)), s') ∧ RH (.ref P) n' sg' Z hB h' ∧ (ka'.2.2.2 ≤ n' ∧ n ≤ n') ∧ rUn sB A B mi kc om' ka' la' ms' N' (cn + r) sg' s' D' x' ∧ cNt n sg h n' sg' h' := by
  intro r
  induction r with
  | zero =>
    intro i N1 N2 n cn sg h s om ka la ms N D x hi h1 h2 rh hn ru ac _
    obtain ⟨N1', rfl⟩ : ∃ N', N1 = N' + 1 := ⟨N1 - 1, by omega⟩
    obtain ⟨N2', rfl⟩ : ∃ N', N2 = N' + 1 := ⟨N2 - 1, by omega⟩
    have : i = cnt := by omega
    subst this
    refine ⟨i, h, n, sg, s, om, ka, la, ms, N, D, x, ?_, ?_, rh, ⟨hn, Nat.le_refl _⟩, ru, cNt_r⟩
    · exact ift (by rw [f2_ge]; exact decide_eq_true (Int.le_refl _)) rfl
    · exact ift (by rw [f2_ge]; exact decide_eq_true (Int.le_refl _)) rfl
  | succ r ih =>
    intro i N1 N2 n cn sg h s om ka la ms N D x hi h1 h2 rh hn ru ac hcn
    obtain ⟨N1', rfl⟩ : ∃ N', N1 = N' + 1 := ⟨N1 - 1, by omega⟩
    obtain ⟨N2', rfl⟩ : ∃ N', N2 = N' + 1 := ⟨N2 - 1, by omega⟩
    have nge : ¬ mx_f2 .ge (Int32.ofNat i) (Int32.ofNat cnt) = true := by
      rw [f2_ge, of_int (by omega), of_int (by omega)]
      exact fun z => absurd (of_decide_eq_true z) (by omega)
    have ac12 : ka.2.2.2 ≤ 12 := by obtain ⟨_, _, ⟨_, _, _, _, _, ⟨_, _, z⟩, _⟩, _⟩ := ru.1; exact z
    obtain ⟨_, wac, ⟨⟨w6, m2, m3⟩, _⟩⟩ := ru.1.2.2.2.2.2 a ac
    have d10 : D a ≤ 10 := by
      rcases ru.2 a ac with ⟨z, _⟩ | ⟨d0, z, z2, _⟩ <;> omega
    have r2 := r_382 (w := w) (k := k2 + 12) (by omega) wac.2.2.1.2 d10 m3 w6
    have hd := hs_w (L := L) (xs := xs) hs rh
    by_cases act : D a ≠ 0 ∨ ms.1 a ≠ 0
    · obtain ⟨h', n', sg', s', om', ka', la', ms', N', D', x', e1, e2, e3, e4, e5, e6, e7, e8⟩ := J_in (L := L) (xs := xs) (zf := zf) (k := k) (k2 := k2) cb rh hn ru ac act hw st (by omega)
      obtain ⟨j, h3, n3, sg3, s3, om3, ka3, la3, ms3, N3, D3, x3, f1, f2, f3, f4, f5, f6⟩ := ih (i + 1) N1' N2' n' (cn + 1) sg' h' s' om' ka' la' ms' N' D' x' (by omega) (by omega) (by omega) e3 e4.1 e5 e7 (by omega)
      rw [if_pos act] at r2
      refine ⟨j, h3, n3, sg3, s3, om3, ka3, la3, ms3, N3, D3, x3, ?_, ?_, f3, ⟨f4.1, Nat.le_trans e4.2 f4.2⟩, by rw [show cn + (r + 1) = cn + 1 + r from by omega]; exact f5, cNt_t e8 f6⟩
      · refine ifn nge ?_
        refine bse hd ?_
        refine bse (a := ((1 : Int32), h')) ?_ ?_
        · rw [cV_w rh, show (va_rf (some (sg.2.2.2.2 a 0)) : Value) = .ref (sg.2.2.2.2 a 0) from rfl, e1]
          rfl
        · refine ifn (show ¬ mx_f1 .eq (1 : Int32) = true by decide) ?_
          rw [of_inc, ← e6]
          exact f1
      · refine ifn nge ?_
        refine bse (a := ((1 : Int32), s)) (by rw [r2]; rfl) ?_
        refine ifn (show ¬ mx_f1 .eq (1 : Int32) = true by decide) ?_
        refine bse (a := s') (by rw [e2]; rfl) ?_
        rw [of_inc]
        exact f2
    · have D0 : D a = 0 := by omega
      have M0 : ms.1 a = 0 := by omega
      rw [if_neg act] at r2
      have h3 : sg.2.2.1 a 3 = 0 := by
        have := wac.2.2.1.1
        rw [D0] at this
        exact this
      have h4 : sg.2.2.1 a 4 = 0 := by
        rw [M0] at m2
        exact m2
      have ki := k_insN (L := L) (xs := xs) (zf := zf) (w := w) (k := k + 12) rh (by omega) h3 h4
      refine ⟨i, h, n, sg, s, om, ka, la, ms, N, D, x, ?_, ?_, rh, ⟨hn, Nat.le_refl _⟩, rUn_m ru (by omega), cNt_r⟩
      · refine ifn nge ?_
        refine bse hd ?_
        refine bse (a := ((0 : Int32), h)) ?_ ?_
        · rw [cV_w rh, show (va_rf (some (sg.2.2.2.2 a 0)) : Value) = .ref (sg.2.2.2.2 a 0) from rfl, ki]
          rfl
        · exact ift (show mx_f1 .eq (0 : Int32) = true by decide) rfl
      · refine ifn nge ?_
        refine bse (a := ((0 : Int32), s)) (by rw [r2]; rfl) ?_
        exact ift (show mx_f1 .eq (0 : Int32) = true by decide) rfl
/-- STEP -/
theorem b_step (cb : CB hB Z P A B sz es) (hs : hSe hB Z) (st : sTc sB A B mi kc hB Z P es) (hw : 10000 ≤ w) (rh : RH (.ref P) n sg Z hB h) (hn : ka.2.2.2 ≤ n) (ru : rUn sB A B mi kc om ka la ms N cn sg s D x) (hcn : cn + 200 ≤ 1000000) (i1 i2 : Int32) : ∃ (v : Int32) (h' : rm_H) (n' : Nat) (sg' : cS) (s' : rS) (om' : oMg) (ka' : kAp) (la' : lAy) (ms' : mSg) (N' : Nat) (D' : Nat → Nat) (x' : Nat → Nat → fDs), dM L xs zf w (k + 15) 235 [.ref 21, .int i1, .int i2] h = some (some (.int v), h') ∧ rM w (k2 + 15) 380 [.ref 36, .int i1, .int i2] s = some (some (.int v), s') ∧ RH (.ref P) n' sg' Z hB h' ∧ (ka'.2.2.2 ≤ n' ∧ n ≤ n') ∧ rUn sB A B mi kc om' ka' la' ms' N' (cn + 200) sg' s' D' x' ∧ cNt n sg h n' sg' h' := by
  have hdc : ∀ X, b235_0 L xs zf (dM L xs zf w (k + 14)) w (some 21) i1 i2 h = X → dM L xs zf w (k + 15) 235 [.ref 21, .int i1, .int i2] h = X := fun X hX => by rw [e235]; exact hX
  have hdr : ∀ X, s380_0 (rM w (k2 + 14)) w i1 i2 s = X → rM w (k2 + 15) 380 [.ref 36, .int i1, .int i2] s = X := fun X hX => by rw [y380]; exact hX
  obtain ⟨clm, mb, tn, _, _, ⟨n3, n3b, n3c⟩, _, _, _, _, _, _, n10, _⟩ := ru.1.2.2.1
  have r1 := r_381 (w := w) (k := k2 + 13) (i1 := i1) n10 n3b n3c
  have one : (1 : Int32).toInt = 1 := by decide
  have th : (200 : Int32).toInt = 200 := by decide
  have dft : (i2.toInt < 1 ∨ 200 < i2.toInt ∨ i1.toInt < 0 ∨ (ka.2.2.2 : Int) ≤ i1.toInt) → ∃ (v : Int32) (h' : rm_H) (n' : Nat) (sg' : cS) (s' : rS) (om' : oMg) (ka' : kAp) (la' : lAy) (ms' : mSg) (N' : Nat) (D' : Nat → Nat) (x' : Nat → Nat → fDs), dM L xs zf w (k + 15) 235 [.ref 21, .int i1, .int i2] h = some (some (.int v), h') ∧ rM w (k2 + 15) 380 [.ref 36, .int i1, .int i2] s = some (some (.int v), s') ∧ RH (.ref P) n' sg' Z hB h' ∧ (ka'.2.2.2 ≤ n' ∧ n ≤ n') ∧ rUn sB A B mi kc om' ka' la' ms' N' (cn + 200) sg' s' D' x' ∧ cNt n sg h n' sg' h' := by
    intro hz
    refine ⟨-1, h, n, sg, s, om, ka, la, ms, N, D, x, hdc _ ?_, hdr _ ?_, rh, ⟨hn, Nat.le_refl _⟩, rUn_m ru (by omega), cNt_r⟩
    · unfold b235_0
      by_cases c1 : i2.toInt < 1
      · exact ift (by rw [f2_lt, one]; exact decide_eq_true c1) rfl
      · refine ifn (by rw [f2_lt, one]; exact fun z => c1 (of_decide_eq_true z)) ?_
        by_cases c2 : i2.toInt ≤ 200
        · refine ift (by rw [f2_le, th]; exact decide_eq_true c2) ?_
          refine bse (hs_w hs rh) ?_
          have kf := k_findN (L := L) (xs := xs) (zf := zf) (w := w) (k := k + 13) (i1 := i1) rh n3 n3c (by omega)
          refine bse (a := (none, h)) ?_ ?_
          · rw [cV_w rh, kf]
            rfl
          · exact ift rfl rfl
        · exact ifn (by rw [f2_le, th]; exact fun z => c2 (of_decide_eq_true z)) rfl
    · unfold s380_0
      refine bse (a := ((if i1.toInt < 0 ∨ (ka.2.2.2 : Int) ≤ i1.toInt then (0 : Int32) else 1), s)) (by rw [r1]; rfl) ?_
      by_cases c0 : i1.toInt < 0 ∨ (ka.2.2.2 : Int) ≤ i1.toInt
      · rw [if_pos c0]
        exact ift (show mx_f1 .eq (0 : Int32) = true by decide) rfl
      · rw [if_neg c0]
        refine ifn (show ¬ mx_f1 .eq (1 : Int32) = true by decide) ?_
        by_cases c1 : i2.toInt < 1
        · exact ift (by rw [f2_lt, one]; exact decide_eq_true c1) rfl
        · refine ifn (by rw [f2_lt, one]; exact fun z => c1 (of_decide_eq_true z)) ?_
          exact ifn (by rw [f2_le, th]; exact fun z => absurd (of_decide_eq_true z) (by omega)) rfl
  by_cases hz : i2.toInt < 1 ∨ 200 < i2.toInt ∨ i1.toInt < 0 ∨ (ka.2.2.2 : Int) ≤ i1.toInt
  · exact dft hz
  · have e1 : i1 = Int32.ofNat i1.toInt.toNat := of_toNat i1 (by omega) (by omega)
    have e2 : i2 = Int32.ofNat i2.toInt.toNat := of_toNat i2 (by omega) (by omega)
    have al : i1.toInt.toNat < ka.2.2.2 := by omega
    obtain ⟨j, h', n', sg', s', om', ka', la', ms', N', D', x', f1, f2, f3, f4, f5, f6⟩ := st_lp (L := L) (xs := xs) (zf := zf) (k := k + 1) (k2 := k2 + 1) (a := i1.toInt.toNat) (cnt := i2.toInt.toNat) cb hs st hw (by omega) i2.toInt.toNat 0 w w n cn sg h s om ka la ms N D x (by omega) (by omega) (by omega) rh hn ru al (by omega)
    refine ⟨Int32.ofNat j, h', n', sg', s', om', ka', la', ms', N', D', x', hdc _ ?_, hdr _ ?_, f3, f4, rUn_m f5 (by omega), f6⟩
    · unfold b235_0
      refine ifn (by rw [f2_lt, one]; exact fun z => absurd (of_decide_eq_true z) (by omega)) ?_
      refine ift (by rw [f2_le, th]; exact decide_eq_true (by omega)) ?_
      refine bse (hs_w hs rh) ?_
      have kf := k_find (L := L) (xs := xs) (zf := zf) (w := w) (k := k + 13) (i := i1.toInt.toNat) rh n3 hn n3c (by omega)
      rw [if_pos al, ← e1] at kf
      refine bse (a := (some (sg.2.2.2.2 i1.toInt.toNat 0), h)) ?_ ?_
      · rw [cV_w rh, kf]
        rfl
      · refine ifn (fun z => by cases z) ?_
        rw [← e2] at f1
        exact f1
    · unfold s380_0
      refine bse (a := ((1 : Int32), s)) (by rw [r1, if_neg (by omega)]; rfl) ?_
      refine ifn (show ¬ mx_f1 .eq (1 : Int32) = true by decide) ?_
      refine ifn (by rw [f2_lt, one]; exact fun z => absurd (of_decide_eq_true z) (by omega)) ?_
      refine ift (by rw [f2_le, th]; exact decide_eq_true (by omega)) ?_
      rw [← e1, ← e2] at f2
      exact f2
end JSTP
