/-! A TYPE IS READ BY BOTH. -/
section TP
variable {L : Nat} {xs : Nat → Int32} {zf : Value} {w k i y : Nat} {cx : Nat → Nat} {F : Nat → Nat → Int32} {N : Nat → Int64} {q : List Value} {h h1 : rm_H} {s : rS} {g : Nat → Nat} {ts : List Nat} {pt vr : Int32}
theorem t57 : ∀ p, 57 ≤ p → p ≤ 60 → rs_t p = (0, 2000, false) := by
  intro p h1 h2
  have : p = 57 ∨ p = 58 ∨ p = 59 ∨ p = 60 := by omega
  rcases this with e | e | e | e <;> subst e <;> decide
theorem t61 : rs_t 61 = (2, 2000, true) := by decide
theorem yW {p i : Nat} {x : Int32} (hq : 57 ≤ p ∧ p ≤ 60) (hi : i < 2000) : rs_sI s p (Int32.ofNat i) x = some (rs_wA s p i x) := sI_at (by omega) (t57 p hq.1 hq.2) hi (by omega)
theorem yWJ {i : Nat} {x : Int64} (hi : i < 2000) : rs_sJ s 61 (Int32.ofNat i) x = some (rs_wB s 61 i x) := sJ_at (by omega) t61 hi (by omega)
/-- the reference's end of a TYPE -/
def tyE (s1 : rS) (y i : Nat) : rS := rs_wB (rs_wA s1 59 y (s1.2.1 41 i)) 61 y (s1.2.2 43 i)
theorem ty_tail (hT : TF cx F N) (hi : i ≤ cx 16) (h0 : s.1 57 = 0) (ht : s.1 56 = Int32.ofNat i) (hy : y < 2000) : s312_123 (rM w (k + 3)) w (Int32.ofNat y) s = some (some (.int (Int32.ofNat y)), tyE (if s.2.1 40 i = 3 then nxS s i else stS s i) y i) := by
  have hl : i ≤ 2000 := by have := hT.1; omega
  unfold s312_123
  refine bse (a := (Int32.ofNat i, if s.2.1 40 i = 3 then nxS s i else stS s i)) (by rw [q307 (k := k) 3 h0 ht hl]; rfl) ?_
  refine bse (aTi (by omega) hl) (bse (yW (by omega) hy) ?_)
  refine bse (a := (if s.2.1 40 i = 3 then nxS s i else stS s i).2.2 43 i) ?_ (bse (yWJ hy) rfl)
  exact aTn (s := rs_wA (if s.2.1 40 i = 3 then nxS s i else stS s i) 59 y ((if s.2.1 40 i = 3 then nxS s i else stS s i).2.1 41 i)) hl
/-- the class's end of a TYPE: a TITLE -/
theorem tc_tail {d nm : Nat} {pl cp cpl' tp bn ty sl : Int32} {ti : Option Nat} (hT : TF cx F N) (hi : i ≤ cx 16) (hP : pC h cx F (vS cx F i)) (c : CH cx q h g ts pt vr) (hd : hc h d = some (dcC nm pl cp cpl' ti tp bn ty sl)) : ∃ h' t2 v, b113_83 L xs zf (dM L xs zf w (k + 8)) w (some (cx 7)) (some d) h = some (none, h') ∧ hc h' d = some (dcC nm pl cp cpl' (some t2) (cpl cx F i) bn ty sl) ∧ CH cx q h' g ts pt vr ∧ pC h' cx F v ∧ fr (fun y => y = cx 0 ∨ y = d) h h' ∧ (h'.length ≤ h.length + 2 ∧ nD h h') ∧ zh h' ≤ zh h + 12 ∧ ((ctk cx F i = 3 ∧ i < cx 16 ∧ v = vS cx F (i + 1) ∧ nS L xs h' t2 (N i)) ∨ (¬ ctk cx F i = 3 ∧ rfd v (cpl cx F i))) := by
  have d0 : d ≠ cx 0 := fun y => by rw [y, pC_r hP] at hd; cases hd
  obtain ⟨h2, b1, b2, b3⟩ := pF_ex (j := 5) (cis := [10]) (v := .int (cpl cx F i)) (u := .int tp) hd rfl (by decide) rfl (by decide)
  have P2 := pC_w hd (by decide) b3 hP
  have c2 := CH_w hd (by decide) b3 c
  have b2 : hc h2 d = some (dcC nm pl cp cpl' ti (cpl cx F i) bn ty sl) := b2
  have head : ∀ (t2 : Nat) (h3 h4 : rm_H), dM L xs zf w (k + 8) 94 [.ref (cx 7), .int 3] h2 = some (some (.ref t2), h3) → dpF h3 4 [10] (some d) (.ref t2) = some h4 → b113_83 L xs zf (dM L xs zf w (k + 8)) w (some (cx 7)) (some d) h = some (none, h4) := by
    intro t2 h3 h4 e1 e2
    unfold b113_83
    refine bse (c_in hP) (bse (c_I hP 7 (by omega)) (bse b1 ?_))
    exact bse (a := (some t2, h3)) (by rw [c_pv P2, e1]; rfl) (bse e2 rfl)
  by_cases t3 : ctk cx F i = 3
  · obtain ⟨t2, h3, e1, e2, e3, e4, e5, e6, e7, e8⟩ := y_twT (L := L) (xs := xs) (zf := zf) (w := w) (k := k) hT hi P2 3 t3 (Or.inr rfl)
    have hd3 := fr_old e5 b2 d0
    obtain ⟨h4, f1, f2, f3⟩ := pF_ex (j := 4) (cis := [10]) (v := .ref t2) (u := va_rf ti) hd3 rfl (by decide) rfl (by decide)
    refine ⟨h4, t2, _, head t2 h3 h4 e1 f1, f2, CH_w hd3 (by decide) f3 (CH_fr P2 e5 e6 c2), pC_w hd3 (by decide) f3 e3, ?_, ?_, ?_, Or.inl ⟨t3, e2, rfl, nS_fr f3.1 e4⟩⟩
    · exact fr_trans (fr_trans (fr_mono b3.1 (fun _ _ u => Or.inr u)) e5 (fun _ _ u => Or.inl u)) f3.1 (fun _ _ u => Or.inr u)
    · exact ⟨by rw [f3.2.1]; have := b3.2.1; omega, nD_st (nD_trans (nD_0 b3.2.1) e5 e7.2) f3⟩
    · rw [f3.2.2]; have := b3.2.2; omega
  · obtain ⟨h3, v, e1, e2, e3, e4⟩ := y_twF (L := L) (xs := xs) (zf := zf) (w := w) (k := k + 6) hT hi P2 3 t3
    have hd3 := st1_old e4 b2 d0
    obtain ⟨h4, f1, f2, f3⟩ := pF_ex (j := 4) (cis := [10]) (v := .ref 9) (u := va_rf ti) hd3 rfl (by decide) rfl (by decide)
    refine ⟨h4, 9, v, head 9 h3 h4 e1 f1, f2, CH_w hd3 (by decide) f3 (CH_r P2 e4 c2), pC_w hd3 (by decide) f3 e2, ?_, ?_, ?_, Or.inr ⟨t3, e3⟩⟩
    · exact fr_trans (fr_trans (fr_mono b3.1 (fun _ _ u => Or.inr u)) e4.1 (fun _ _ u => Or.inl u)) f3.1 (fun _ _ u => Or.inr u)
    · exact ⟨by rw [f3.2.1, e4.2.1, b3.2.1]; omega, nD_0 (by rw [f3.2.1, e4.2.1, b3.2.1])⟩
    · rw [f3.2.2, e4.2.2, b3.2.2]; omega
/-- is token i a CAP -/
def isC (cx : Nat → Nat) (F : Nat → Nat → Int32) (i : Nat) : Prop := 38 ≤ (ctk cx F i).toInt ∧ (ctk cx F i).toInt < 43
/-- where the TITLE of a TYPE must stand -/
noncomputable def tiA (cx : Nat → Nat) (F : Nat → Nat → Int32) (i : Nat) : Nat := @ite Nat (isC cx F i) (Classical.propDecidable _) (i + 1) i
theorem tiA_c (c : isC cx F i) : tiA cx F i = i + 1 := if_pos c
theorem tiA_n (c : ¬ isC cx F i) : tiA cx F i = i := if_neg c
theorem isC_lt (hT : TF cx F N) (hi : i ≤ cx 16) (c : isC cx F i) : i < cx 16 := by
  unfold isC at c
  refine tk_lt hT hi (fun z => ?_) (fun z => ?_) <;> rw [z] at c <;> exact absurd c (by decide)
/-- what the class has read of a TYPE -/
def tcO (L : Nat) (xs : Nat → Int32) (cx : Nat → Nat) (F : Nat → Nat → Int32) (N : Nat → Int64) (h : rm_H) (i d nm : Nat) (pl bn ty sl : Int32) (v : Nat → Int32) : Prop :=
  (ctk cx F i = 43 ∧ bn = 0 ∧ i < cx 16 ∧ v = vS cx F (i + 1) ∧ hc h d = some (dcC nm pl (-1) (-1) none (-1) bn ty sl))
  ∨ (¬ (ctk cx F i = 43 ∧ bn = 0) ∧ ∃ t2 cp cpl', hc h d = some (dcC nm pl cp cpl' (some t2) (cpl cx F (tiA cx F i)) bn ty sl) ∧ ((isC cx F i ∧ cp = ctk cx F i - 38 ∧ cpl' = cpl cx F i) ∨ (¬ isC cx F i ∧ cp = -1 ∧ cpl' = -1)) ∧ tiA cx F i ≤ cx 16 ∧ ((ctk cx F (tiA cx F i) = 3 ∧ tiA cx F i < cx 16 ∧ v = vS cx F (tiA cx F i + 1) ∧ nS L xs h t2 (N (tiA cx F i))) ∨ (¬ ctk cx F (tiA cx F i) = 3 ∧ rfd v (cpl cx F (tiA cx F i)))))
theorem tc_type {d nm : Nat} {pl bn ty sl : Int32} (hT : TF cx F N) (hi : i ≤ cx 16) (hP : pC h cx F (vS cx F i)) (c : CH cx q h g ts pt vr) (hd : hc h d = some (dcC nm pl (-1) (-1) none (-1) bn ty sl)) (hb : bn = 0 ∨ bn = 1) (hn : ts.length ≤ 99000) : ∃ h' ar' cap' v, dM L xs zf w (k + 9) 113 [.ref (cx 7), .ref d] h = some (none, h') ∧ CH cx q h' (gu (gu g 1 ar') 2 cap') (ts ++ [d]) pt vr ∧ pC h' cx F v ∧ fr (fun y => y = cx 0 ∨ y = cx 11 ∨ y = g 1 ∨ y = d) h h' ∧ (h'.length ≤ h.length + 3 ∧ nD h h') ∧ (ar' = g 1 ∨ ar' = 21 + h.length) ∧ zh h' + 4 * g 2 ≤ zh h + 4 * cap' + 12 ∧ tcO L xs cx F N h' i d nm pl bn ty sl v := by
  obtain ⟨h1, ar', cap', a1, a2, a3, a4, a5, a6, a7⟩ := p_add (L := L) (xs := xs) (zf := zf) (w := w) (k := k + 2) hP c ⟨10, _, hd, Or.inr (Or.inl rfl)⟩ hn
  have d11 : ¬ (d = cx 11 ∨ d = g 1) := by
    obtain ⟨_, c2, _⟩ := c
    obtain ⟨mc, e1, _, _, e3⟩ := c2
    intro y
    rcases y with y | y
    · rw [y, e1] at hd; cases hd
    · rcases e3 with ⟨e3, _⟩ | ⟨f0, e3, _⟩
      · have := hc_ge hd; omega
      · rw [y, e3] at hd; cases hd
  have hd1 := fr_old a4 hd d11
  have d0 : d ≠ cx 0 := fun y => by rw [y, pC_r hP] at hd; cases hd
  have f1 : fr (fun y => y = cx 0 ∨ y = cx 11 ∨ y = g 1 ∨ y = d) h h1 := fr_mono a4 (fun y _ u => u.elim (fun u => Or.inr (Or.inl u)) (fun u => Or.inr (Or.inr (Or.inl u))))
  have head : ∀ r : dR, (if mx_f2 .ne (ctk cx F i) 43 = true then b113_41 L xs zf (dM L xs zf w (k + 8)) w (some (cx 7)) (some d) h1 else (dgI L xs h1 6 [10] (some d)).bind fun x14 => if mx_f1 .ne x14 = true then b113_41 L xs zf (dM L xs zf w (k + 8)) w (some (cx 7)) (some d) h1 else (dgR L xs h1 0 [8] (some (cx 7))).bind fun p17 => ((dcV L xs (dM L xs zf w (k + 8)) 92 [6] p17 [] h1).bind dxV).bind fun h19 => some (none, h19)) = some r → dM L xs zf w (k + 9) 113 [.ref (cx 7), .ref d] h = some r := by
    intro r hr
    rw [e113]
    show b113_0 L xs zf (dM L xs zf w (k + 8)) w (some (cx 7)) (some d) h = _
    unfold b113_0
    refine bse (c_out hP) (bse (p_tl c) ?_)
    refine bse (a := ((1 : Int32), h1)) (by rw [al_v c.2.1, va_s, a1]; rfl) ?_
    exact bse (c_in a2) (bse (c_I a2 6 (by omega)) hr)
  by_cases t43 : ctk cx F i = 43 ∧ bn = 0
  · -- int
    have hlt : i < cx 16 := tk_lt hT hi (by rw [t43.1]; decide) (by rw [t43.1]; decide)
    obtain ⟨h2, b1, b2, b3⟩ := y_adv (L := L) (xs := xs) (zf := zf) (w := w) (k := k + 5) hT hlt a2
    refine ⟨h2, ar', cap', _, head _ ?_, CH_r a2 b3 a3, b2, fr_trans f1 b3.1 (fun _ _ u => Or.inl u), ?_, a6, ?_, Or.inl ⟨t43.1, t43.2, hlt, rfl, st1_old b3 hd1 d0⟩⟩
    · rw [if_neg (by rw [t43.1]; decide)]
      refine bse (hc_gI hd1 (x := bn) rfl (by decide)) (ifn (by rw [t43.2]; decide) ?_)
      exact bse (c_in a2) (bse (a := h2) (by rw [c_rv a2, b1]; rfl) rfl)
    · exact ⟨by rw [b3.2.1]; omega, nD_st a5.2 b3⟩
    · rw [b3.2.2]; omega
  · -- no int
    have to41 : ∀ r : dR, b113_41 L xs zf (dM L xs zf w (k + 8)) w (some (cx 7)) (some d) h1 = some r → dM L xs zf w (k + 9) 113 [.ref (cx 7), .ref d] h = some r := by
      intro r hr
      refine head r ?_
      by_cases e43 : ctk cx F i = 43
      · have b1 : bn = 1 := by
          rcases hb with z | z
          · exact absurd ⟨e43, z⟩ t43
          · exact z
        rw [if_neg (by rw [e43]; decide)]
        exact bse (hc_gI hd1 (x := bn) rfl (by decide)) (ift (by rw [b1]; decide) hr)
      · rw [if_pos (by rw [f2_ne]; simp [e43])]
        exact hr
    by_cases cp : isC cx F i
    · have hlt := isC_lt hT hi cp
      obtain ⟨h2, b1, b2, b3⟩ := pF_ex (j := 3) (cis := [10]) (v := .int (cpl cx F i)) (u := .int (-1)) hd1 rfl (by decide) rfl (by decide)
      have b2 : hc h2 d = some (dcC nm pl (-1) (cpl cx F i) none (-1) bn ty sl) := b2
      have P2 := pC_w hd1 (by decide) b3 a2
      obtain ⟨h3, e1, e2, e3⟩ := pF_ex (j := 2) (cis := [10]) (v := .int (ctk cx F i - 38)) (u := .int (-1)) b2 rfl (by decide) rfl (by decide)
      have e2 : hc h3 d = some (dcC nm pl (ctk cx F i - 38) (cpl cx F i) none (-1) bn ty sl) := e2
      have P3 := pC_w b2 (by decide) e3 P2
      obtain ⟨h4, g1, g2, g3⟩ := y_adv (L := L) (xs := xs) (zf := zf) (w := w) (k := k + 5) hT hlt P3
      have c4 := CH_r P3 g3 (CH_w b2 (by decide) e3 (CH_w hd1 (by decide) b3 a3))
      obtain ⟨h5, t2, v, k1, k2, k3, k4, k5, k6, k7, k8⟩ := tc_tail (L := L) (xs := xs) (zf := zf) (w := w) (k := k) hT (show i + 1 ≤ cx 16 by omega) g2 c4 (st1_old g3 e2 d0)
      refine ⟨h5, ar', cap', v, to41 _ ?_, k3, k4, ?_, ?_, a6, ?_, Or.inr ⟨t43, t2, _, _, by rw [tiA_c cp]; exact k2, Or.inl ⟨cp, rfl, rfl⟩, by rw [tiA_c cp]; omega, by rw [tiA_c cp]; exact k8⟩⟩
      · unfold b113_41
        refine bse (c_in a2) (bse (a := (rd_01 true, h1)) ?_ (ifn (show ¬ mx_f1 .eq (rd_01 true) = true by decide) (bse (c_in a2) (bse (c_I a2 7 (by omega)) ?_))))
        · rw [c_rv a2, c_cap (k := k + 7) a2, decide_eq_true (show 38 ≤ (vS cx F i 6).toInt ∧ (vS cx F i 6).toInt < 43 from cp)]
          rfl
        refine bse b1 ?_
        refine bse (c_in P2) (bse (c_I P2 6 (by omega)) (bse e1 ?_))
        exact bse (c_in P3) (bse (a := h4) (by rw [c_rv P3, g1]; rfl) k1)
      · refine fr_trans (fr_trans (fr_trans (fr_trans f1 b3.1 (fun _ _ u => Or.inr (Or.inr (Or.inr u)))) e3.1 (fun _ _ u => Or.inr (Or.inr (Or.inr u)))) g3.1 (fun _ _ u => Or.inl u)) k5 (fun _ _ u => u.elim Or.inl (fun u => Or.inr (Or.inr (Or.inr u))))
      · exact ⟨by have := g3.2.1; have := e3.2.1; have := b3.2.1; omega, nD_trans (nD_st (nD_st (nD_st a5.2 b3) e3) g3) k5 k6.2⟩
      · have := g3.2.2; have := e3.2.2; have := b3.2.2; omega
    · obtain ⟨h5, t2, v, k1, k2, k3, k4, k5, k6, k7, k8⟩ := tc_tail (L := L) (xs := xs) (zf := zf) (w := w) (k := k) hT hi a2 a3 hd1
      refine ⟨h5, ar', cap', v, to41 _ ?_, k3, k4, ?_, ⟨by omega, nD_trans a5.2 k5 k6.2⟩, a6, by omega, Or.inr ⟨t43, t2, _, _, by rw [tiA_n cp]; exact k2, Or.inr ⟨cp, rfl, rfl⟩, by rw [tiA_n cp]; exact hi, by rw [tiA_n cp]; exact k8⟩⟩
      · unfold b113_41
        refine bse (c_in a2) (bse (a := (rd_01 false, h1)) ?_ (ift (show mx_f1 .eq (rd_01 false) = true by decide) k1))
        rw [c_rv a2, c_cap (k := k + 7) a2, decide_eq_false (show ¬ (38 ≤ (vS cx F i 6).toInt ∧ (vS cx F i 6).toInt < 43) from cp)]
        rfl
      · exact fr_trans f1 k5 (fun _ _ u => u.elim Or.inl (fun u => Or.inr (Or.inr (Or.inr u))))
end TP
