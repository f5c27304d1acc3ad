/-! TYPES: the class's list of types; a TYPE is read by both. -/
def gu (g : Nat → Nat) (j x : Nat) : Nat → Nat := fun i => if i = j then x else g i
theorem gu_eq (g : Nat → Nat) (j x : Nat) : gu g j x j = x := if_pos rfl
theorem gu_ne (g : Nat → Nat) {j i : Nat} (x : Nat) (hi : i ≠ j) : gu g j x i = g i := if_neg hi
section TY
variable {L : Nat} {xs : Nat → Int32} {zf : Value} {w k : Nat} {cx : Nat → Nat} {F : Nat → Nat → Int32} {N : Nat → Int64} {q : List Value} {h h1 : rm_H} {s : rS} {g : Nat → Nat} {ts : List Nat} {pt vr x : Int32} {v0 : Nat → Int32}
theorem p_add {d : Nat} (hP : pC h cx F v0) (c : CH cx q h g ts pt vr) (hd : oK h d) (hn : ts.length ≤ 99000) : ∃ h' ar' cap', dM L xs zf w (k + 6) 103 [.ref (cx 11), .ref d] h = some (some (.int 1), h') ∧ pC h' cx F v0 ∧ CH cx q h' (gu (gu g 1 ar') 2 cap') (ts ++ [d]) pt vr ∧ fr (fun y => y = cx 11 ∨ y = g 1) h h' ∧ (h'.length ≤ h.length + 1 ∧ nD h h') ∧ (ar' = g 1 ∨ ar' = 21 + h.length) ∧ zh h' + 4 * g 2 ≤ zh h + 4 * cap' := by
  obtain ⟨c1, c2, c3, c4, c5⟩ := c
  obtain ⟨h', ar', cap', a1, a2, a3, a4, a5⟩ := al_add (L := L) (xs := xs) (zf := zf) (w := w) (k := k) c2 c3 hd hn
  have u := uA_add c4 c2 a2 a4 a3
  obtain ⟨mc, e1, e2, e2', e3⟩ := c2
  have arr : ∀ ci fs, hc h (g 1) ≠ some (.inr (ci, fs)) := by
    intro ci fs y
    rcases e3 with ⟨e3, _⟩ | ⟨f0, e3, _⟩
    · have := hc_ge y; omega
    · rw [e3] at y; cases y
  have no : ∀ p ci fs, ci ≠ 5 → hc h p = some (.inr (ci, fs)) → ¬ (p = cx 11 ∨ p = g 1) := by
    intro p ci fs hci y z
    rcases z with z | z
    · rw [z, e1] at y; cases y; exact hci rfl
    · rw [z] at y; exact arr _ _ y
  have noA : ∀ p n t fx, t ≠ 4 → hc h p = some (.inl (t, n, fx)) → ¬ (p = cx 11 ∨ p = g 1) := by
    intro p n t fx ht y z
    rcases z with z | z
    · rw [z, e1] at y; cases y
    · rw [z] at y
      rcases e3 with ⟨e3, _⟩ | ⟨f0, e3, _⟩
      · have := hc_ge y; omega
      · rw [e3] at y; cases y; exact ht rfl
  have hP1 := hP.1
  obtain ⟨⟨p1, p2, p3, p4, p5, p6⟩, nd, _, r1, _, _, r4, r5, r6⟩ := hP1
  refine ⟨h', ar', cap', a1, pC_fr a4 (no _ _ _ (by decide) (pC_r hP)) (noA _ _ _ _ (by decide) (hc_of p4 r4)) (noA _ _ _ _ (by decide) (hc_of p5 r5)) (noA _ _ _ _ (by decide) (hc_of p6 r6)) (no _ _ _ (by decide) (pC_p hP)) hP, ⟨fr_old a4 c1 (no _ _ _ (by decide) c1), a2, fun y hy => ?_, u, mC_fr a4 (fun fs z => no _ _ _ (by decide) z) c5⟩, a4, ⟨by omega, nD_add a2 a3⟩, by omega, a5⟩
  rcases List.mem_append.mp hy with z | z
  · exact oK_fr a4 (c3 y z)
  · rw [List.mem_singleton.mp z]; exact oK_fr a4 hd
theorem p_tl (c : CH cx q h g ts pt vr) : dgR L xs h 3 [4] (some (cx 8)) = some (some (cx 11)) := hc_gR (p := some (cx 11)) c.1 rfl (by decide)
/-- a Decl's cell -/
abbrev dcC (nm : Nat) (pl cp cpl' : Int32) (ti : Option Nat) (tp bn ty sl : Int32) : rm_E := .inr (10, [.ref nm, .int pl, .int cp, .int cpl', va_rf ti, .int tp, .int bn, .int ty, .int sl])
theorem dc_new (nm : Nat) (pl : Int32) : dM L xs zf w (k + 1) 112 [.ref (21 + h.length), .ref nm, .int pl] (h ++ [.inr (10, ah_DV 10)]) = some (none, h ++ [dcC nm pl (-1) (-1) none (-1) 0 0 0]) := by
  rw [e112]
  show b112_0 L xs zf (dM L xs zf w k) w (some (21 + h.length)) (some nm) pl _ = _
  unfold b112_0
  refine ifn (dnl_s _) ?_
  refine bse (pF_last (u := .null) rfl (by decide) rfl) ?_
  refine bse (pF_last (u := .int 0) rfl (by decide) rfl) ?_
  refine bse (pF_last (u := .int 0) rfl (by decide) rfl) ?_
  refine bse (pF_last (u := .int 0) rfl (by decide) rfl) ?_
  refine bse (pF_last (u := .null) rfl (by decide) rfl) ?_
  refine bse (pF_last (u := .int 0) rfl (by decide) rfl) ?_
  refine bse (pF_last (u := .int 0) rfl (by decide) rfl) ?_
  refine bse (pF_last (u := .int 0) rfl (by decide) rfl) ?_
  exact bse (pF_last (u := .int 0) rfl (by decide) rfl) rfl
/-- a TYPE behind a fault -/
theorem z_type {d nm : Nat} {pl cp cpl' tp bn ty sl : Int32} {ti : Option Nat} (z : ZC cx F q h v0 x g ts pt vr) (hd : hc h d = some (dcC nm pl cp cpl' ti tp bn ty sl)) (hn : ts.length ≤ 99000) : ∃ h' ar' cap', dM L xs zf w (k + 7) 113 [.ref (cx 7), .ref d] h = some (none, h') ∧ ZC cx F q h' v0 x (gu (gu g 1 ar') 2 cap') (ts ++ [d]) pt vr ∧ hc h' d = some (dcC nm pl cp cpl' (some 9) (v0 7) bn ty sl) ∧ fr (fun y => y = cx 0 ∨ y = cx 11 ∨ y = g 1 ∨ y = d) h h' ∧ h'.length ≤ h.length + 1 ∧ (ar' = g 1 ∨ ar' = 21 + h.length) ∧ zh h' + 4 * g 2 ≤ zh h + 4 * cap' := by
  obtain ⟨z1, z2, z3⟩ := z
  obtain ⟨h1, ar', cap', a1, a2, a3, a4, a5, a6, a7⟩ := p_add (L := L) (xs := xs) (zf := zf) (w := w) (k := k) z1 z3 ⟨10, _, hd, Or.inr (Or.inl rfl)⟩ hn
  have d11 : ¬ (d = cx 11 ∨ d = g 1) := by
    obtain ⟨_, c2, _⟩ := z3
    obtain ⟨mc, e1, _, _, e3⟩ := c2
    intro y
    rcases y with y | y
    · rw [y, e1] at hd; cases hd
    · rcases e3 with ⟨e3, _⟩ | ⟨f0, e3, _⟩
      · have := hc_ge hd; omega
      · rw [y, e3] at hd; cases hd
  have hd1 := fr_old a4 hd d11
  have d0 : d ≠ cx 0 := fun y => by rw [y, pC_r z1] at hd; cases hd
  obtain ⟨h2, b1, b2, b3⟩ := pF_ex (j := 5) (cis := [10]) (v := .int (v0 7)) (u := .int tp) hd1 rfl (by decide) rfl (by decide)
  have zb : ZC cx F q h2 v0 x (gu (gu g 1 ar') 2 cap') (ts ++ [d]) pt vr := ZC_w hd1 (by decide) b3 ⟨a2, z2, a3⟩
  obtain ⟨h3, c1, c2, c3⟩ := z_tw (L := L) (xs := xs) (zf := zf) (w := w) (k := k + 4) z2 zb.1 3 (by decide)
  have zc := ZC_r c3 zb c2
  obtain ⟨h4, e1, e2, e3⟩ := pF_ex (j := 4) (cis := [10]) (v := .ref 9) (u := va_rf ti) (st1_old c3 b2 d0) rfl (by decide) rfl (by decide)
  refine ⟨h4, ar', cap', ?_, ZC_w (st1_old c3 b2 d0) (by decide) e3 zc, e2, ?_, ?_, a6, ?_⟩
  · rw [e113]
    show b113_0 L xs zf (dM L xs zf w (k + 6)) w (some (cx 7)) (some d) h = _
    unfold b113_0
    have j6 := c_I (L := L) (xs := xs) a2 6 (by omega)
    rw [z2.2.1] at j6
    refine bse (c_out z1) (bse (p_tl z3) ?_)
    refine bse (a := ((1 : Int32), h1)) (by rw [al_v z3.2.1, show va_rf (some d) = .ref d from rfl, a1]; rfl) ?_
    refine bse (c_in a2) (bse j6 (ift (by first | decide | (dsimp only; decide)) ?_))
    unfold b113_41
    refine bse (c_in a2) (bse (a := ((0 : Int32), h1)) (by rw [c_rv a2, c_cap (k := k + 5) a2, z2.2.1]; rfl) (ift (by first | decide | (dsimp only; decide)) ?_))
    unfold b113_83
    refine bse (c_in a2) (bse (c_I a2 7 (by omega)) (bse b1 ?_))
    exact bse (a := (some 9, h3)) (by rw [c_pv zb.1, c1]; rfl) (bse e1 rfl)
  · refine fr_trans (fr_trans (fr_trans (fr_mono a4 (fun y _ u => ?_)) b3.1 (fun y _ u => Or.inr (Or.inr (Or.inr u)))) c3.1 (fun y _ u => Or.inl u)) e3.1 (fun y _ u => Or.inr (Or.inr (Or.inr u)))
    rcases u with u | u
    · exact Or.inr (Or.inl u)
    · exact Or.inr (Or.inr (Or.inl u))
  · rw [e3.2.1, c3.2.1, b3.2.1]; exact a5.1
  · rw [e3.2.2, c3.2.2, b3.2.2]; exact a7
end TY
