/-! A METHOD IS MADE by the class. -/
/-- its cell -/
abbrev mtC (so : Int32) (K : Nat) (m : Int32) (nm : Nat) (pl : Int32) (l : Nat) : List Value := [.int so, .ref K, .int m, .ref nm, .int pl, .ref l, .int 2, .int (-1), .null, .null, .int 0, .int 0, .int 1, .int 1]
section MK
variable {L : Nat} {xs : Nat → Int32} {zf : Value} {w k : Nat} {cx : Nat → Nat} {F : Nat → Nat → Int32} {N : Nat → Int64} {q : List Value} {h h' h1 h2 : rm_H} {s s' s1 : rS} {g g' : Nat → Nat} {ts : List Nat} {M K nm : Nat} {v : Nat → Int32} {pt vr so m pl : Int32}
theorem c_116 (hM : hc h M = some (.inr (11, ah_DV 11))) : ∃ h', dM L xs zf w (k + 4) 116 [.ref M, .int so, .ref K, .int m, .ref nm, .int pl] h = some (none, h') ∧ hc h' M = some (.inr (11, mtC so K m nm pl (21 + h.length))) ∧ aL h' (21 + h.length) 5 0 [] ∧ fr (fun y => y = M) h h' ∧ h'.length = h.length + 1 ∧ zh h' = zh h + 3 ∧ (uA h → uA h') := by
  obtain ⟨a1, b1, c1, d1⟩ := pF_ex (j := 0) (cis := [11]) (v := .int so) (u := .int 0) hM rfl (by decide) rfl (by decide)
  obtain ⟨a2, b2, c2, d2⟩ := pF_ex (j := 1) (cis := [11]) (v := .ref K) (u := .null) c1 rfl (by decide) rfl (by decide)
  obtain ⟨a3, b3, c3, d3⟩ := pF_ex (j := 2) (cis := [11]) (v := .int m) (u := .int 0) c2 rfl (by decide) rfl (by decide)
  obtain ⟨a4, b4, c4, d4⟩ := pF_ex (j := 3) (cis := [11]) (v := .ref nm) (u := .null) c3 rfl (by decide) rfl (by decide)
  obtain ⟨a5, b5, c5, d5⟩ := pF_ex (j := 4) (cis := [11]) (v := .int pl) (u := .int 0) c4 rfl (by decide) rfl (by decide)
  have s5 := st1_trans (st1_trans (st1_trans (st1_trans d1 d2) d3) d4) d5
  have l5 := s5.2.1
  have y5 := s5.2.2
  have e6 := hc_up (c2 := .inr (5, [.ref 5, .int 0, .int 0])) c5
  obtain ⟨a6, b6, c6, d6⟩ := pF_ex (j := 5) (cis := [11]) (v := .ref (21 + h.length)) (u := .null) e6 rfl (by decide) rfl (by decide)
  obtain ⟨a7, b7, c7, d7⟩ := pF_ex (j := 6) (cis := [11]) (v := .int 2) (u := .int 0) c6 rfl (by decide) rfl (by decide)
  obtain ⟨a8, b8, c8, d8⟩ := pF_ex (j := 7) (cis := [11]) (v := .int (-1)) (u := .int 0) c7 rfl (by decide) rfl (by decide)
  obtain ⟨a9, b9, c9, d9⟩ := pF_ex (j := 8) (cis := [11]) (v := .null) (u := .null) c8 rfl (by decide) rfl (by decide)
  obtain ⟨x0, b10, c10, d10⟩ := pF_ex (j := 9) (cis := [11]) (v := .null) (u := .null) c9 rfl (by decide) rfl (by decide)
  obtain ⟨x1, b11, c11, d11⟩ := pF_ex (j := 10) (cis := [11]) (v := .int 0) (u := .int 0) c10 rfl (by decide) rfl (by decide)
  obtain ⟨x2, b12, c12, d12⟩ := pF_ex (j := 11) (cis := [11]) (v := .int 0) (u := .int 0) c11 rfl (by decide) rfl (by decide)
  obtain ⟨x3, b13, c13, d13⟩ := pF_ex (j := 12) (cis := [11]) (v := .int 1) (u := .int 0) c12 rfl (by decide) rfl (by decide)
  obtain ⟨x4, b14, c14, d14⟩ := pF_ex (j := 13) (cis := [11]) (v := .int 1) (u := .int 0) c13 rfl (by decide) rfl (by decide)
  have s14 := st1_trans (st1_trans (st1_trans (st1_trans (st1_trans (st1_trans (st1_trans (st1_trans d6 d7) d8) d9) d10) d11) d12) d13) d14
  have hMl := hc_lt hM
  have dl : 21 + a5.length = 21 + h.length := by omega
  have nl : hc (a5 ++ [.inr (5, [.ref 5, .int 0, .int 0])]) (21 + h.length) = some (.inr (5, [.ref 5, .int 0, .int 0])) := by rw [← dl]; exact hc_new _
  refine ⟨x4, ?_, c14, aL_nil (st1_old s14 nl (by omega)), ?_, ?_, ?_, fun u => ?_⟩
  · rw [e116]
    show b116_0 L xs zf (dM L xs zf w (k + 3)) w (some M) so (some K) m (some nm) pl h = _
    unfold b116_0
    refine ifn (dnl_s _) (bse b1 (bse b2 (bse b3 (bse b4 (bse b5 (bse rfl ?_))))))
    refine bse (a := a5 ++ [.inr (5, [.ref 5, .int 0, .int 0])]) ?_ ?_
    · show (dM L xs zf w (k + 3) 45 [.ref (21 + a5.length)] (a5 ++ [.inr (5, ah_DV 5)])).bind dxV = _
      rw [al_new (k := k)]
      rfl
    · rw [show va_rf (some (21 + a5.length)) = .ref (21 + h.length) from by rw [dl]; rfl]
      exact bse b6 (bse b7 (bse b8 (bse b9 (bse b10 (bse b11 (bse b12 (bse b13 (bse b14 rfl))))))))
  · exact fr_trans (fr_trans s5.1 (fr_app _ _) (fun _ _ u => u)) s14.1 (fun _ _ u => u)
  · rw [s14.2.1, List.length_append, l5]; rfl
  · rw [s14.2.2, zh_app, y5]; rfl
  · exact uA_st e6 (by decide) s14 (uA_ap (Or.inr rfl) (uA_st hM (by decide) s5 u))
/-- an object that is none of the parser's own is written, and others are made -/
theorem SY_fr1 {ci : Nat} {fs : List Value} (h14 : cx 14 = 0) (hM : hc h M = some (.inr (ci, fs))) (hci : ci ≠ 4 ∧ ci ≠ 5 ∧ ci ≠ 6 ∧ ci ≠ 8) (f : fr (fun y => y = M) h h') (u : uA h → uA h') : (∀ v, pC h cx F v → pC h' cx F v) ∧ (∀ pt vr, CH cx q h g ts pt vr → CH cx q h' g ts pt vr) := by
  refine ⟨fun v p => ?_, fun pt vr c => ?_⟩
  · have hP1 := p.1
    obtain ⟨⟨p1, p2, p3, p4, p5, p6⟩, nd, _, e1, _, _, e4, e5, e6⟩ := hP1
    refine pC_fr f (fun z => ?_) (fun z => ?_) (fun z => ?_) (fun z => ?_) (fun z => ?_) p
    · have := pC_r p
      rw [z, hM] at this
      cases this
      exact hci.2.2.1 rfl
    · have := hc_of p4 e4
      rw [z, hM] at this
      cases this
    · have := hc_of p5 e5
      rw [z, hM] at this
      cases this
    · have := hc_of p6 e6
      rw [z, hM] at this
      cases this
    · have := pC_p p
      rw [z, hM] at this
      cases this
      exact hci.2.2.2 rfl
  · obtain ⟨c1, c2, c3, c4, c5⟩ := c
    refine ⟨fr_old f c1 (fun z => by rw [z, hM] at c1; cases c1; exact hci.1 rfl), aL_fr f ?_ ?_ c2, fun x hx => oK_fr f (c3 x hx), u c4, Or.inl h14⟩
    · obtain ⟨mc, e1, _⟩ := c2
      exact fun z => by rw [z, hM] at e1; cases e1; exact hci.2.1 rfl
    · intro h5 y
      obtain ⟨mc, e1, _, _, e3⟩ := c2
      rcases e3 with ⟨z, _⟩ | ⟨f, z, _⟩
      · exact h5 z
      · rw [y, hM] at z; cases z
theorem aL_fr1 {ci l ar cap : Nat} {fs : List Value} {es : List Nat} (hM : hc h M = some (.inr (ci, fs))) (hci : ci ≠ 5) (f : fr (fun y => y = M) h h') (e : aL h l ar cap es) : aL h' l ar cap es := by
  obtain ⟨mc, r1, _, _, r3⟩ := id e
  refine aL_fr f (fun u => ?_) (fun h5 u => ?_) e
  · rw [u, hM] at r1; cases r1; exact hci rfl
  · rcases r3 with ⟨r3, _⟩ | ⟨f0, r3, _⟩
    · exact h5 r3
    · rw [u, hM] at r3; cases r3
theorem aL_app {c : rm_E} {l ar cap : Nat} {es : List Nat} (e : aL h l ar cap es) : aL (h ++ [c]) l ar cap es := aL_fr (fr_app (fun _ => False) c) id (fun _ => id) e
theorem nD_l {ar cap : Nat} {es : List Nat} (l : h'.length ≤ h.length + 1) (e : aL h' (21 + h.length) ar cap es) : nD h h' := by
  obtain ⟨mc, r1, _⟩ := e
  exact nD_1 l r1 (fun _ z => by cases z)
theorem TSI_fr1 {ci : Nat} {fs : List Value} (hM : hc h M = some (.inr (ci, fs))) (hci : ci ≠ 10) (f : fr (fun y => y = M) h h') (nd : nD h h') (t : TSI cx h s g ts) : TSI cx h' s g ts := TSI_0 t f (fun d gs ed u => by
  have u : d = M := u
  rw [u, hM] at ed
  cases ed
  exact hci rfl) nd rfl rfl rfl rfl
theorem TSI_ap {c : rm_E} (hcc : ∀ fs, c ≠ .inr (10, fs)) (t : TSI cx h s g ts) : TSI cx (h ++ [c]) s g ts := TSI_0 t (fr_app (fun _ => False) c) (fun _ _ _ z => z) (nD_ap hcc) rfl rfl rfl rfl
/-- the state of both, by the class's cells alone -/
theorem st_of (z : SY cx F N q h s g ts ∨ FLT cx F N q h s g ts) (fp : ∀ v, pC h cx F v → pC h' cx F v) (fc : ∀ pt vr, CH cx q h g ts pt vr → CH cx q h' g ts pt vr) (ft : TSI cx h s g ts → TSI cx h' s g ts) : (SY cx F N q h' s g ts ∨ FLT cx F N q h' s g ts) ∧ (SY cx F N q h s g ts → SY cx F N q h' s g ts) ∧ (FLT cx F N q h s g ts → FLT cx F N q h' s g ts) ∧ (SY cx F N q h' s g ts → SY cx F N q h s g ts) := by
  have toS : SY cx F N q h s g ts → SY cx F N q h' s g ts := fun y => by
    obtain ⟨⟨p1, t1, rt, ch, cs, b⟩, g6⟩ := y
    exact ⟨⟨fp _ p1, t1, rt, fc _ _ ch, cs, b⟩, g6.1, ft g6.2⟩
  have toF : FLT cx F N q h s g ts → FLT cx F N q h' s g ts := fun y => by
    obtain ⟨⟨v, p1, r⟩, t1, rt, ⟨pt, vr, ch⟩, cs, b⟩ := y
    exact ⟨⟨v, fp _ p1, r⟩, t1, rt, ⟨pt, vr, fc _ _ ch⟩, cs, b⟩
  refine ⟨z.elim (fun u => Or.inl (toS u)) (fun u => Or.inr (toF u)), toS, toF, fun y => ?_⟩
  rcases z with u | u
  · exact u
  · exact (sy_no y (toF u)).elim
end MK
