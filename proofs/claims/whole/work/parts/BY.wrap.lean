/-! A NODE AROUND A NODE: what stands before a dot or an operator becomes a part. -/
section WR
variable {L : Nat} {xs : Nat → Int32} {zf : Value} {w k i : Nat} {cx : Nat → Nat} {F : Nat → Nat → Int32} {N : Nat → Int64} {q : List Value} {h h' h1 h2 : rm_H} {s s' s1 s2 : rS} {g g' g1 g2 : Nat → Nat} {ts ts' ts1 ts2 : List Nat} {v : Nat → Int32} {pt vr : Int32}
/-- the cell of the new Node -/
abbrev wrC (W pl : Int32) (x : Nat) : rm_E := .inr (12, [.int W, .int pl, .ref 9, .int pl, .int 0, .null, .ref x, .null, .null, .null, .null, .null, .int 0])
theorem c_137 {x : Nat} {pl : Int32} (W : Int32) (p : pC h cx F v) (ch : CH cx q h g ts pt vr) (nx : nW h x) (hx : fd h 12 x 1 = some (.int pl)) : ∃ h4, dM L xs zf w (k + 2) 137 [.ref (cx 7), .int W, .ref x] h = some (some (.ref (21 + h.length)), h4) ∧ pC h4 cx F v ∧ CH cx q h4 g ts (pt + 1) vr ∧ hc h4 (21 + h.length) = some (wrC W pl x) ∧ nW h4 x ∧ fd h4 12 x 7 = some (.ref (21 + h.length)) ∧ (∀ j, j ≠ 7 → fd h4 12 x j = fd h 12 x j) ∧ fr (fun y => y = x ∨ y = cx 8) h h4 ∧ h4.length = h.length + 1 ∧ zh h4 = zh h + 13 := by
  have xl := nW_lt nx
  have hd : hc (h ++ [nd0 W pl]) (21 + h.length) = some (nd0 W pl) := hc_new _
  have p1 : pC (h ++ [nd0 W pl]) cx F v := pC_ap p
  have c1 : CH cx q (h ++ [nd0 W pl]) g ts pt vr := CH_ap (Or.inl (nd0_5 _ _)) ch
  obtain ⟨h2, b1, b2, b3⟩ := pF_ex (j := 6) (cis := [12]) (v := .ref x) (u := .null) hd rfl (by decide) rfl (by decide)
  have b2 : hc h2 (21 + h.length) = some (wrC W pl x) := b2
  have p2 := pC_w hd (by decide) b3 p1
  have c2 := CH_w hd (by decide) b3 c1
  have f02 : fr (fun _ => False) h h2 := fr_trans (fr_app _ _) b3.1 (fun y hy u => by omega)
  have nx2 : nW h2 x := nW_fr f02 id nx
  obtain ⟨h3, d1, d2, d3, d4, d5⟩ := nW_w (j := 7) (v := .ref (21 + h.length)) nx2 (by decide) (by decide) (fun e => absurd e (by decide)) rfl
  obtain ⟨fs, ex, _⟩ := id nx2
  have p3 := pC_w ex (by decide) d4 p2
  have c3 := CH_w ex (by decide) d4 c2
  obtain ⟨h4, e1, e2, e3, e4⟩ := p_parts p3 c3 (pt + 1)
  have x8 : x ≠ cx 8 := fun e => by rw [e, c2.1] at ex; cases ex
  have p8 : 21 + h.length ≠ cx 8 := by have := hc_lt ch.1; omega
  have fdx : ∀ j, fd h2 12 x j = fd h 12 x j := by
    intro j
    unfold fd
    rw [f02.2.1 x xl.1 id]
  have l3 : h4.length = h.length + 1 := by rw [e4.2.1, d4.2.1, b3.2.1, List.length_append]; rfl
  have y3 : zh h4 = zh h + 13 := by rw [e4.2.2, d4.2.2, b3.2.2, zh_nd]
  refine ⟨h4, ?_, e2, e3, st1_old e4 (st1_old d4 b2 (by omega)) p8, nW_st d5 e4 x8, ?_, fun j hj => ?_, ?_, l3, y3⟩
  · rw [e137]
    show b137_0 L xs zf (dM L xs zf w (k + 1)) w (some (cx 7)) W (some x) h = _
    unfold b137_0
    refine bse rfl (bse (fd_I (fd_up hx) (by decide)) (bse (a := h ++ [nd0 W pl]) ?_ ?_))
    · show (dM L xs zf w (k + 1) 120 [.ref (21 + h.length), .int W, .int pl] (h ++ [.inr (12, ah_DV 12)])).bind dxV = _
      rw [nd_new (k := k)]
      rfl
    · refine bse b1 (bse d1 ?_)
      exact bse (c_out p3) (bse (p_gp c3) (bse e1 rfl))
  · rw [fd_st e4 x8]; exact d2
  · rw [fd_st e4 x8, d3 j hj, fdx j]
  · refine fr_trans (fr_trans (fr_mono f02 (fun _ _ u => u.elim)) d4.1 (fun _ _ u => Or.inl u)) e4.1 (fun _ _ u => Or.inr u)
/-- what was below stays, but for the root's field 7 -/
theorem cA_x {x pl ph : Nat} (p : pC h cx F v) (ch : CH cx q h g ts pt vr) (nx : nW h x) (h7 : ∀ j, j ≠ 7 → fd h1 12 x j = fd h 12 x j) (f : fr (fun y => y = x ∨ y = cx 0 ∨ y = cx 8) h h1) (hpl : cx 0 < pl ∧ cx 8 < pl) : cA h h1 pl ph x := by
  obtain ⟨gs, ex, e13, _⟩ := id nx
  refine ⟨fun y ci fs y1 y2 e => ?_, fun l ar cap es l1 l2 e => ?_⟩
  · by_cases hy : y = x
    · subst hy
      rw [ex] at e
      cases e
      obtain ⟨fs2, g1, _⟩ := f.2.2.1 y 12 gs ex
      refine Or.inr ⟨fs2, g1, Or.inl ⟨rfl, fun j _ hj => ?_, ?_⟩⟩
      · by_cases j7 : j = 7
        · exact absurd rfl (hj j7)
        · have := h7 j j7
          rw [fd_of g1, fd_of ex] at this
          exact this
      · have := h7 12 (by decide)
        rw [fd_of g1, fd_of ex] at this
        rw [this]
    · exact Or.inl (fr_old f e (fun u => by rcases u with u | u | u <;> omega))
  · obtain ⟨mc, e1, e2, e2', e3⟩ := e
    refine aL_fr f (fun u => ?_) (fun h5 u => ?_) ⟨mc, e1, e2, e2', e3⟩
    · rcases u with u | u | u
      · rw [u, ex] at e1; cases e1
      · omega
      · omega
    · rcases e3 with ⟨e3, _⟩ | ⟨f0, e3, _⟩
      · exact h5 e3
      · rcases u with u | u | u
        · rw [u, ex] at e3; cases e3
        · rw [u, pC_r p] at e3; cases e3
        · rw [u, ch.1] at e3; cases e3
/-- an operator of both -/
theorem op_tok {T so va : Int32} (e : TR0 T so va) : (15 ≤ T.toInt ∧ T.toInt ≤ 19) ↔ ((so = 5 ∧ va = 43) ∨ (so = 5 ∧ va = 45) ∨ (so = 5 ∧ va = 42) ∨ (so = 5 ∧ va = 60) ∨ (so = 5 ∧ va = 256)) := by
  rw [sg_iff e P43, sg_iff e P45, sg_iff e P42, sg_iff e P60, sg_iff e P256]
  obtain ⟨j, hj, ej⟩ := tk_44 e
  have all : ∀ j, j < 44 → ((15 ≤ (Int32.ofNat j).toInt ∧ (Int32.ofNat j).toInt ≤ 19) ↔ (Int32.ofNat j = 16 ∨ Int32.ofNat j = 17 ∨ Int32.ofNat j = 18 ∨ Int32.ofNat j = 15 ∨ Int32.ofNat j = 19)) := by decide +kernel
  rw [ej]
  exact all j hj
theorem op_S {T so va : Int32} (e : TR0 T so va) (ho : 15 ≤ T.toInt ∧ T.toInt ≤ 19) : opS T va := by
  have := (op_tok e).mp ho
  unfold opS
  rcases this with u | u | u | u | u
  · exact Or.inr (Or.inl ⟨(sg_iff e P43).mp u, u.2⟩)
  · exact Or.inr (Or.inr (Or.inl ⟨(sg_iff e P45).mp u, u.2⟩))
  · exact Or.inr (Or.inr (Or.inr (Or.inl ⟨(sg_iff e P42).mp u, u.2⟩)))
  · exact Or.inl ⟨(sg_iff e P60).mp u, u.2⟩
  · exact Or.inr (Or.inr (Or.inr (Or.inr ⟨(sg_iff e P256).mp u, u.2⟩)))
theorem q325 (hT : TF cx F N) (z : SY cx F N q h s g ts) : rM w (k + 2) 325 [.ref 36] s = some (some (.int (rd_01 (decide (15 ≤ (ctk cx F (g 0)).toInt ∧ (ctk cx F (g 0)).toInt ≤ 19)))), s) := by
  obtain ⟨⟨p, ⟨a1, a2, a3, a4⟩, rt, ch, ⟨c1, c2, c3, c4⟩, b1, b2, b3, b4⟩, g6⟩ := id z
  have hl : g 0 ≤ 2000 := by have := hT.1; omega
  obtain ⟨⟨f5, _, tr⟩, _⟩ := hT.2.2 (g 0) b1
  have ot := op_tok tr
  have b : ∀ c : Int32, (rM w (k + 1) 310 [.ref 36, .int c] s).bind rxI = some (rd_01 (decide (F 4 (g 0) = 5 ∧ F 6 (g 0) = c)), s) := by
    intro c
    rw [q310 c a1 c1 hl, rt.1, rt.2.2.1]
    rfl
  have yes : ∀ c : Int32, (F 4 (g 0) = 5 ∧ F 6 (g 0) = c) → (rM w (k + 1) 310 [.ref 36, .int c] s).bind rxI = some (rd_01 true, s) := fun c hc => by rw [b c, decide_eq_true hc]
  have no : ∀ c : Int32, ¬ (F 4 (g 0) = 5 ∧ F 6 (g 0) = c) → (rM w (k + 1) 310 [.ref 36, .int c] s).bind rxI = some (rd_01 false, s) := fun c hc => by rw [b c, decide_eq_false hc]
  have tt : mx_f1 .ne (rd_01 true) = true := by decide
  have tf : ¬ mx_f1 .ne (rd_01 false) = true := by decide
  rw [y325]
  show s325_0 (rM w (k + 1)) w s = _
  unfold s325_0
  by_cases d1 : F 4 (g 0) = 5 ∧ F 6 (g 0) = 43
  · rw [decide_eq_true (ot.mpr (Or.inl d1))]
    exact bse (yes 43 d1) (ift tt rfl)
  refine bse (no 43 d1) (ifn tf ?_)
  by_cases d2 : F 4 (g 0) = 5 ∧ F 6 (g 0) = 45
  · rw [decide_eq_true (ot.mpr (Or.inr (Or.inl d2)))]
    exact bse (yes 45 d2) (ift tt rfl)
  refine bse (no 45 d2) (ifn tf ?_)
  by_cases d3 : F 4 (g 0) = 5 ∧ F 6 (g 0) = 42
  · rw [decide_eq_true (ot.mpr (Or.inr (Or.inr (Or.inl d3))))]
    exact bse (yes 42 d3) (ift tt rfl)
  refine bse (no 42 d3) (ifn tf ?_)
  by_cases d4 : F 4 (g 0) = 5 ∧ F 6 (g 0) = 60
  · rw [decide_eq_true (ot.mpr (Or.inr (Or.inr (Or.inr (Or.inl d4)))))]
    exact bse (yes 60 d4) (ift tt rfl)
  refine bse (no 60 d4) (ifn tf ?_)
  by_cases d5 : F 4 (g 0) = 5 ∧ F 6 (g 0) = 256
  · rw [decide_eq_true (ot.mpr (Or.inr (Or.inr (Or.inr (Or.inr d5)))))]
    exact bse (yes 256 d5) (ifn (show ¬ mx_f1 .eq (rd_01 true) = true by decide) rfl)
  rw [decide_eq_false (fun u => by
    rcases ot.mp u with e | e | e | e | e
    · exact d1 e
    · exact d2 e
    · exact d3 e
    · exact d4 e
    · exact d5 e)]
  exact bse (no 256 d5) (ift (show mx_f1 .eq (rd_01 false) = true by decide) rfl)
end WR
