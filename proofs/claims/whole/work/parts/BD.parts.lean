/-! THE CLASS'S PARSER: its counts; a part is added to a Node; what stays of Nodes. -/
/-- a Node's cell, whatever it holds -/
def nW (h : rm_H) (p : Nat) : Prop := ∃ fs, hc h p = some (.inr (12, fs)) ∧ fs.length = 13 ∧ (∃ x, fs[1]? = some (.int x)) ∧ ∃ o, fs[11]? = some (va_rf o)
/-- the parts of Node p, in a list behind place lb with room for cap -/
def pW (h : rm_H) (lb p : Nat) (es : List Nat) (cap : Nat) : Prop := (fd h 12 p 11 = some .null ∧ es = [] ∧ cap = 0) ∨ ∃ l ar, fd h 12 p 11 = some (.ref l) ∧ aL h l ar cap es ∧ lb ≤ l ∧ (ar = 5 ∨ lb ≤ ar)
section PR
variable {L : Nat} {xs : Nat → Int32} {zf : Value} {w k : Nat} {cx : Nat → Nat} {F : Nat → Nat → Int32} {N : Nat → Int64} {q : List Value} {h h1 : rm_H} {s : rS} {g : Nat → Nat} {ts : List Nat} {pt vr : Int32} {v0 : Nat → Int32} {P : Nat → Prop}
theorem nW_fr (f : fr P h h1) {p : Nat} (hn : ¬ P p) (e : nW h p) : nW h1 p := by
  obtain ⟨fs, e1, e2⟩ := e
  exact ⟨fs, fr_old f e1 hn, e2⟩
theorem nW_fd {p : Nat} (e : nW h p) (j : Nat) (hj : j < 13) : ∃ u, fd h 12 p j = some u := by
  obtain ⟨fs, e1, e2, _⟩ := e
  exact ⟨fs[j], by rw [fd_of e1]; exact List.getElem?_eq_getElem (by omega)⟩
theorem nW_pl {p : Nat} (e : nW h p) : ∃ x, fd h 12 p 1 = some (.int x) := by
  obtain ⟨fs, e1, e2, ⟨x, e3⟩, _⟩ := e
  exact ⟨x, by rw [fd_of e1]; exact e3⟩
theorem nW_oK {p : Nat} (e : nW h p) : oK h p := by
  obtain ⟨fs, e1, _⟩ := e
  exact ⟨12, fs, e1, Or.inr (Or.inr (Or.inr rfl))⟩
theorem nW_lt {p : Nat} (e : nW h p) : p < 21 + h.length ∧ 21 ≤ p := by
  obtain ⟨fs, e1, _⟩ := e
  exact ⟨hc_lt e1, hc_ge e1⟩
theorem nW_new (wh pl : Int32) : nW (h ++ [.inr (12, [.int wh, .int pl, .ref 9, .int pl, .int 0, .null, .null, .null, .null, .null, .null, .null, .int 0])]) (21 + h.length) := ⟨_, hc_new _, rfl, ⟨pl, rfl⟩, none, rfl⟩
/-- a field of a Node is written (not its place) -/
theorem nW_w {p j : Nat} {v : Value} (e : nW h p) (hj : j < 13) (h1' : j ≠ 1) (h11 : j = 11 → ∃ o, v = va_rf o) (hf : rm_fit (ah_FT 12 j) v = true) : ∃ h', dpF h j [12] (some p) v = some h' ∧ fd h' 12 p j = some v ∧ (∀ i, i ≠ j → fd h' 12 p i = fd h 12 p i) ∧ st1 p h h' ∧ nW h' p := by
  obtain ⟨fs, e1, e2, ⟨x, e3⟩, o, e4⟩ := e
  obtain ⟨h', a1, a2, a3⟩ := pF_ex (cis := [12]) (v := v) e1 (List.getElem?_eq_getElem (show j < fs.length by omega)) (by decide) hf (by decide)
  refine ⟨h', a1, ?_, fun i hi => ?_, a3, fs.set j v, a2, by rw [List.length_set]; exact e2, ⟨x, ?_⟩, ?_⟩
  · rw [fd_of a2, List.getElem?_set_self (by omega)]
  · rw [fd_of a2, fd_of e1, List.getElem?_set_ne (fun z => hi z.symm)]
  · rw [List.getElem?_set_ne h1']; exact e3
  · by_cases z : j = 11
    · obtain ⟨o2, ho⟩ := h11 z
      subst z
      exact ⟨o2, by rw [List.getElem?_set_self (by omega), ho]⟩
    · exact ⟨o, by rw [List.getElem?_set_ne z]; exact e4⟩
/-- Nodes elsewhere stay -/
theorem nW_st {a p : Nat} (e : nW h p) (w : st1 a h h1) (hp : p ≠ a) : nW h1 p := by
  obtain ⟨fs, e1, e2⟩ := e
  exact ⟨fs, st1_old w e1 hp, e2⟩
theorem cA_of {pl ph root : Nat} (f : fr P h h1) (ho : ∀ y ci fs, pl ≤ y → y < ph → hc h y = some (.inr (ci, fs)) → ¬ P y) (hl : ∀ l ar cap es, pl ≤ l → l < ph → aL h l ar cap es → ar ≠ 5 → ¬ P ar) : cA h h1 pl ph root := by
  refine ⟨fun p ci fs h1 h2 e => Or.inl (fr_old f e (ho p ci fs h1 h2 e)), fun l ar cap es h1 h2 e => ?_⟩
  have e0 := e
  obtain ⟨mc, e1, e2, e2', e3⟩ := e
  refine ⟨mc, fr_old f e1 (ho l _ _ h1 h2 e1), e2, e2', ?_⟩
  rcases e3 with e3 | ⟨f0, e3, e4⟩
  · exact Or.inl e3
  · have h5 : ar ≠ 5 := by have := hc_ge e3; omega
    exact Or.inr ⟨f0, fr_old f e3 (hl l ar cap es h1 h2 e0 h5), e4⟩
/-- what the parser does elsewhere leaves finished Nodes alone -/
theorem cA_M4 {pl ph root : Nat} (hP : pC h cx F v0) (c : CH cx q h g ts pt vr) (f : fr (M4 cx (g 1)) h h1) (hpl : cx 0 < pl ∧ cx 8 < pl ∧ cx 11 < pl ∧ cx 14 < pl) : cA h h1 pl ph root := by
  obtain ⟨c1, c2, c3, c4, c5⟩ := c
  obtain ⟨mc, k1, k2, k2', k3⟩ := id c2
  have ng : ∀ y ci fs, hc h y = some (.inr (ci, fs)) → y ≠ g 1 := by
    intro y ci fs e z
    subst z
    rcases k3 with ⟨z, _⟩ | ⟨f0, z, _⟩
    · have := hc_ge e; omega
    · rw [e] at z; cases z
  refine cA_of f (fun y ci fs h1 h2 e z => ?_) (fun l ar cap es h1 h2 e h5 z => ?_)
  · have := ng y ci fs e
    rcases z with z | z | z | z | z <;> omega
  · obtain ⟨mc2, e1, _, _, e3⟩ := e
    have arr : ∀ ci fs, hc h ar ≠ some (.inr (ci, fs)) := by
      intro ci fs y
      rcases e3 with ⟨e3, _⟩ | ⟨f0, e3, _⟩
      · exact h5 e3
      · rw [e3] at y; cases y
    rcases z with z | z | z | z | z
    · exact arr _ _ (z ▸ pC_r hP)
    · exact arr _ _ (z ▸ c1)
    · exact arr _ _ (z ▸ k1)
    · rcases c5 with c5 | ⟨_, c6⟩
      · rcases e3 with ⟨e3, _⟩ | ⟨f0, e3, _⟩
        · exact h5 e3
        · have := hc_ge e3
          omega
      · exact arr _ _ (z ▸ c6)
    · subst z
      rcases c4.2 _ _ _ _ _ e1 k1 with z | z
      · exact h5 z
      · omega
/-- the program's counts -/
theorem CH_8 {x y : Int32} {fs : List Value} (c : CH cx q h g ts pt vr) (w : st1 (cx 8) h h1) (e : hc h1 (cx 8) = some (pgC cx x y)) : CH cx q h1 g ts x y := by
  obtain ⟨c1, c2, c3, c4, c5⟩ := c
  refine ⟨e, aL_fr w.1 ?_ ?_ c2, fun x hx => oK_fr w.1 (c3 x hx), uA_st c1 (by decide) w c4, mC_fr w.1 (fun fs z y => by rw [y, c1] at z; cases z) c5⟩
  · obtain ⟨mc, e1, _⟩ := c2
    exact fun z => by rw [z, c1] at e1; cases e1
  · intro h5 y
    obtain ⟨mc, e1, _, _, e3⟩ := c2
    rcases e3 with ⟨z, _⟩ | ⟨f, z, _⟩
    · exact h5 z
    · rw [y, c1] at z; cases z
theorem p_parts (hP : pC h cx F v0) (c : CH cx q h g ts pt vr) (x : Int32) : ∃ h', dpF h 4 [4] (some (cx 8)) (.int x) = some h' ∧ pC h' cx F v0 ∧ CH cx q h' g ts x vr ∧ st1 (cx 8) h h' := by
  obtain ⟨h', a1, a2, a3⟩ := pF_ex (j := 4) (cis := [4]) (v := .int x) (u := .int pt) c.1 rfl (by decide) rfl (by decide)
  exact ⟨h', a1, pC_w c.1 (by decide) a3 hP, CH_8 (fs := []) c a3 a2, a3⟩
theorem p_vars (hP : pC h cx F v0) (c : CH cx q h g ts pt vr) (x : Int32) : ∃ h', dpF h 5 [4] (some (cx 8)) (.int x) = some h' ∧ pC h' cx F v0 ∧ CH cx q h' g ts pt x ∧ st1 (cx 8) h h' := by
  obtain ⟨h', a1, a2, a3⟩ := pF_ex (j := 5) (cis := [4]) (v := .int x) (u := .int vr) c.1 rfl (by decide) rfl (by decide)
  exact ⟨h', a1, pC_w c.1 (by decide) a3 hP, CH_8 (fs := []) c a3 a2, a3⟩
theorem p_gp (c : CH cx q h g ts pt vr) : dgI L xs h 4 [4] (some (cx 8)) = some pt := hc_gI c.1 rfl (by decide)
theorem p_gv (c : CH cx q h g ts pt vr) : dgI L xs h 5 [4] (some (cx 8)) = some vr := hc_gI c.1 rfl (by decide)
/-- a list of one's own takes one more: the parser's own cells stay -/
theorem CH_l {l ar cap ar' cap' : Nat} {es es' : List Nat} (hP : pC h cx F v0) (c : CH cx q h g ts pt vr) (e : aL h l ar cap es) (hl : l ≠ cx 11) (e' : aL h1 l ar' cap' es') (f : fr (fun p => p = l ∨ p = ar) h h1) (d : (ar' = ar ∧ h1.length = h.length) ∨ (ar' = 21 + h.length ∧ h1.length = h.length + 1)) : pC h1 cx F v0 ∧ CH cx q h1 g ts pt vr := by
  have u := uA_add c.2.2.2.1 e e' f d
  obtain ⟨c1, c2, c3, c4, c5⟩ := c
  obtain ⟨mc, e1, e2, e2', e3⟩ := e
  obtain ⟨mc2, k1, k2, k2', k3⟩ := id c2
  have arr : ∀ ci fs, hc h ar ≠ some (.inr (ci, fs)) := by
    intro ci fs y
    rcases e3 with ⟨e3, _⟩ | ⟨f0, e3, _⟩
    · have := hc_ge y; omega
    · rw [e3] at y; cases y
  have no : ∀ p ci fs, ci ≠ 5 → hc h p = some (.inr (ci, fs)) → ¬ (p = l ∨ p = ar) := by
    intro p ci fs hci y z
    rcases z with z | z
    · rw [z, e1] at y; cases y; exact hci rfl
    · rw [z] at y; exact arr _ _ y
  have noA : ∀ p n t fx, t ≠ 4 → hc h p = some (.inl (t, n, fx)) → ¬ (p = l ∨ p = ar) := by
    intro p n t fx ht y z
    rcases z with z | z
    · rw [z, e1] at y; cases y
    · rw [z] at y
      rcases e3 with ⟨e3, _⟩ | ⟨f0, e3, _⟩
      · have := hc_ge y; omega
      · rw [e3] at y; cases y; exact ht rfl
  have hP1 := hP.1
  obtain ⟨⟨p1, p2, p3, p4, p5, p6⟩, nd, _, r1, _, _, r4, r5, r6⟩ := hP1
  refine ⟨pC_fr f (no _ _ _ (by decide) (pC_r hP)) (noA _ _ _ _ (by decide) (hc_of p4 r4)) (noA _ _ _ _ (by decide) (hc_of p5 r5)) (noA _ _ _ _ (by decide) (hc_of p6 r6)) (no _ _ _ (by decide) (pC_p hP)) hP, fr_old f c1 (no _ _ _ (by decide) c1), aL_fr f (fun z => z.elim (fun y => hl y.symm) (fun y => arr _ _ (y ▸ k1))) ?_ c2, fun x hx => oK_fr f (c3 x hx), u, mC_fr f (fun fs z => no _ _ _ (by decide) z) c5⟩
  intro h5 z
  rcases z with z | z
  · rcases k3 with ⟨y, _⟩ | ⟨f0, y, _⟩
    · exact h5 y
    · rw [z, e1] at y; cases y
  · rcases c4.2 l (cx 11) ar _ _ e1 (by rw [← z]; exact k1) with w | w
    · exact h5 (z.trans w)
    · exact hl w
/-- one more part -/
theorem ap_of {lb p x cap : Nat} {es : List Nat} (hP : pC h cx F v0) (c : CH cx q h g ts pt vr) (hp : nW h p) (e : pW h lb p es cap) (ho : ∀ y ∈ es, oK h y) (hx : oK h x) (hn : es.length ≤ 99000) (hlb : cx 11 < lb ∧ lb ≤ 21 + h.length ∧ p < lb + 1) : ∃ h' l ar cap', dM L xs zf w (k + 7) 135 [.ref p, .ref x] h = some (none, h') ∧ pW h' lb p (es ++ [x]) cap' ∧ (∀ y ∈ es ++ [x], oK h' y) ∧ pC h' cx F v0 ∧ CH cx q h' g ts pt vr ∧ nW h' p ∧ (∀ j, j ≠ 11 → fd h' 12 p j = fd h 12 p j) ∧ fr (fun y => y = p ∨ y = l ∨ y = ar) h h' ∧ ((∃ fs, hc h l = some (.inr (5, .ref ar :: fs))) ∨ (l = 21 + h.length ∧ ar = 5)) ∧ lb ≤ l ∧ (h'.length ≤ h.length + 2 ∧ nD h h') ∧ zh h' + 4 * cap ≤ zh h + 4 * cap' + 3 ∧ fd h' 12 p 11 = some (.ref l) ∧ ((fd h 12 p 11 = some (.ref l) ∧ ∃ fs, hc h l = some (.inr (5, .ref ar :: fs))) ∨ (l = 21 + h.length ∧ ar = 5)) := by
  have main : ∀ (h0 : rm_H) (l ar cap : Nat), pC h0 cx F v0 → CH cx q h0 g ts pt vr → nW h0 p → fd h0 12 p 11 = some (.ref l) → aL h0 l ar cap es → lb ≤ l → (ar = 5 ∨ lb ≤ ar) → lb ≤ 21 + h0.length → (∀ y ∈ es, oK h0 y) → oK h0 x → ∃ h' ar' cap', b135_18 L xs zf (dM L xs zf w (k + 6)) w (some p) (some x) h0 = some (none, h') ∧ fd h' 12 p 11 = some (.ref l) ∧ aL h' l ar' cap' (es ++ [x]) ∧ (∀ y ∈ es ++ [x], oK h' y) ∧ pC h' cx F v0 ∧ CH cx q h' g ts pt vr ∧ nW h' p ∧ (∀ j, fd h' 12 p j = fd h0 12 p j) ∧ fr (fun y => y = l ∨ y = ar) h0 h' ∧ (h'.length ≤ h0.length + 1 ∧ nD h0 h') ∧ zh h' + 4 * cap ≤ zh h0 + 4 * cap' ∧ (ar' = 5 ∨ lb ≤ ar') := by
    intro h0 l ar cap a1 a2 a3 a4 a5 a6 a6a a6b a7 a8
    obtain ⟨h', ar', cap', b1, b2, b3, b4, b5⟩ := al_add (L := L) (xs := xs) (zf := zf) (w := w) (k := k) a5 a7 a8 hn
    obtain ⟨c1, c2⟩ := CH_l a1 a2 a5 (by omega) b2 b4 b3
    have np : ¬ (p = l ∨ p = ar) := by
      obtain ⟨fs, q1, _⟩ := id a3
      obtain ⟨mc, r1, _, _, r3⟩ := id a5
      intro z
      rcases z with z | z
      · rw [z, r1] at q1; cases q1
      · rcases r3 with ⟨y, _⟩ | ⟨f0, y, _⟩
        · have := hc_ge q1; omega
        · rw [← z, q1] at y; cases y
    refine ⟨h', ar', cap', ?_, fd_old b4 a4 np, b2, fun y hy => ?_, c1, c2, nW_fr b4 np a3, fun j => ?_, b4, ⟨by omega, nD_add b2 b3⟩, b5, by omega⟩
    · unfold b135_18
      refine bse (fd_R (o := some l) a4 (by decide)) ?_
      refine bse (a := ((1 : Int32), h')) ?_ rfl
      rw [al_v a5]
      show (dM L xs zf w (k + 6) 103 [.ref l, .ref x] h0).bind dxI = _
      rw [b1]
      rfl
    · rcases List.mem_append.mp hy with z | z
      · exact oK_fr b4 (a7 y z)
      · rw [List.mem_singleton.mp z]; exact oK_fr b4 a8
    · unfold fd
      rw [b4.2.1 p (by obtain ⟨fs, q1, _⟩ := a3; exact hc_lt q1) np]
  rcases e with ⟨e1, e2, e4⟩ | ⟨l, ar, e1, e2, e3, e5⟩
  · subst e2
    subst e4
    have hl := nW_lt hp
    -- a list is made first
    have c1 := CH_ap (c := .inr (5, [.ref 5, .int 0, .int 0])) (Or.inr rfl) c
    have hp1 : nW (h ++ [.inr (5, [.ref 5, .int 0, .int 0])]) p := nW_fr (fr_app (fun _ => False) _) id hp
    obtain ⟨h2, b1, b2, b3, b4, b5⟩ := nW_w (j := 11) (v := .ref (21 + h.length)) hp1 (by decide) (by decide) (fun _ => ⟨some _, rfl⟩) rfl
    obtain ⟨gs, gp, _⟩ := id hp1
    have hne : 21 + h.length ≠ p := by omega
    have al0 : aL h2 (21 + h.length) 5 0 [] := aL_nil (st1_old b4 (hc_new _) hne)
    obtain ⟨h', ar', cap', d1, d2, d3, d4, d5, d6, d7, d8, d9, d10, d11, d12⟩ := main h2 (21 + h.length) 5 0 (pC_w gp (by decide) b4 (pC_ap hP)) (CH_w gp (by decide) b4 c1) b5 b2 al0 (by omega) (Or.inl rfl) (by have q := b4.2.1; rw [List.length_append] at q; have q : h2.length = h.length + 1 := q; omega) (fun y hy => absurd hy (by simp)) (oK_fr (fr_trans (fr_app (fun y => y = p) _) b4.1 (fun _ _ z => z)) hx)
    refine ⟨h', 21 + h.length, 5, cap', ?_, Or.inr ⟨_, _, d2, d3, by omega, d12⟩, d4, d5, d6, d7, fun j hj => ?_, ?_, Or.inr ⟨rfl, rfl⟩, by omega, ?_, ?_, d2, Or.inr ⟨rfl, rfl⟩⟩
    · rw [e135]
      show b135_0 L xs zf (dM L xs zf w (k + 6)) w (some p) (some x) h = _
      unfold b135_0
      refine bse (fd_R (o := none) e1 (by decide)) (ift (by first | decide | (dsimp only; decide)) (bse rfl ?_))
      refine bse (a := h ++ [.inr (5, [.ref 5, .int 0, .int 0])]) ?_ (bse b1 d1)
      show (dM L xs zf w (k + 6) 45 [.ref (21 + h.length)] (h ++ [.inr (5, ah_DV 5)])).bind dxV = _
      rw [al_new (k := k + 3)]
      rfl
    · rw [d8 j, b3 j hj]
      obtain ⟨fs, q1, _⟩ := hp
      rw [fd_of (hc_up q1), fd_of q1]
    · refine fr_trans (fr_trans (fr_app _ _) b4.1 (fun y _ z => Or.inl z)) d9 (fun y hy z => ?_)
      rcases z with z | z
      · omega
      · exact Or.inr (Or.inr z)
    · have := b4.2.1
      rw [List.length_append] at this
      have : h2.length = h.length + 1 := this
      exact ⟨by omega, nD_trans (nD_st (nD_ap (fun _ z => by cases z)) b4) d9 d10.2⟩
    · rw [b4.2.2, zh_app] at d11
      have d11 : zh h' + 4 * 0 ≤ zh h + 3 + 4 * cap' := d11
      omega
  · obtain ⟨h', ar', cap', d1, d2, d3, d4, d5, d6, d7, d8, d9, d10, d11, d12⟩ := main h l ar cap hP c hp e1 e2 e3 e5 (by omega) ho hx
    obtain ⟨mc, r1, _⟩ := id e2
    refine ⟨h', l, ar, cap', ?_, Or.inr ⟨_, _, d2, d3, e3, d12⟩, d4, d5, d6, d7, fun j _ => d8 j, fr_mono d9 (fun y _ z => Or.inr z), Or.inl ⟨_, r1⟩, e3, ⟨by omega, d10.2⟩, by omega, d2, Or.inl ⟨e1, _, r1⟩⟩
    rw [e135]
    show b135_0 L xs zf (dM L xs zf w (k + 6)) w (some p) (some x) h = _
    unfold b135_0
    exact bse (fd_R (o := some l) e1 (by decide)) (ifn (by first | decide | exact dnl_s _ | (dsimp only; decide)) d1)
end PR
