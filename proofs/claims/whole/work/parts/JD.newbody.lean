/-! A NEW OBJECT: the bodies. -/
section NWB
variable {sB : rS} {A B : Nat → Int32} {mi : Nat → Nat × Nat × Nat × Nat × Nat} {kc : kCi} {om om' : oMg} {ka ka' : kAp} {la : lAy} {ms : mSg} {N N' cn : Nat} {sg sg' sg2 : cS} {s s' s2 S1 : rS} {a b d e lo q0 J l t r i n p q k k2 f0 w P L sz lv : Nat} {xs : Nat → Int32} {zf : Value} {Z : Nat → Prop} {hB h h' : rm_H} {es : List Nat} {x : Nat → Nat → fDs} {D : Nat → Nat} {S S0 X : List stE} {v : Int64} {y : Int32}
variable {kk R : Nat} {em : Nat → Int64} {cf : Nat → Int32} {g : Nat → Int64} {xb : Nat → fDs} {y0 : fDs}
theorem vTy_b (h : vTy ka a t v) (ob4 : ka.2.2.1 ≤ 400) : oV v ≤ ka.2.2.1 := by
  by_cases o0 : oV v = 0
  · omega
  · rcases h with ⟨_, y, h⟩ | ⟨_, h⟩ | ⟨h1, h2, h | ⟨o, o1, o2, o3, _⟩⟩ | ⟨_, _, h | ⟨b, _, h, _⟩⟩ | ⟨_, _, h, _⟩
    · rw [h, oV_1] at o0; exact absurd rfl o0
    · rw [h, oV_0] at o0; exact absurd rfl o0
    · rw [h, oV_0] at o0; exact absurd rfl o0
    · rw [o3, oV_2 (by omega)]; exact o2
    · rw [h, oV_0] at o0; exact absurd rfl o0
    · rw [h, oV_3] at o0; exact absurd rfl o0
    · rw [h, oV_3] at o0; exact absurd rfl o0
theorem va_n {t : Nat} (h : vAl om ka b t v) : vAl (omN om N a ka.2.2.1 (kc kk).1 R em (kc kk).2.1) (kaN ka kk) b t v := ⟨vTy_k h.1 kaX_n, fun z => Or.inl (h.2 z)⟩
theorem sE_n {u : Nat} (gi : GI ka.2.2.1 N om.1 om.2.1 om.2.2.1) (h : sEe om b t r u) (hu : u ≤ ka.2.2.1) : sEe (omN om N a ka.2.2.1 (kc kk).1 R em (kc kk).2.1) b t r u := by
  obtain ⟨h1, h2, lx, l1, l2, l3, l4, l5⟩ := h
  have nx : obP lx ≠ ka.2.2.1 + 1 := fun z => (tgF_n l2) (gi.2.2.2.1 lx (by omega))
  have eT : (omN om N a ka.2.2.1 (kc kk).1 R em (kc kk).2.1).2.1 lx = om.2.1 lx := nw_T nx
  have eW : (omN om N a ka.2.2.1 (kc kk).1 R em (kc kk).2.1).1 lx = om.1 lx := nw_W nx
  have et : tgF (omN om N a ka.2.2.1 (kc kk).1 R em (kc kk).2.1).2.1 (omN om N a ka.2.2.1 (kc kk).1 R em (kc kk).2.1).1 lx = tgF om.2.1 om.1 lx := by
    unfold tgF
    rw [eT, eW]
  have e1 : (omN om N a ka.2.2.1 (kc kk).1 R em (kc kk).2.1).2.2.1.2.1 u = om.2.2.1.2.1 u := nw_r (by omega)
  have e2 : (omN om N a ka.2.2.1 (kc kk).1 R em (kc kk).2.1).2.2.1.2.1 (tgF om.2.1 om.1 lx) = om.2.2.1.2.1 (tgF om.2.1 om.1 lx) := nw_r (by have := gi.2.2.1 lx; omega)
  refine ⟨by rw [e1]; exact h1, fun z => by rw [e1]; exact h2 z, lx, l1, by rw [et]; exact l2, by rw [eT]; exact l3, by rw [nw_H nx]; exact l4, ?_⟩
  rw [et, e1, e2]
  exact l5
theorem fV_n (gi : GI ka.2.2.1 N om.1 om.2.1 om.2.2.1) (ob4 : ka.2.2.1 ≤ 400) (h : fVl sB mi om ka sg s b e y0 S) : fVl sB mi (omN om N a ka.2.2.1 (kc kk).1 R em (kc kk).2.1) (kaN ka kk) (sgO sg la.2.2.2.1 (kc kk).1 ka.2.2.1 cf) (sOb s kk ka.2.2.1 la.2.2.2.1 la.2.2.2.2 (kc kk).1 g) b e y0 S := by
  have rl : ∀ p i, p ≠ 96 → (sOb s kk ka.2.2.1 la.2.2.2.1 la.2.2.2.2 (kc kk).1 g).2.2 p i = s.2.2 p i := fun p i h => by rw [sOb_L, if_neg h]
  obtain ⟨v1, v2, v3, v4⟩ := h
  refine ⟨v1, fun y hy gy => ?_, ?_, sVl_m S v4 (fun y j _ _ hp => ?_)⟩
  · obtain ⟨n1, n2, n3, n4, n5⟩ := v2 y hy gy
    unfold nAm
    rw [nw_W (ob_z ob_N), nw_T (ob_z ob_N), nw_H (ob_z ob_N), rl 101 _ (by decide)]
    exact ⟨va_n n1, n2, n3, n4, n5⟩
  · obtain ⟨tt, t1, t2, t3, t4, t5, t6, t7, t8⟩ := v3
    refine ⟨tt, t1, ?_⟩
    rw [nw_W (ob_z ob_H), nw_T (ob_z ob_H), nw_H (ob_z ob_H), rl 100 _ (by decide)]
    exact ⟨va_n t2, t3, t4, t5, t6, t7, t8⟩
  · obtain ⟨p1, p2, p3, p4, p5, p6⟩ := hp
    unfold pEn
    rw [nw_W (ob_z ob_S), nw_T (ob_z ob_S), nw_H (ob_z ob_S), rl 97 _ (by decide)]
    refine ⟨va_n p1, p2, p3, ?_, p5, p6⟩
    rcases p4 with z | ⟨z1, z2, z3, z4, z5⟩
    · exact Or.inl z
    · exact Or.inr ⟨z1, z2, z3, z4, fun o0 => sE_n gi (z5 o0) (vTy_b p1.1 ob4)⟩
theorem fR_n (h : fRg om N b y0) : fRg (omN om N a ka.2.2.1 (kc kk).1 R em (kc kk).2.1) (N + 1) b y0 := by
  refine ⟨fun j hj => ?_, h.2⟩
  obtain ⟨r1, r2, r3⟩ := h.1 j hj
  refine ⟨r1, Nat.lt_succ_of_lt r2, ?_⟩
  rw [nw_o, if_neg (by omega)]
  exact r3
theorem fOk_n (gi : GI ka.2.2.1 N om.1 om.2.1 om.2.2.1) (ob4 : ka.2.2.1 ≤ 400) (h : fOk sB A B mi om ka N sg s b xb e S) : fOk sB A B mi (omN om N a ka.2.2.1 (kc kk).1 R em (kc kk).2.1) (kaN ka kk) (N + 1) (sgO sg la.2.2.2.1 (kc kk).1 ka.2.2.1 cf) (sOb s kk ka.2.2.1 la.2.2.2.1 la.2.2.2.2 (kc kk).1 g) b xb e S := by
  obtain ⟨⟨p, q, b', j, z1, z2, z3, z4, z5⟩, h2, h3, h4⟩ := h
  exact ⟨⟨p, q, b', j, z1, z2, z3, by rw [sOb_I, if_neg (by omega), if_neg (by omega)]; exact z4, z5⟩, fV_n gi ob4 h2, fR_n h3, h4⟩
theorem fSu_n (gi : GI ka.2.2.1 N om.1 om.2.1 om.2.2.1) (ob4 : ka.2.2.1 ≤ 400) (h : fSu sB A B mi om ka N sg s b xb e) : fSu sB A B mi (omN om N a ka.2.2.1 (kc kk).1 R em (kc kk).2.1) (kaN ka kk) (N + 1) (sgO sg la.2.2.2.1 (kc kk).1 ka.2.2.1 cf) (sOb s kk ka.2.2.1 la.2.2.2.1 la.2.2.2.2 (kc kk).1 g) b xb e := by
  intro e' he
  obtain ⟨S0, t, h1, h2⟩ := h e' he
  exact ⟨S0, t, h1, fOk_n gi ob4 h2⟩
theorem aBd_n {D' : Nat} (gi : GI ka.2.2.1 N om.1 om.2.1 om.2.2.1) (ob4 : ka.2.2.1 ≤ 400) (h : aBd sB A B mi om ka N sg s b xb D') : aBd sB A B mi (omN om N a ka.2.2.1 (kc kk).1 R em (kc kk).2.1) (kaN ka kk) (N + 1) (sgO sg la.2.2.2.1 (kc kk).1 ka.2.2.1 cf) (sOb s kk ka.2.2.1 la.2.2.2.1 la.2.2.2.2 (kc kk).1 g) b xb D' := by
  have r93 : (sOb s kk ka.2.2.1 la.2.2.2.1 la.2.2.2.2 (kc kk).1 g).2.1 93 b = s.2.1 93 b := by rw [sOb_I, if_neg (by omega), if_neg (by omega)]
  rcases h with ⟨h1, h2, h3⟩ | ⟨d0, h1, h2, h3, h4, h5, h6⟩
  · exact Or.inl ⟨h1, h2, r93.trans h3⟩
  · exact Or.inr ⟨d0, h1, h2, fSu_n gi ob4 h3, fOk_n gi ob4 h4, h5, r93.trans h6⟩
theorem it_n (it : iTm sB A B mi kc om ka la ms N cn sg s D x a d) (k8 : kk < 8) (h66 : sB.2.1 66 kk = 0) (nf8 : (kc kk).1 ≤ 8) (room : ∀ cl, cl ≤ 400 → sg.1 5 = Int32.ofNat cl → la.2.2.2.1 + (kc kk).1 + 1 ≤ cl) (hem : ∀ f, f < (kc kk).1 → (∀ k' : kAp, vTy k' 0 ((kc kk).2.1 f) (em f)) ∧ oV (em f) = 0 ∧ cvl (em f) = 0) (R1 : R < N + 1) (Ro : R = N ∨ om.2.2.1.2.2.2.2 R = a)
    (c1 : cf la.2.2.2.1 = Int32.ofNat kk) (c2 : ∀ j, la.2.2.2.1 < j → j < la.2.2.2.1 + (kc kk).1 + 1 → cf j = 0) (c3 : ∀ j, j < la.2.2.2.1 ∨ la.2.2.2.1 + (kc kk).1 + 1 ≤ j → cf j = sg.2.1 0 j)
    (g1 : ∀ f, f < (kc kk).1 → g (400 * a + la.2.2.2.2 + f) = em f) (g2 : ∀ j, (j < 400 * a + la.2.2.2.2 ∨ 400 * a + la.2.2.2.2 + (kc kk).1 ≤ j) → g j = s.2.2 96 j) : iTm sB A B mi kc (omN om N a ka.2.2.1 (kc kk).1 R em (kc kk).2.1) (kaN ka kk) (laN la ka.2.2.1 (kc kk).1) ms (N + 1) cn (sgO sg la.2.2.2.1 (kc kk).1 ka.2.2.1 cf) (sOb s kk ka.2.2.1 la.2.2.2.1 la.2.2.2.2 (kc kk).1 g) D x a d := by
  have ob4 := (it_f it).2.2.2.2.2.2.2.2
  obtain ⟨w, bo, su, ⟨hD, ac, d10⟩, vl, rg, nm, od, lk, so, r93, bb⟩ := it
  have gi := w.2.1
  exact ⟨wAl_n w ac k8 h66 nf8 room hem R1 Ro c1 c2 c3 g1 g2, fun b hb hne => aBd_n gi ob4 (bo b hb hne), fSu_n gi ob4 su, ⟨hD, ac, d10⟩, fV_n gi ob4 vl, fR_n rg, nm, od, lk, so, by rw [sOb_I, if_neg (by omega), if_neg (by omega)]; exact r93, bb⟩
end NWB
