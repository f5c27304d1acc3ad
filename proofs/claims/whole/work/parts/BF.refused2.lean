/-! BEHIND A FAULT: the reference's parser does nothing more; the class's arguments, types, declarations. -/
section RZ
variable {w k t : Nat} {s : rS}
theorem z325 (h1 : s.1 57 = 1) : rM w (k + 2) 325 [.ref 36] s = some (some (.int 0), s) := by
  rw [y325]
  show s325_0 (rM w (k + 1)) w s = _
  unfold s325_0
  have b : ∀ c : Int32, (rM w (k + 1) 310 [.ref 36, .int c] s).bind rxI = some (0, s) := fun c => by rw [z310 c h1]; rfl
  exact bse (b 43) (ifn (by first | decide | exact dnl_s _ | (dsimp only; decide)) (bse (b 45) (ifn (by first | decide | exact dnl_s _ | (dsimp only; decide)) (bse (b 42) (ifn (by first | decide | exact dnl_s _ | (dsimp only; decide)) (bse (b 60) (ifn (by first | decide | exact dnl_s _ | (dsimp only; decide)) (bse (b 256) (ift (by first | decide | (dsimp only; decide)) rfl)))))))))
theorem z322 (h1 : s.1 57 = 1) (i : Int32) : rM w (k + 1) 322 [.ref 36, .int i] s = some (some (.int 0), s) := by
  rw [y322]
  show s322_0 (rM w k) w i s = _
  unfold s322_0
  exact ifn (le1 h1) rfl
theorem z321 (hw : 1 ≤ w) (h1 : s.1 57 = 1) (i : Int32) : rM w (k + 2) 321 [.ref 36, .int i] s = some (some (.int 0), s) := by
  obtain ⟨w', rfl⟩ : ∃ w', w = w' + 1 := ⟨w - 1, by omega⟩
  rw [y321]
  show s321_0 (rM (w' + 1) (k + 1)) (w' + 1) i s = _
  unfold s321_0
  refine bse (a := ((0 : Int32), s)) (by rw [z322 h1]; rfl) ?_
  rw [s321_6]
  have b : ∀ c : Int32, (rM (w' + 1) (k + 1) 310 [.ref 36, .int c] s).bind rxI = some (0, s) := fun c => by rw [z310 c h1]; rfl
  exact bse (b 46) (ifn (by first | decide | exact dnl_s _ | (dsimp only; decide)) (bse (b 33) (ift (by first | decide | (dsimp only; decide)) rfl)))
theorem z320 (hw : 1 ≤ w) (h1 : s.1 57 = 1) (ht : s.1 56 = Int32.ofNat t) (hl : t ≤ 2000) (i : Int32) : rM w (k + 3) 320 [.ref 36, .int i] s = some (some (.int 0), s) := by
  obtain ⟨w', rfl⟩ : ∃ w', w = w' + 1 := ⟨w - 1, by omega⟩
  have tail : s320_10 (rM (w' + 1) (k + 2)) (w' + 1) i s = some (some (.int 0), s) := by
    unfold s320_10
    refine bse (a := ((0 : Int32), s)) (by rw [z321 (k := k) (by omega) h1]; rfl) ?_
    rw [s320_16]
    exact bse (a := ((0 : Int32), s)) (by rw [z325 (k := k) h1]; rfl) (ift (by first | decide | (dsimp only; decide)) rfl)
  rw [y320]
  show s320_0 (rM (w' + 1) (k + 2)) (w' + 1) i s = _
  unfold s320_0
  by_cases d : mx_f2 .le i 24 = true
  · exact ift d tail
  · exact ifn d (bse (a := s) (by rw [z304 (k := k) h1 ht hl]; rfl) tail)
theorem gt1 (h1 : s.1 57 = 1) : mx_f1 .gt (s.1 57) = true := by rw [h1]; decide
theorem z317 (h1 : s.1 57 = 1) (ht : s.1 56 = Int32.ofNat t) (hl : t ≤ 2000) (i : Int32) : rM w (k + 3) 317 [.ref 36, .int i] s = some (some (.int 0), s) := by
  rw [y317]
  show s317_0 (rM w (k + 2)) w i s = _
  unfold s317_0
  refine ift (gt1 h1) ?_
  unfold s317_22
  exact bse (a := s) (by rw [z304 (k := k) h1 ht hl]; rfl) rfl
theorem z324 (hw : 1 ≤ w) (h1 : s.1 57 = 1) (ht : s.1 56 = Int32.ofNat t) (hl : t ≤ 2000) (i n : Int32) : rM w (k + 4) 324 [.ref 36, .int n, .int i] s = some (none, s) := by
  obtain ⟨w', rfl⟩ : ∃ w', w = w' + 1 := ⟨w - 1, by omega⟩
  rw [y324]
  show s324_0 (rM (w' + 1) (k + 3)) (w' + 1) n i s = _
  unfold s324_0
  refine bse (a := s) (by rw [z308 (k := k) 40 h1 ht hl]; rfl) (ift (ne1 h1) ?_)
  unfold s324_26 s324_27
  rw [s324_31]
  exact ift (by first | decide | (dsimp only; decide)) (bse (a := s) (by rw [z308 (k := k) 41 h1 ht hl]; rfl) rfl)
end RZ
section RFV
variable {L : Nat} {xs : Nat → Int32} {zf : Value} {w k : Nat} {cx : Nat → Nat} {F : Nat → Nat → Int32} {q : List Value} {h h1 : rm_H} {g : Nat → Nat} {ts : List Nat} {pt vr x : Int32} {v : Nat → Int32}
/-- arguments -/
theorem z_args {lb p cap : Nat} {es : List Nat} (hw : 2 ≤ w) (z : ZC cx F q h v x g ts pt vr) (hp : nW h p) (e : pW h lb p es cap) (ho : ∀ y ∈ es, oK h y) (hn : es.length ≤ 99000) (hlb : cx 11 < lb ∧ lb ≤ 21 + h.length ∧ p < lb + 1) (i2 : Int32) : ∃ h' pt' l ar, dM L xs zf w (k + 9) 134 [.ref (cx 7), .ref p, .ref (cx 14), .int i2] h = some (none, h') ∧ ZC cx F q h' v x g ts pt' vr ∧ nW h' p ∧ (∀ j, j ≠ 11 → fd h' 12 p j = fd h 12 p j) ∧ fr (fun y => y = cx 0 ∨ y = cx 8 ∨ y = p ∨ (y = l ∧ lb ≤ l) ∨ y = ar) h h' ∧ (ar = 5 ∨ ∃ fs, hc h l = some (.inr (5, .ref ar :: fs))) ∧ h'.length ≤ h.length + 3 ∧ zh h' ≤ zh h + 100 + 8 * es.length := by
  obtain ⟨w', rfl⟩ : ∃ w', w = w' + 2 := ⟨w - 2, by omega⟩
  have hpl := nW_lt hp
  have npc : ∀ y, y = cx 0 ∨ y = cx 8 → p ≠ y := by
    intro y hy e
    obtain ⟨fs, q1, _⟩ := id hp
    rcases hy with hy | hy
    · rw [e, hy, pC_r z.1] at q1; cases q1
    · rw [e, hy, z.2.2.1] at q1; cases q1
  obtain ⟨h1, a1, a2, a3⟩ := z_take (L := L) (xs := xs) (zf := zf) (w := w' + 2) (k := k + 4) z.2.1 z.1 7 (by decide)
  have z1 := ZC_r a3 z a2
  obtain ⟨h2, pt', b1, b2, b3, b4, b5⟩ := z_expr (L := L) (xs := xs) (zf := zf) (w := w' + 2) (k := k + 2) (by omega) z1 (i2 + 1)
  have z2 : ZC cx F q (h2 ++ [nd0 1 (v 7)]) v x g ts pt' vr := ZC_ap (Or.inl (nd0_5 _ _)) b2
  have f2 : fr (fun y => y = cx 0 ∨ y = cx 8) h (h2 ++ [nd0 1 (v 7)]) := fr_trans (fr_trans (fr_mono a3.1 (fun _ _ y => Or.inl y)) b3 (fun _ _ y => y)) (fr_app _ _) (fun _ _ y => y)
  have np : ¬ (p = cx 0 ∨ p = cx 8) := fun y => y.elim (npc _ (Or.inl rfl)) (npc _ (Or.inr rfl))
  have e2 : pW (h2 ++ [nd0 1 (v 7)]) lb p es cap := by
    rcases e with ⟨q1, q2, q3⟩ | ⟨l, ar, q1, q2, q3⟩
    · exact Or.inl ⟨fd_old f2 q1 np, q2, q3⟩
    · refine Or.inr ⟨l, ar, fd_old f2 q1 np, aL_fr f2 ?_ ?_ q2, q3⟩
      · obtain ⟨mc, r1, _⟩ := q2
        intro y
        rcases y with y | y
        · rw [y, pC_r z.1] at r1; cases r1
        · rw [y, z.2.2.1] at r1; cases r1
      · obtain ⟨mc, r1, _, _, r3⟩ := q2
        intro h5 y
        rcases r3 with ⟨r3, _⟩ | ⟨f0, r3, _⟩
        · exact h5 r3
        · rcases y with y | y
          · rw [y, pC_r z.1] at r3; cases r3
          · rw [y, z.2.2.1] at r3; cases r3
  have hx : oK (h2 ++ [nd0 1 (v 7)]) (21 + h2.length) := nW_oK (nW_new _ _)
  obtain ⟨h3, l, ar, cap', c1, c2, c3, c4, c5, c6, c7, c8, c9, c10, c11, c12, _, _⟩ := ap_of (L := L) (xs := xs) (zf := zf) (w := w' + 2) (k := k + 1) z2.1 z2.2.2 (nW_fr f2 np hp) e2 (fun y hy => oK_fr f2 (ho y hy)) hx hn ⟨hlb.1, by have := f2.1; omega, hlb.2.2⟩
  have z3 : ZC cx F q h3 v x g ts pt' vr := ⟨c4, z.2.1, c5⟩
  obtain ⟨h4, d1, d2, d3⟩ := y_skipF (L := L) (xs := xs) (zf := zf) (w := w' + 2) (k := k + 4) c4 10 (by rw [z.2.1.2.1]; decide)
  have z4 := ZC_r d3 z3 d2
  obtain ⟨h5, e1, e2', e3⟩ := z_take (L := L) (xs := xs) (zf := zf) (w := w' + 2) (k := k + 4) z4.2.1 z4.1 8 (by decide)
  have np0 : p ≠ cx 0 := npc _ (Or.inl rfl)
  have len : (h2 ++ [nd0 1 (v 7)]).length = h.length + 1 := by
    rw [List.length_append, b4, a3.2.1]; rfl
  refine ⟨h5, pt', l, ar, ?_, ZC_r e3 z4 e2', nW_st (nW_st c6 d3 np0) e3 np0, fun j hj => ?_, ?_, ?_, ?_, ?_⟩
  · rw [e134]
    show b134_0 L xs zf (dM L xs zf (w' + 2) (k + 8)) (w' + 2) (some (cx 7)) (some p) (some (cx 14)) i2 h = _
    unfold b134_0
    refine bse (a := h1) (by rw [c_pv z.1, a1]; rfl) ?_
    have i6 := c_I (L := L) (xs := xs) a2 6 (by omega)
    rw [z.2.1.2.1] at i6
    refine bse (c_in a2) (bse i6 (ifn (by first | decide | exact dnl_s _ | (dsimp only; decide)) ?_))
    unfold b134_23
    rw [b134_28]
    refine ifn (by first | decide | exact dnl_s _ | (dsimp only; decide)) (ifn (by first | decide | exact dnl_s _ | (dsimp only; decide)) (ift (by first | decide | (dsimp only; decide)) ?_))
    unfold b134_54
    refine bse (a := (some (21 + h2.length), h2 ++ [nd0 1 (v 7)])) (by rw [c_pv a2, va_s, b1]; rfl) ?_
    refine bse (a := h3) ?_ ?_
    · obtain ⟨fs, q1, _⟩ := nW_fr f2 np hp
      rw [hc_v q1 (by decide), show va_rf (some (21 + h2.length)) = .ref (21 + h2.length) from rfl, c1]
      rfl
    refine bse (a := ((0 : Int32), h4)) (by rw [c_pv c4, d1]; rfl) ?_
    rw [b134_28]
    refine ift (by first | decide | (dsimp only; decide)) ?_
    unfold b134_80
    exact bse (a := h5) (by rw [c_pv d2, e1]; rfl) rfl
  · rw [fd_st e3 np0, fd_st d3 np0, c7 j hj]
    obtain ⟨fs, q1, _⟩ := id hp
    rw [fd_of (fr_old f2 q1 np), fd_of q1]
  · refine fr_trans (fr_trans (fr_trans (fr_mono f2 (fun y _ u => ?_)) c8 (fun y hy u => ?_)) d3.1 (fun _ _ u => Or.inl u)) e3.1 (fun _ _ u => Or.inl u)
    · rcases u with u | u
      · exact Or.inl u
      · exact Or.inr (Or.inl u)
    · rcases u with u | u | u
      · exact Or.inr (Or.inr (Or.inl u))
      · exact Or.inr (Or.inr (Or.inr (Or.inl ⟨u, c10⟩)))
      · exact Or.inr (Or.inr (Or.inr (Or.inr u)))
  · rcases c9 with ⟨fs, q1⟩ | ⟨q1, q2⟩
    · by_cases hl : l < 21 + h.length
      · right
        refine ⟨fs, ?_⟩
        rw [← f2.2.1 l hl ?_]
        · exact q1
        · intro y
          have : ∃ gs, hc (h2 ++ [nd0 1 (v 7)]) l = some (.inr (5, gs)) := ⟨_, q1⟩
          obtain ⟨gs, q3⟩ := this
          rcases y with y | y
          · rw [y, pC_r z2.1] at q3; cases q3
          · rw [y, z2.2.2.1] at q3; cases q3
      · exfalso
        have : l = 21 + h2.length := by
          have := hc_lt q1
          rw [List.length_append] at this
          have : l < 21 + (h2.length + 1) := this
          have h2l : h2.length = h.length := by rw [b4, a3.2.1]
          omega
        rw [this, hc_new] at q1
        cases q1
    · exact Or.inl q2
  · rw [e3.2.1, d3.2.1]
    omega
  · have cl : cap' ≤ 2 * (es.length + 1) + 10 := by
      rcases c2 with ⟨_, q2, _⟩ | ⟨l2, ar2, _, q2, _⟩
      · exact absurd q2 (by simp)
      · obtain ⟨mc, _, _, q3, _⟩ := q2
        rw [List.length_append] at q3
        exact q3
    rw [zh_nd, b5, a3.2.2] at c12
    rw [e3.2.2, d3.2.2]
    omega
end RFV
