/-! ALL IS READ, by both. -/
/-- the class's reader before its first token -/
def v00 (cx : Nat → Nat) : Nat → Int32 := fun x => if x = 4 then Int32.ofNat (cx 15) else if x = 5 then -1 else if x = 6 then 0 else if x = 7 then 0 else -1
/-- the program's cell with a fault at x -/
def pgF (cx : Nat → Nat) (pt vr x : Int32) : rm_E := .inr (4, [.int (Int32.ofNat (cx 6)), .ref (cx 9), .ref (cx 10), .ref (cx 11), .int pt, .int vr, .null, .int 1, .int x, .ref (cx 12), .ref (cx 13), .int 0])
section KJ
variable {L : Nat} {xs : Nat → Int32} {zf : Value} {w k k2 i : Nat} {cx : Nat → Nat} {F : Nat → Nat → Int32} {N : Nat → Int64} {q : List Value} {h0 h h' h1 h2 : rm_H} {s0 s s' s1 s2 : rS} {g0 g g' : Nat → Nat} {ts ts' : List Nat} {K a9 c9 a10 c10 A B a90 c90 a100 c100 : Nat} {v : Nat → Int32} {pt vr i1 x : Int32} {kl ml : List Nat} {P : Nat → Prop}
theorem vS_adv0 (hT : TF cx F N) : ∀ j, 4 ≤ j → j ≤ 8 → vS cx F 0 j = adV (cx 6) (F 1) (F 2) (v00 cx) j := by
  obtain ⟨⟨t1, t2, t3⟩, _⟩ := hT
  have c4 : (Int32.ofNat (cx 15)).toInt = (cx 15 : Int) := of_int (by omega)
  have w4 : v00 cx 4 = Int32.ofNat (cx 15) := rfl
  have w5 : v00 cx 5 = -1 := rfl
  have w8 : v00 cx 8 = -1 := rfl
  have m1 : (-1 : Int32).toInt = -1 := by decide
  have ad : adC (v00 cx) = upd (v00 cx) 5 (Int32.ofNat 0) := by
    unfold adC
    rw [w5, w4, if_pos (by omega)]
    rfl
  intro j h4 h8
  unfold adV
  rw [if_pos w8, ad, upd_eq, upd_ne _ _ (show (4 : Nat) ≠ 5 by decide), w4, c4, of_int (by omega), of_clamp (by omega)]
  have : j = 4 ∨ j = 5 ∨ j = 6 ∨ j = 7 ∨ j = 8 := by omega
  by_cases q : 0 < cx 15
  · rw [if_pos (by omega)]
    rcases this with e | e | e | e | e <;> subst e
    · rfl
    · rfl
    · show ctk cx F 0 = F 1 0
      exact if_pos q
    · show cpl cx F 0 = F 2 0
      exact if_pos q
    · rfl
  · rw [if_neg (by omega)]
    rcases this with e | e | e | e | e <;> subst e
    · rfl
    · rfl
    · show ctk cx F 0 = 0
      exact if_neg q
    · show cpl cx F 0 = Int32.ofNat (cx 6)
      exact if_neg q
    · rfl
/-- the class notes the fault -/
theorem c_note (e : hc h (cx 8) = some (pgC cx pt vr)) (hx : x ≠ -1) : ∃ h', dM L xs zf w (k + 1) 144 [.ref (cx 8), .int 1, .int x] h = some (none, h') ∧ hc h' (cx 8) = some (pgF cx pt vr x) ∧ st1 (cx 8) h h' := by
  obtain ⟨h1, b1, b2, b3⟩ := pF_ex (j := 7) (cis := [4]) (v := .int 1) (u := .int 0) e rfl (by decide) rfl (by decide)
  obtain ⟨h2, d1, d2, d3⟩ := pF_ex (j := 8) (cis := [4]) (v := .int x) (u := .int (-1)) b2 rfl (by decide) rfl (by decide)
  have g8 : dgI L xs h 8 [4] (some (cx 8)) = some (-1) := hc_gI e rfl (by decide)
  have g7 : dgI L xs h 7 [4] (some (cx 8)) = some 0 := hc_gI e rfl (by decide)
  have b41 : b144_41 L xs zf (dM L xs zf w k) w (some (cx 8)) 1 x h = some (none, h2) := by
    unfold b144_41
    rw [b1, Option.bind_some, d1, Option.bind_some]
    rfl
  have b29 : ∀ y, b144_29 L xs zf (dM L xs zf w k) w (some (cx 8)) 1 x y h = some (none, h2) := by
    intro y
    unfold b144_29
    rw [g7, Option.bind_some, if_pos (by decide)]
    exact b41
  refine ⟨h2, ?_, d2, st1_trans b3 d3⟩
  rw [e144]
  show b144_0 L xs zf (dM L xs zf w k) w (some (cx 8)) 1 x h = _
  unfold b144_0
  rw [g8, Option.bind_some]
  split
  · exact b29 1
  · rw [Option.bind_some, if_pos (by rw [f2_ne]; exact decide_eq_true hx)]
    exact b29 0
/-- all of it -/
theorem x_read (hT : TF cx F N) (hw : 2100 ≤ w) (h14 : cx 14 = 0) (n9 : cx 9 ≠ cx 11) (n10 : cx 10 ≠ cx 11) (n90 : cx 9 ≠ cx 10) (p0 : pC h cx F (v00 cx)) (ch : CH cx q h g [] (s.1 24) (s.1 25)) (a : s.1 57 = 0 ∧ s.1 58 = -1 ∧ (cx 14 ≠ 0 → s.1 59 = Int32.ofNat (g 3)) ∧ g 3 ≤ 16) (rt : rTk F N s) (cs : CS s g) (hD : ∀ d fs, cx 8 ≤ d → hc h d ≠ some (.inr (10, fs))) (b : g 0 = 0 ∧ g 4 ≤ 1 ∧ g 5 = 0 ∧ g 6 = 0) (x32 : s.1 32 = 0) (x38 : s.1 38 = 0) (x42 : s.1 42 = 0) (x52 : s.1 52 = 0) (x77 : s.2.1 77 0 = 0) (e9 : aL h (cx 9) a9 c9 []) (e10 : aL h (cx 10) a10 c10 []) : ∃ h' s' g' ts', dM L xs zf w (202 + k) 91 [.ref (cx 7)] h = some (none, h') ∧ rM w (102 + k2) 302 [.ref 36] s = some (none, s') ∧ OPV (fun y => y = cx 9 ∨ (y = a9 ∧ 21 ≤ y) ∨ y = cx 10 ∨ (y = a10 ∧ 21 ≤ y)) cx (4 * c9 + 4 * c10) 3000 h g h' g' ∧ (g' 6 ≤ 1010 ∧ g' 2 ≤ 2 * (g' 0 + g' 6) + 10 ∧ (cx 15 = 0 → g' 6 = 0)) ∧ g' 0 ≤ cx 16 ∧ rKd s s' 0 0 0 0 ∧ rTk F N s' ∧ ((∃ kl ml a9 c9 a10 c10, SY cx F N q h' s' g' ts' ∧ kl.length ≤ 8 ∧ kl.length ≠ 0 ∧ s'.1 32 = Int32.ofNat kl.length ∧ aL h' (cx 9) a9 c9 kl ∧ (∀ y ∈ kl, oK h' y) ∧ aL h' (cx 10) a10 c10 ml ∧ (∀ y ∈ ml, oK h' y) ∧ KJs L xs cx F N q (21 + h.length) h' s' g' ts' kl ml) ∨ (s'.1 57 = 1 ∧ s'.1 58 ≠ -1 ∧ uA h' ∧ ∃ pt vr, hc h' (cx 8) = some (pgF cx pt vr (s'.1 58)))) := by
  have hT1 := hT.1
  obtain ⟨b0, b4, b5, b6⟩ := b
  obtain ⟨h1, d1, d2, d3⟩ := c_adv (L := L) (xs := xs) (zf := zf) (w := w) (k := 198 + k) p0
  rw [show 198 + k + 3 = 201 + k from by omega] at d1
  have p1 : pC h1 cx F (vS cx F 0) := pC_ext d2 (vS_adv0 hT)
  have ch1 := CH_r p0 d3 ch
  have l1 := d3.2.1
  have sz : SZ cx F N q h1 s g [] := by
    refine ⟨⟨by rw [b0]; exact p1, a, rt, ch1, cs, ?_⟩, b6, ⟨fun d fs h8 e => ?_, fun d hd => (List.not_mem_nil hd).elim, fun y hy => by omega, fun n n1 n2 => by omega, fun hh => absurd h14 hh⟩⟩
    rotate_left
    · obtain ⟨fs1, e1'⟩ := fr_back d3.1 e (by have := hc_lt e; omega)
      exact absurd e1' (hD d fs1 h8)
    show g 0 ≤ _ ∧ (0 : Nat) ≤ g 0 ∧ g 4 ≤ g 0 + 2 ∧ g 5 ≤ g 0
    omega
  have hA : bl cx (21 + h.length) := ⟨hc_lt (pC_r p0), hc_lt ch.1, (aL_lt ch.2.1).1, by omega⟩
  have res := x_kinds (L := L) (xs := xs) (zf := zf) (w := w) (k := k) (k2 := k2) (A := 21 + h.length) (a90 := a9) (c90 := c9) (a100 := a10) (c100 := c10) (h0 := h) (s0 := s) (g0 := g) hT hw h14 hA ⟨(aL_lt e9).1, (aL_lt e10).1⟩ (Nat.le_refl _) n9 n10 n90 8 [] [] a9 c9 a10 c10 h1 s g [] (w - 1) (w - 2) rfl (by omega) (by omega) (OPV_le (OPV_st d3) (by show _ ≤ 0 + (4 * c9 + 4 * c10 + 216 * 0); omega)) (by omega) (rKd_ty ⟨fun _ _ _ _ _ => rfl, fun _ _ => rfl, fun _ _ => rfl⟩) x32 (aL_st (pC_r p0) (by decide) d3 e9) (fun y hy => (by cases hy)) (aL_st (pC_r p0) (by decide) d3 e10) (fun y hy => (by cases hy)) (Or.inl rfl) (Or.inl rfl) (Or.inl ⟨sz, Nat.le_refl _, x42, fun e => absurd rfl e, 0, 0, Nat.le_refl _, x38, Nat.le_refl _, x52, x77, fun j K hj => (by cases hj)⟩)
  rw [show w - 1 + 1 = w from by omega, show w - 2 + 2 = w from by omega] at res
  have res2 : ∃ h2 s2 g2 t2, b91_9 L xs zf (dM L xs zf w (201 + k)) w w (some (cx 7)) (Int32.ofNat ([] : List Nat).length) h1 = b91_130 L xs zf (dM L xs zf w (201 + k)) w (some (cx 7)) h2 ∧ s302_0 (rM w (101 + k2)) w w s = some (none, s2) ∧ OPV (fun y => y = cx 9 ∨ (y = a9 ∧ 21 ≤ y) ∨ y = cx 10 ∨ (y = a10 ∧ 21 ≤ y)) cx (4 * c9 + 4 * c10) 3000 h g h2 g2 ∧ (g2 6 ≤ 1010 ∧ (cx 15 = 0 → g2 6 = 0)) ∧ rKd s s2 0 0 0 0 ∧ ((∃ kl ml a9 c9 a10 c10, SY cx F N q h2 s2 g2 t2 ∧ kl.length ≤ 8 ∧ kl.length ≠ 0 ∧ s2.1 32 = Int32.ofNat kl.length ∧ aL h2 (cx 9) a9 c9 kl ∧ (∀ y ∈ kl, oK h2 y) ∧ aL h2 (cx 10) a10 c10 ml ∧ (∀ y ∈ ml, oK h2 y) ∧ KJs L xs cx F N q (21 + h.length) h2 s2 g2 t2 kl ml) ∨ FLT cx F N q h2 s2 g2 t2) := by
    by_cases c15 : cx 15 = 0
    · have b9 : c9 ≤ 10 := by obtain ⟨_, _, _, e, _⟩ := e9; exact e
      have b10 : c10 ≤ 10 := by obtain ⟨_, _, _, e, _⟩ := e10; exact e
      have tk0 : ctk cx F (g 0) = 0 := by
        unfold ctk
        rw [if_neg (by omega)]
      have ks := k_stop (L := L) (xs := xs) (zf := zf) (w := w) (k := k) (k2 := k2) (kl := []) hT sz x32 (Nat.zero_le _) (fun u => by
        rw [tk0] at u
        exact absurd u.2 (by decide)) (w - 1) (w - 2)
      rw [show w - 1 + 1 = w from by omega, show w - 2 + 2 = w from by omega] at ks
      rcases ks with ⟨kn, _⟩ | ⟨h2, c, r, f, wr⟩
      · exact absurd rfl kn
      · exact ⟨h2, _, g, [], c, r, OPV_le (OPV_trans (OPV_st d3) (OPV_st (P := fun _ => False) wr) (fun _ _ u => u.elim)) (by omega), ⟨by omega, fun _ => b6⟩, rKd_ty rTy_st, Or.inr f⟩
    · obtain ⟨h2, s2, g2, t2, c, r, op, g6, rk, fin⟩ := res
      exact ⟨h2, s2, g2, t2, c, r, op, ⟨g6, fun e => absurd e c15⟩, rk, fin⟩
  obtain ⟨h2, s2, g2, t2, c, r, op, ⟨g6a, g6b⟩, rk, fin⟩ := res2
  have cl : dM L xs zf w (202 + k) 91 [.ref (cx 7)] h = b91_130 L xs zf (dM L xs zf w (201 + k)) w (some (cx 7)) h2 := by
    rw [show 202 + k = 201 + k + 1 from by omega, e91]
    show b91_0 L xs zf (dM L xs zf w (201 + k)) w (some (cx 7)) h = _
    unfold b91_0
    rw [c_in p0, Option.bind_some, show (dcV L xs (dM L xs zf w (201 + k)) 92 [6] (some (cx 0)) [] h).bind dxV = some h1 from by rw [c_rv p0, d1]; rfl, Option.bind_some]
    exact c
  have rf : rM w (102 + k2) 302 [.ref 36] s = some (none, s2) := by
    rw [show 102 + k2 = 101 + k2 + 1 from by omega, y302]
    exact r
  have nl : SY cx F N q h2 s2 g2 t2 ∨ FLT cx F N q h2 s2 g2 t2 := fin.elim (fun u => Or.inl u.choose_spec.choose_spec.choose_spec.choose_spec.choose_spec.choose_spec.1) Or.inr
  have nl2 : g2 0 ≤ cx 16 := nl.elim (fun u => u.1.2.2.2.2.2.1) (fun u => u.2.2.2.2.2.1)
  have g6 : g2 6 ≤ 1010 ∧ g2 2 ≤ 2 * (g2 0 + g2 6) + 10 ∧ (cx 15 = 0 → g2 6 = 0) := by
    refine ⟨g6a, ?_, g6b⟩
    rcases nl with u | u
    · have t1 := u.1.2.2.2.2.2.2.1
      obtain ⟨_, _, _, e, _⟩ := u.1.2.2.2.1.2.1
      omega
    · have t1 := u.2.2.2.2.2.2.1
      obtain ⟨pt, vr, ch2⟩ := u.2.2.2.1
      obtain ⟨_, _, _, e, _⟩ := ch2.2.1
      omega
  have rt2 : rTk F N s2 := nl.elim (fun u => u.1.2.2.1) (fun u => u.2.2.1)
  rcases fin with ⟨kl, ml, a9', c9', a10', c10', y, rest⟩ | z
  · refine ⟨h2, s2, g2, t2, ?_, rf, op, g6, nl2, rk, rt2, Or.inl ⟨kl, ml, a9', c9', a10', c10', y, rest⟩⟩
    rw [cl]
    unfold b91_130
    rw [c_in y.1.1, Option.bind_some, c_I y.1.1 8 (by omega), Option.bind_some, vS_8, if_pos (by decide)]
    rfl
  · obtain ⟨⟨v, p2, r2⟩, h57, _, ⟨pt, vr, ch2⟩, cs2, _⟩ := id z
    obtain ⟨h3, n1, n2, n3⟩ := c_note (L := L) (xs := xs) (zf := zf) (w := w) (k := 200 + k) (x := s2.1 58) ch2.1 r2.2.2
    rw [show 200 + k + 1 = 201 + k from by omega] at n1
    have l3 := n3.2.1
    have y3 := n3.2.2
    refine ⟨h3, s2, g2, t2, ?_, rf, OPV_le (OPV_trans op (show OPV (fun _ => False) cx 0 0 h2 g2 h3 g2 from ⟨fr_mono n3.1 (fun _ _ u => Or.inl (Or.inr (Or.inl u))), Or.inl rfl, ⟨Nat.le_refl _, Nat.le_refl _⟩, by omega, by omega⟩) (fun _ _ u => u.elim)) (by omega), g6, nl2, rk, rt2, Or.inr ⟨h57, r2.2.2, uA_st ch2.1 (by decide) n3 ch2.2.2.2.1, pt, vr, n2⟩⟩
    rw [cl]
    unfold b91_130
    rw [c_in p2, Option.bind_some, c_I p2 8 (by omega), Option.bind_some, r2.1, if_neg (by rw [f2_eqd]; simp [r2.2.2]), c_out p2, Option.bind_some, Option.bind_some, c_I p2 8 (by omega), Option.bind_some, r2.1, show (dcV L xs (dM L xs zf w (201 + k)) 144 [4] (some (cx 8)) [.int 1, .int (s2.1 58)] h2).bind dxV = some h3 from by rw [hc_v ch2.1 (by decide), n1]; rfl, Option.bind_some]
    rfl
end KJ
