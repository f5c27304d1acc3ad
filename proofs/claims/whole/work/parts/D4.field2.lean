/-! FIELDS: one of them by both. -/
section FJ
variable {L : Nat} {xs : Nat → Int32} {zf : Value} {w k k2 i y f : Nat} {cx : Nat → Nat} {F : Nat → Nat → Int32} {N : Nat → Int64} {q : List Value} {h h' h1 h2 h5 : rm_H} {s s' s1 s2 : rS} {g g' : Nat → Nat} {ts ts' : List Nat} {v v0 : Nat → Int32} {pt vr i3 : Int32} {K fl af cf : Nat} {fsK : List Value} {fds : List Nat}
theorem SY_sc (rt : rTk F N s2) (e : ∀ j, j = 10 ∨ j = 24 ∨ j = 25 ∨ j = 26 ∨ j = 56 ∨ j = 57 ∨ j = 58 ∨ j = 59 → s2.1 j = s.1 j) (re : rQ s s2) (z : SY cx F N q h s g ts) : SY cx F N q h s2 g ts := by
  obtain ⟨⟨p1, ⟨t1, t2, t3, t4⟩, _, ch, ⟨c1, c2, c3, c4⟩, b⟩, g6⟩ := z
  refine ⟨⟨p1, ⟨(e 57 (by omega)).trans t1, (e 58 (by omega)).trans t2, fun hh => (e 59 (by omega)).trans (t3 hh), t4⟩, rt, ?_, ⟨(e 56 (by omega)).trans c1, (e 10 (by omega)).trans c2, (e 26 (by omega)).trans c3, c4⟩, b⟩, g6.1, TSI_e g6.2 re⟩
  rw [e 24 (by omega), e 25 (by omega)]
  exact ch
theorem FLT_sc (rt : rTk F N s2) (e : ∀ j, j = 10 ∨ j = 24 ∨ j = 25 ∨ j = 26 ∨ j = 56 ∨ j = 57 ∨ j = 58 ∨ j = 59 → s2.1 j = s.1 j) (z : FLT cx F N q h s g ts) : FLT cx F N q h s2 g ts := by
  obtain ⟨⟨v, p1, r⟩, t1, _, ch, ⟨c1, c2, c3, c4⟩, b⟩ := z
  exact ⟨⟨v, p1, by rw [e 58 (by omega)]; exact r⟩, (e 57 (by omega)).trans t1, rt, ch, ⟨(e 56 (by omega)).trans c1, (e 10 (by omega)).trans c2, (e 26 (by omega)).trans c3, c4⟩, b⟩
theorem fiS_rQ {yv : Int32} : rQ s (fiS F N s f i yv) := rQ_trans (rQ_trans (rQ_trans (rQ_B (by omega)) (rQ_A (by omega))) (rQ_A (by omega))) rQ_w
theorem r308_Ty {c : Int32} (hT : TF cx F N) (z : SY cx F N q h s g ts ∨ FLT cx F N q h s g ts) (e : rM w (k + 3) 308 [.ref 36, .int c] s = some (none, s')) : rTy s s' := by
  have nl := n_lt hT z
  rcases z with z | z
  · rw [q308 c z.1.2.1.1 nl.2.2.2 nl.1] at e
    have this : (if _ then _ else _) = s' := congrArg Prod.snd (Option.some.inj e)
    rw [← this]
    split
    · exact rTy_nx
    · exact rTy_st
  · rw [z308 c z.2.1 nl.2.2.2 nl.1] at e
    have this : s = s' := congrArg Prod.snd (Option.some.inj e)
    rw [← this]
    exact ⟨fun _ _ _ _ _ => rfl, fun _ _ => rfl, fun _ _ => rfl⟩
/-- the class's way through a field -/
def b110_f (L : Nat) (xs : Nat → Int32) (zf : Value) (D : dD) (o0 o1 : Option Nat) (i2 : Int32) (K2 : Option Nat → Option Nat → Int32 → rm_H → Option dR) (h : rm_H) : Option dR :=
  (dgR L xs h 0 [8] o0).bind fun p8 =>
  ((dcV L xs D 92 [6] p8 [] h).bind dxV).bind fun h10 =>
  ((dcV L xs D 111 [8] o0 [] h10).bind dxR).bind fun p14 =>
  (dpF p14.2 8 [10] p14.1 (.int i2)).bind fun h22 =>
  (dgR L xs h22 4 [9] o1).bind fun p24 =>
  ((dcV L xs D 103 [5] p24 [va_rf p14.1] h22).bind dxI).bind fun x26 =>
  ((dcV L xs D 109 [8] o0 [.int 9] x26.2).bind dxV).bind fun h30 =>
  K2 o0 o1 (i2 + 1) h30
theorem x_fld1 (hT : TF cx F N) (h14 : cx 14 = 0) (z : SY cx F N q h s g ts) (t25 : ctk cx F (g 0) = 25) (hK : hc h K = some (.inr (9, fsK))) (k4 : fsK[4]? = some (.ref fl)) (ef : aL h fl af cf fds) (hof : ∀ y ∈ fds, oK h y) (nf : fl ≠ cx 11) (hlen : fds.length ≤ 8) (h38 : s.1 38 = Int32.ofNat f) (hf : f < 64) : ∃ h' s' g' ts' af' cf', (∀ K2, b110_f L xs zf (dM L xs zf w (k + 10)) (some (cx 7)) (some K) (Int32.ofNat fds.length) K2 h = K2 (some (cx 7)) (some K) (Int32.ofNat fds.length + 1) h') ∧ rM w (k2 + 5) 311 [.ref 36] s = some (none, s') ∧ OPY (fun y => y = fl ∨ (y = af ∧ 21 ≤ y)) cx F N q 0 (4 * cf) (4 * cf') h s g ts h' s' g' ts' ∧ g' 6 ≤ 12 ∧ g' 3 = g 3 ∧ rFl s s' f ∧ hc h' K = some (.inr (9, fsK)) ∧ aL h' fl af' cf' (fds ++ [21 + h.length]) ∧ (∀ y ∈ fds ++ [21 + h.length], oK h' y) ∧ (af' = af ∨ 21 + h.length ≤ af') ∧ (∀ l2 ar2 cap2 es2, l2 ≠ fl → l2 ≠ cx 11 → aL h l2 ar2 cap2 es2 → aL h' l2 ar2 cap2 es2) ∧ s'.1 38 = Int32.ofNat (f + 1) ∧ (SY cx F N q h' s' g' ts' → g 0 < g' 0 ∧ DCR L xs h' s' 67 68 69 (21 + h.length) f fds.length ∧ 21 + h.length < 21 + h'.length) := by
  obtain ⟨⟨p0, ⟨a1, a2, a3, a4⟩, rt, ch, ⟨b1, b2, b3, b4⟩, d1, d2, d3, d4⟩, g6⟩ := id z
  have hT1 := hT.1
  have hlt := w_pass hT z 25 t25 (by decide) (by decide)
  obtain ⟨h1, e11, e12, e13⟩ := y_adv (L := L) (xs := xs) (zf := zf) (w := w) (k := k + 7) hT hlt p0
  have l1 := e13.2.1
  have y1 := e13.2.2
  have ch1 := CH_r p0 e13 ch
  have K0 : K ≠ cx 0 := fun e => by rw [e, pC_r p0] at hK; cases hK
  have hi1 : g 0 + 1 ≤ cx 16 := hlt
  have f5 := (hT.2.2 (g 0 + 1) hi1).1.1
  obtain ⟨h5, ar', cap', v, e1, e2, e3, e4, e5, e6, e7, e8, e9⟩ := tc_decl (L := L) (xs := xs) (zf := zf) (w := w) (k := k) hT hi1 e12 ch1 (by omega)
  rw [l1] at e1 e2 e4 e6 e7 e9
  obtain ⟨nm0, cp0, cq0, ti0, tp0, hd5⟩ := e4
  have f15 : fr (M4 cx (g 1)) h1 h5 := fr_mono e5 (fun y _ u => by
    rcases u with u | u | u
    · exact Or.inl u
    · exact Or.inr (Or.inr (Or.inl u))
    · exact Or.inr (Or.inr (Or.inr (Or.inr u))))
  have sy1 := SY_nx z hlt e12 e13
  have hK5 := ob_keep h14 e12 ch1 f15 (st1_old e13 hK K0) (by decide)
  have lk5 : ∀ l2 ar2 cap2 es2, l2 ≠ cx 11 → aL h l2 ar2 cap2 es2 → aL h5 l2 ar2 cap2 es2 := fun l2 ar2 cap2 es2 ne e => aL_op (Or.inl sy1) f15 (aL_st (pC_r p0) (by decide) e13 e) ne
  -- the slot and the list
  obtain ⟨h6, g1, g2, g3⟩ := pF_ex (j := 8) (cis := [10]) (v := .int (Int32.ofNat fds.length)) (u := .int 0) hd5 rfl (by decide) rfl (by decide)
  have p6 := pC_w hd5 (by decide) g3 e3
  have c6 := CH_w hd5 (by decide) g3 e2
  have dK : 21 + h.length ≠ K := fun e => by have := hc_lt hK; omega
  have hK6 := st1_old g3 hK5 dK.symm
  have ef6 := aL_st hd5 (by decide) g3 (lk5 _ _ _ _ nf ef)
  have od : oK h6 (21 + h.length) := ⟨10, _, g2, Or.inr (Or.inl rfl)⟩
  have f06 : fr (fun y => M4 cx (g 1) y) h h6 := fr_trans (fr_trans (fr_mono e13.1 (fun _ _ u => Or.inl u)) f15 (fun _ _ u => u)) g3.1 (fun y hy u => by omega)
  obtain ⟨h7, af', cf', m1, m2, m3, m4, m5⟩ := al_add (L := L) (xs := xs) (zf := zf) (w := w) (k := k + 4) ef6 (fun y hy => oK_fr f06 (hof y hy)) od (by omega)
  obtain ⟨p7, c7⟩ := CH_l p6 c6 ef6 nf m2 m4 m3
  have nol : ∀ y ci fs, ci ≠ 5 → hc h6 y = some (.inr (ci, fs)) → ¬ (y = fl ∨ y = af) := by
    intro y ci fs hci ey u
    obtain ⟨mc, r1, _, _, r3⟩ := id ef6
    rcases u with u | u
    · rw [u, r1] at ey; cases ey; exact hci rfl
    · rcases r3 with ⟨r3, _⟩ | ⟨f0, r3, _⟩
      · have := hc_ge ey
        omega
      · rw [u, r3] at ey; cases ey
  have hd7 := fr_old m4 g2 (nol _ _ _ (by decide) g2)
  have hK7 := fr_old m4 hK6 (nol _ _ _ (by decide) hK6)
  have lk7 : ∀ l2 ar2 cap2 es2, l2 ≠ fl → l2 ≠ cx 11 → aL h l2 ar2 cap2 es2 → aL h7 l2 ar2 cap2 es2 := fun l2 ar2 cap2 es2 n1 n2 e => aL_oth c6.2.2.2.1 ef6 m4 n1 (aL_st hd5 (by decide) g3 (lk5 _ _ _ _ n2 e))
  have f07 : fr (fun y => M4 cx (g 1) y ∨ y = fl ∨ (y = af ∧ 21 ≤ y)) h h7 := fr_trans (fr_mono f06 (fun _ _ u => Or.inl u)) (fr_21 m4) (fun y hy u => by
    obtain ⟨u, u21⟩ := u
    rcases u with u | u
    · exact Or.inr (Or.inl u)
    · exact Or.inr (Or.inr ⟨u, u21⟩))
  have l6 := g3.2.1
  have y6 := g3.2.2
  have lt1 : (ts ++ [21 + h.length]).length = ts.length + 1 := by rw [List.length_append]; rfl
  have ns57 : ∀ a b, nS L xs h5 a b → nS L xs h7 a b := fun a b e => nS_fr m4 (nS_fr g3.1 e)
  -- the reference
  obtain ⟨s9, yv, n1, n2, n3⟩ := r_fdecl (w := w) (k := k2) (s := nxS s (g 0)) (i := g 0 + 1) (y := g 5) hT hi1 a1 rfl b3 (by omega) (rT_F rF_nx rt)
  have ty9 : rTy s s9 := rTy_trans rTy_nx n2
  have rt9 := rTy_rT ty9 rt
  have chg : ∀ T G5 G6, CH cx q h7 (gu (gu (gu (gu (gu g 0 T) 1 ar') 2 cap') 5 G5) 6 G6) (ts ++ [21 + h.length]) (s9.1 24) (s9.1 25) := by
    intro T G5 G6
    rw [ty9.1 24 (by decide) (by decide) (by decide) (by decide), ty9.1 25 (by decide) (by decide) (by decide) (by decide)]
    exact CH_g (g := gu (gu g 1 ar') 2 cap') rfl rfl rfl c7
  have e10 := (ty9.1 10 (by decide) (by decide) (by decide) (by decide)).trans b2
  have fl9 : ∀ T G5 : Nat, g 0 + 1 ≤ T → T ≤ cx 16 → rfd v (s9.1 58) → s9.1 57 = 1 → s9.1 56 = Int32.ofNat T → s9.1 26 = Int32.ofNat G5 → FLT cx F N q h7 s9 (gu (gu (gu (gu (gu g 0 T) 1 ar') 2 cap') 5 G5) 6 12) (ts ++ [21 + h.length]) := by
    intro T G5 t1 t2 r r57 r56 r26
    refine ⟨⟨v, p7, r⟩, r57, rt9, ⟨_, _, chg T G5 12⟩, ⟨r56, e10, r26, b4⟩, ?_⟩
    show T ≤ _ ∧ (ts ++ [21 + h.length]).length ≤ T + 12 ∧ g 4 ≤ T + 2 + 12
    omega
  have key : ∃ T G5 G6, (SY cx F N q h7 s9 (gu (gu (gu (gu (gu g 0 T) 1 ar') 2 cap') 5 G5) 6 G6) (ts ++ [21 + h.length]) ∨ FLT cx F N q h7 s9 (gu (gu (gu (gu (gu g 0 T) 1 ar') 2 cap') 5 G5) 6 G6) (ts ++ [21 + h.length])) ∧ (SY cx F N q h7 s9 (gu (gu (gu (gu (gu g 0 T) 1 ar') 2 cap') 5 G5) 6 G6) (ts ++ [21 + h.length]) → yA s s9 ∧ yv = Int32.ofNat (g 5) ∧ s9.1 26 = Int32.ofNat (g 5 + 1) ∧ tyD L xs h7 s9 (21 + h.length) (g 5) ∧ ∃ nm fs, nS L xs h7 nm (N (g 0 + 1)) ∧ hc h7 (21 + h.length) = some (.inr (10, fs)) ∧ fs[0]? = some (.ref nm) ∧ fs[1]? = some (.int (cpl cx F (g 0 + 1))) ∧ fs[8]? = some (.int (Int32.ofNat fds.length))) ∧ g 0 + 1 ≤ T ∧ G6 ≤ 12 ∧ (G6 = 12 ∨ g 0 + 4 ≤ T) := by
    rcases e9 with ⟨t1, t2, t3, nm, t4, t5⟩ | ⟨t1, t2, t3, t4⟩ | ⟨t1, t2⟩
    · rcases n3 with ⟨_, _, o3, o4, o5, o6, o7⟩ | ⟨T, _, _, _, _, _, x6⟩
      · have tc7 : tcO L xs cx F N h7 (g 0 + 1 + 2) (21 + h.length) nm (cpl cx F (g 0 + 1)) 0 0 (Int32.ofNat fds.length) v := tcO_8 (fun fs e => by rw [hd5] at e; cases e; exact hd7) ns57 t5
        have facts : (ctk cx F (g 0 + 1 + 2) = 43 ∨ ctk cx F (tiA cx F (g 0 + 1 + 2)) = 3) → yA s s9 ∧ yv = Int32.ofNat (g 5) ∧ s9.1 26 = Int32.ofNat (g 5 + 1) ∧ tyD L xs h7 s9 (21 + h.length) (g 5) ∧ ∃ nm fs, nS L xs h7 nm (N (g 0 + 1)) ∧ hc h7 (21 + h.length) = some (.inr (10, fs)) ∧ fs[0]? = some (.ref nm) ∧ fs[1]? = some (.int (cpl cx F (g 0 + 1))) ∧ fs[8]? = some (.int (Int32.ofNat fds.length)) := by
          intro ok
          obtain ⟨td, fs, w1, w2, w3, w4, _⟩ := tyD_of hT o3 tc7 o6 ok
          exact ⟨o7, o4, o5, td, nm, fs, ns57 _ _ t4, w1, w2, w3, w4⟩
        have sy : ∀ T : Nat, g 0 + 4 ≤ T → T ≤ cx 16 → v = vS cx F T → s9.1 57 = 0 → s9.1 58 = s.1 58 → s9.1 56 = Int32.ofNat T → (ctk cx F (g 0 + 1 + 2) = 43 ∨ ctk cx F (tiA cx F (g 0 + 1 + 2)) = 3) → SY cx F N q h7 s9 (gu (gu (gu (gu (gu g 0 T) 1 ar') 2 cap') 5 (g 5 + 1)) 6 0) (ts ++ [21 + h.length]) := by
          intro T hT0 hT2 hv r57 r58 r56 okk
          obtain ⟨td, fs, w1, _, _, _, w5⟩ := tyD_of hT o3 tc7 o6 okk
          have l8c := hc_lt ch.1
          have hPd : ∀ d fs, hc h d = some (.inr (10, fs)) → ¬ (M4 cx (g 1) d ∨ d = fl ∨ (d = af ∧ 21 ≤ d)) := fun d fs ed u => u.elim (M4_10 p0 ch d fs ed) (fun u => aL_10 ef d fs ed (u.elim Or.inl (fun u => Or.inr u.1)))
          have ne5 : nE (21 + h.length) h h5 := nE_l (nD_0 l1) e5 (e6.2 t1 t2)
          have ne7 : nE (21 + h.length) h h7 := nE_r (nE_st ne5 g3) m4 (nD_add m2 m3)
          refine ⟨⟨by have p7' := p7; rw [hv] at p7'; exact p7', ⟨r57, r58.trans a2, fun hh => (ty9.1 59 (by decide) (by decide) (by decide) (by decide)).trans (a3 hh), a4⟩, rt9, chg T (g 5 + 1) 0, ⟨r56, e10, o5, b4⟩, ?_⟩, rfl, TSI_decl g6.2 f07 hPd ne7 (by omega) (tR_sX (rTy_sX ty9 _)) (yA_n b3 (by omega) o7) rfl rfl rfl ⟨fs, w1, w5⟩ td⟩
          show T ≤ _ ∧ (ts ++ [21 + h.length]).length ≤ T ∧ g 4 ≤ T + 2 ∧ g 5 + 1 + 2 ≤ T
          omega
        have ti : tiA cx F (g 0 + 1 + 2) = g 0 + 3 ∨ tiA cx F (g 0 + 1 + 2) = g 0 + 4 := by
          by_cases c : isC cx F (g 0 + 1 + 2)
          · exact Or.inr (tiA_c c)
          · exact Or.inl (tiA_n c)
        rcases id t5 with ⟨z1, _, z3, z4, _⟩ | ⟨z1, t2', cp, cq, _, _, z4, z5⟩
        · rcases id o6 with ⟨_, w2, w3, w4, _⟩ | w'
          · exact ⟨g 0 + 1 + 2 + 1, g 5 + 1, 0, Or.inl (sy _ (by omega) (by omega) z4 w3 w4 w2 (Or.inl z1)), fun _ => facts (Or.inl z1), by omega, by omega, Or.inr (by omega)⟩
          · exact absurd z1 w'.1
        · have n43 : ¬ ctk cx F (g 0 + 1 + 2) = 43 := fun e => z1 ⟨e, rfl⟩
          rcases id o6 with w' | ⟨_, _, _, _, w'⟩
          · exact absurd w'.1 n43
          · rcases z5 with ⟨u1, u2, u3, _⟩ | ⟨u1, u2⟩
            · rcases w' with ⟨_, w2, w3, w4⟩ | ⟨w1, _⟩
              · exact ⟨tiA cx F (g 0 + 1 + 2) + 1, g 5 + 1, 0, Or.inl (sy _ (by omega) (by omega) u3 w3 w4 w2 (Or.inr u1)), fun _ => facts (Or.inr u1), by omega, by omega, Or.inr (by omega)⟩
              · exact absurd u1 w1
            · rcases w' with ⟨w1, _⟩ | ⟨_, w2, w3, w4⟩
              · exact absurd w1 u1
              · have F9 := fl9 (tiA cx F (g 0 + 1 + 2)) (g 5 + 1) (by omega) z4 (by rw [w4]; exact u2) w3 w2 o5
                exact ⟨_, _, 12, Or.inr F9, fun u => (sy_no u F9).elim, by omega, Nat.le_refl _, Or.inl rfl⟩
      · rcases x6 with ⟨_, r⟩ | ⟨_, _, r⟩
        · exact absurd t1 r
        · exact absurd t2 r
    · rcases n3 with ⟨_, o2, _⟩ | ⟨T, x1, x2, x3, x4, x5, x6⟩
      · exact absurd o2 t2
      · have hTT : T = g 0 + 1 + 1 := by
          rcases x6 with ⟨_, u⟩ | ⟨u, _⟩
          · exact absurd t1 u
          · exact u
        have F9 := fl9 T (g 5) (by omega) x1 (by rw [x4, hTT]; exact t4) x2 x5 (x3.trans b3)
        exact ⟨_, _, 12, Or.inr F9, fun u => (sy_no u F9).elim, by omega, Nat.le_refl _, Or.inl rfl⟩
    · rcases n3 with ⟨o1, _⟩ | ⟨T, x1, x2, x3, x4, x5, x6⟩
      · exact absurd o1 t1
      · have hTT : T = g 0 + 1 := by
          rcases x6 with ⟨u, _⟩ | ⟨_, u, _⟩
          · exact u
          · exact absurd u t1
        have F9 := fl9 T (g 5) (by omega) x1 (by rw [x4, hTT]; exact t2) x2 x5 (x3.trans b3)
        exact ⟨_, _, 12, Or.inr F9, fun u => (sy_no u F9).elim, by omega, Nat.le_refl _, Or.inl rfl⟩
  obtain ⟨T, G5, G6, st7, sf7, hT7, hG6, hG7⟩ := key
  clear n3 e9
  generalize hG : gu (gu (gu (gu (gu g 0 T) 1 ar') 2 cap') 5 G5) 6 G6 = G at st7 sf7
  have G0 : G 0 = T := by rw [← hG]; rfl
  have G1 : G 1 = ar' := by rw [← hG]; rfl
  have G2 : G 2 = cap' := by rw [← hG]; rfl
  have G3 : G 3 = g 3 := by rw [← hG]; rfl
  have G4 : G 4 = g 4 := by rw [← hG]; rfl
  have G6' : G 6 = G6 := by rw [← hG]; rfl
  obtain ⟨h8, s10, g10, r1, r2, op, r3, w8, s10e, z1, z2, z3, z4, z5, z6⟩ := op_need (L := L) (xs := xs) (zf := zf) (w := w) (k := k + 6) (k2 := k2 + 1) hT P59 st7
  have ty10 := rTy_trans ty9 (r308_Ty hT st7 r2)
  have rt10 := rTy_rT ty10 rt
  have s38 : s10.1 38 = Int32.ofNat f := (ty10.1 38 (by decide) (by decide) (by decide) (by decide)).trans h38
  have fin := r_37 (w := w) (k := k2 + 4) (i := g 0 + 1) (f := f) (yv := yv) (s := s9) (by omega) hf r2 s38 rt10
  have sce : ∀ j, j = 10 ∨ j = 24 ∨ j = 25 ∨ j = 26 ∨ j = 56 ∨ j = 57 ∨ j = 58 ∨ j = 59 → (fiS F N s10 f (g 0 + 1) yv).1 j = s10.1 j := fun j hj => by
    show upd s10.1 38 _ j = _
    rw [upd_ne _ _ (by omega)]
  have sce2 : ∀ j, j = 10 ∨ j = 24 ∨ j = 25 ∨ j = 26 ∨ j = 56 ∨ j = 57 ∨ j = 58 ∨ j = 59 → s10.1 j = (fiS F N s10 f (g 0 + 1) yv).1 j := fun j hj => (sce j hj).symm
  have st8 : SY cx F N q h8 (fiS F N s10 f (g 0 + 1) yv) g10 (ts ++ [21 + h.length]) ∨ FLT cx F N q h8 (fiS F N s10 f (g 0 + 1) yv) g10 (ts ++ [21 + h.length]) := op.1.elim (fun u => Or.inl (SY_sc (s := s10) rt10 sce fiS_rQ u)) (fun u => Or.inr (FLT_sc (s := s10) rt10 sce u))
  have bk8 : SY cx F N q h8 (fiS F N s10 f (g 0 + 1) yv) g10 (ts ++ [21 + h.length]) → SY cx F N q h8 s10 g10 (ts ++ [21 + h.length]) := fun u => SY_sc (s := fiS F N s10 f (g 0 + 1) yv) rt10 sce2 (rQ_sym fiS_rQ) u
  have l8 := w8.2.1
  have y8 := w8.2.2
  have og := op.2.2.2.2.2.1
  have ya10 : yA s10 (fiS F N s10 f (g 0 + 1) yv) := yA_of (sce 26 (by omega)) (fun p h1 h2 => by
    show (rs_wA (rs_wA (rs_wB s10 67 f (N (g 0 + 1))) 68 f (F 5 (g 0 + 1))) 69 f yv).2.1 p = _
    rw [wA_ne _ _ _ (by omega), wA_ne _ _ _ (by omega)]
    rfl) rfl
  have rfl' := rFl_of (F := F) (N := N) (f := f) (i := g 0 + 1) (yv := yv) ty10
  have K8 : K ≠ cx 0 := K0
  have hl8 : 21 + h.length < 21 + h8.length := by
    have := hc_lt hd7
    omega
  have k1 : g10 1 = g 1 ∨ 21 + h.length ≤ g10 1 := by rw [z1, G1]; exact e7
  have k2' : g 0 ≤ g10 0 ∧ g 4 ≤ g10 4 := ⟨Nat.le_trans (by rw [G0]; exact Nat.le_trans (Nat.le_succ _) hT7) og.1, by rw [z4, G4]; exact Nat.le_refl _⟩
  have k3 : af' = af ∨ 21 + h.length ≤ af' := by
    rcases m3 with ⟨e, _⟩ | ⟨e, _⟩
    · exact Or.inl e
    · exact Or.inr (by rw [e]; exact Nat.add_le_add_left f06.1 21)
  refine ⟨h8, fiS F N s10 f (g 0 + 1) yv, g10, ts ++ [21 + h.length], af', cf', fun K2 => ?_, ?_, ⟨st8, fun u => ?_, fr_trans f07 w8.1 (fun _ _ u => Or.inl (Or.inl u)), k1, k2', by omega, by omega⟩, by omega, by omega, rfl', st1_old w8 hK7 K0, aL_st (pC_r p7) (by decide) w8 m2, fun y hy => ?_, k3, fun l2 ar2 cap2 es2 q1 q2 e => aL_st (pC_r p7) (by decide) w8 (lk7 _ _ _ _ q1 q2 e), rfl, fun u => ?_⟩
  · unfold b110_f
    rw [c_in p0, Option.bind_some, show (dcV L xs (dM L xs zf w (k + 10)) 92 [6] (some (cx 0)) [] h).bind dxV = some h1 from by rw [c_rv p0, e11]; rfl, Option.bind_some, show (dcV L xs (dM L xs zf w (k + 10)) 111 [8] (some (cx 7)) [] h1).bind dxR = some (some (21 + h.length), h5) from by rw [c_pv e12, e1]; rfl, Option.bind_some, g1, Option.bind_some, hc_gR (p := some fl) hK6 k4 (by decide), Option.bind_some, show (dcV L xs (dM L xs zf w (k + 10)) 103 [5] (some fl) [va_rf (some (21 + h.length))] h6).bind dxI = some (1, h7) from by rw [al_v ef6, va_s, m1]; rfl, Option.bind_some, show (dcV L xs (dM L xs zf w (k + 10)) 109 [8] (some (cx 7)) [.int 9] h7).bind dxV = some h8 from by rw [c_pv p7, r1]; rfl, Option.bind_some]
  · rw [y311]
    show s311_0 (rM w (k2 + 4)) w s = _
    unfold s311_0
    rw [pI_nx b1, Option.bind_some]
    exact n1.trans fin
  · have u10 := bk8 u
    obtain ⟨x1, x2, x3⟩ := op.2.1 u10
    obtain ⟨w1, _⟩ := sf7 x1
    refine ⟨z, fun j hj => ⟨fun p h1 h2 => ?_, ?_⟩, yA_trans (yA_trans w1 x3) ya10⟩
    · rw [rfl'.2.1 p (by omega) (by omega) (by omega)]
    · rw [rfl'.2.2.1 56 (by decide) (by decide)]
  · rcases List.mem_append.mp hy with u | u
    · exact oK_fr w8.1 (oK_fr m4 (oK_fr f06 (hof y u)))
    · rw [List.mem_singleton.mp u]; exact oK_fr w8.1 (oK_fr m4 od)
  · have u10 := bk8 u
    obtain ⟨x1, x2, x3⟩ := op.2.1 u10
    obtain ⟨w1, w2, w3, w4, nm, fs, w5, w6, w7, w8', w9⟩ := sf7 x1
    have d0 : 21 + h.length ≠ cx 0 := by have := hc_lt (pC_r p0); omega
    have hd8 := st1_old w8 w6 d0
    have ya9 := yA_trans x3 ya10
    have y26 : (g 5 : Int) < (s9.1 26).toInt := by rw [w3, of_int (by omega)]; omega
    have le26 := ya9.1
    refine ⟨by omega, ⟨⟨nm, by rw [fd_of hd8]; exact w7, ?_⟩, ?_, by rw [fd_of hd8]; exact w9, g 5, ?_, by omega, tyD_k7 (fun j _ u e => ?_) (fun a b e => nS_fr w8.1 e) ya9 y26 w4⟩, hl8⟩
    · have : (fiS F N s10 f (g 0 + 1) yv).2.2 67 f = N (g 0 + 1) := by
        show (rs_wB s10 67 f (N (g 0 + 1))).2.2 67 f = _
        rw [wB_get, if_pos ⟨rfl, rfl⟩]
      rw [this]
      exact nS_fr w8.1 w5
    · have : (fiS F N s10 f (g 0 + 1) yv).2.1 68 f = F 5 (g 0 + 1) := by
        show (rs_wA (rs_wA (rs_wB s10 67 f (N (g 0 + 1))) 68 f (F 5 (g 0 + 1))) 69 f yv).2.1 68 f = _
        rw [wA_get, if_neg (by omega), wA_get, if_pos ⟨rfl, rfl⟩]
      rw [fd_of hd8, w8', this, f5]
    · show (rs_wA (rs_wA (rs_wB s10 67 f (N (g 0 + 1))) 68 f (F 5 (g 0 + 1))) 69 f yv).2.1 69 f = _
      rw [wA_get, if_pos ⟨rfl, rfl⟩]
      exact w2
    · rw [fd_st w8 d0]
      exact e
end FJ
