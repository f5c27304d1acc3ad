/-! VAR, by both. -/
section VX
variable {L : Nat} {xs : Nat → Int32} {zf : Value} {w k i n p : Nat} {cx : Nat → Nat} {F : Nat → Nat → Int32} {N : Nat → Int64} {q : List Value} {h h' : rm_H} {s s' : rS} {g g' : Nat → Nat} {ts ts' : List Nat} {A ke kr : Nat} {i1 : Int32}
/-- the reference has made node n and passed token i -/
def vaM (s : rS) (n i : Nat) (kk : Int32) : rS := nxS (ndS s n kk (s.2.1 41 i)) i
theorem vaM_rF {kk : Int32} : rF s (vaM s n i kk) := rF_trans rF_nd rF_nx
theorem vaM_sX {kk : Int32} : sX s (vaM s n i kk) n := sX_trans (sX_nd (Nat.le_refl _)) sX_w (Nat.le_refl _)
theorem vaM_yA {kk : Int32} : yA s (vaM s n i kk) := yA_trans (s1 := ndS s n kk (s.2.1 41 i)) nd_yA (yA_2 rfl rfl)
theorem vaM_on {kk : Int32} (rt : rTk F N s) : onR (vaM s n i kk) n (fun r => ndV r kk (F 5 i)) 0 := by
  refine ⟨fun r h1 h2 => ?_, ?_⟩
  · show (ndS s n kk (s.2.1 41 i)).2.1 r n = _
    rw [nd_get, if_pos ⟨rfl, h1, h2⟩, rt.2.1]
  · show (ndS s n kk (s.2.1 41 i)).2.2 56 n = _
    rw [nd_getJ, if_pos ⟨rfl, rfl⟩]
theorem tyD_keep {d y : Nat} (hf : ∀ j, fd h' 10 d j = fd h 10 d j) (ns : ∀ a b, nS L xs h a b → nS L xs h' a b) (hY : yA s s') (hy : (y : Int) < (s.1 26).toInt) (t : tyD L xs h s d y) : tyD L xs h' s' d y := by
  obtain ⟨y1, y2, y3, y4⟩ := hY.2 y hy
  unfold tyD at t ⊢
  simp only [hf, y1, y2, y3, y4]
  obtain ⟨t1, t2⟩ := t
  refine ⟨t1, ?_⟩
  rcases t2 with t2 | ⟨tq, t2, t3, t4⟩
  · exact Or.inl t2
  · exact Or.inr ⟨tq, t2, ns _ _ t3, t4⟩
theorem NR_15 {zz d lo hi pl ph dd : Nat} (rg : 1 ≤ lo ∧ lo ≤ n ∧ n < hi ∧ pl ≤ p ∧ p < ph) (f0 : fd h 12 p 0 = some (.int (Int32.ofNat 15))) (r44 : s.2.1 44 n = Int32.ofNat (wK 15)) (f1 : fd h 12 p 1 = some (.int (s.2.1 50 n))) (hk : kd h s (NRq L xs h s (0, zz)) lo hi pl ph n p (8, 45, false)) (f5 : fd h 12 p 5 = some (.ref dd)) (hd : pl ≤ dd ∧ dd < ph) (vd : vrD L xs h s dd n) (f12 : (fd h 12 p 12).isSome = true) : NR L xs h s (2, zz + 1) (d + 1) lo hi pl ph n p := by
  refine ⟨rg, 15, ⟨by omega, by omega, f0, r44, f1, Or.inr (Or.inr ⟨rfl, by omega⟩), fun z => by omega⟩, fun z => by omega, fun c hc => ?_, fun z => by omega, fun z => by omega, fun z => by omega, fun z => by omega, fun z => by omega, fun z => by omega, fun z => by omega, fun _ => ⟨dd, f5, hd.1, hd.2, vd⟩, fun z => by omega, fun z => by omega, fun z => by omega, f12⟩
  have : c = (8, 45, false) := by simpa [kids] using hc
  subst this
  exact hk
/-- what both have of a TYPE is alike -/
theorem tyD_of {d j y nm : Nat} {pl sl : Int32} {v : Nat → Int32} {sx s9 : rS} {h9 : rm_H} (hT : TF cx F N) (hj : j ≤ cx 16) (t : tcO L xs cx F N h9 j d nm pl 0 0 sl v) (u : tyO cx F N sx s9 j y) (ok : ctk cx F j = 43 ∨ ctk cx F (tiA cx F j) = 3) : tyD L xs h9 s9 d y ∧ (∃ fs, hc h9 d = some (.inr (10, fs)) ∧ fs[0]? = some (.ref nm) ∧ fs[1]? = some (.int pl) ∧ fs[8]? = some (.int sl) ∧ fs.length = 9 ∧ fs[7]? = some (.int 0)) := by
  rcases t with ⟨a1, _, a3, a4, a5⟩ | ⟨a1, t2, cp, cq, a2, a3, a4, a5⟩
  · refine ⟨⟨by rw [fd_of a5]; rfl, Or.inl ⟨?_, by rw [fd_of a5]; rfl⟩⟩, ⟨_, a5, rfl, rfl, rfl, rfl, rfl⟩⟩
    rcases u with u | u
    · exact u.2.2.2.2
    · exact absurd a1 u.1
  · have n43 : ¬ ctk cx F j = 43 := fun e => a1 ⟨e, rfl⟩
    have t3 : ctk cx F (tiA cx F j) = 3 := ok.resolve_left n43
    rcases u with u | ⟨_, u2, u3, u4, _⟩
    · exact absurd u.1 n43
    · rcases a5 with ⟨_, _, _, b4⟩ | ⟨b1, _⟩
      · refine ⟨⟨by rw [fd_of a2]; rfl, Or.inr ⟨t2, by rw [fd_of a2]; rfl, by rw [u3]; exact b4, by rw [fd_of a2, u2]; rfl, ?_⟩⟩, ⟨_, a2, rfl, rfl, rfl, rfl, rfl⟩⟩
        rcases a3 with ⟨c1, c2, c3⟩ | ⟨c1, c2, c3⟩
        · rcases u4 with ⟨_, d2, d3⟩ | ⟨d1, _⟩
          · obtain ⟨c, hc5, z1, _⟩ := (cap_iff (hT.2.2 j hj).1.2.2).2 c1
            exact Or.inr ⟨c, hc5, d2.trans z1, by rw [fd_of a2, c2, z1]; rfl, by rw [fd_of a2, c3, d3]; rfl⟩
          · exact absurd c1 d1
        · rcases u4 with ⟨d1, _⟩ | ⟨_, d2⟩
          · exact absurd d1 c1
          · exact Or.inl ⟨d2, by rw [fd_of a2, c2]; rfl⟩
      · exact absurd t3 b1
theorem x_var (hT : TF cx F N) (hA : 2 ≤ A ∧ A ≤ 2000) (hm : cx 14 ≠ 0) (IH : IHx L xs zf w cx F N q A (ke + 10) (kr + 4) 123 320 (i1 + 1)) (z : SY cx F N q h s g ts) (t25 : ctk cx F (g 0) = 25) : STR L xs cx F N q (A + 20) h s g ts (dM L xs zf w (ke + 12) 121 [.ref (cx 7), .ref (cx 14), .int i1] h) (rM w (kr + 6) 318 [.ref 36, .int i1] s) := by
  have hlt := w_pass hT z 25 t25 (by decide) (by decide)
  obtain ⟨⟨p0, ⟨a1, a2, a3, a4⟩, rt, ch0, ⟨c1, c2, c3, c4⟩, b1, b2, b3, b4⟩, g6⟩ := id z
  have hT1 := hT.1
  have f5 := (hT.2.2 (g 0) b1).1.1
  have p1 : pC (h ++ [nd0 15 (cpl cx F (g 0))]) cx F (vS cx F (g 0)) := pC_ap p0
  obtain ⟨h2, d1, d2, d3⟩ := y_adv (L := L) (xs := xs) (zf := zf) (w := w) (k := ke + 7) hT hlt p1
  have l2 : h2.length = h.length + 1 := by rw [d3.2.1, List.length_append]; rfl
  have y2 : zh h2 = zh h + 13 := by rw [d3.2.2, zh_nd]
  have hne : 21 + h.length ≠ cx 0 := by have := hc_lt (pC_r p0); omega
  have cp2 : hc h2 (21 + h.length) = some (nd0 15 (cpl cx F (g 0))) := st1_old d3 (hc_new _) hne
  have ch2 : CH cx q h2 g ts (s.1 24) (s.1 25) := CH_r p1 d3 (CH_ap (Or.inl (nd0_5 _ _)) ch0)
  obtain ⟨h9, ar', cap', v, m1, m2, m3, m4, m5, m6, m7, m8, m9, m10⟩ := c_vdecl (L := L) (xs := xs) (zf := zf) (w := w) (k := ke) (i1 := i1) hT (show g 0 + 1 ≤ cx 16 by omega) d2 ch2 hm a4 cp2 (by omega)
  have dd : 21 + h2.length = 22 + h.length := by omega
  rw [dd] at m2 m6 m8 m9 m10
  obtain ⟨s9, yv, n1, n2, n3, n4, n5, n6, n7, n8, n9⟩ := r_vdecl (w := w) (k := kr) (i1 := i1) (n := g 4) (i := g 0 + 1) (l := g 3) (y := g 5) (s := vaM s (g 4) (g 0) 20) hT (by omega) (by omega) a1 rfl (a3 hm) a4 c3 (by omega) (rT_F vaM_rF rt) (vaM_on rt)
  have rt9 := rT_F n2 (rT_F vaM_rF rt)
  have e24 : s9.1 24 = s.1 24 := (n8 24 (by decide) (by decide) (by decide) (by decide) (by decide) (by decide)).trans rfl
  have e10 : s9.1 10 = Int32.ofNat (g 4 + 1) := (n8 10 (by decide) (by decide) (by decide) (by decide) (by decide) (by decide)).trans rfl
  have e25 : s9.1 25 = s.1 25 + 1 := n7.trans rfl
  have lt1 : (ts ++ [22 + h.length]).length = ts.length + 1 := by rw [List.length_append]; rfl
  have FR : fr (M4 cx (g 1)) h h9 := by
    refine fr_trans (fr_trans (fr_app _ _) d3.1 (fun _ _ u => Or.inl u)) m4 (fun y hy u => ?_)
    rcases u with u | u | u | u | u | u
    · exact Or.inl u
    · exact Or.inr (Or.inl u)
    · exact Or.inr (Or.inr (Or.inl u))
    · exact Or.inr (Or.inr (Or.inr (Or.inl u)))
    · exact Or.inr (Or.inr (Or.inr (Or.inr u)))
    · omega
  have key : ∃ T G5, (SY cx F N q h9 s9 (gu (gu (gu (gu (gu (gu g 0 T) 4 (g 4 + 1)) 1 ar') 2 cap') 3 (g 3 + 1)) 5 G5) (ts ++ [22 + h.length]) ∨ FLT cx F N q h9 s9 (gu (gu (gu (gu (gu (gu g 0 T) 4 (g 4 + 1)) 1 ar') 2 cap') 3 (g 3 + 1)) 5 G5) (ts ++ [22 + h.length])) ∧ (SY cx F N q h9 s9 (gu (gu (gu (gu (gu (gu g 0 T) 4 (g 4 + 1)) 1 ar') 2 cap') 3 (g 3 + 1)) 5 G5) (ts ++ [22 + h.length]) → yv = Int32.ofNat (g 5) ∧ s9.1 26 = Int32.ofNat (g 5 + 1) ∧ tyD L xs h9 s9 (22 + h.length) (g 5) ∧ ∃ nm fs, nS L xs h9 nm (N (g 0 + 1)) ∧ hc h9 (22 + h.length) = some (.inr (10, fs)) ∧ fs[0]? = some (.ref nm) ∧ fs[1]? = some (.int (cpl cx F (g 0 + 1))) ∧ fs[8]? = some (.int (Int32.ofNat (g 3)))) ∧ g 0 + 1 ≤ T := by
    have chg : ∀ T G5, CH cx q h9 (gu (gu (gu (gu (gu (gu g 0 T) 4 (g 4 + 1)) 1 ar') 2 cap') 3 (g 3 + 1)) 5 G5) (ts ++ [22 + h.length]) (s9.1 24) (s9.1 25) := by
      intro T G5
      rw [e24, e25]
      exact CH_g (g := gu (gu (gu g 1 ar') 2 cap') 3 (g 3 + 1)) rfl rfl rfl m2
    have fl : ∀ (T G5 : Nat), g 0 + 1 ≤ T → T ≤ cx 16 → rfd v (s9.1 58) → s9.1 57 = 1 → s9.1 56 = Int32.ofNat T → s9.1 26 = Int32.ofNat G5 → FLT cx F N q h9 s9 (gu (gu (gu (gu (gu (gu g 0 T) 4 (g 4 + 1)) 1 ar') 2 cap') 3 (g 3 + 1)) 5 G5) (ts ++ [22 + h.length]) := by
      intro T G5 hT0 hT2 r r57 r56 r26
      refine ⟨⟨v, m3, r⟩, r57, rt9, ⟨_, _, chg T G5⟩, ⟨r56, e10, r26, ?_⟩, ?_⟩
      · show 1 ≤ g 4 + 1
        omega
      · show T ≤ _ ∧ (ts ++ [22 + h.length]).length ≤ T + g 6 ∧ g 4 + 1 ≤ T + 2 + g 6
        omega
    have sy : ∀ T : Nat, g 0 + 4 ≤ T → T ≤ cx 16 → v = vS cx F T → s9.1 57 = 0 → s9.1 58 = -1 → s9.1 56 = Int32.ofNat T → s9.1 26 = Int32.ofNat (g 5 + 1) → g 3 < 16 → nE (22 + h.length) h h9 → tyD L xs h9 s9 (22 + h.length) (g 5) → (∃ fs, hc h9 (22 + h.length) = some (.inr (10, fs)) ∧ fs.length = 9 ∧ fs[7]? = some (.int 0)) → SY cx F N q h9 s9 (gu (gu (gu (gu (gu (gu g 0 T) 4 (g 4 + 1)) 1 ar') 2 cap') 3 (g 3 + 1)) 5 (g 5 + 1)) (ts ++ [22 + h.length]) := by
      intro T hT0 hT2 hv r57 r58 r56 r26 l16 ne td f9
      refine ⟨⟨by have m3' := m3; rw [hv] at m3'; exact m3', ⟨r57, r58, fun _ => n6, ?_⟩, rt9, chg T (g 5 + 1), ⟨r56, e10, r26, ?_⟩, ?_⟩, g6.1, ?_⟩
      · show g 3 + 1 ≤ 16
        omega
      · show 1 ≤ g 4 + 1
        omega
      · show T ≤ _ ∧ (ts ++ [22 + h.length]).length ≤ T ∧ g 4 + 1 ≤ T + 2 ∧ g 5 + 1 + 2 ≤ T
        omega
      · have l8c := hc_lt ch0.1
        refine TSI_gen (us := [22 + h.length]) g6.2 FR (M4_10 p0 ch0) (fun x fs e => ?_) (tR_sX (sX_trans vaM_sX (n3 (g 4) (Nat.le_refl _)) (Nat.le_refl _))) (yA_n c3 (by omega) (yA_trans vaM_yA n4)) (Nat.le_succ _) (Nat.le_succ _) (Nat.le_succ _) (fun x hx => ?_) (fun y y1 y2 => ?_) (fun n n1 n2 e => ?_) (fun n n1 n2 e => ?_)
        · rcases ne x fs e with q | q
          · exact Or.inl q
          · exact Or.inr (List.mem_singleton.mpr q)
        · rw [List.mem_singleton.mp hx]
          exact ⟨by omega, f9, Or.inl ⟨g 5, Nat.lt_succ_self _, tyD_L td⟩⟩
        · have y2 : y < g 5 + 1 := y2
          have y3 : y = g 5 := by omega
          subst y3
          exact ⟨22 + h.length, List.mem_singleton.mpr rfl, tyD_L td⟩
        · have n3 : n < g 4 + 1 := n2
          have n4 : n = g 4 := by omega
          have k := n5.1 44 (by omega) (by omega)
          rw [upd_ne _ _ (by decide), upd_ne _ _ (by decide), upd_ne _ _ (by decide)] at k
          have k : s9.2.1 44 (g 4) = 20 := k
          rw [n4, k] at e
          exact absurd e (by decide)
        · have n3 : n < g 4 + 1 := n2
          have n4 : n = g 4 := by omega
          have k := n5.1 53 (by omega) (by omega)
          rw [upd_ne _ _ (by decide), upd_ne _ _ (by decide), upd_eq] at k
          exact ⟨n4, l16, Nat.lt_succ_self _, by rw [n4]; exact k⟩
    rcases m10 with ⟨u1, u2, u3, u4, nm, u5, u6⟩ | ⟨u1, u2, u3, u4, u5⟩ | ⟨u1, u2⟩
    · rcases n9 with ⟨_, _, _, _, x1, x2, x3⟩ | ⟨_, _, x1, _⟩ | ⟨x1, _⟩
      · have ti : tiA cx F (g 0 + 1 + 2) = g 0 + 3 ∨ tiA cx F (g 0 + 1 + 2) = g 0 + 4 := by
          by_cases c : isC cx F (g 0 + 1 + 2)
          · exact Or.inr (tiA_c c)
          · exact Or.inl (tiA_n c)
        have facts : (ctk cx F (g 0 + 1 + 2) = 43 ∨ ctk cx F (tiA cx F (g 0 + 1 + 2)) = 3) → yv = Int32.ofNat (g 5) ∧ s9.1 26 = Int32.ofNat (g 5 + 1) ∧ tyD L xs h9 s9 (22 + h.length) (g 5) ∧ ∃ nm fs, nS L xs h9 nm (N (g 0 + 1)) ∧ hc h9 (22 + h.length) = some (.inr (10, fs)) ∧ fs[0]? = some (.ref nm) ∧ fs[1]? = some (.int (cpl cx F (g 0 + 1))) ∧ fs[8]? = some (.int (Int32.ofNat (g 3))) := by
          intro ok
          obtain ⟨td, fs, w1, w2, w3, w4, _⟩ := tyD_of hT u4 u6 x3 ok
          exact ⟨x1, x2, td, nm, fs, u5, w1, w2, w3, w4⟩
        have td9 : (ctk cx F (g 0 + 1 + 2) = 43 ∨ ctk cx F (tiA cx F (g 0 + 1 + 2)) = 3) → tyD L xs h9 s9 (22 + h.length) (g 5) ∧ ∃ fs, hc h9 (22 + h.length) = some (.inr (10, fs)) ∧ fs.length = 9 ∧ fs[7]? = some (.int 0) := by
          intro ok
          obtain ⟨td, fs, w1, _, _, _, w5⟩ := tyD_of hT u4 u6 x3 ok
          exact ⟨td, fs, w1, w5⟩
        have ne9 : nE (22 + h.length) h h9 := nE_l (nD_st (nD_ap (fun _ z => by cases z)) d3) m4 (by rw [← dd]; exact m5.2 u1 u2 u3)
        rcases id u6 with ⟨y1, _, y3, y4, _⟩ | ⟨y1, t2, cp, cq, _, _, y4, y5⟩
        · rcases id x3 with ⟨_, w2, w3, w4, _⟩ | w
          · exact ⟨g 0 + 1 + 2 + 1, g 5 + 1, Or.inl (sy _ (by omega) (by omega) y4 w3 (w4.trans a2) w2 x2 u1 ne9 (td9 (Or.inl y1)).1 (td9 (Or.inl y1)).2), fun _ => facts (Or.inl y1), by omega⟩
          · exact absurd y1 w.1
        · have n43 : ¬ ctk cx F (g 0 + 1 + 2) = 43 := fun e => y1 ⟨e, rfl⟩
          rcases id x3 with w | ⟨_, _, _, _, w⟩
          · exact absurd w.1 n43
          · rcases y5 with ⟨z1, z2, z3, _⟩ | ⟨z1, z2⟩
            · rcases w with ⟨_, w2, w3, w4⟩ | ⟨w1, _⟩
              · exact ⟨tiA cx F (g 0 + 1 + 2) + 1, g 5 + 1, Or.inl (sy _ (by omega) (by omega) z3 w3 (w4.trans a2) w2 x2 u1 ne9 (td9 (Or.inr z1)).1 (td9 (Or.inr z1)).2), fun _ => facts (Or.inr z1), by omega⟩
              · exact absurd z1 w1
            · rcases w with ⟨w1, _⟩ | ⟨_, w2, w3, w4⟩
              · exact absurd w1 z1
              · have F9 := fl (tiA cx F (g 0 + 1 + 2)) (g 5 + 1) (by omega) y4 (by rw [w4]; exact z2) w3 w2 x2
                exact ⟨_, _, Or.inr F9, fun u => (sy_no u F9).elim, by omega⟩
      · exact absurd u3 x1
      · rcases x1 with x1 | x1
        · exact absurd u2 x1
        · omega
    · rcases n9 with ⟨_, _, x1, _⟩ | ⟨_, _, _, x2, x3, x4, x5, x6⟩ | ⟨x1, _⟩
      · exact absurd x1 u3
      · have F9 := fl (g 0 + 1 + 1) (g 5) (by omega) u4 (by rw [x5]; exact u5) x4 x6 (x3.trans c3)
        exact ⟨_, _, Or.inr F9, fun u => (sy_no u F9).elim, by omega⟩
      · rcases x1 with x1 | x1
        · exact absurd u2 x1
        · omega
    · rcases n9 with ⟨x1, x2, _⟩ | ⟨x1, x2, _⟩ | ⟨_, x3, x4, x5, x6⟩
      · rcases u1 with u1 | u1
        · exact absurd x2 u1
        · omega
      · rcases u1 with u1 | u1
        · exact absurd x2 u1
        · omega
      · have F9 := fl (g 0 + 1) (g 5) (by omega) (by omega) (by rw [x5]; exact u2) x4 x6 (x3.trans c3)
        exact ⟨_, _, Or.inr F9, fun u => (sy_no u F9).elim, by omega⟩
  obtain ⟨T, G5, st9, sf9, hT9⟩ := key
  generalize hG : gu (gu (gu (gu (gu (gu g 0 T) 4 (g 4 + 1)) 1 ar') 2 cap') 3 (g 3 + 1)) 5 G5 = G at st9 sf9
  have G0 : G 0 = T := by rw [← hG]; rfl
  have G1 : G 1 = ar' := by rw [← hG]; rfl
  have G2 : G 2 = cap' := by rw [← hG]; rfl
  have G4 : G 4 = g 4 + 1 := by rw [← hG]; rfl
  have G6 : G 6 = g 6 := by rw [← hG]; rfl
  have oc9 : OPC cx F N q 3 34 h s g ts h9 s9 G (ts ++ [22 + h.length]) := by
    refine ⟨⟨st9, fun _ => ⟨z, sX_trans vaM_sX (n3 (g 4) (Nat.le_refl _)) (Nat.le_refl _), yA_trans vaM_yA n4⟩, ?_, by omega, rF_trans vaM_rF n2, by omega, by omega, by omega, by omega⟩, by omega, by omega⟩
    refine fr_trans (fr_trans (fr_app _ _) d3.1 (fun _ _ u => Or.inl u)) m4 (fun y hy u => ?_)
    rcases u with u | u | u | u | u | u
    · exact Or.inl u
    · exact Or.inr (Or.inl u)
    · exact Or.inr (Or.inr (Or.inl u))
    · exact Or.inr (Or.inr (Or.inr (Or.inl u)))
    · exact Or.inr (Or.inr (Or.inr (Or.inr u)))
    · omega
  obtain ⟨fsd, hd9⟩ := m9
  have hl9 := hc_lt m8
  have hld := hc_lt hd9
  obtain ⟨v9, p9⟩ := op_pC st9
  obtain ⟨h10, s10, g10, e101, e102, op10, n10, w10, s10e, y101, y102, y103, y104, y105, y106⟩ := op_need (L := L) (xs := xs) (zf := zf) (w := w) (k := ke + 6) (k2 := kr + 1) hT P61 st9
  have cp10 := on_keep st9 op10 m8
  obtain ⟨v10, p10⟩ := op_pC op10.1
  obtain ⟨h11, s11, g11, ts11, x, m, ec, er, op11, sl, nx, xl, nl, nr⟩ := IH 0 0 h10 s10 g10 _ op10.1 (by omega)
  have ec : dM L xs zf w (ke + 10) 123 [.ref (cx 7), .ref (cx 14), .int (i1 + 1)] h10 = some (some (.ref x), h11) := ec
  have er : rM w (kr + 4) 320 [.ref 36, .int (i1 + 1)] s10 = some (some (.int (Int32.ofNat m)), s11) := er
  have cp11 := on_keep op10.1 op11 cp10
  have o11 := op11.2.2.2.2.2.1
  have hm2 : SY cx F N q h11 s11 g11 ts11 → g 4 + 1 ≤ m := fun u => by have := (NR_rg _ _ _ _ _ _ _ _ (nr u).2.2).2.1; omega
  have op9 := oc9.1
  obtain ⟨h12, k1, k2, k3, k4, k5, op12, f112, f121⟩ := op_lnk (w := w) (x := x) (f := 8) (r := 45) (n := g 4) (m := m) hT (OPR_trans (OPR_trans op9 op10) op11) cp11 (Nat.le_refl _) (by omega) rfl (by omega) (by omega) (Nat.le_refl _) nl (fun u => by have := hm2 u; omega) (by omega)
  obtain ⟨v12, p12⟩ := op_pC op12.1
  obtain ⟨h13, s13, g13, e131, e132, op13, n13, w13, s13e, y131, y132, y133, y134, y135, y136⟩ := op_need (L := L) (xs := xs) (zf := zf) (w := w) (k := ke + 6) (k2 := kr + 1) hT P59 op12.1
  have cp13 := on_keep op12.1 op13 k2
  have l10 := w10.2.1
  have l12 := k3.2.1
  have l13 := w13.2.1
  have le11 := op11.2.2.1.1
  have hl13 := hc_lt cp13
  refine ⟨h13, s13, g13, ts11, 21 + h.length, g 4, ?_, ?_, OPC_le (OPC_trans (OPC_st (OPC_trans (OPC_trans oc9 op10) op11) k3 op12) op13) (by omega) (by omega), by omega, nW_of (o := none) cp13 rfl rfl rfl, Nat.le_refl _, by omega, fun u => ?_⟩
  · have c122 : dM L xs zf w (ke + 11) 122 [.ref (cx 7), .ref (cx 14), .int i1] h = some (some (.ref (21 + h.length)), h13) := by
      rw [e122]
      show b122_0 L xs zf (dM L xs zf w (ke + 10)) w (some (cx 7)) (some (cx 14)) i1 h = _
      unfold b122_0
      refine c_mk p0 15 (nd_new (k := ke + 9) 15 (vS cx F (g 0) 7)) ?_
      rw [vS_7]
      refine bse (c_in p1) (bse (a := h2) (by rw [c_rv p1, d1]; rfl) ?_)
      refine m1.trans ?_
      unfold vaR
      refine bse (a := h10) (by rw [c_pv p9, e101]; rfl) ?_
      refine bse (a := (some x, h11)) (by rw [c_pv p10, va_s, ec]; rfl) ?_
      refine bse k1 ?_
      exact bse (a := h13) (by rw [c_pv p12, e131]; rfl) rfl
    rw [e121]
    show b121_0 L xs zf (dM L xs zf w (ke + 11)) w (some (cx 7)) (some (cx 14)) i1 h = _
    unfold b121_0
    refine bse (c_in p0) (bse (c_I p0 6 (by omega)) ?_)
    rw [vS_6, t25]
    exact ifn (by decide) (ift rfl (bse (a := (some (21 + h.length), h13)) (by rw [c_pv p0, va_s, c122]; rfl) rfl))
  · refine r_318 (k := kr + 5) hT z Q5 t25 ?_
    unfold s318_36
    refine ifn (by decide) ?_
    refine bse (a := (Int32.ofNat (g 4), s13)) ?_ rfl
    rw [y319]
    refine bse (a := (some (.int (Int32.ofNat (g 4))), s13)) ?_ rfl
    show s319_0 (rM w (kr + 4)) w i1 s = _
    unfold s319_0
    refine bse (a := s.2.1 41 (g 0)) (aT (by omega) c1 (by omega)) ?_
    refine bse (a := (Int32.ofNat (g 4), ndS s (g 4) 20 (s.2.1 41 (g 0)))) (by rw [q316 (k := kr + 3) 20 _ c2 (by omega)]; rfl) ?_
    refine bse (pI_nx (s := ndS s (g 4) 20 (s.2.1 41 (g 0))) c1) ?_
    refine n1.trans ?_
    unfold vrR
    refine bse (a := s10) (by rw [e102]; rfl) ?_
    refine bse (a := (Int32.ofNat m, s11)) (by rw [er]; rfl) ?_
    refine bse (a := (Int32.ofNat m, rs_wA s11 49 m (Int32.ofNat (g 4)))) (by rw [k4]; rfl) ?_
    refine bse k5 ?_
    exact bse (a := s13) (by rw [e132]; rfl) rfl
  · have o13 := op13.2.2.2.2.2.1
    have o10 := op10.2.2.2.2.2.1
    have u12 := (op13.2.1 u).1
    have u11 := f121 u12
    have u10 := (op11.2.1 u11).1
    have u9 := (op10.2.1 u10).1
    obtain ⟨v1, v48, v2⟩ := nr u11
    have rg := NR_rg _ _ _ _ _ _ _ _ v2
    obtain ⟨x1, x2, x3, nm, fs, x4, x5, x6, x7, x8⟩ := sf9 u9
    have on13 := onR_keep op13 u (by omega) (lk_on (r := 45) (m := m) (by omega) (onR_keep op11 u11 (by omega) (onR_keep op10 u10 (by omega) n5)))
    have K12 := KD_new (n := g 4) (r := 45) v2 k3 cp11 (by omega) (by omega) (by omega)
    have K13 := KD_keep op13 u K12 (by omega) (bl_le (sy_cx (Or.inl z)) (by omega))
    have hd10 := oa_keep (p := 0) (n := 0) st9 (OPA_op (OPA_refl st9) op10) x5 (by decide) (by omega)
    have hd11 := oa_keep (p := 0) (n := 0) op10.1 (OPA_op (OPA_refl op10.1) op11) hd10 (by decide) (by omega)
    have hd12 := st1_old k3 hd11 (by omega)
    have hd13 := oa_keep (p := 0) (n := 0) op12.1 (OPA_op (OPA_refl op12.1) op13) hd12 (by decide) (by omega)
    have ya : yA s9 s13 := yA_trans (yA_trans (yA_trans (op10.2.1 u10).2.2 (op11.2.1 u11).2.2) (lk_yA (r := 45) (n := g 4) (m := m) (by omega))) (op13.2.1 u).2.2
    have ns : ∀ a b, nS L xs h9 a b → nS L xs h13 a b := fun a b e => nS_fr op13.2.2.1 (nS_fr k3.1 (nS_fr op11.2.2.1 (nS_fr op10.2.2.1 e)))
    have y26 : (g 5 : Int) < (s9.1 26).toInt := by rw [x2, of_int (by omega)]; omega
    have f51 := (hT.2.2 (g 0 + 1) (by omega)).1.1
    refine ⟨by omega, by rw [on13.1 48 (by omega) (by omega)]; rfl, ?_⟩
    obtain ⟨d, hd⟩ : ∃ d, g13 4 - g 4 = d + 1 := ⟨g13 4 - g 4 - 1, by omega⟩
    rw [hd]
    refine NR_15 (dd := 22 + h.length) ⟨c4, Nat.le_refl _, by omega, Nat.le_refl _, by omega⟩ ?_ ?_ ?_ (kd_of (KD_lz K13 (by omega)) ?_ ?_ ?_) ?_ ⟨by omega, by omega⟩ ⟨⟨nm, ?_, ?_⟩, ?_, ?_, g 5, ?_, ?_, ?_⟩ (by rw [fd_of cp13]; rfl)
    · rw [fd_of cp13]; rfl
    · rw [on13.1 44 (by omega) (by omega)]; rfl
    · rw [fd_of cp13, on13.1 50 (by omega) (by omega)]
      show some (Value.int (cpl cx F (g 0))) = some (Value.int (F 5 (g 0)))
      rw [f5]
    · rw [fd_of cp13]; rfl
    · rw [on13.1 45 (by omega) (by omega)]; rfl
    · unfold sub; omega
    · rw [fd_of cp13]; rfl
    · rw [fd_of hd13]; exact x6
    · rw [on13.2]; exact ns _ _ x4
    · rw [fd_of hd13, x7, on13.1 51 (by omega) (by omega)]
      show some (Value.int (cpl cx F (g 0 + 1))) = some (Value.int (F 5 (g 0 + 1)))
      rw [f51]
    · rw [fd_of hd13, x8, on13.1 53 (by omega) (by omega)]; rfl
    · rw [on13.1 54 (by omega) (by omega)]
      exact x1
    · have := ya.1
      omega
    · exact tyD_keep (fun j => by rw [fd_of hd13, fd_of x5]) ns ya y26 x3
end VX
