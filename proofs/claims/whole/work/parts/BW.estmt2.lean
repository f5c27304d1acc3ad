/-! STATEMENTS: an expression alone. -/
section ET
variable {L : Nat} {xs : Nat → Int32} {zf : Value} {w k k2 i : Nat} {cx : Nat → Nat} {F : Nat → Nat → Int32} {N : Nat → Int64} {q : List Value} {h h' h1 h2 : rm_H} {s s' s1 s2 : rS} {g g' g1 g2 : Nat → Nat} {ts ts' ts1 ts2 : List Nat} {v : Nat → Int32} {A ke kr c1 c2 : Nat} {i1 : Int32}
theorem n_10 (z : SY cx F N q h s g ts ∨ FLT cx F N q h s g ts) : s.1 10 = Int32.ofNat (g 4) := by
  rcases z with z | z
  · exact z.1.2.2.2.2.1.2.1
  · exact z.2.2.2.2.1.2.1
/-- a Node of its own behind what is there, with one part -/
theorem c_own {x : Nat} {W pl : Int32} {pt vr : Int32} (p2 : pC h2 cx F v) (ch2 : CH cx q h2 g ts pt vr) : ∃ h3, dpF (h2 ++ [nd0 W pl]) 8 [12] (some (21 + h2.length)) (.ref x) = some h3 ∧ pC h3 cx F v ∧ CH cx q h3 g ts pt vr ∧ hc h3 (21 + h2.length) = some (.inr (12, [.int W, .int pl, .ref 9, .int pl, .int 0, .null, .null, .null, .ref x, .null, .null, .null, .int 0])) ∧ fr (fun _ => False) h2 h3 ∧ h3.length = h2.length + 1 ∧ zh h3 = zh h2 + 13 := by
  have hd : hc (h2 ++ [nd0 W pl]) (21 + h2.length) = some (nd0 W pl) := hc_new _
  obtain ⟨h3, b1, b2, b3⟩ := pF_ex (j := 8) (cis := [12]) (v := .ref x) (u := .null) hd rfl (by decide) rfl (by decide)
  exact ⟨h3, b1, pC_w hd (by decide) b3 (pC_ap p2), CH_w hd (by decide) b3 (CH_ap (Or.inl (nd0_5 _ _)) ch2), b2, fr_trans (fr_app _ _) b3.1 (fun y hy u => by omega), by rw [b3.2.1, List.length_append]; rfl, by rw [b3.2.2, zh_nd]⟩
/-- the reference behind the expression, without '=' -/
theorem r_325 {n m t : Nat} {r : rS} (hm : m < 4400) (hn : n < 4400) (h8 : rM w (k + 1) 308 [.ref 36, .int 59] (lkS s 45 n m) = some (none, r)) : s318_325 (rM w (k + 1)) w (Int32.ofNat m) (Int32.ofNat n) s = some (some (.int (Int32.ofNat n)), r) := by
  unfold s318_325
  refine bse (a := (Int32.ofNat m, rs_wA s 49 m (Int32.ofNat n))) (by rw [q323 (k := k) hm]; rfl) ?_
  refine bse (a := lkS s 45 n m) (nWt (by omega) hn) ?_
  exact bse (a := r) (by rw [h8]; rfl) rfl
/-- the node is made -/
def enS (s : rS) (n m : Nat) (f : Int32) : rS := lkS (ndS s n 27 f) 45 n m
theorem en_1 {n m : Nat} {f : Int32} (j : Nat) (hj : j ≠ 10) : (enS s n m f).1 j = s.1 j := by
  show (ndS s n 27 f).1 j = _
  rw [nd_sc, if_neg hj]
theorem en_rF {n m : Nat} {f : Int32} : rF s (enS s n m f) := rF_trans rF_nd (lk_rF (by omega))
theorem en_row {n m p j : Nat} {f : Int32} (hp : p < 44) : (enS s n m f).2.1 p j = s.2.1 p j := by rw [en_rF.2.1 p (Or.inl hp)]
theorem x_est (hT : TF cx F N) (hA : A ≤ 2000) (IH : IHx L xs zf w cx F N q A (ke + 4) (kr + 3) 123 320 (i1 + 1)) (z : SY cx F N q h s g ts) (t : noS (ctk cx F (g 0))) (EQ : ∀ (h1 : rm_H) (s1 : rS) (g1 : Nat → Nat) (ts1 : List Nat) (x m : Nat), dM L xs zf w (ke + 4 + k) 123 [.ref (cx 7), .ref (cx 14), .int (i1 + 1)] h = some (some (.ref x), h1) → rM w (kr + 3 + k) 320 [.ref 36, .int (i1 + 1)] s = some (some (.int (Int32.ofNat m)), s1) → OPR cx F N q h s g ts h1 s1 g1 ts1 → nW h1 x → m < g1 4 → SY cx F N q h1 s1 g1 ts1 → ctk cx F (g1 0) = 14 → g 0 < g1 0 → s1.2.1 48 m = 0 → NR L xs h1 s1 (0, A / 20 + 1) (g1 4 - g 4) (g 4) (g1 4) (21 + h.length) (21 + h1.length) m x → STR L xs cx F N q (A + 20) h s g ts (dM L xs zf w (ke + 6 + k) 121 [.ref (cx 7), .ref (cx 14), .int i1] h) (rM w (kr + 4 + k) 318 [.ref 36, .int i1] s)) : STR L xs cx F N q (A + 20) h s g ts (dM L xs zf w (ke + 6 + k) 121 [.ref (cx 7), .ref (cx 14), .int i1] h) (rM w (kr + 4 + k) 318 [.ref 36, .int i1] s) := by
  have g6 := z.2
  have nl0 := n_lt hT (Or.inl z)
  have f5 := (hT.2.2 (g 0) z.1.2.2.2.2.2.1).1.1
  have rt0 := z.1.2.2.1
  have blz := sy_cx (Or.inl z)
  obtain ⟨h1, s1, g1, ts1, x, m, ec, er, op1, sl, nx, xl, nl, nr⟩ := IH k k h s g ts (Or.inl z) (by omega)
  have nl1 := n_lt hT op1.1
  have n10 := n_10 op1.1
  have o1 := op1.2.2.2.2.2.1
  have le1 := op1.2.2.1.1
  have q16 : rM w (kr + 3 + k) 316 [.ref 36, .int 27, .int (s.2.1 41 (g 0))] s1 = some (some (.int (Int32.ofNat (g1 4))), ndS s1 (g1 4) 27 (s.2.1 41 (g 0))) := by
    rw [show kr + 3 + k = kr + 2 + k + 1 from by omega]
    exact q316 27 _ n10 (by omega)
  -- what is left where '=' isn't there
  have fin : ∀ (h4 : rm_H) (s4 : rS) (g4 : Nat → Nat) (p2 : Nat), dM L xs zf w (ke + 5 + k) 141 [.ref (cx 7), .ref (cx 14), .int i1] h = some (some (.ref p2), h4) → rM w (kr + 3 + k) 309 [.ref 36, .int 61] (ndS s1 (g1 4) 27 (s.2.1 41 (g 0))) = some (some (.int 0), ndS s1 (g1 4) 27 (s.2.1 41 (g 0))) → rM w (kr + 3 + k) 308 [.ref 36, .int 59] (enS s1 (g1 4) m (s.2.1 41 (g 0))) = some (none, s4) → OPC cx F N q 2 11 h s g ts h4 s4 g4 ts1 → g4 6 ≤ A + 20 → nW h4 p2 → 21 + h.length ≤ p2 → g1 4 < g4 4 → (SY cx F N q h4 s4 g4 ts1 → g 0 < g4 0 ∧ s4.2.1 48 (g1 4) = 0 ∧ NR L xs h4 s4 (2, (A + 20) / 20 + 1) (g4 4 - g 4) (g 4) (g4 4) (21 + h.length) (21 + h4.length) (g1 4) p2) → STR L xs cx F N q (A + 20) h s g ts (dM L xs zf w (ke + 6 + k) 121 [.ref (cx 7), .ref (cx 14), .int i1] h) (rM w (kr + 4 + k) 318 [.ref 36, .int i1] s) := by
    intro h4 s4 g4 p2 c141 q9 q8 oc sl4 np pl4 n4 nr4
    refine ⟨h4, s4, g4, ts1, p2, g1 4, ?_, ?_, oc, sl4, np, pl4, n4, nr4⟩
    · rw [show ke + 6 + k = ke + 5 + k + 1 from by omega]
      exact c_121e hT z t c141
    · rw [show kr + 4 + k = kr + 3 + k + 1 from by omega]
      refine r_318e hT z t ?_
      unfold s318_e
      refine bse (a := (Int32.ofNat m, s1)) (by rw [er]; rfl) ?_
      refine bse (a := (Int32.ofNat (g1 4), ndS s1 (g1 4) 27 (s.2.1 41 (g 0)))) (by rw [q16]; rfl) ?_
      refine bse (a := ((0 : Int32), ndS s1 (g1 4) 27 (s.2.1 41 (g 0)))) (by rw [q9]; rfl) (ift (show mx_f1 .eq 0 = true by decide) ?_)
      rw [show kr + 3 + k = kr + 2 + k + 1 from by omega] at q8 ⊢
      exact r_325 (t := 0) (by omega) (by omega) q8
  rcases op1.1 with y | y
  · obtain ⟨⟨p, ⟨a1, a2, a3, a4⟩, rt, ch, ⟨c1, c2, c3, c4⟩, b1, b2, b3, b4⟩, g61⟩ := id y
    obtain ⟨⟨f51, _, tr⟩, _⟩ := hT.2.2 (g1 0) b1
    obtain ⟨v0, v48, vN⟩ := nr y
    by_cases t14 : ctk cx F (g1 0) = 14
    · exact EQ h1 s1 g1 ts1 x m ec er op1 nx nl y t14 v0 v48 vN
    · obtain ⟨h2, d1, d2, d3⟩ := y_skipF (L := L) (xs := xs) (zf := zf) (w := w) (k := ke + k) p 14 t14
      have ch2 := CH_r p d3 ch
      obtain ⟨h3, e1, e2, e3, e4, e5, e6, e7⟩ := c_own (x := x) (W := 22) (pl := cpl cx F (g 0)) d2 ch2
      have l2 := d3.2.1
      have y2 := d3.2.2
      have F13 : fr (fun y => y = cx 0) h1 h3 := fr_trans d3.1 e5 (fun _ _ u => u.elim)
      have c141 : ∀ h4, dM L xs zf w (ke + 4 + k) 109 [.ref (cx 7), .int 9] h3 = some (none, h4) → dM L xs zf w (ke + 5 + k) 141 [.ref (cx 7), .ref (cx 14), .int i1] h = some (some (.ref (21 + h2.length)), h4) := by
        intro h4 e
        rw [show ke + 5 + k = ke + 4 + k + 1 from by omega]
        refine c_141 (b := false) z.1.1 p ec (by rw [show ke + 4 + k = ke + k + 4 from by omega]; exact d1) ?_
        rw [show ke + 4 + k = ke + 3 + k + 1 from by omega] at e ⊢
        exact c_141n e1 e2 e
      have q9 := q309 (w := w) (k := kr + 1 + k) (s := ndS s1 (g1 4) 27 (s.2.1 41 (g 0))) (t := g1 0) 61 a1 c1 (by omega)
      rw [show (ndS s1 (g1 4) 27 (s.2.1 41 (g 0))).2.1 40 (g1 0) = F 4 (g1 0) from by rw [rF_nd.2.1 40 (by omega), rt.1], show (ndS s1 (g1 4) 27 (s.2.1 41 (g 0))).2.1 42 (g1 0) = F 6 (g1 0) from by rw [rF_nd.2.1 42 (by omega), rt.2.2.1], decide_eq_false (fun u => t14 ((sg_iff tr P61).mp u)), if_neg (fun u => t14 ((sg_iff tr P61).mp u)), show kr + 1 + k + 2 = kr + 3 + k from by omega] at q9
      have q8 := q308 (w := w) (k := kr + k) (s := enS s1 (g1 4) m (s.2.1 41 (g 0))) (t := g1 0) 59 a1 c1 (by omega)
      rw [en_row (by omega), en_row (by omega), rt.1, rt.2.2.1, show kr + k + 3 = kr + 3 + k from by omega] at q8
      have hp0 : 21 + h2.length ≠ cx 0 := by have := hc_lt (pC_r d2); omega
      have rten := rT_F (en_rF (n := g1 4) (m := m) (f := s.2.1 41 (g 0))) rt
      by_cases t9 : ctk cx F (g1 0) = 9
      · have hlt : g1 0 < cx 16 := w_pass hT y 9 t9 (by decide) (by decide)
        obtain ⟨h4, w1, w2, w3⟩ := y_takeT (L := L) (xs := xs) (zf := zf) (w := w) (k := ke + k) hT hlt e2 9 t9
        rw [if_pos ((sg_iff tr P59).mpr t9)] at q8
        have l4 := w3.2.1
        have y4 := w3.2.2
        have F14 : fr (fun y => y = cx 0) h1 h4 := fr_trans F13 w3.1 (fun _ _ u => u)
        have cp4 := st1_old w3 e4 hp0
        have sx : sX s1 (nxS (enS s1 (g1 4) m (s.2.1 41 (g 0))) (g1 0)) (g 4) := sX_trans (sX_trans (sX_trans (sX_nd (by omega)) (sX_A (NR_rg _ _ _ _ _ _ _ _ vN).2.1) (Nat.le_refl _)) (sX_A (by omega)) (Nat.le_refl _)) sX_w (Nat.le_refl _)
        have ya : yA s1 (nxS (enS s1 (g1 4) m (s.2.1 41 (g 0))) (g1 0)) := by
          refine yA_trans (yA_trans (s1 := ndS s1 (g1 4) 27 (s.2.1 41 (g 0))) (yA_of rfl (fun r h1 h2 => ?_) ?_) (lk_yA (by omega))) (yA_2 rfl rfl)
          · funext j; rw [nd_get, if_neg (by omega)]
          · funext j; rw [nd_getJ, if_neg (by omega)]
        have sy4 : SY cx F N q h4 (nxS (enS s1 (g1 4) m (s.2.1 41 (g 0))) (g1 0)) (gu (gu g1 0 (g1 0 + 1)) 4 (g1 4 + 1)) ts1 := by
          refine ⟨⟨w2, ⟨a1, a2, a3, a4⟩, rT_F rF_nx rten, CH_g (g := g1) rfl rfl rfl (CH_r e2 w3 e3), ⟨rfl, rfl, c3, ?_⟩, ?_⟩, g61.1, TSI_n g61.2 F14 (cx0_10 p) (nD_st (nD_trans (nD_0 d3.2.1) e5 (nD_1 (by omega) e4 (fun _ z => by cases z))) w3) (tR_trans (tR_trans (tR_sX (sX_nd (Nat.le_refl _))) (lk_tR (r := 45) (by omega)) (Nat.le_refl _)) (tR_2 rfl) (Nat.le_refl _)) (yA_n c3 (by omega) ya) (Nat.le_refl _) (Nat.le_succ _) rfl (fun n n1 n2 => ?_)⟩
          rotate_left 2
          · have n3 : n < g1 4 + 1 := n2
            have n4 : n = g1 4 := by omega
            have e44 : (nxS (enS s1 (g1 4) m (s.2.1 41 (g 0))) (g1 0)).2.1 44 (g1 4) = 27 := by
              show (lkS (ndS s1 (g1 4) 27 (s.2.1 41 (g 0))) 45 (g1 4) m).2.1 44 (g1 4) = 27
              unfold lkS
              rw [wA_get, if_neg (by omega), wA_get, if_neg (by omega), nd_get, if_pos ⟨rfl, by omega, by omega⟩]
              rfl
            rw [n4, e44]
            decide
          · show 1 ≤ g1 4 + 1
            omega
          · show g1 0 + 1 ≤ _ ∧ _ ≤ g1 0 + 1 ∧ g1 4 + 1 ≤ (g1 0 + 1) + 2 ∧ g1 5 + 2 ≤ g1 0 + 1
            omega
        have opf : OPR cx F N q h s g ts h4 (nxS (enS s1 (g1 4) m (s.2.1 41 (g 0))) (g1 0)) (gu (gu g1 0 (g1 0 + 1)) 4 (g1 4 + 1)) ts1 := by
          obtain ⟨_, m2, m3, m4, m5, m6, m7, m8, m9⟩ := op1
          refine ⟨Or.inl sy4, fun _ => ⟨z, sX_trans (m2 y).2.1 sx (Nat.le_refl _), yA_trans (m2 y).2.2 ya⟩, fr_trans m3 F14 (fun _ _ u => Or.inl u), m4, rF_trans m5 (rF_trans en_rF rF_nx), ?_⟩
          show (g 0 ≤ g1 0 + 1 ∧ g 4 ≤ g1 4 + 1) ∧ h4.length + 10 * g 0 + g 6 ≤ h.length + 10 * (g1 0 + 1) + g1 6 ∧ zh h4 + 4 * g 2 + 80 * g 0 + 8 * g 6 ≤ zh h + 4 * g1 2 + 80 * (g1 0 + 1) + 8 * g1 6 ∧ g1 4 + 1 + g 0 + g 6 ≤ g 4 + (g1 0 + 1) + g1 6
          omega
        have ocf : OPC cx F N q 2 11 h s g ts h4 (nxS (enS s1 (g1 4) m (s.2.1 41 (g 0))) (g1 0)) (gu (gu g1 0 (g1 0 + 1)) 4 (g1 4 + 1)) ts1 := by
          refine ⟨opf, ?_⟩
          have m7 := op1.2.2.2.2.2.2.1
          have m8 := op1.2.2.2.2.2.2.2.1
          show h4.length + 10 * g 0 + g 6 + 2 ≤ h.length + 10 * (g1 0 + 1) + g1 6 ∧ zh h4 + 4 * g 2 + 80 * g 0 + 8 * g 6 + 11 ≤ zh h + 4 * g1 2 + 80 * (g1 0 + 1) + 8 * g1 6
          omega
        refine fin h4 _ _ _ (c141 h4 (by rw [show ke + 4 + k = ke + k + 4 from by omega]; exact w1)) q9 q8 ocf ?_ (nW_of (o := none) cp4 rfl rfl rfl) (by omega) ?_ (fun u => ⟨?_, ?_, ?_⟩)
        · show g1 6 ≤ A + 20
          omega
        · show g1 4 < g1 4 + 1
          omega
        · show g 0 < g1 0 + 1
          omega
        · show (lkS (ndS s1 (g1 4) 27 (s.2.1 41 (g 0))) 45 (g1 4) m).2.1 48 (g1 4) = 0
          unfold lkS
          rw [wA_get, if_neg (by omega), wA_get, if_neg (by omega), nd_get, if_pos ⟨rfl, by omega, by omega⟩]
          rfl
        · have rgm := NR_rg _ _ _ _ _ _ _ _ vN
          have onN : onR (ndS s1 (g1 4) 27 (s.2.1 41 (g 0))) (g1 4) (fun r => ndV r 27 (s.2.1 41 (g 0))) 0 := ⟨fun r h1 h2 => by rw [nd_get, if_pos ⟨rfl, h1, h2⟩], by rw [nd_getJ, if_pos ⟨rfl, rfl⟩]⟩
          have on4 : onR (nxS (enS s1 (g1 4) m (s.2.1 41 (g 0))) (g1 0)) (g1 4) (upd (fun r => ndV r 27 (s.2.1 41 (g 0))) 45 (Int32.ofNat m)) 0 := lk_on (r := 45) (m := m) (by omega) onN
          have N4 : NR L xs h4 (nxS (enS s1 (g1 4) m (s.2.1 41 (g 0))) (g1 0)) (0, A / 20 + 1) (g1 4 - g 4) (g 4) (g1 4) (21 + h.length) (21 + h1.length) m x := by
            refine NR_fr F14 ya _ _ _ _ _ _ _ _ vN (cA_M4 p ch (fr_mono F14 (fun _ _ u => Or.inl u)) blz) ?_
            refine sA_trans (sA_trans (s1 := ndS s1 (g1 4) 27 (s.2.1 41 (g 0))) (fun j h1 h2 => ?_) (sA_trans (sA_A (Or.inr (Or.inr ⟨rfl, Or.inr rfl⟩))) (sA_A (by omega)))) (sA_1 rfl)
            exact ⟨fun r _ => by rw [nd_get, if_neg (by omega)], by rw [nd_getJ, if_neg (by omega)], fun _ => ⟨by rw [nd_get, if_neg (by omega)], by rw [nd_get, if_neg (by omega)]⟩, fun _ => by rw [nd_get, if_neg (by omega)]⟩
          have K4 : KD L xs (0, A / 20 + 1) h4 (nxS (enS s1 (g1 4) m (s.2.1 41 (g 0))) (g1 0)) (g1 4) m x (g 4) (g1 4) (21 + h.length) (21 + h1.length) := ⟨N4, lk_49 (by decide)⟩
          have hl4 := hc_lt cp4
          show NR L xs h4 _ _ (g1 4 + 1 - g 4) (g 4) (g1 4 + 1) _ _ _ _
          rw [show g1 4 + 1 - g 4 = (g1 4 - g 4) + 1 from by omega]
          refine NR_K (W := 22) ⟨nl0.2.2.1, by omega, by omega, by omega, hl4⟩ (by omega) ?_ ?_ ?_ ?_ (fun c hc => ?_) (by rw [fd_of cp4]; rfl) (fun z => by omega)
          · rw [fd_of cp4]; rfl
          · rw [on4.1 44 (by omega) (by omega), upd_ne _ _ (by decide)]; rfl
          · rw [fd_of cp4, on4.1 50 (by omega) (by omega), upd_ne _ _ (by decide)]
            show some (Value.int (cpl cx F (g 0))) = some (Value.int (s.2.1 41 (g 0)))
            rw [rt0.2.1, f5]
          · rw [fd_of cp4]; rfl
          · have : c = (8, 45, false) := by simpa [kids] using hc
            subst this
            refine kd_of (KD_lz K4 (by omega)) ?_ ?_ ?_
            · rw [fd_of cp4]; rfl
            · rw [on4.1 45 (by omega) (by omega), upd_eq]
            · unfold sub; omega
      · obtain ⟨h4, v4, w1, w2, w3, w4⟩ := y_takeF (L := L) (xs := xs) (zf := zf) (w := w) (k := ke + k) hT b1 e2 9 t9
        rw [if_neg (fun u => t9 ((sg_iff tr P59).mp u))] at q8
        have l4 := w4.2.1
        have y4 := w4.2.2
        have fl : FLT cx F N q h4 (stS (enS s1 (g1 4) m (s.2.1 41 (g 0))) (g1 0)) (gu (gu g1 4 (g1 4 + 1)) 6 (g1 6 + 4)) ts1 := by
          refine ⟨⟨v4, w2, ?_⟩, rfl, rT_F rF_st rten, ⟨_, _, CH_g (g := g1) rfl rfl rfl (CH_r e2 w4 e3)⟩, ⟨c1, rfl, c3, ?_⟩, ?_⟩
          · show rfd v4 ((enS s1 (g1 4) m (s.2.1 41 (g 0))).2.1 41 (g1 0))
            rw [en_row (by omega), rt.2.1, f51]
            exact w3
          · show 1 ≤ g1 4 + 1
            omega
          · show g1 0 ≤ _ ∧ _ ≤ g1 0 + (g1 6 + 4) ∧ g1 4 + 1 ≤ g1 0 + 2 + (g1 6 + 4)
            omega
        have F14 : fr (fun y => y = cx 0) h1 h4 := fr_trans F13 w4.1 (fun _ _ u => u)
        have cp4 := st1_old w4 e4 hp0
        obtain ⟨_, m2, m3, m4, m5, m6, m7, m8, m9⟩ := op1
        refine fin h4 _ _ _ (c141 h4 (by rw [show ke + 4 + k = ke + k + 4 from by omega]; exact w1)) q9 q8 ⟨⟨Or.inr fl, fun u => (sy_no u fl).elim, fr_trans m3 F14 (fun _ _ u => Or.inl u), m4, rF_trans m5 (rF_trans en_rF rF_st), ?_⟩, ?_⟩ ?_ (nW_of (o := none) cp4 rfl rfl rfl) (by omega) ?_ (fun u => (sy_no u fl).elim)
        · show (g 0 ≤ g1 0 ∧ g 4 ≤ g1 4 + 1) ∧ h4.length + 10 * g 0 + g 6 ≤ h.length + 10 * g1 0 + (g1 6 + 4) ∧ zh h4 + 4 * g 2 + 80 * g 0 + 8 * g 6 ≤ zh h + 4 * g1 2 + 80 * g1 0 + 8 * (g1 6 + 4) ∧ g1 4 + 1 + g 0 + g 6 ≤ g 4 + g1 0 + (g1 6 + 4)
          omega
        · show h4.length + 10 * g 0 + g 6 + 2 ≤ h.length + 10 * g1 0 + (g1 6 + 4) ∧ zh h4 + 4 * g 2 + 80 * g 0 + 8 * g 6 + 11 ≤ zh h + 4 * g1 2 + 80 * g1 0 + 8 * (g1 6 + 4)
          omega
        · show g1 6 + 4 ≤ A + 20
          omega
        · show g1 4 < g1 4 + 1
          omega
  · obtain ⟨⟨v, p, r⟩, h57, rt, ⟨pt, vr, ch⟩, cs, b⟩ := id y
    obtain ⟨h2, d1, d2, d3⟩ := y_skipF (L := L) (xs := xs) (zf := zf) (w := w) (k := ke + k) p 14 (by rw [r.2.1]; decide)
    have ch2 := CH_r p d3 ch
    obtain ⟨h3, e1, e2, e3, e4, e5, e6, e7⟩ := c_own (x := x) (W := 22) (pl := cpl cx F (g 0)) d2 ch2
    obtain ⟨h4, w1, w2, w3⟩ := z_take (L := L) (xs := xs) (zf := zf) (w := w) (k := ke + k) r e2 9 (by decide)
    have l2 := d3.2.1
    have y2 := d3.2.2
    have l4 := w3.2.1
    have y4 := w3.2.2
    have hp0 : 21 + h2.length ≠ cx 0 := by have := hc_lt (pC_r d2); omega
    have cp4 := st1_old w3 e4 hp0
    have F14 : fr (fun y => y = cx 0) h1 h4 := fr_trans (fr_trans d3.1 e5 (fun _ _ u => u.elim)) w3.1 (fun _ _ u => u)
    have fl : FLT cx F N q h4 (enS s1 (g1 4) m (s.2.1 41 (g 0))) (gu (gu g1 4 (g1 4 + 1)) 6 (g1 6 + 4)) ts1 := by
      refine ⟨⟨v, w2, r⟩, h57, rT_F en_rF rt, ⟨_, _, CH_g (g := g1) rfl rfl rfl (CH_r e2 w3 e3)⟩, ⟨cs.1, rfl, cs.2.2.1, ?_⟩, ?_⟩
      · show 1 ≤ g1 4 + 1
        omega
      · show g1 0 ≤ _ ∧ _ ≤ g1 0 + (g1 6 + 4) ∧ g1 4 + 1 ≤ g1 0 + 2 + (g1 6 + 4)
        omega
    obtain ⟨_, m2, m3, m4, m5, m6, m7, m8, m9⟩ := op1
    refine fin h4 _ _ _ ?_ ?_ ?_ ⟨⟨Or.inr fl, fun u => (sy_no u fl).elim, fr_trans m3 F14 (fun _ _ u => Or.inl u), m4, rF_trans m5 en_rF, ?_⟩, ?_⟩ ?_ (nW_of (o := none) cp4 rfl rfl rfl) (by omega) ?_ (fun u => (sy_no u fl).elim)
    · rw [show ke + 5 + k = ke + 4 + k + 1 from by omega]
      refine c_141 (b := false) z.1.1 p ec (by rw [show ke + 4 + k = ke + k + 4 from by omega]; exact d1) ?_
      rw [show ke + 4 + k = ke + 3 + k + 1 from by omega]
      exact c_141n e1 e2 (by rw [show ke + 3 + k + 1 = ke + k + 4 from by omega]; exact w1)
    · rw [show kr + 3 + k = kr + 1 + k + 2 from by omega]
      exact z309 (k := kr + 1 + k) 61 h57
    · rw [show kr + 3 + k = kr + k + 3 from by omega]
      exact z308 (k := kr + k) (t := g1 0) 59 h57 cs.1 (by omega)
    · show (g 0 ≤ g1 0 ∧ g 4 ≤ g1 4 + 1) ∧ h4.length + 10 * g 0 + g 6 ≤ h.length + 10 * g1 0 + (g1 6 + 4) ∧ zh h4 + 4 * g 2 + 80 * g 0 + 8 * g 6 ≤ zh h + 4 * g1 2 + 80 * g1 0 + 8 * (g1 6 + 4) ∧ g1 4 + 1 + g 0 + g 6 ≤ g 4 + g1 0 + (g1 6 + 4)
      omega
    · show h4.length + 10 * g 0 + g 6 + 2 ≤ h.length + 10 * g1 0 + (g1 6 + 4) ∧ zh h4 + 4 * g 2 + 80 * g 0 + 8 * g 6 + 11 ≤ zh h + 4 * g1 2 + 80 * g1 0 + 8 * (g1 6 + 4)
      omega
    · show g1 6 + 4 ≤ A + 20
      omega
    · show g1 4 < g1 4 + 1
      omega
end ET
