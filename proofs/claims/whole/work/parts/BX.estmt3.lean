/-! STATEMENTS: what is given to an expression. -/
section EU
variable {L : Nat} {xs : Nat → Int32} {zf : Value} {w k k2 i : Nat} {cx : Nat → Nat} {F : Nat → Nat → Int32} {N : Nat → Int64} {q : List Value} {h h1 : rm_H} {s s1 : rS} {g g1 : Nat → Nat} {ts ts1 : List Nat} {v : Nat → Int32} {A ke kr : Nat} {i1 : Int32}
theorem x_eq {x m : Nat} (hT : TF cx F N) (hA : A ≤ 2000) (IH : IHx L xs zf w cx F N q A (ke + 4) (kr + 3) 123 320 (i1 + 1)) (z : SY cx F N q h s g ts) (t : noS (ctk cx F (g 0))) (ec : dM L xs zf w (ke + 4 + k) 123 [.ref (cx 7), .ref (cx 14), .int (i1 + 1)] h = some (some (.ref x), h1)) (er : rM w (kr + 3 + k) 320 [.ref 36, .int (i1 + 1)] s = some (some (.int (Int32.ofNat m)), s1)) (op1 : OPR cx F N q h s g ts h1 s1 g1 ts1) (nx : nW h1 x) (nl : m < g1 4) (y : SY cx F N q h1 s1 g1 ts1) (t14 : ctk cx F (g1 0) = 14) (v0 : g 0 < g1 0) (v48 : s1.2.1 48 m = 0) (vN : NR L xs h1 s1 (0, A / 20 + 1) (g1 4 - g 4) (g 4) (g1 4) (21 + h.length) (21 + h1.length) m x) : STR L xs cx F N q (A + 20) h s g ts (dM L xs zf w (ke + 6 + k) 121 [.ref (cx 7), .ref (cx 14), .int i1] h) (rM w (kr + 4 + k) 318 [.ref 36, .int i1] s) := by
  have g6 := z.2
  have nl0 := n_lt hT (Or.inl z)
  have f5 := (hT.2.2 (g 0) z.1.2.2.2.2.2.1).1.1
  have rt0 := z.1.2.2.1
  have blz := sy_cx (Or.inl z)
  have nl1 := n_lt hT op1.1
  have n10 := n_10 op1.1
  have o1 := op1.2.2.2.2.2.1
  have le1 := op1.2.2.1.1
  have rgm := NR_rg _ _ _ _ _ _ _ _ vN
  obtain ⟨⟨p, ⟨a1, a2, a3, a4⟩, rt, ch, ⟨c1, c2, c3, c4⟩, b1, b2, b3, b4⟩, g61⟩ := id y
  obtain ⟨⟨f51, _, tr⟩, _⟩ := hT.2.2 (g1 0) b1
  have hlt : g1 0 < cx 16 := w_pass hT y 14 t14 (by decide) (by decide)
  obtain ⟨h2, d1, d2, d3⟩ := y_skipT (L := L) (xs := xs) (zf := zf) (w := w) (k := ke + k) hT hlt p 14 t14
  have ch2 := CH_r p d3 ch
  obtain ⟨h3, e1, e2, e3, e4, e5, e6, e7⟩ := c_own (x := x) (W := 21) (pl := cpl cx F (g 0)) d2 ch2
  have l2 := d3.2.1
  have y2 := d3.2.2
  have F13 : fr (fun y => y = cx 0) h1 h3 := fr_trans d3.1 e5 (fun _ _ u => u.elim)
  have q16 : rM w (kr + 3 + k) 316 [.ref 36, .int 27, .int (s.2.1 41 (g 0))] s1 = some (some (.int (Int32.ofNat (g1 4))), ndS s1 (g1 4) 27 (s.2.1 41 (g 0))) := by
    rw [show kr + 3 + k = kr + 2 + k + 1 from by omega]
    exact q316 27 _ n10 (by omega)
  have q9 := q309 (w := w) (k := kr + 1 + k) (s := ndS s1 (g1 4) 27 (s.2.1 41 (g 0))) (t := g1 0) 61 a1 c1 (by omega)
  rw [show (ndS s1 (g1 4) 27 (s.2.1 41 (g 0))).2.1 40 (g1 0) = F 4 (g1 0) from by rw [rF_nd.2.1 40 (by omega), rt.1], show (ndS s1 (g1 4) 27 (s.2.1 41 (g 0))).2.1 42 (g1 0) = F 6 (g1 0) from by rw [rF_nd.2.1 42 (by omega), rt.2.2.1], decide_eq_true ((sg_iff tr P61).mpr t14), if_pos ((sg_iff tr P61).mpr t14), show kr + 1 + k + 2 = kr + 3 + k from by omega] at q9
  -- the state behind '='
  obtain ⟨s3, hs3⟩ : ∃ s3, s3 = rs_wA (nxS (ndS s1 (g1 4) 27 (s.2.1 41 (g 0))) (g1 0)) 44 (g1 4) 26 := ⟨_, rfl⟩
  have q0 : gu (gu g1 0 (g1 0 + 1)) 4 (g1 4 + 1) 0 = g1 0 + 1 := rfl
  have q2 : gu (gu g1 0 (g1 0 + 1)) 4 (g1 4 + 1) 2 = g1 2 := rfl
  have q4 : gu (gu g1 0 (g1 0 + 1)) 4 (g1 4 + 1) 4 = g1 4 + 1 := rfl
  have q6 : gu (gu g1 0 (g1 0 + 1)) 4 (g1 4 + 1) 6 = g1 6 := rfl
  have rf3 : rF s1 s3 := by rw [hs3]; exact rF_trans (rF_trans rF_nd rF_nx) (rF_A (by omega))
  have sx3 : sX s1 s3 (g1 4) := by rw [hs3]; exact sX_trans (sX_trans (sX_nd (Nat.le_refl _)) sX_w (Nat.le_refl _)) (sX_A (Nat.le_refl _)) (Nat.le_refl _)
  have ya3 : yA s1 s3 := by
    rw [hs3]
    refine yA_trans (s1 := ndS s1 (g1 4) 27 (s.2.1 41 (g 0))) (yA_of rfl (fun r h1 h2 => ?_) ?_) (yA_trans (s1 := nxS (ndS s1 (g1 4) 27 (s.2.1 41 (g 0))) (g1 0)) (yA_2 rfl rfl) (yA_A (by omega)))
    · funext j; rw [nd_get, if_neg (by omega)]
    · funext j; rw [nd_getJ, if_neg (by omega)]
  have on3 : onR s3 (g1 4) (upd (fun r => ndV r 27 (s.2.1 41 (g 0))) 44 26) 0 := by
    rw [hs3]
    have onN : onR (nxS (ndS s1 (g1 4) 27 (s.2.1 41 (g 0))) (g1 0)) (g1 4) (fun r => ndV r 27 (s.2.1 41 (g 0))) 0 := by
      refine ⟨fun r h1 h2 => ?_, ?_⟩
      · show (ndS s1 (g1 4) 27 (s.2.1 41 (g 0))).2.1 r (g1 4) = _
        rw [nd_get, if_pos ⟨rfl, h1, h2⟩]
      · show (ndS s1 (g1 4) 27 (s.2.1 41 (g 0))).2.2 56 (g1 4) = _
        rw [nd_getJ, if_pos ⟨rfl, rfl⟩]
    have a := onR_A (i := 44) (j := g1 4) (y := 26) onN
    rw [if_pos rfl] at a
    exact a
  have sy3 : SY cx F N q h3 s3 (gu (gu g1 0 (g1 0 + 1)) 4 (g1 4 + 1)) ts1 := by
    refine ⟨⟨e2, ?_, rT_F rf3 rt, ?_, ?_, ?_⟩, g61.1, TSI_n g61.2 F13 (cx0_10 p) (nD_trans (nD_0 d3.2.1) e5 (nD_1 (by omega) e4 (fun _ z => by cases z))) (tR_sX sx3) (yA_n c3 (by omega) ya3) (Nat.le_refl _) (Nat.le_succ _) rfl (fun n n1 n2 => ?_)⟩
    rotate_left 4
    · have n3 : n < g1 4 + 1 := n2
      have n4 : n = g1 4 := by omega
      have e44 := on3.1 44 (by omega) (by omega)
      rw [upd_eq] at e44
      rw [n4, e44]
      decide
    · rw [hs3]; exact ⟨a1, a2, a3, a4⟩
    · rw [hs3]; exact CH_g (g := g1) rfl rfl rfl e3
    · rw [hs3]
      refine ⟨rfl, rfl, c3, ?_⟩
      show 1 ≤ g1 4 + 1
      omega
    · show g1 0 + 1 ≤ _ ∧ _ ≤ g1 0 + 1 ∧ g1 4 + 1 ≤ (g1 0 + 1) + 2 ∧ g1 5 + 2 ≤ g1 0 + 1
      omega
  have oc3 : OPC cx F N q 2 11 h s g ts h3 s3 (gu (gu g1 0 (g1 0 + 1)) 4 (g1 4 + 1)) ts1 := by
    obtain ⟨_, m2, m3, m4, m5, m6, m7, m8, m9⟩ := op1
    refine ⟨⟨Or.inl sy3, fun _ => ⟨z, sX_trans (m2 y).2.1 sx3 o1.2, yA_trans (m2 y).2.2 ya3⟩, fr_trans m3 F13 (fun _ _ u => Or.inl u), m4, rF_trans m5 rf3, ?_⟩, ?_⟩
    · show (g 0 ≤ g1 0 + 1 ∧ g 4 ≤ g1 4 + 1) ∧ h3.length + 10 * g 0 + g 6 ≤ h.length + 10 * (g1 0 + 1) + g1 6 ∧ zh h3 + 4 * g 2 + 80 * g 0 + 8 * g 6 ≤ zh h + 4 * g1 2 + 80 * (g1 0 + 1) + 8 * g1 6 ∧ g1 4 + 1 + g 0 + g 6 ≤ g 4 + (g1 0 + 1) + g1 6
      omega
    · show h3.length + 10 * g 0 + g 6 + 2 ≤ h.length + 10 * (g1 0 + 1) + g1 6 ∧ zh h3 + 4 * g 2 + 80 * g 0 + 8 * g 6 + 11 ≤ zh h + 4 * g1 2 + 80 * (g1 0 + 1) + 8 * g1 6
      omega
  obtain ⟨h4, s4, g4, ts4, x4, m4, ec4, er4, op4, sl4, nx4, xl4, nl4, nr4⟩ := IH k k h3 s3 _ ts1 (Or.inl sy3) (by omega)
  have cp4 := on_keep (Or.inl sy3) op4 e4
  have o4 := op4.2.2.2.2.2.1
  have le4 := op4.2.2.1.1
  have hm4 : SY cx F N q h4 s4 g4 ts4 → g1 4 + 1 ≤ m4 := fun u => by have := (NR_rg _ _ _ _ _ _ _ _ (nr4 u).2.2).2.1; omega
  obtain ⟨h5, d51, d52, d53, d54, d55, op5, f45, f54⟩ := op_lnk (w := w) (x := x4) (f := 9) (r := 46) (n := g1 4) (m := m4) hT (OPR_trans oc3.1 op4) cp4 (by omega) (by omega) rfl (by omega) (by omega) (by omega) nl4 (fun u => by have := hm4 u; omega) (by omega)
  have nl4' := n_lt hT op4.1
  obtain ⟨op6, f56, f65⟩ := OPR_lnk (s2 := lkS (lkS s4 46 (g1 4) m4) 45 (g1 4) m) op5 (st1_refl (21 + h2.length) h5) d52 (by omega) (lk_rF (by omega)) rfl (fun _ => ⟨sX_trans (sX_A (by omega)) (sX_A (by omega)) (Nat.le_refl _), lk_yA (by omega)⟩) (fun _ => lk_tR (by omega)) hT
  obtain ⟨v5, p5⟩ := op_pC op5.1
  obtain ⟨h7, s7, g7, e71, e72, op7, n7, w7, s7e, y71, y72, y73, y74, y75, y76⟩ := op_need (L := L) (xs := xs) (zf := zf) (w := w) (k := ke + k) (k2 := kr + k) hT P59 op6.1
  have cp7 := on_keep op6.1 op7 d52
  have l5 := d53.2.1
  have l7 := w7.2.1
  have o7 := op7.2.2.2.2.2.1
  have hl7 := hc_lt cp7
  refine ⟨h7, s7, g7, ts4, 21 + h2.length, g1 4, ?_, ?_, OPC_trans (OPC_st (OPC_st (OPC_trans oc3 op4) d53 op5) (st1_refl 0 h5) op6) op7, by omega, nW_of (o := none) cp7 rfl rfl rfl, by omega, by omega, fun u => ?_⟩
  · rw [show ke + 6 + k = ke + 5 + k + 1 from by omega]
    refine c_121e hT z t ?_
    rw [show ke + 5 + k = ke + 4 + k + 1 from by omega]
    refine c_141 (b := true) z.1.1 p ec (by rw [show ke + 4 + k = ke + k + 4 from by omega]; exact d1) ?_
    unfold b141_42
    refine bse (a := h2 ++ [nd0 21 (cpl cx F (g 0))]) ?_ (bse e1 (ifn (show ¬ mx_f1 .eq (rd_01 true) = true by decide) ?_))
    · show (dM L xs zf w (ke + 4 + k) 120 [.ref (21 + h2.length), .int 21, .int (cpl cx F (g 0))] (h2 ++ [.inr (12, ah_DV 12)])).bind dxV = _
      rw [show ke + 4 + k = ke + 3 + k + 1 from by omega, nd_new (k := ke + 3 + k)]
      rfl
    · refine bse (a := (some x4, h4)) (by rw [c_pv e2, va_s, ec4]; rfl) (bse d51 ?_)
      unfold b141_73
      exact bse (a := h7) (by rw [c_pv p5, show ke + 4 + k = ke + k + 4 from by omega, e71]; rfl) rfl
  · rw [show kr + 4 + k = kr + 3 + k + 1 from by omega]
    refine r_318e hT z t ?_
    unfold s318_e
    refine bse (a := (Int32.ofNat m, s1)) (by rw [er]; rfl) ?_
    refine bse (a := (Int32.ofNat (g1 4), ndS s1 (g1 4) 27 (s.2.1 41 (g 0)))) (by rw [q16]; rfl) ?_
    refine bse (a := (rd_01 true, nxS (ndS s1 (g1 4) 27 (s.2.1 41 (g 0))) (g1 0))) (by rw [q9]; rfl) (ifn (show ¬ mx_f1 .eq (rd_01 true) = true by decide) ?_)
    refine bse (a := s3) (by rw [hs3]; exact nWt (by omega) (by omega)) ?_
    refine bse (a := (Int32.ofNat m4, s4)) (by rw [er4]; rfl) ?_
    refine bse (a := (Int32.ofNat m4, rs_wA s4 49 m4 (Int32.ofNat (g1 4)))) (by rw [show kr + 3 + k = kr + 2 + k + 1 from by omega, d54]; rfl) ?_
    refine bse d55 ?_
    rw [show kr + 3 + k = kr + 2 + k + 1 from by omega]
    exact r_325 (t := 0) (by omega) (by omega) (by rw [show kr + 2 + k + 1 = kr + k + 3 from by omega]; exact e72)
  · have u6 := (op7.2.1 u).1
    have u5 := f65 u6
    have u4 := f54 u5
    obtain ⟨v41, v448, v42⟩ := nr4 u4
    have rg4 := NR_rg _ _ _ _ _ _ _ _ v42
    have on7 := onR_keep op7 u (by omega) (lk_on (r := 45) (m := m) (by omega) (lk_on (r := 46) (m := m4) (by omega) (onR_keep op4 u4 (by omega) on3)))
    have N3 : NR L xs h3 s3 (0, A / 20 + 1) (g1 4 - g 4) (g 4) (g1 4) (21 + h.length) (21 + h1.length) m x := NR_fr F13 ya3 _ _ _ _ _ _ _ _ vN (cA_M4 p ch (fr_mono F13 (fun _ _ u => Or.inl u)) blz) (fun j h1 h2 => ⟨fun r hr => (sx3 j h2).1 r (by omega) (by omega), (sx3 j h2).2, fun _ => ⟨(sx3 j h2).1 48 (by omega) (by omega), (sx3 j h2).1 49 (by omega) (by omega)⟩, fun _ => (sx3 j h2).1 53 (by omega) (by omega)⟩)
    have N4 := NR_keep op4 u4 N3 (by omega) blz
    have N5 : NR L xs h5 (lkS s4 46 (g1 4) m4) (0, A / 20 + 1) (g1 4 - g 4) (g 4) (g1 4) (21 + h.length) (21 + h1.length) m x := NR_lk N4 d53 cp4 (by omega) (sA_trans (sA_A (by omega)) (sA_A (by omega))) (lk_yA (by omega))
    have K6 := KD_new (n := g1 4) (r := 45) N5 (st1_refl (21 + h2.length) h5) d52 (by omega) (by omega) (by omega)
    have K7 := KD_keep op7 u K6 (by omega) blz
    have J5 := KD_new (n := g1 4) (r := 46) v42 d53 cp4 (by omega) (by omega) (by omega)
    have J6 := KD_lk (r := 45) (m2 := m) J5 (st1_refl (21 + h2.length) h5) d52 (by omega) (by omega) (by omega) (by omega)
    have J7 := KD_keep op7 u J6 (by omega) (bl_le blz (by omega))
    refine ⟨by omega, by rw [on7.1 48 (by omega) (by omega), upd_ne _ _ (by decide), upd_ne _ _ (by decide), upd_ne _ _ (by decide)]; rfl, ?_⟩
    obtain ⟨d, hd⟩ : ∃ d, g7 4 - g 4 = d + 1 := ⟨g7 4 - g 4 - 1, by omega⟩
    rw [hd]
    refine NR_K (W := 21) ⟨nl0.2.2.1, by omega, by omega, by omega, hl7⟩ (by omega) ?_ ?_ ?_ ?_ (fun c hc => ?_) (by rw [fd_of cp7]; rfl) (fun _ => ⟨g1 4, 21 + h1.length, kd_of (KD_lz K7 (by omega)) (by rw [fd_of cp7]; rfl) (by rw [on7.1 45 (by omega) (by omega), upd_eq]) (by unfold sub; omega), kd_of (KD_lz J7 (by omega)) (by rw [fd_of cp7]; rfl) (by rw [on7.1 46 (by omega) (by omega), upd_ne _ _ (by decide), upd_eq]) (by unfold sub; omega)⟩)
    · rw [fd_of cp7]; rfl
    · rw [on7.1 44 (by omega) (by omega), upd_ne _ _ (by decide), upd_ne _ _ (by decide), upd_eq]; rfl
    · rw [fd_of cp7, on7.1 50 (by omega) (by omega), upd_ne _ _ (by decide), upd_ne _ _ (by decide), upd_ne _ _ (by decide)]
      show some (Value.int (cpl cx F (g 0))) = some (Value.int (s.2.1 41 (g 0)))
      rw [rt0.2.1, f5]
    · rw [fd_of cp7]; rfl
    · have : c = (8, 45, false) ∨ c = (9, 46, false) := by simpa [kids] using hc
      rcases this with e | e <;> subst e
      · refine kd_of (KD_lz K7 (by omega)) ?_ ?_ ?_
        · rw [fd_of cp7]; rfl
        · rw [on7.1 45 (by omega) (by omega), upd_eq]
        · unfold sub; omega
      · refine kd_of (KD_lz J7 (by omega)) ?_ ?_ ?_
        · rw [fd_of cp7]; rfl
        · rw [on7.1 46 (by omega) (by omega), upd_ne _ _ (by decide), upd_eq]
        · unfold sub; omega
theorem x_stm (hT : TF cx F N) (hA : A ≤ 2000) (IH : IHx L xs zf w cx F N q A (ke + 4) (kr + 3) 123 320 (i1 + 1)) (z : SY cx F N q h s g ts) (t : noS (ctk cx F (g 0))) : STR L xs cx F N q (A + 20) h s g ts (dM L xs zf w (ke + 6 + k) 121 [.ref (cx 7), .ref (cx 14), .int i1] h) (rM w (kr + 4 + k) 318 [.ref 36, .int i1] s) := x_est hT hA IH z t (fun _ _ _ _ _ _ ec er op1 nx nl y t14 v0 v48 vN => x_eq hT hA IH z t ec er op1 nx nl y t14 v0 v48 vN)
end EU
