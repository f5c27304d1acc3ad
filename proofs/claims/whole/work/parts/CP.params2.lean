/-! PARAMETERS: the loop. -/
section PA5
variable {L : Nat} {xs : Nat → Int32} {zf : Value} {w k k2 i n y np : Nat} {cx : Nat → Nat} {F : Nat → Nat → Int32} {N : Nat → Int64} {q qm : List Value} {h0 h h' h1 h2 h5 : rm_H} {s0 s s' s1 s2 : rS} {g0 g g' g1 g2 : Nat → Nat} {t0 ts ts' ts1 ts2 : List Nat} {v v0 : Nat → Int32} {pt vr i3 : Int32} {l ar cap M d : Nat} {ds es : List Nat} {c1 c2 : Nat}
theorem of_dif (a c : Nat) (h : a + c ≤ 100000) : Int32.ofNat (a + c) - Int32.ofNat a = Int32.ofNat c := by
  apply i32_of
  rw [of_sub (by omega) (by omega), of_int (by omega)]
  omega
theorem x_parl (hT : TF cx F N) (h14 : cx 14 = 0) (h5m : qm[5]? = some (.ref l)) (hq : qm.length = 14) (hl : l ≠ cx 11) (hnp : np + 7 < 440) : ∀ (r : Nat) (ds : List Nat) (ar cap : Nat) (h : rm_H) (s : rS) (g : Nat → Nat) (ts : List Nat) (M1 M2 : Nat), ds.length + r = 6 → r + 1 ≤ M1 → r + 1 ≤ M2 → OPX (fun y => y = l ∨ y = M) cx F N q 0 0 h0 s0 g0 t0 h s g ts → SY cx F N q h s g ts → QJ L xs cx F N q l M np qm h0 h s g ts ds ar cap → rPm s0 s np → g 3 = g0 3 → PRS L xs cx F N q l M np qm h0 s0 g0 t0 (b117_26 L xs zf (dM L xs zf w (k + 10)) w (M1 + 1) (some (cx 7)) (some M) 1 (Int32.ofNat ds.length) h) (s315_33 (rM w (k2 + 4)) w (M2 + 1) 1 (Int32.ofNat np) s) := by
  intro r
  induction r with
  | zero =>
    intro ds ar cap h s g ts M1 M2 hr hM hM2 a z j rp g3
    obtain ⟨⟨p0, ⟨a1, a2, a3, a4⟩, rt, ch, ⟨b1, b2, b3, b4⟩, d1, d2, d3, d4⟩, g6⟩ := id z
    have hT1 := hT.1
    have k52 := (j.2.2.2.2.2 z).1
    obtain ⟨h1, v, e1, e2, e3, e4⟩ := y_ref (L := L) (xs := xs) (zf := zf) (w := w) (k := k + 9) hT d1 p0
    have fl := SY_st hT z e2 e3 e4
    have op : OPR cx F N q h s g ts h1 (stS s (g 0)) g ts := OPR_0 (Or.inr fl) (fun _ => z) e4 rF_st rfl rfl rfl rfl rfl rfl (Nat.le_refl _)
    have j1 := QJ_keep h14 (Or.inl z) op hl j
    obtain ⟨h7, g7, ts7, ar7, cap7, m1, m2, m3, m4, m5, m6⟩ := z_par1 (L := L) (xs := xs) (zf := zf) (w := w) (k := k) (i3 := Int32.ofNat ds.length) hT h14 fl (OPX_op a op) (Or.inl rfl) j1 h5m (by omega) hl (by omega)
    obtain ⟨M1', rfl⟩ : ∃ M', M1 = M' + 1 := ⟨M1 - 1, by omega⟩
    obtain ⟨h9, g9, n1, n2, n3, n4, n5⟩ := z_ptl (L := L) (xs := xs) (zf := zf) (w := w) (k := k) hT h14 m2 m3 (Or.inr rfl) m4 h5m hq hl M1' (Int32.ofNat ds.length + 1)
    have k6 : ds.length = 6 := by omega
    have l7 : (ds ++ [21 + h1.length]).length = 7 := by rw [List.length_append, k6]; rfl
    refine ⟨h9, stS s (g 0), g9, ts7, _, ar7, cap7, ?_, ?_, n2, by omega, by omega, rPm_trans rp rPm_st (Nat.le_refl _), n5, by omega, fun u => (sy_no u n3).elim⟩
    · rw [b117_26, if_neg (by decide), k6, if_neg (by decide), if_neg (by decide), c_in p0]
      show ((dcV L xs (dM L xs zf w (k + 10)) 95 [6] (some (cx 0)) [] h).bind dxV).bind _ = _
      rw [c_rv p0, e1]
      rw [k6] at m1 n1
      exact (m1 _).trans n1
    · rw [s315_33, if_neg (by decide), k52, of_dif np ds.length (by omega), k6, if_neg (by decide), show (rM w (k2 + 4) 304 [.ref 36] s).bind rxV = some (stS s (g 0)) from by rw [q304 (k := k2 + 2) a1 b1 (by omega)]; rfl, Option.bind_some]
      unfold s315_52
      rw [show (rM w (k2 + 4) 307 [.ref 36, .int 1] (stS s (g 0))).bind rxI = some (Int32.ofNat (g 0), stS s (g 0)) from by rw [z307 (k := k2 + 1) (s := stS s (g 0)) (t := g 0) 1 rfl b1 (by omega)]; rfl, Option.bind_some, show (rM w (k2 + 4) 308 [.ref 36, .int 58] (stS s (g 0))).bind rxV = some (stS s (g 0)) from by rw [z308 (k := k2 + 1) (s := stS s (g 0)) (t := g 0) 58 rfl b1 (by omega)]; rfl, Option.bind_some, if_neg (show ¬ mx_f1 .le ((stS s (g 0)).1 57) = true from by rw [show (stS s (g 0)).1 57 = 1 from rfl]; decide)]
  | succ r ih =>
    intro ds ar cap h s g ts M1 M2 hr hM hM2 a z j rp g3
    obtain ⟨⟨p0, ⟨a1, a2, a3, a4⟩, rt, ch, ⟨b1, b2, b3, b4⟩, d1, d2, d3, d4⟩, g6⟩ := id z
    have k52 := (j.2.2.2.2.2 z).1
    obtain ⟨ret, h7, s9, g7, ts7, ar7, cap7, m1, m2, m3, m4, m5, m6, m7, m8⟩ := x_par1 (L := L) (xs := xs) (zf := zf) (w := w) (k := k) (k2 := k2) hT h14 z a (Or.inl rfl) j rp h5m (by omega) (by omega) hl
    obtain ⟨M1', rfl⟩ : ∃ M', M1 = M' + 1 := ⟨M1 - 1, by omega⟩
    obtain ⟨M2', rfl⟩ : ∃ M', M2 = M' + 1 := ⟨M2 - 1, by omega⟩
    have lds : (ds ++ [21 + h.length]).length = ds.length + 1 := by rw [List.length_append]; rfl
    have ne6 : mx_f2 .ne (Int32.ofNat ds.length) 6 = true := by
      rw [f2_ne]
      apply decide_eq_true
      intro u
      have u2 := congrArg Int32.toInt u
      rw [of_int (by omega), show (6 : Int32).toInt = 6 from by decide] at u2
      omega
    have ce : b117_26 L xs zf (dM L xs zf w (k + 10)) w (M1' + 1 + 1) (some (cx 7)) (some M) 1 (Int32.ofNat ds.length) h = (((dcV L xs (dM L xs zf w (k + 10)) 118 [8] (some (cx 7)) [.int 10] h7).bind dxI).bind fun x17 => b117_26 L xs zf (dM L xs zf w (k + 10)) w (M1' + 1) (some (cx 7)) (some M) x17.1 (Int32.ofNat (ds ++ [21 + h.length]).length) x17.2) := by
      rw [b117_26, if_neg (by decide), if_neg (by rw [f2_gt, of_int (by omega), show (6 : Int32).toInt = 6 from by decide]; simp; omega), if_pos ne6, m1, lds, show Int32.ofNat (ds.length + 1) = Int32.ofNat ds.length + 1 from (of_add ds.length 1).symm]
    have re : s315_33 (rM w (k2 + 4)) w (M2' + 1 + 1) 1 (Int32.ofNat np) s = s315_52 (rM w (k2 + 4)) w (s315_33 (rM w (k2 + 4)) w (M2' + 1)) (Int32.ofNat np) s := by
      rw [s315_33, if_neg (by decide), k52, of_dif np ds.length (by omega), if_pos ne6]
    rw [ce, re]
    have flt : FLT cx F N q h7 s9 g7 ts7 → s315_52 (rM w (k2 + 4)) w (s315_33 (rM w (k2 + 4)) w (M2' + 1)) (Int32.ofNat np) s = some (none, s9) → PRS L xs cx F N q l M np qm h0 s0 g0 t0 (((dcV L xs (dM L xs zf w (k + 10)) 118 [8] (some (cx 7)) [.int 10] h7).bind dxI).bind fun x17 => b117_26 L xs zf (dM L xs zf w (k + 10)) w (M1' + 1) (some (cx 7)) (some M) x17.1 (Int32.ofNat (ds ++ [21 + h.length]).length) x17.2) (s315_52 (rM w (k2 + 4)) w (s315_33 (rM w (k2 + 4)) w (M2' + 1)) (Int32.ofNat np) s) := by
      intro fl er
      obtain ⟨h9, g9, n1, n2, n3, n4, n5⟩ := z_ptl (L := L) (xs := xs) (zf := zf) (w := w) (k := k) hT h14 fl m4 (Or.inr rfl) m5 h5m hq hl M1' (Int32.ofNat (ds ++ [21 + h.length]).length)
      exact ⟨h9, s9, g9, ts7, _, ar7, cap7, n1, er, n2, by omega, by omega, m6, n5, by omega, fun u => (sy_no u n3).elim⟩
    cases ret with
    | true => exact flt (m3 rfl).2 ((m3 rfl).1 _ _)
    | false =>
      have rg := m2 rfl (s315_33 (rM w (k2 + 4)) w (M2' + 1)) (Int32.ofNat np)
      rcases m4.1 with y7 | y7
      · obtain ⟨b, h8, s8, g8, e1, e2, op, y8, g80, w8, s8e, y81, y82, y83, y84, y85, y86⟩ := op_skip (L := L) (xs := xs) (zf := zf) (w := w) (k := k + 6) (k2 := k2 + 2) hT P44 (Or.inl y7)
        have j8 := QJ_keep h14 (Or.inl y7) op hl m5
        have rp8 := rPm_trans m6 (r309_Pm (np := np) hT (Or.inl y7) e2) (Nat.le_refl _)
        obtain ⟨v7, p7⟩ := op_pC (Or.inl y7)
        have ce2 : (((dcV L xs (dM L xs zf w (k + 10)) 118 [8] (some (cx 7)) [.int 10] h7).bind dxI).bind fun x17 => b117_26 L xs zf (dM L xs zf w (k + 10)) w (M1' + 1) (some (cx 7)) (some M) x17.1 (Int32.ofNat (ds ++ [21 + h.length]).length) x17.2) = b117_26 L xs zf (dM L xs zf w (k + 10)) w (M1' + 1) (some (cx 7)) (some M) (rd_01 b) (Int32.ofNat (ds ++ [21 + h.length]).length) h8 := by
          rw [c_pv p7, e1]
          rfl
        have re2 : s315_52 (rM w (k2 + 4)) w (s315_33 (rM w (k2 + 4)) w (M2' + 1)) (Int32.ofNat np) s = s315_33 (rM w (k2 + 4)) w (M2' + 1) (rd_01 b) (Int32.ofNat np) s8 := by
          rw [rg, e2]
          rfl
        rw [ce2, re2]
        cases b with
        | true => exact ih _ ar7 cap7 h8 s8 g8 ts7 M1' M2' (by omega) (by omega) (by omega) (OPX_op m4 op) (y8 y7).1 j8 rp8 (by omega)
        | false =>
          obtain ⟨h', s', g', n1, n2, n3, n4, n5, n6, n7, n8⟩ := x_pend (L := L) (xs := xs) (zf := zf) (w := w) (k := k) (k2 := k2) hT h14 (OPX_op m4 op) (Or.inr rfl) j8 h5m hq hl M1' M2' (Int32.ofNat (ds ++ [21 + h.length]).length) (Int32.ofNat np)
          exact ⟨h', s', g', ts7, _, ar7, cap7, n1, n2, n3, by omega, by omega, rPm_trans rp8 n7 (Nat.le_refl _), n5, by omega, fun u => by omega⟩
      · refine flt y7 ?_
        have nl := n_lt hT (Or.inr y7)
        rw [rg, show (rM w (k2 + 4) 309 [.ref 36, .int 44] s9).bind rxI = some (0, s9) from by rw [z309 (k := k2 + 2) 44 y7.2.1]; rfl, Option.bind_some, s315_33, if_pos (show mx_f1 .eq 0 = true by decide), show (rM w (k2 + 4) 308 [.ref 36, .int 41] s9).bind rxV = some s9 from by rw [z308 (k := k2 + 1) 41 y7.2.1 nl.2.2.2 nl.1]; rfl, Option.bind_some]
/-- parameters -/
theorem x_pars (hT : TF cx F N) (hw : 2001 ≤ w) (h14 : cx 14 = 0) (z : SY cx F N q h s g ts ∨ FLT cx F N q h s g ts) (hg : g 6 ≤ 2900) (h5m : qm[5]? = some (.ref l)) (hq : qm.length = 14) (hl : l ≠ cx 11) (hnp : np + 7 < 440) (hM : hc h M = some (.inr (11, qm))) (e : aL h l 5 0 []) (h52 : SY cx F N q h s g ts → s.1 52 = Int32.ofNat np) : PRS L xs cx F N q l M np qm h s g ts (dM L xs zf w (k + 11) 117 [.ref (cx 7), .ref M] h) (rM w (k2 + 5) 315 [.ref 36] s) := by
  obtain ⟨h1, s1, g1, e1, e2, op1, n1, w1, s1e, y11, y12, y13, y14, y15, y16⟩ := op_need (L := L) (xs := xs) (zf := zf) (w := w) (k := k + 6) (k2 := k2 + 1) hT P40 z
  obtain ⟨v0, p0⟩ := op_pC z
  have nl := n_lt hT z
  obtain ⟨w', rfl⟩ : ∃ w', w = w' + 1 := ⟨w - 1, by omega⟩
  have j0 : QJ L xs cx F N q l M np qm h h s g ts [] 5 0 := ⟨hM, e, Or.inl rfl, fun y hy => (List.not_mem_nil hy).elim, fun _ _ _ _ _ _ e => e, fun y => ⟨h52 y, fun i d hi => by simp at hi⟩⟩
  have j1 := QJ_keep h14 z op1 hl j0
  have r1 : rPm s s1 np := r308_Pm hT z e2
  have a1 : OPX (fun y => y = l ∨ y = M) cx F N q 0 0 h s g ts h1 s1 g1 ts := OPX_of op1
  rcases op1.1 with y | y
  · obtain ⟨⟨p1, ⟨a1', a2, a3, a4⟩, rt, ch, ⟨c1, c2, c3, c4⟩, b1, b2, b3, b4⟩, g6⟩ := id y
    have hT1 := hT.1
    obtain ⟨⟨f5, _, tr⟩, _⟩ := hT.2.2 (g1 0) b1
    have k52 := (j1.2.2.2.2.2 y).1
    have q10 := q310 (w := w' + 1) (k := k2 + 3) 41 a1' c1 (by omega)
    rw [rt.1, rt.2.2.1] at q10
    have toC : ∀ b : Bool, (ctk cx F (g1 0) = 8 ↔ b = false) → dM L xs zf (w' + 1) (k + 11) 117 [.ref (cx 7), .ref M] h = b117_26 L xs zf (dM L xs zf (w' + 1) (k + 10)) (w' + 1) (w' + 1) (some (cx 7)) (some M) (rd_01 b) 0 h1 := by
      intro b hb
      rw [e117]
      show b117_0 L xs zf (dM L xs zf (w' + 1) (k + 10)) (w' + 1) (some (cx 7)) (some M) h = _
      unfold b117_0
      rw [c_pv p0, e1]
      show (dgR L xs h1 0 [8] (some (cx 7))).bind _ = _
      rw [c_in p1]
      show (dgI L xs h1 6 [6] (some (cx 0))).bind _ = _
      rw [c_I p1 6 (by omega), vS_6]
      cases b with
      | false =>
        show (if mx_f2 .eq (ctk cx F (g1 0)) 8 = true then _ else _) = _
        rw [hb.mpr rfl]
        rfl
      | true =>
        show (if mx_f2 .eq (ctk cx F (g1 0)) 8 = true then _ else _) = _
        rw [if_neg (show ¬ mx_f2 .eq (ctk cx F (g1 0)) 8 = true from fun u => absurd (hb.mp (of_decide_eq_true u)) (by decide))]
        rfl
    have toR : ∀ b : Bool, (ctk cx F (g1 0) = 8 ↔ b = false) → rM (w' + 1) (k2 + 5) 315 [.ref 36] s = s315_33 (rM (w' + 1) (k2 + 4)) (w' + 1) (w' + 1) (rd_01 b) (Int32.ofNat np) s1 := by
      intro b hb
      rw [y315]
      show s315_0 (rM (w' + 1) (k2 + 4)) (w' + 1) s = _
      unfold s315_0
      rw [show (rM (w' + 1) (k2 + 4) 308 [.ref 36, .int 40] s).bind rxV = some s1 from by rw [e2]; rfl, Option.bind_some, a1', if_neg (by decide)]
      have k52' : s1.1 52 = Int32.ofNat np := k52
      cases b with
      | false =>
        rw [decide_eq_true ((sg_iff tr P41).mpr (hb.mpr rfl))] at q10
        rw [show (rM (w' + 1) (k2 + 4) 310 [.ref 36, .int 41] s1).bind rxI = some (rd_01 true, s1) from by rw [q10]; rfl, Option.bind_some, if_pos (show mx_f1 .ne (rd_01 true) = true by decide)]
        unfold s315_26 s315_27
        rw [k52']
        rfl
      | true =>
        rw [decide_eq_false (fun u => absurd (hb.mp ((sg_iff tr P41).mp u)) (by decide))] at q10
        rw [show (rM (w' + 1) (k2 + 4) 310 [.ref 36, .int 41] s1).bind rxI = some (rd_01 false, s1) from by rw [q10]; rfl, Option.bind_some, if_neg (show ¬ mx_f1 .ne (rd_01 false) = true by decide)]
        unfold s315_27
        rw [k52']
        rfl
    by_cases t8 : ctk cx F (g1 0) = 8
    · rw [toC false ⟨fun _ => rfl, fun _ => t8⟩, toR false ⟨fun _ => rfl, fun _ => t8⟩]
      obtain ⟨h', s', g', n1, n2, n3, n4, n5, n6, n7, n8⟩ := x_pend (L := L) (xs := xs) (zf := zf) (w := w' + 1) (k := k) (k2 := k2) hT h14 a1 (Or.inr rfl) j1 h5m hq hl w' w' 0 (Int32.ofNat np)
      exact ⟨h', s', g', ts, _, _, _, n1, n2, n3, by omega, by omega, rPm_trans r1 n7 (Nat.le_refl _), n5, by simp, fun u => by simp⟩
    · rw [toC true ⟨fun u => absurd u t8, fun u => absurd u (by decide)⟩, toR true ⟨fun u => absurd u t8, fun u => absurd u (by decide)⟩]
      exact x_parl hT h14 h5m hq hl hnp 6 [] 5 0 h1 s1 g1 ts w' w' rfl (by omega) (by omega) a1 y j1 r1 y13
  · obtain ⟨⟨v, p1, r⟩, h57, rt, ⟨pt, vr, ch⟩, cs, b⟩ := id y
    have nl1 := n_lt hT (Or.inr y)
    obtain ⟨h7, g7, ts7, ar7, cap7, m1, m2, m3, m4, m5, m6⟩ := z_par1 (L := L) (xs := xs) (zf := zf) (w := w' + 1) (k := k) (i3 := 0) hT h14 y a1 (Or.inl rfl) j1 h5m (by simp) hl (by omega)
    obtain ⟨w'', rfl⟩ : ∃ w'', w' = w'' + 1 := ⟨w' - 1, by omega⟩
    obtain ⟨h9, g9, n1', n2, n3, n4, n5⟩ := z_ptl (L := L) (xs := xs) (zf := zf) (w := w'' + 1 + 1) (k := k) hT h14 m2 m3 (Or.inr rfl) m4 h5m hq hl w'' (0 + 1)
    refine ⟨h9, s1, g9, ts7, _, ar7, cap7, ?_, ?_, n2, by omega, by omega, r1, n5, by simp, fun u => (sy_no u n3).elim⟩
    · rw [e117]
      show b117_0 L xs zf (dM L xs zf (w'' + 1 + 1) (k + 10)) (w'' + 1 + 1) (some (cx 7)) (some M) h = _
      unfold b117_0
      refine bse (a := h1) (by rw [c_pv p0, e1]; rfl) ?_
      have i6 := c_I (L := L) (xs := xs) p1 6 (by omega)
      rw [r.2.1] at i6
      refine bse (c_in p1) (bse i6 (ifn (by decide) ?_))
      unfold b117_23
      rw [b117_26, if_neg (by decide), if_neg (by decide), if_pos (by decide)]
      exact (m1 _).trans n1'
    · rw [y315]
      show s315_0 (rM (w'' + 1 + 1) (k2 + 4)) (w'' + 1 + 1) s = _
      unfold s315_0
      refine bse (a := s1) (by rw [e2]; rfl) (ift (ne1 h57) ?_)
      unfold s315_26 s315_27
      rw [s315_33]
      exact ift (by decide) (bse (a := s1) (by rw [z308 (k := k2 + 1) 41 h57 cs.1 nl1.1]; rfl) rfl)
end PA5
