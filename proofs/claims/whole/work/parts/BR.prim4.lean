/-! PRIMARIES: a word with two expressions, with a block, with a NAME. -/
section W7
variable {L : Nat} {xs : Nat → Int32} {zf : Value} {w k i : Nat} {cx : Nat → Nat} {F : Nat → Nat → Int32} {N : Nat → Int64} {q : List Value} {h : rm_H} {s : rS} {g : Nat → Nat} {ts : List Nat} {A ke kr : Nat} {i1 : Int32}
/-- a word, and two expressions in parentheses -/
theorem x_w7 (hT : TF cx F N) (hA : A ≤ 2000) (IH : IHx L xs zf w cx F N q A (ke + 4) (kr + 3) 123 320 (i1 + 1)) (z : SY cx F N q h s g ts) (t : ctk cx F (g 0) = 33) : EXR 0 L xs cx F N q (A + 20) h s g ts (dM L xs zf w (ke + 6 + k) 125 [.ref (cx 7), .ref (cx 14), .int i1] h) (rM w (kr + 4 + k) 322 [.ref 36, .int i1] s) := by
  obtain ⟨h1, e1, p1, ch1, w8⟩ := sy_parts z
  have hlt := w_pass hT z 33 t (by decide) (by decide)
  have c4 := z.1.2.2.2.2.1.2.2.2
  have g6 := z.2
  have f5 := (hT.2.2 (g 0) z.1.2.2.2.2.2.1).1.1
  have l8 := w8.2.1
  have y8 := w8.2.2
  obtain ⟨h2, a1, a2, a3, a4⟩ := c_128 (L := L) (xs := xs) (zf := zf) (w := w) (k := ke + k) hT p1 hlt 7
  rw [l8] at a1 a3
  have l2 : h2.length = h.length + 1 := by rw [a4.2.1, List.length_append, l8]; rfl
  have y2 : zh h2 = zh h + 13 := by rw [a4.2.2, zh_nd, y8]
  obtain ⟨sy2, op2, on2⟩ := SY_nd z hlt 7 a2 (CH_r (pC_ap p1) a4 (CH_ap (Or.inl (nd0_5 _ _)) ch1)) (fr_M4_8 w8 (fr_trans (fr_app _ _) a4.1 (fun _ _ u => u))) ⟨by omega, nD_1 (by omega) a3 (fun _ z => by cases z)⟩ (by omega) (by decide) hT
  have q0 : gu (gu g 0 (g 0 + 1)) 4 (g 4 + 1) 0 = g 0 + 1 := rfl
  have q4 : gu (gu g 0 (g 0 + 1)) 4 (g 4 + 1) 4 = g 4 + 1 := rfl
  have q6 : gu (gu g 0 (g 0 + 1)) 4 (g 4 + 1) 6 = g 6 := rfl
  obtain ⟨v2, p2⟩ := op_pC (Or.inl sy2)
  obtain ⟨h3, s3, g3, b1, b2, op3, n3, w3, s3e, y31, y32, y33, y34, y35, y36⟩ := op_need (L := L) (xs := xs) (zf := zf) (w := w) (k := ke + k) (k2 := kr + k) hT P40 (Or.inl sy2)
  have l3 := w3.2.1
  obtain ⟨v3, p3⟩ := op_pC op3.1
  have cp3 := on_keep (Or.inl sy2) op3 a3
  obtain ⟨h4, s4, g4, ts4, x, m, ec, er, op4, sl, nx, xl, nl, nr⟩ := IH k k h3 s3 g3 ts op3.1 (by omega)
  have cp4 := on_keep op3.1 op4 cp3
  have o4 := op4.2.2.2.2.2.1
  have o3 := op3.2.2.2.2.2.1
  have hm2 : SY cx F N q h4 s4 g4 ts4 → g3 4 ≤ m := fun u => (NR_rg _ _ _ _ _ _ _ _ (nr u).2.2).2.1
  obtain ⟨h5, d1, d2, d3, d4, d5, op5, f45, f54⟩ := op_lnk (w := w) (x := x) (f := 8) (r := 45) (n := g 4) (m := m) hT (OPR_trans (OPR_trans op2 op3) op4) cp4 (Nat.le_refl _) (by omega) rfl (by omega) (by omega) (Nat.le_refl _) nl (fun u => by have := hm2 u; omega) (by omega)
  obtain ⟨v5, p5⟩ := op_pC op5.1
  obtain ⟨h6, s6, g6', e61, e62, op6, n6, w6, s6e, y61, y62, y63, y64, y65, y66⟩ := op_need (L := L) (xs := xs) (zf := zf) (w := w) (k := ke + k) (k2 := kr + k) hT P44 op5.1
  obtain ⟨v6, p6⟩ := op_pC op6.1
  have cp6 := on_keep op5.1 op6 d2
  have o6 := op6.2.2.2.2.2.1
  have l6 := w6.2.1
  have l5 := d3.2.1
  have le34 := op4.2.2.1.1
  obtain ⟨h7, s7, g7, ts7, x7, m7, ec7, er7, op7, sl7, nx7, xl7, nl7, nr7⟩ := IH k k h6 s6 g6' ts4 op6.1 (by omega)
  have cp7 := on_keep op6.1 op7 cp6
  have o7 := op7.2.2.2.2.2.1
  have hm7 : SY cx F N q h7 s7 g7 ts7 → g6' 4 ≤ m7 := fun u => (NR_rg _ _ _ _ _ _ _ _ (nr7 u).2.2).2.1
  obtain ⟨h8, d81, d82, d83, d84, d85, op8, f78, f87⟩ := op_lnk (w := w) (x := x7) (f := 9) (r := 46) (n := g 4) (m := m7) hT (OPR_trans (OPR_trans op5 op6) op7) cp7 (Nat.le_refl _) (by omega) rfl (by omega) (by omega) (Nat.le_refl _) nl7 (fun u => by have := hm7 u; omega) (by omega)
  obtain ⟨v8, p8⟩ := op_pC op8.1
  obtain ⟨h9, s9, g9, e91, e92, op9, n9, w9, s9e, y91, y92, y93, y94, y95, y96⟩ := op_need (L := L) (xs := xs) (zf := zf) (w := w) (k := ke + k) (k2 := kr + k) hT P41 op8.1
  have cp9 := on_keep op8.1 op9 d82
  have o9 := op9.2.2.2.2.2.1
  have l9 := w9.2.1
  have l8' := d83.2.1
  have le67 := op7.2.2.1.1
  have hlt9 := hc_lt cp9
  refine ⟨h9, s9, g9, ts7, 21 + h.length, g 4, ?_, ?_, OPR_trans op8 op9, by omega, nW_of (o := none) cp9 rfl rfl rfl, Nat.le_refl _, by omega, fun u => ?_⟩
  · rw [show ke + 6 + k = ke + 5 + k + 1 from by omega]
    refine c_125 (k := ke + 5 + k) z.1.1 p1 z.1.2.2.2.1 e1 (mi := 132) (As := [.ref (cx 14), .int i1]) (by rw [t]; rfl) ?_
    rw [show ke + 5 + k = ke + k + 4 + 1 from by omega, e132]
    show b132_0 L xs zf (dM L xs zf w (ke + k + 4)) w (some (cx 7)) (some (cx 14)) i1 h1 = _
    unfold b132_0
    refine bse (a := (some (21 + h.length), h2)) (by rw [c_pv p1, a1]; rfl) ?_
    refine bse (a := h3) (by rw [c_pv p2, b1]; rfl) ?_
    refine bse (a := (some x, h4)) (by rw [c_pv p3, va_s, show ke + k + 4 = ke + 4 + k from by omega, ec]; rfl) ?_
    refine bse d1 ?_
    refine bse (a := h6) (by rw [c_pv p5, e61]; rfl) ?_
    refine bse (a := (some x7, h7)) (by rw [c_pv p6, va_s, show ke + k + 4 = ke + 4 + k from by omega, ec7]; rfl) ?_
    refine bse d81 ?_
    exact bse (a := h9) (by rw [c_pv p8, e91]; rfl) rfl
  · rw [show kr + 4 + k = kr + k + 1 + 3 from by omega]
    refine r_322 (kk := 7) hT z (Or.inr (Or.inr (Or.inr (Or.inr (Or.inr (Or.inr (Or.inl ⟨t, rfl⟩))))))) ?_
    unfold s322_k
    refine ift (by decide) (ift (by decide) (ifn (by decide) ?_))
    refine bse (a := s3) (by rw [show kr + k + 1 + 2 = kr + k + 3 from by omega, b2]; rfl) ?_
    refine bse (a := (Int32.ofNat m, s4)) (by rw [show kr + k + 1 + 2 = kr + 3 + k from by omega, er]; rfl) ?_
    refine bse (a := (Int32.ofNat m, rs_wA s4 49 m (Int32.ofNat (g 4)))) (by rw [d4]; rfl) ?_
    refine bse d5 ?_
    refine bse (a := s6) (by rw [show kr + k + 1 + 2 = kr + k + 3 from by omega, e62]; rfl) ?_
    refine bse (a := (Int32.ofNat m7, s7)) (by rw [show kr + k + 1 + 2 = kr + 3 + k from by omega, er7]; rfl) ?_
    refine bse (a := (Int32.ofNat m7, rs_wA s7 49 m7 (Int32.ofNat (g 4)))) (by rw [d84]; rfl) ?_
    refine bse d85 ?_
    exact bse (a := s9) (by rw [show kr + k + 1 + 2 = kr + k + 3 from by omega, e92]; rfl) rfl
  · have u8 := (op9.2.1 u).1
    have u7 := f87 u8
    have u6 := (op7.2.1 u7).1
    have u5 := (op6.2.1 u6).1
    have u4 := f54 u5
    have u3 := (op4.2.1 u4).1
    obtain ⟨v1, v48, v2⟩ := nr u4
    obtain ⟨v71, v748, v72⟩ := nr7 u7
    have rg := NR_rg _ _ _ _ _ _ _ _ v2
    have rg7 := NR_rg _ _ _ _ _ _ _ _ v72
    have on6 := onR_keep op6 u6 (by omega) (lk_on (r := 45) (m := m) (by omega) (onR_keep op4 u4 (by omega) (onR_keep op3 u3 (by omega) on2)))
    have on9 := onR_keep op9 u (by omega) (lk_on (r := 46) (m := m7) (by omega) (onR_keep op7 u7 (by omega) on6))
    have K5 := KD_new (n := g 4) (r := 45) v2 d3 cp4 (by omega) (by omega) (by omega)
    have K6 := KD_keep op6 u6 K5 (by omega) (bl_le (sy_cx (Or.inl z)) (by omega))
    have K7 := KD_keep op7 u7 K6 (by omega) (bl_le (sy_cx (Or.inl z)) (by omega))
    have K8 := KD_lk (r := 46) (m2 := m7) K7 d83 cp7 (by omega) (by omega) (by omega) (by omega)
    have K9 := KD_keep op9 u K8 (by omega) (bl_le (sy_cx (Or.inl z)) (by omega))
    have J8 := KD_new (n := g 4) (r := 46) v72 d83 cp7 (by omega) (by omega) (by omega)
    have J9 := KD_keep op9 u J8 (by omega) (bl_le (sy_cx (Or.inl z)) (by omega))
    refine ⟨by omega, by rw [on9.1 48 (by omega) (by omega), upd_ne _ _ (by decide), upd_ne _ _ (by decide), upd_ne _ _ (by decide)]; rfl, ?_⟩
    obtain ⟨d, hd⟩ : ∃ d, g9 4 - g 4 = d + 1 := ⟨g9 4 - g 4 - 1, by omega⟩
    rw [hd]
    refine NR_K (W := 7) ⟨c4, Nat.le_refl _, by omega, Nat.le_refl _, hlt9⟩ (by omega) ?_ ?_ ?_ ?_ (fun c hc => ?_) (by rw [fd_of cp9]; rfl) (fun _ => ⟨g6' 4, 21 + h6.length, kd_of (KD_lz K9 (by omega)) (by rw [fd_of cp9]; rfl) (by rw [on9.1 45 (by omega) (by omega), upd_ne _ _ (by decide), upd_eq]) (by unfold sub; omega), kd_of (KD_lz J9 (by omega)) (by rw [fd_of cp9]; rfl) (by rw [on9.1 46 (by omega) (by omega), upd_eq]) (by unfold sub; omega)⟩)
    · rw [fd_of cp9]; rfl
    · rw [on9.1 44 (by omega) (by omega), upd_ne _ _ (by decide), upd_ne _ _ (by decide), upd_ne _ _ (by decide)]; rfl
    · rw [fd_of cp9, on9.1 50 (by omega) (by omega), upd_ne _ _ (by decide), upd_ne _ _ (by decide), upd_ne _ _ (by decide)]
      show some (Value.int (cpl cx F (g 0))) = some (Value.int (F 5 (g 0)))
      rw [f5]
    · rw [fd_of cp9]; rfl
    · have : c = (8, 45, false) ∨ c = (9, 46, false) := by simpa [kids] using hc
      rcases this with e | e <;> subst e
      · refine kd_of (KD_lz K9 (by omega)) ?_ ?_ ?_
        · rw [fd_of cp9]; rfl
        · rw [on9.1 45 (by omega) (by omega), upd_ne _ _ (by decide), upd_eq]
        · unfold sub; omega
      · refine kd_of (KD_lz J9 (by omega)) ?_ ?_ ?_
        · rw [fd_of cp9]; rfl
        · rw [on9.1 46 (by omega) (by omega), upd_eq]
        · unfold sub; omega
/-- a word, and a block -/
theorem x_w9 (hT : TF cx F N) (hA : A ≤ 2000) (IH : IHx L xs zf w cx F N q A (ke + 4) (kr + 3) 119 317 (i1 + 1)) (z : SY cx F N q h s g ts) (t : ctk cx F (g 0) = 37) : EXR 0 L xs cx F N q (A + 20) h s g ts (dM L xs zf w (ke + 6 + k) 125 [.ref (cx 7), .ref (cx 14), .int i1] h) (rM w (kr + 4 + k) 322 [.ref 36, .int i1] s) := by
  obtain ⟨h1, e1, p1, ch1, w8⟩ := sy_parts z
  have hlt := w_pass hT z 37 t (by decide) (by decide)
  have c4 := z.1.2.2.2.2.1.2.2.2
  have g6 := z.2
  have f5 := (hT.2.2 (g 0) z.1.2.2.2.2.2.1).1.1
  have l8 := w8.2.1
  have y8 := w8.2.2
  obtain ⟨h2, a1, a2, a3, a4⟩ := c_128 (L := L) (xs := xs) (zf := zf) (w := w) (k := ke + k) hT p1 hlt 9
  rw [l8] at a1 a3
  have l2 : h2.length = h.length + 1 := by rw [a4.2.1, List.length_append, l8]; rfl
  have y2 : zh h2 = zh h + 13 := by rw [a4.2.2, zh_nd, y8]
  obtain ⟨sy2, op2, on2⟩ := SY_nd z hlt 9 a2 (CH_r (pC_ap p1) a4 (CH_ap (Or.inl (nd0_5 _ _)) ch1)) (fr_M4_8 w8 (fr_trans (fr_app _ _) a4.1 (fun _ _ u => u))) ⟨by omega, nD_1 (by omega) a3 (fun _ z => by cases z)⟩ (by omega) (by decide) hT
  have q0 : gu (gu g 0 (g 0 + 1)) 4 (g 4 + 1) 0 = g 0 + 1 := rfl
  have q4 : gu (gu g 0 (g 0 + 1)) 4 (g 4 + 1) 4 = g 4 + 1 := rfl
  have q6 : gu (gu g 0 (g 0 + 1)) 4 (g 4 + 1) 6 = g 6 := rfl
  obtain ⟨v2, p2⟩ := op_pC (Or.inl sy2)
  obtain ⟨h4, s4, g4, ts4, x, m, ec, er, op4, sl, nx, xl, nl, nr⟩ := IH k k h2 _ _ ts (Or.inl sy2) (by omega)
  have cp4 := on_keep (Or.inl sy2) op4 a3
  have o4 := op4.2.2.2.2.2.1
  have hm2 : SY cx F N q h4 s4 g4 ts4 → g 4 + 1 ≤ m := fun u => by have := (NR_rg _ _ _ _ _ _ _ _ (nr u).2.2).2.1; omega
  obtain ⟨h5, d1, d2, d3, d4, d5, op5, f45, f54⟩ := op_lnk (w := w) (x := x) (f := 8) (r := 45) (n := g 4) (m := m) hT (OPR_trans op2 op4) cp4 (Nat.le_refl _) (by omega) rfl (by omega) (by omega) (Nat.le_refl _) nl (fun u => by have := hm2 u; omega) (by omega)
  have l5 := d3.2.1
  have le34 := op4.2.2.1.1
  have hlt5 := hc_lt d2
  refine ⟨h5, _, g4, ts4, 21 + h.length, g 4, ?_, ?_, op5, by omega, nW_of (o := none) d2 rfl rfl rfl, Nat.le_refl _, by omega, fun u => ?_⟩
  · rw [show ke + 6 + k = ke + 5 + k + 1 from by omega]
    refine c_125 (k := ke + 5 + k) z.1.1 p1 z.1.2.2.2.1 e1 (mi := 136) (As := [.ref (cx 14), .int i1]) (by rw [t]; rfl) ?_
    rw [show ke + 5 + k = ke + k + 4 + 1 from by omega, e136]
    show b136_0 L xs zf (dM L xs zf w (ke + k + 4)) w (some (cx 7)) (some (cx 14)) i1 h1 = _
    unfold b136_0
    refine bse (a := (some (21 + h.length), h2)) (by rw [c_pv p1, a1]; rfl) ?_
    refine bse (a := (some x, h4)) (by rw [c_pv p2, va_s, show ke + k + 4 = ke + 4 + k from by omega, ec]; rfl) ?_
    exact bse d1 rfl
  · rw [show kr + 4 + k = kr + k + 1 + 3 from by omega]
    refine r_322 (kk := 9) hT z (Or.inr (Or.inr (Or.inr (Or.inr (Or.inr (Or.inr (Or.inr (Or.inr ⟨t, rfl⟩)))))))) ?_
    unfold s322_k
    refine ift (by decide) (ift (by decide) (ift (by decide) (ifn (by decide) ?_)))
    refine bse (a := (Int32.ofNat m, s4)) (by rw [show kr + k + 1 + 2 = kr + 3 + k from by omega, er]; rfl) ?_
    refine bse (a := (Int32.ofNat m, rs_wA s4 49 m (Int32.ofNat (g 4)))) (by rw [d4]; rfl) ?_
    exact bse d5 rfl
  · have u4 := f54 u
    obtain ⟨v1, v48, v2⟩ := nr u4
    have rg := NR_rg _ _ _ _ _ _ _ _ v2
    have on6 := lk_on (r := 45) (m := m) (by omega) (onR_keep op4 u4 (by omega) on2)
    have K5 := KD_new (n := g 4) (r := 45) v2 d3 cp4 (by omega) (by omega) (by omega)
    refine ⟨by omega, by rw [on6.1 48 (by omega) (by omega), upd_ne _ _ (by decide), upd_ne _ _ (by decide)]; rfl, ?_⟩
    obtain ⟨d, hd⟩ : ∃ d, g4 4 - g 4 = d + 1 := ⟨g4 4 - g 4 - 1, by omega⟩
    rw [hd]
    refine NR_K (W := 9) ⟨c4, Nat.le_refl _, by omega, Nat.le_refl _, hlt5⟩ (by omega) ?_ ?_ ?_ ?_ (fun c hc => ?_) (by rw [fd_of d2]; rfl) (fun z => by omega)
    · rw [fd_of d2]; rfl
    · rw [on6.1 44 (by omega) (by omega), upd_ne _ _ (by decide), upd_ne _ _ (by decide)]; rfl
    · rw [fd_of d2, on6.1 50 (by omega) (by omega), upd_ne _ _ (by decide), upd_ne _ _ (by decide)]
      show some (Value.int (cpl cx F (g 0))) = some (Value.int (F 5 (g 0)))
      rw [f5]
    · rw [fd_of d2]; rfl
    · have : c = (8, 45, false) := by simpa [kids] using hc
      subst this
      refine kd_of (KD_lz K5 (by omega)) ?_ ?_ ?_
      · rw [fd_of d2]; rfl
      · rw [on6.1 45 (by omega) (by omega), upd_eq]
      · unfold sub; omega
/-- a word, and a NAME -/
theorem x_w5 (hT : TF cx F N) (z : SY cx F N q h s g ts) (t : ctk cx F (g 0) = 36) : EXR 0 L xs cx F N q (A + 20) h s g ts (dM L xs zf w (ke + 10 + k) 125 [.ref (cx 7), .ref (cx 14), .int i1] h) (rM w (kr + 4 + k) 322 [.ref 36, .int i1] s) := by
  obtain ⟨h1, e1, p1, ch1, w8⟩ := sy_parts z
  have hlt := w_pass hT z 36 t (by decide) (by decide)
  have c4 := z.1.2.2.2.2.1.2.2.2
  have g6 := z.2
  have f5 := (hT.2.2 (g 0) z.1.2.2.2.2.2.1).1.1
  have l8 := w8.2.1
  have y8 := w8.2.2
  obtain ⟨h2, a1, a2, a3, a4⟩ := c_128 (L := L) (xs := xs) (zf := zf) (w := w) (k := ke + 4 + k) hT p1 hlt 5
  rw [l8] at a1 a3
  have l2 : h2.length = h.length + 1 := by rw [a4.2.1, List.length_append, l8]; rfl
  have y2 : zh h2 = zh h + 13 := by rw [a4.2.2, zh_nd, y8]
  obtain ⟨sy2, op2, on2⟩ := SY_nd z hlt 5 a2 (CH_r (pC_ap p1) a4 (CH_ap (Or.inl (nd0_5 _ _)) ch1)) (fr_M4_8 w8 (fr_trans (fr_app _ _) a4.1 (fun _ _ u => u))) ⟨by omega, nD_1 (by omega) a3 (fun _ z => by cases z)⟩ (by omega) (by decide) hT
  have q0 : gu (gu g 0 (g 0 + 1)) 4 (g 4 + 1) 0 = g 0 + 1 := rfl
  have q4 : gu (gu g 0 (g 0 + 1)) 4 (g 4 + 1) 4 = g 4 + 1 := rfl
  have q6 : gu (gu g 0 (g 0 + 1)) 4 (g 4 + 1) 6 = g 6 := rfl
  obtain ⟨v2, p2⟩ := op_pC (Or.inl sy2)
  have b16 : g 0 + 1 ≤ cx 16 := hlt
  obtain ⟨h3, b1, b2, b3⟩ := pF_ex (j := 3) (cis := [12]) (v := .int (cpl cx F (g 0 + 1))) (u := .int (cpl cx F (g 0))) a3 rfl (by decide) rfl (by decide)
  have op2' := op2
  obtain ⟨op3, f23, f32⟩ := OPR_lnk (s2 := rnS s (g 4) (g 0) 5) op2' b3 a3 (Nat.le_refl _) (rF_refl _) rfl (fun _ => ⟨sX_refl _, yA_refl _⟩) (fun _ => tR_2 rfl) hT
  have sy3 := f23 sy2
  obtain ⟨nm, h4, s4, g4, d1, d2, op4, n4, fr4, s4e, y41, y42, y43, y44, y45, y46⟩ := op_word (L := L) (xs := xs) (zf := zf) (w := w) (k := ke + k) (k2 := kr + k) (x := 2) (c := 1) hT (Or.inl ⟨rfl, rfl⟩) (Or.inl sy3)
  have b2 : hc h3 (21 + h.length) = some (.inr (12, [.int 5, .int (cpl cx F (g 0)), .ref 9, .int (cpl cx F (g 0 + 1)), .int 0, .null, .null, .null, .null, .null, .null, .null, .int 0])) := b2
  have cp4 := on_keep (Or.inl sy3) op4 b2
  have nl := n_lt hT op4.1
  have o4 := op4.2.2.2.2.2.1
  obtain ⟨h5, e51, e52, e53⟩ := pF_ex (j := 2) (cis := [12]) (v := .ref nm) (u := .ref 9) cp4 rfl (by decide) rfl (by decide)
  have rf4 := (OPR_trans op3 op4).2.2.2.2.1
  have rt4 := rT_F rf4 z.1.2.2.1
  obtain ⟨op5, f45, f54⟩ := OPR_lnk (s2 := rs_wA (rs_wB s4 56 (g 4) (N (g 0 + 1))) 51 (g 4) (F 5 (g 0 + 1))) (OPR_trans op3 op4) e53 cp4 (Nat.le_refl _) (rF_trans (rF_B (by omega)) (rF_A (by omega))) rfl (fun _ => ⟨sX_trans (sX_B (Nat.le_refl _)) (sX_A (Nat.le_refl _)) (Nat.le_refl _), yA_trans yA_B (yA_A (by omega))⟩) (fun u => by
    have k5 : s4.2.1 44 (g 4) = 5 := by
      have k := (onR_keep op4 u (by omega) on2).1 44 (by omega) (by omega)
      rw [upd_ne _ _ (by decide)] at k
      exact k
    exact tR_trans (tR_B (fun _ => by rw [k5]; decide)) (tR_A (by decide) (fun _ => ⟨Or.inl (by show s4.2.1 44 (g 4) ≠ 8; rw [k5]; decide), Or.inr (by decide)⟩)) (Nat.le_refl _)) hT
  have l5 := e53.2.1
  have l3 := b3.2.1
  have hlt5 := hc_lt e52
  refine ⟨h5, _, g4, ts, 21 + h.length, g 4, ?_, ?_, op5, Or.inr (by omega), nW_of (o := none) e52 rfl rfl rfl, Nat.le_refl _, by omega, fun u => ?_⟩
  · rw [show ke + 10 + k = ke + 9 + k + 1 from by omega]
    refine c_125 (k := ke + 9 + k) z.1.1 p1 z.1.2.2.2.1 e1 (mi := 130) (As := []) (by rw [t]; rfl) ?_
    rw [show ke + 9 + k = ke + k + 8 + 1 from by omega, e130]
    show b130_0 L xs zf (dM L xs zf w (ke + k + 8)) w (some (cx 7)) h1 = _
    unfold b130_0
    refine bse (a := (some (21 + h.length), h2)) (by rw [c_pv p1, show ke + k + 8 = ke + 4 + k + 4 from by omega, a1]; rfl) ?_
    refine bse (c_in a2) (bse (c_I a2 7 (by omega)) (bse b1 ?_))
    exact bse (a := (some nm, h4)) (by rw [c_pv sy3.1.1, d1]; rfl) (bse e51 rfl)
  · rw [show kr + 4 + k = kr + k + 1 + 3 from by omega]
    refine r_322 (kk := 5) hT z (Or.inr (Or.inr (Or.inr (Or.inr (Or.inl ⟨t, rfl⟩))))) ?_
    unfold s322_k
    refine ifn (by decide) ?_
    refine bse (a := (Int32.ofNat (g 0 + 1), s4)) (by rw [show kr + k + 1 + 2 = kr + k + 3 from by omega, d2]; rfl) ?_
    refine bse (a := N (g 0 + 1)) ((aTn (s := s4) (by omega)).trans (by rw [rt4.2.2.2])) (bse (nWJ (by omega)) ?_)
    refine bse (a := F 5 (g 0 + 1)) ((aTi (s := rs_wB s4 56 (g 4) (N (g 0 + 1))) (by omega) (by omega)).trans ?_) (bse (nWt (by omega) (by omega)) rfl)
    show some (s4.2.1 41 (g 0 + 1)) = _
    rw [rt4.2.1]
  · have u4 := f54 u
    obtain ⟨t2, g02, n2⟩ := n4 u4
    have on4 := onR_keep op4 u4 (by omega) on2
    have f5' := (hT.2.2 (g 0 + 1) b16).1.1
    have r51 : ∀ r, (rs_wA (rs_wB s4 56 (g 4) (N (g 0 + 1))) 51 (g 4) (F 5 (g 0 + 1))).2.1 r (g 4) = if r = 51 then F 5 (g 0 + 1) else s4.2.1 r (g 4) := by
      intro r
      rw [wA_get]
      by_cases hr : r = 51
      · rw [if_pos ⟨hr, rfl⟩, if_pos hr]
      · rw [if_neg (fun u => hr u.1), if_neg hr]
        rfl
    refine ⟨by omega, by rw [r51, if_neg (by decide), on4.1 48 (by omega) (by omega), upd_ne _ _ (by decide)]; rfl, ?_⟩
    rw [show g4 4 - g 4 = 0 + 1 from by omega]
    refine NR_0 (W := 5) ⟨c4, Nat.le_refl _, by omega, Nat.le_refl _, hlt5⟩ (by omega) ?_ ?_ ?_ ?_ (fun _ => ⟨⟨nm, ?_, ?_⟩, ?_⟩) (fun e => by omega) (fun z => by omega) (by rw [fd_of e52]; rfl) (by rw [r51, if_neg (by decide), on4.1 45 (by omega) (by omega), upd_ne _ _ (by decide)]; rfl)
    · rw [fd_of e52]; rfl
    · rw [r51, if_neg (by decide), on4.1 44 (by omega) (by omega), upd_ne _ _ (by decide)]; rfl
    · rw [fd_of e52, r51, if_neg (by decide), on4.1 50 (by omega) (by omega), upd_ne _ _ (by decide)]
      show some (Value.int (cpl cx F (g 0))) = some (Value.int (F 5 (g 0)))
      rw [f5]
    · rw [fd_of e52]; rfl
    · rw [fd_of e52]; rfl
    · show nS L xs h5 nm ((rs_wB s4 56 (g 4) (N (g 0 + 1))).2.2 56 (g 4))
      rw [wB_get, if_pos ⟨rfl, rfl⟩]
      exact nS_fr e53.1 n2
    · rw [fd_of e52, r51, if_pos rfl, f5']; rfl
end W7
