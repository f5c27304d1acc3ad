/-! STATEMENTS: while, and if with or without else. -/
section IG
variable {L : Nat} {xs : Nat → Int32} {zf : Value} {w k i : Nat} {cx : Nat → Nat} {F : Nat → Nat → Int32} {N : Nat → Int64} {q : List Value} {h : rm_H} {s : rS} {g : Nat → Nat} {ts : List Nat} {A ke kr : Nat} {i1 : Int32}
theorem x_while (hT : TF cx F N) (hA : A ≤ 2000) (IH : IHx L xs zf w cx F N q A (ke + 4) (kr + 3) 123 320 (i1 + 1)) (IB : IHx L xs zf w cx F N q A (ke + 4) (kr + 3) 119 317 (i1 + 1)) (z : SY cx F N q h s g ts) (t : ctk cx F (g 0) = 28) : STR L xs cx F N q (A + 20) h s g ts (dM L xs zf w (ke + 6 + k) 121 [.ref (cx 7), .ref (cx 14), .int i1] h) (rM w (kr + 4 + k) 318 [.ref 36, .int i1] s) := by
  have hlt := w_pass hT z 28 t (by decide) (by decide)
  have f5 := (hT.2.2 (g 0) z.1.2.2.2.2.2.1).1.1
  have nl0 := n_lt hT (Or.inl z)
  obtain ⟨h7, s7, g7, ts7, x, m, x6, m6, a6, b6, ec, er, oc, cp, sl, n4, a6l, b6l, nr⟩ := x_139a (k := k) (W := 17) (c := 8) hT hA IH IB z hlt (by decide)
  have hl7 := hc_lt cp
  refine ⟨h7, s7, g7, ts7, 21 + h.length, g 4, ?_, ?_, OPC_le oc (by omega) (by omega), (by omega), nW_of (o := none) cp rfl rfl rfl, Nat.le_refl _, n4, fun u => ?_⟩
  · rw [show ke + 6 + k = ke + 5 + k + 1 from by omega, e121]
    show b121_0 L xs zf (dM L xs zf w (ke + 5 + k)) w (some (cx 7)) (some (cx 14)) i1 h = _
    unfold b121_0
    refine bse (c_in z.1.1) (bse (c_I z.1.1 6 (by omega)) ?_)
    rw [vS_6, t]
    have c139 := ec (some (.ref (21 + h.length)), h7) (ift (by decide) rfl)
    exact ifn (by decide) (ifn (by decide) (ifn (by decide) (ifn (by decide) (ift rfl (bse (a := (some (21 + h.length), h7)) (by rw [c_pv z.1.1, va_s, show (17 : Int32) = Int32.ofNat 17 from rfl, c139]; rfl) rfl)))))
  · rw [show kr + 4 + k = kr + 3 + k + 1 from by omega]
    refine r_318 hT z Q8 t ?_
    unfold s318_36 s318_60
    exact ift (by decide) (ifn (by decide) (ifn (by decide) (bse (pI_nx nl0.2.2.2) (ift (by decide) (er (some (.int (Int32.ofNat (g 4))), s7) (ift (by decide) rfl))))))
  · obtain ⟨g0, on, K, J⟩ := nr u
    refine ⟨g0, by rw [on.1 48 (by omega) (by omega), upd_ne _ _ (by decide), upd_ne _ _ (by decide)]; rfl, ?_⟩
    have rk := NR_rg _ _ _ _ _ _ _ _ K.1
    have rj := NR_rg _ _ _ _ _ _ _ _ J.1
    obtain ⟨d, hd⟩ : ∃ d, g7 4 - g 4 = d + 1 := ⟨g7 4 - g 4 - 1, by omega⟩
    rw [hd]
    refine NR_K (W := 17) ⟨nl0.2.2.1, Nat.le_refl _, by omega, Nat.le_refl _, hl7⟩ (by omega) ?_ ?_ ?_ ?_ (fun c hc => ?_) (by rw [fd_of cp]; rfl) (fun _ => ⟨a6, b6, kd_of (KD_lz K (by omega)) (by rw [fd_of cp]; rfl) (by rw [on.1 45 (by omega) (by omega), upd_ne _ _ (by decide), upd_eq]) (by unfold sub; omega), kd_of (KD_lz J (by omega)) (by rw [fd_of cp]; rfl) (by rw [on.1 46 (by omega) (by omega), upd_eq]) (by unfold sub; omega)⟩)
    · rw [fd_of cp]; rfl
    · rw [on.1 44 (by omega) (by omega), upd_ne _ _ (by decide), upd_ne _ _ (by decide)]; rfl
    · rw [fd_of cp, on.1 50 (by omega) (by omega), upd_ne _ _ (by decide), upd_ne _ _ (by decide)]
      show some (Value.int (cpl cx F (g 0))) = some (Value.int (F 5 (g 0)))
      rw [f5]
    · rw [fd_of cp]; rfl
    · have : c = (8, 45, false) ∨ c = (9, 46, false) := by simpa [kids] using hc
      rcases this with e | e <;> subst e
      · refine kd_of (KD_lz K (by omega)) ?_ ?_ ?_
        · rw [fd_of cp]; rfl
        · rw [on.1 45 (by omega) (by omega), upd_ne _ _ (by decide), upd_eq]
        · unfold sub; omega
      · refine kd_of (KD_lz J (by omega)) ?_ ?_ ?_
        · rw [fd_of cp]; rfl
        · rw [on.1 46 (by omega) (by omega), upd_eq]
        · unfold sub; omega
theorem x_if (hT : TF cx F N) (hA : A ≤ 2000) (IH : IHx L xs zf w cx F N q A (ke + 4) (kr + 3) 123 320 (i1 + 1)) (IB : IHx L xs zf w cx F N q A (ke + 4) (kr + 3) 119 317 (i1 + 1)) (z : SY cx F N q h s g ts) (t : ctk cx F (g 0) = 26) : STR L xs cx F N q (A + 20) h s g ts (dM L xs zf w (ke + 6 + k) 121 [.ref (cx 7), .ref (cx 14), .int i1] h) (rM w (kr + 4 + k) 318 [.ref 36, .int i1] s) := by
  have hlt := w_pass hT z 26 t (by decide) (by decide)
  have f5 := (hT.2.2 (g 0) z.1.2.2.2.2.2.1).1.1
  have nl0 := n_lt hT (Or.inl z)
  obtain ⟨h7, s7, g7, ts7, x, m, x6, m6, a6, b6, ec, er, oc, cp, sl, n4, a6l, b6l, nr⟩ := x_139a (k := k) (W := 16) (c := 6) hT hA IH IB z hlt (by decide)
  have hl7 := hc_lt cp
  have nl7 := n_lt hT oc.1.1
  obtain ⟨v7, p7⟩ := op_pC oc.1.1
  obtain ⟨b, h8, g8, e1, e2, op8, w8, y81, y82, y83, y84, y85, y86⟩ := op_else (L := L) (xs := xs) (zf := zf) (w := w) (k := ke + k) (k2 := kr + 2 + k) hT oc.1.1
  have l8 := w8.2.1
  have o8 := op8.2.2.2.2.2.1
  have cp8 := on_keep oc.1.1 op8 cp
  have toC : ∀ h' : rm_H, dM L xs zf w (ke + 5 + k) 139 [.ref (cx 7), .int (Int32.ofNat 16), .ref (cx 14), .int i1] h = some (some (.ref (21 + h.length)), h') → dM L xs zf w (ke + 6 + k) 121 [.ref (cx 7), .ref (cx 14), .int i1] h = some (some (.ref (21 + h.length)), h') := by
    intro h' c139
    rw [show ke + 6 + k = ke + 5 + k + 1 from by omega, e121]
    show b121_0 L xs zf (dM L xs zf w (ke + 5 + k)) w (some (cx 7)) (some (cx 14)) i1 h = _
    unfold b121_0
    refine bse (c_in z.1.1) (bse (c_I z.1.1 6 (by omega)) ?_)
    rw [vS_6, t]
    exact ifn (by decide) (ifn (by decide) (ift rfl (bse (a := (some (21 + h.length), h')) (by rw [c_pv z.1.1, va_s, show (16 : Int32) = Int32.ofNat 16 from rfl, c139]; rfl) rfl)))
  have toR : ∀ s' : rS, s318_84 (rM w (kr + 3 + k)) w i1 (s.2.1 41 (g 0)) 6 (Int32.ofNat (wK 16)) (nxS s (g 0)) = some (some (.int (Int32.ofNat (g 4))), s') → rM w (kr + 4 + k) 318 [.ref 36, .int i1] s = some (some (.int (Int32.ofNat (g 4))), s') := by
    intro s' r84
    rw [show kr + 4 + k = kr + 3 + k + 1 from by omega]
    refine r_318 hT z Q6 t ?_
    unfold s318_36 s318_60
    exact ift (by decide) (ift (by decide) (bse (pI_nx nl0.2.2.2) (ifn (by decide) r84)))
  cases b with
  | false =>
    have op8 : OPR cx F N q h7 s7 g7 ts7 h8 s7 g8 ts7 := op8
    refine ⟨h8, s7, g8, ts7, 21 + h.length, g 4, toC _ (ec _ ?_), toR _ (er _ ?_), OPC_le (OPC_trans oc op8) (by omega) (by omega), by omega, nW_of (o := none) cp8 rfl rfl rfl, Nat.le_refl _, by omega, fun u => ?_⟩
    · refine ifn (by decide) (bse (a := (rd_01 false, h8)) (by rw [c_pv p7, show ke + 4 + k = ke + k + 4 from by omega, e1]; rfl) (ift (show mx_f1 .eq (rd_01 false) = true by decide) rfl))
    · refine ifn (by decide) (bse (a := (rd_01 false, s7)) (by rw [show kr + 3 + k = kr + 2 + k + 1 from by omega, e2]; rfl) (ifn (show ¬ mx_f1 .ne (rd_01 false) = true by decide) rfl))
    · obtain ⟨g0, on, K, J⟩ := nr (op8.2.1 u).1
      have on8 := onR_keep op8 u n4 on
      have rk := NR_rg _ _ _ _ _ _ _ _ K.1
      have rj := NR_rg _ _ _ _ _ _ _ _ J.1
      have K8 := KD_keep op8 u K (by omega) (bl_le (sy_cx (Or.inl z)) (by omega))
      have J8 := KD_keep op8 u J (by omega) (bl_le (sy_cx (Or.inl z)) (by omega))
      refine ⟨by omega, by rw [on8.1 48 (by omega) (by omega), upd_ne _ _ (by decide), upd_ne _ _ (by decide)]; rfl, ?_⟩
      obtain ⟨d, hd⟩ : ∃ d, g8 4 - g 4 = d + 1 := ⟨g8 4 - g 4 - 1, by omega⟩
      rw [hd]
      refine NR_16 ⟨nl0.2.2.1, Nat.le_refl _, by omega, Nat.le_refl _, by omega⟩ ?_ ?_ ?_ (fun c hc => ?_) ⟨a6, b6, g7 4, 21 + h7.length, kd_of (KD_lz K8 (by omega)) (by rw [fd_of cp8]; rfl) (by rw [on8.1 45 (by omega) (by omega), upd_ne _ _ (by decide), upd_eq]) (by unfold sub; omega), kd_of (KD_lz J8 (by omega)) (by rw [fd_of cp8]; rfl) (by rw [on8.1 46 (by omega) (by omega), upd_eq]) (by unfold sub; omega), Or.inl ⟨?_, ?_, by omega, by omega⟩⟩ (by rw [fd_of cp8]; rfl)
      · rw [fd_of cp8]; rfl
      · rw [on8.1 44 (by omega) (by omega), upd_ne _ _ (by decide), upd_ne _ _ (by decide)]; rfl
      · rw [fd_of cp8, on8.1 50 (by omega) (by omega), upd_ne _ _ (by decide), upd_ne _ _ (by decide)]
        show some (Value.int (cpl cx F (g 0))) = some (Value.int (F 5 (g 0)))
        rw [f5]
      · have : c = (8, 45, false) ∨ c = (9, 46, false) := by simpa [kids] using hc
        rcases this with e | e <;> subst e
        · refine kd_of (KD_lz K8 (by omega)) ?_ ?_ ?_
          · rw [fd_of cp8]; rfl
          · rw [on8.1 45 (by omega) (by omega), upd_ne _ _ (by decide), upd_eq]
          · unfold sub; omega
        · refine kd_of (KD_lz J8 (by omega)) ?_ ?_ ?_
          · rw [fd_of cp8]; rfl
          · rw [on8.1 46 (by omega) (by omega), upd_eq]
          · unfold sub; omega
      · rw [fd_of cp8]; rfl
      · rw [on8.1 47 (by omega) (by omega), upd_ne _ _ (by decide), upd_ne _ _ (by decide)]; rfl
  | true =>
    have op8 : OPR cx F N q h7 s7 g7 ts7 h8 (nxS s7 (g7 0)) g8 ts7 := op8
    obtain ⟨v8, p8⟩ := op_pC op8.1
    obtain ⟨h9, s9, g9, ts9, x9, m9, ec9, er9, op9, sl9, nx9, xl9, nl9, nr9⟩ := IB k k h8 _ _ ts7 op8.1 (by omega)
    have cp9 := on_keep op8.1 op9 cp8
    have o9 := op9.2.2.2.2.2.1
    have le89 := op9.2.2.1.1
    have hm9 : SY cx F N q h9 s9 g9 ts9 → g8 4 ≤ m9 := fun u => (NR_rg _ _ _ _ _ _ _ _ (nr9 u).2.2).2.1
    have op79 := OPR_trans (OPR_trans oc.1 op8) op9
    obtain ⟨h10, d1, d2, d3, d4, d5, op10, f910, f109⟩ := op_lnk (w := w) (x := x9) (f := 10) (r := 47) (n := g 4) (m := m9) hT op79 cp9 (Nat.le_refl _) (by omega) rfl (by omega) (by omega) (Nat.le_refl _) nl9 (fun u => by have := hm9 u; omega) (by omega)
    have l10 := d3.2.1
    have hl10 := hc_lt d2
    refine ⟨h10, _, g9, ts9, 21 + h.length, g 4, toC _ (ec _ ?_), toR _ (er _ ?_), OPC_le (OPC_st (OPC_trans (OPC_trans oc op8) op9) d3 op10) (by omega) (by omega), by omega, nW_of (o := none) d2 rfl rfl rfl, Nat.le_refl _, by omega, fun u => ?_⟩
    · refine ifn (by decide) (bse (a := (rd_01 true, h8)) (by rw [c_pv p7, show ke + 4 + k = ke + k + 4 from by omega, e1]; rfl) (ifn (show ¬ mx_f1 .eq (rd_01 true) = true by decide) ?_))
      refine bse (a := (some x9, h9)) (by rw [c_pv p8, ec9]; rfl) ?_
      exact bse d1 rfl
    · refine ifn (by decide) (bse (a := (rd_01 true, s7)) (by rw [show kr + 3 + k = kr + 2 + k + 1 from by omega, e2]; rfl) (ift (show mx_f1 .ne (rd_01 true) = true by decide) ?_))
      refine bse (pI_nx nl7.2.2.2) ?_
      refine bse (a := (Int32.ofNat m9, s9)) (by rw [er9]; rfl) ?_
      refine bse (a := (Int32.ofNat m9, rs_wA s9 49 m9 (Int32.ofNat (g 4)))) (by rw [show kr + 3 + k = kr + 2 + k + 1 from by omega, d4]; rfl) ?_
      exact bse d5 rfl
    · have u9 := f109 u
      have u8 := (op9.2.1 u9).1
      obtain ⟨g0, on, K, J⟩ := nr (op8.2.1 u8).1
      obtain ⟨v1, v48, v2⟩ := nr9 u9
      have rk := NR_rg _ _ _ _ _ _ _ _ K.1
      have rj := NR_rg _ _ _ _ _ _ _ _ J.1
      have rg := NR_rg _ _ _ _ _ _ _ _ v2
      have on10 := lk_on (r := 47) (m := m9) (by omega) (onR_keep op9 u9 (by omega) (onR_keep op8 u8 n4 on))
      have blp := sy_cx (Or.inl z)
      have K9 := KD_keep op9 u9 (KD_keep op8 u8 K (by omega) (bl_le blp (by omega))) (by omega) (bl_le blp (by omega))
      have J9 := KD_keep op9 u9 (KD_keep op8 u8 J (by omega) (bl_le blp (by omega))) (by omega) (bl_le blp (by omega))
      have K10 := KD_lk (r := 47) (m2 := m9) K9 d3 cp9 (by omega) (by omega) (by omega) (by omega)
      have J10 := KD_lk (r := 47) (m2 := m9) J9 d3 cp9 (by omega) (by omega) (by omega) (by omega)
      have I10 := KD_new (n := g 4) (r := 47) v2 d3 cp9 (by omega) (by omega) (by omega)
      refine ⟨by omega, by rw [on10.1 48 (by omega) (by omega), upd_ne _ _ (by decide), upd_ne _ _ (by decide), upd_ne _ _ (by decide)]; rfl, ?_⟩
      obtain ⟨d, hd⟩ : ∃ d, g9 4 - g 4 = d + 1 := ⟨g9 4 - g 4 - 1, by omega⟩
      rw [hd]
      refine NR_16 ⟨nl0.2.2.1, Nat.le_refl _, by omega, Nat.le_refl _, by omega⟩ ?_ ?_ ?_ (fun c hc => ?_) ⟨a6, b6, g7 4, 21 + h7.length, kd_of (KD_lz K10 (by omega)) (by rw [fd_of d2]; rfl) (by rw [on10.1 45 (by omega) (by omega), upd_ne _ _ (by decide), upd_ne _ _ (by decide), upd_eq]) (by unfold sub; omega), kd_of (KD_lz J10 (by omega)) (by rw [fd_of d2]; rfl) (by rw [on10.1 46 (by omega) (by omega), upd_ne _ _ (by decide), upd_eq]) (by unfold sub; omega), Or.inr (kd_of (KD_lz I10 (by omega)) ?_ ?_ ?_)⟩ (by rw [fd_of d2]; rfl)
      · rw [fd_of d2]; rfl
      · rw [on10.1 44 (by omega) (by omega), upd_ne _ _ (by decide), upd_ne _ _ (by decide), upd_ne _ _ (by decide)]; rfl
      · rw [fd_of d2, on10.1 50 (by omega) (by omega), upd_ne _ _ (by decide), upd_ne _ _ (by decide), upd_ne _ _ (by decide)]
        show some (Value.int (cpl cx F (g 0))) = some (Value.int (F 5 (g 0)))
        rw [f5]
      · have : c = (8, 45, false) ∨ c = (9, 46, false) := by simpa [kids] using hc
        rcases this with e | e <;> subst e
        · refine kd_of (KD_lz K10 (by omega)) ?_ ?_ ?_
          · rw [fd_of d2]; rfl
          · rw [on10.1 45 (by omega) (by omega), upd_ne _ _ (by decide), upd_ne _ _ (by decide), upd_eq]
          · unfold sub; omega
        · refine kd_of (KD_lz J10 (by omega)) ?_ ?_ ?_
          · rw [fd_of d2]; rfl
          · rw [on10.1 46 (by omega) (by omega), upd_ne _ _ (by decide), upd_eq]
          · unfold sub; omega
      · rw [fd_of d2]; rfl
      · rw [on10.1 47 (by omega) (by omega), upd_eq]
      · unfold sub; omega
end IG
