/-! A KIND'S HEAD, by both: all of it. -/
section KC
variable {L : Nat} {xs : Nat → Int32} {zf : Value} {w k k2 kk i : Nat} {cx : Nat → Nat} {F : Nat → Nat → Int32} {N : Nat → Int64} {q : List Value} {h h' h1 h2 : rm_H} {s s' s1 s2 : rS} {g g' : Nat → Nat} {ts : List Nat} {K nm a9 c9 : Nat} {v : Nat → Int32} {pt vr pl ac ix : Int32} {kl : List Nat}
theorem x_head (hT : TF cx F N) (h14 : cx 14 = 0) (z : SZ cx F N q h s g ts) (ax : Int32) (htk : (ctk cx F (g 0) = 20 ∧ ax = 0) ∨ (ctk cx F (g 0) = 21 ∧ ax = 1)) (hkk : kk < 8) (x32 : s.1 32 = Int32.ofNat kk) (e9 : aL h (cx 9) a9 c9 kl) (ho : ∀ y ∈ kl, oK h y) (n9 : cx 9 ≠ cx 11) (hkl : kl.length ≤ 8) : ∃ h' s' g' a9' c9' nm fl ml pl, dM L xs zf w (k + 9) 93 [.ref (cx 7)] h = some (some (.ref (21 + h.length)), h') ∧ s306_0 (rM w (k2 + 5)) w s = s306_82 (rM w (k2 + 5)) w w (Int32.ofNat kk) s' ∧ OPW (fun y => y = cx 9 ∨ (y = a9 ∧ 21 ≤ y)) cx F N q 0 (4 * c9) (4 * c9') h s g ts h' s' g' ts ∧ g' 6 = 0 ∧ rKh s s' kk ∧ hc h' (21 + h.length) = some (.inr (9, kdC nm pl ax (Int32.ofNat kl.length) fl ml)) ∧ (22 + h.length ≤ fl ∧ fl < ml ∧ ml < 21 + h'.length) ∧ aL h' fl 5 0 [] ∧ aL h' ml 5 0 [] ∧ aL h' (cx 9) a9' c9' (kl ++ [21 + h.length]) ∧ (∀ y ∈ kl ++ [21 + h.length], oK h' y) ∧ (a9' = a9 ∨ 21 + h.length ≤ a9') ∧ (∀ l2 ar2 cap2 es2, l2 ≠ cx 9 → aL h l2 ar2 cap2 es2 → aL h' l2 ar2 cap2 es2) ∧ s'.1 32 = Int32.ofNat (kk + 1) ∧ s'.2.1 66 kk = ax ∧ s'.2.1 64 kk = s.1 38 ∧ (SY cx F N q h' s' g' ts → g 0 < g' 0 ∧ nS L xs h' nm (s'.2.2 62 kk) ∧ s'.2.1 63 kk = pl) := by
  obtain ⟨⟨p0, ⟨a1, a2, a3, a4⟩, rt, ch, ⟨c1, c2, c3, c4⟩, b1, b2, b3, b4⟩, g6⟩ := id z
  have hT1 := hT.1
  obtain ⟨⟨f5, _, tr⟩, _⟩ := hT.2.2 (g 0) b1
  have hlt : g 0 < cx 16 := by
    rcases htk with ⟨e, _⟩ | ⟨e, _⟩
    · exact tk_lt hT b1 (by rw [e]; decide) (by rw [e]; decide)
    · exact tk_lt hT b1 (by rw [e]; decide) (by rw [e]; decide)
  have hax : ax = 0 ∨ ax = 1 := by rcases htk with ⟨_, e⟩ | ⟨_, e⟩ <;> simp [e]
  have hi1 : g 0 + 1 ≤ cx 16 := hlt
  obtain ⟨⟨f51, _, tr1⟩, _⟩ := hT.2.2 (g 0 + 1) hi1
  obtain ⟨h5, e1, e2, e3⟩ := y_adv (L := L) (xs := xs) (zf := zf) (w := w) (k := k + 5) hT hlt p0
  have l5 := e3.2.1
  have y5 := e3.2.2
  have p16 : pC (h5 ++ [.inr (9, ah_DV 9)]) cx F (vS cx F (g 0 + 1)) := pC_ap e2
  have ch16 : CH cx q (h5 ++ [.inr (9, ah_DV 9)]) g ts (s.1 24) (s.1 25) := CH_ap (Or.inl (fun fs z => by cases z)) (CH_r p0 e3 ch)
  have hK16 : hc (h5 ++ [.inr (9, ah_DV 9)]) (21 + h.length) = some (.inr (9, ah_DV 9)) := by rw [← l5]; exact hc_new _
  have l16 : (h5 ++ [(.inr (9, ah_DV 9) : rm_E)]).length = h.length + 1 := by rw [List.length_append, l5]; rfl
  have z16 : zh (h5 ++ [.inr (9, ah_DV 9)]) = zh h + 7 := by rw [zh_app, y5]; rfl
  have f16 : fr (fun y => y = cx 0) h (h5 ++ [.inr (9, ah_DV 9)]) := fr_trans e3.1 (fr_app (fun _ => False) _) (fun _ _ u => u.elim)
  have lk16 : ∀ l2 ar2 cap2 es2, aL h l2 ar2 cap2 es2 → aL (h5 ++ [.inr (9, ah_DV 9)]) l2 ar2 cap2 es2 := fun l2 ar2 cap2 es2 e => aL_app (aL_st (pC_r p0) (by decide) e3 e)
  have K0 : 21 + h.length ≠ cx 0 := by have := hc_lt (pC_r p0); omega
  -- the reference up to the name
  have rA : rKh s (khA s kk (g 0) ax) kk := rKh_trans (rKh_trans rKh_32 (rKh_A (by omega))) (rKh_ty rTy_nx rfl)
  have q3 := q303 (w := w) (k := k2 + 4) (s := rs_w s 32 (Int32.ofNat (kk + 1))) 1 a1 c1 (by omega : g 0 ≤ 2000)
  have eax : (rM w (k2 + 5) 303 [.ref 36, .int 1] (rs_w s 32 (Int32.ofNat (kk + 1)))).bind rxI = some (ax, rs_w s 32 (Int32.ofNat (kk + 1))) := by
    rw [q3]
    show some (rd_01 (decide (s.2.1 40 (g 0) = 2 ∧ s.2.1 42 (g 0) = 1)), _) = _
    rw [rt.1, rt.2.2.1]
    rcases htk with ⟨e, ea⟩ | ⟨e, ea⟩
    · rw [decide_eq_false (fun u => by rw [(wd_iff tr Q1).mp u] at e; exact absurd e (by decide)), ea]
      rfl
    · rw [decide_eq_true ((wd_iff tr Q1).mpr e), ea]
      rfl
  have q7 := q307 (w := w) (k := k2 + 2) (s := khA s kk (g 0) ax) (t := g 0 + 1) 3 a1 rfl (by omega)
  rw [(rKh_rT rA rt).1] at q7
  have si : F 4 (g 0 + 1) = 3 ↔ ctk cx F (g 0 + 1) = 3 := (so_iff tr1).2.1
  -- the name
  have key : ∃ hA sB gB nm, dM L xs zf w (k + 8) 94 [.ref (cx 7), .int 3] (h5 ++ [.inr (9, ah_DV 9)]) = some (some (.ref nm), hA) ∧ rM w (k2 + 5) 307 [.ref 36, .int 3] (khA s kk (g 0) ax) = some (some (.int (Int32.ofNat (g 0 + 1))), sB) ∧ (SY cx F N q hA sB gB ts ∨ FLT cx F N q hA sB gB ts) ∧ (SY cx F N q hA sB gB ts → nS L xs hA nm (N (g 0 + 1))) ∧ fr (fun y => y = cx 0) (h5 ++ [.inr (9, ah_DV 9)]) hA ∧ rTy (khA s kk (g 0) ax) sB ∧ sB.2 = (khA s kk (g 0) ax).2 ∧ (gB 1 = g 1 ∧ gB 2 = g 2 ∧ gB 3 = g 3 ∧ gB 4 = g 4 ∧ gB 6 = 0 ∧ g 0 + 1 ≤ gB 0) ∧ hA.length ≤ h.length + 3 ∧ zh hA ≤ zh h + 19 ∧ (∀ l2 ar2 cap2 es2, aL (h5 ++ [.inr (9, ah_DV 9)]) l2 ar2 cap2 es2 → aL hA l2 ar2 cap2 es2) := by
    by_cases t : ctk cx F (g 0 + 1) = 3
    · obtain ⟨nm, hA, d1, hlt2, d2, d3, d4, d5, d6, d7⟩ := y_twT (L := L) (xs := xs) (zf := zf) (w := w) (k := k) hT hi1 p16 3 t (Or.inr rfl)
      rw [if_pos (si.mpr t)] at q7
      refine ⟨hA, nxS (khA s kk (g 0) ax) (g 0 + 1), gu g 0 (g 0 + 2), nm, d1, q7, Or.inl ⟨⟨d2, ⟨a1, a2, a3, a4⟩, rKh_rT (rKh_trans rA (rKh_ty rTy_nx rfl)) rt, CH_g (g := g) rfl rfl rfl (CH_fr p16 d4 d5 ch16), ⟨rfl, c2, c3, c4⟩, ?_⟩, g6.1, TSI_s (TSI_e (TSI_0 g6.2 (fr_trans f16 d4 (fun _ _ u => u)) (cx0_10 p0) (nD_trans (nD_trans (nD_0 e3.2.1) (fr_app (fun _ => False) _) (nD_ap (fun _ z => by cases z))) d4 d6.2) rfl rfl rfl rfl) (rKh_rQ (rKh_trans rA (rKh_ty rTy_nx rfl)))) rfl rfl rfl rfl⟩, fun _ => d3, d4, rTy_nx, rfl, ⟨rfl, rfl, rfl, rfl, g6.1, ?_⟩, by omega, by omega, fun l2 ar2 cap2 es2 e => aL_fr1 (pC_r p16) (by decide) d4 e⟩
      · show g 0 + 2 ≤ _ ∧ _ ≤ g 0 + 2 ∧ g 4 ≤ g 0 + 2 + 2 ∧ g 5 + 2 ≤ g 0 + 2
        omega
      · show g 0 + 1 ≤ g 0 + 2
        omega
    · obtain ⟨hA, v, d1, d2, d3, d4⟩ := y_twF (L := L) (xs := xs) (zf := zf) (w := w) (k := k + 6) hT hi1 p16 3 t
      rw [if_neg (fun u => t (si.mp u))] at q7
      have l := d4.2.1
      have y := d4.2.2
      have fl : FLT cx F N q hA (stS (khA s kk (g 0) ax) (g 0 + 1)) (gu g 0 (g 0 + 1)) ts := by
        refine ⟨⟨v, d2, ?_⟩, rfl, rKh_rT (rKh_trans rA (rKh_ty rTy_st rfl)) rt, ⟨_, _, CH_g (g := g) rfl rfl rfl (CH_r p16 d4 ch16)⟩, ⟨rfl, c2, c3, c4⟩, ?_⟩
        · show rfd v ((khA s kk (g 0) ax).2.1 41 (g 0 + 1))
          rw [(rKh_rT rA rt).2.1, f51]
          exact d3
        · show g 0 + 1 ≤ _ ∧ _ ≤ g 0 + 1 + g 6 ∧ g 4 ≤ g 0 + 1 + 2 + g 6
          omega
      exact ⟨hA, _, gu g 0 (g 0 + 1), 9, d1, q7, Or.inr fl, fun u => (sy_no u fl).elim, d4.1, rTy_st, rfl, ⟨rfl, rfl, rfl, rfl, g6.1, Nat.le_refl _⟩, by omega, by omega, fun l2 ar2 cap2 es2 e => aL_st (pC_r p16) (by decide) d4 e⟩
  obtain ⟨hA, sB, gB, nm, d1, d2, st, d3, d4, d5, d6, ⟨G1, G2, G3, G4, G6, G0⟩, d7, d8, lkA⟩ := key
  obtain ⟨vA, ptA, vrA, pA, chA⟩ := sy_pc st
  have hKA : hc hA (21 + h.length) = some (.inr (9, ah_DV 9)) := fr_old d4 hK16 K0
  have lenA := d4.1
  obtain ⟨h9, a9', c9', m1, m2, m3, m4, m5, m6, m7, m8, m9, m10, m11, m12, m13⟩ := c_kind (L := L) (xs := xs) (zf := zf) (w := w) (k := k + 2) (nm := nm) (pl := cpl cx F (g 0 + 1)) h14 pA chA hKA hax (lkA _ _ _ _ (lk16 _ _ _ _ e9)) (fun y hy => oK_fr d4 (oK_fr f16 (ho y hy))) n9 (by omega)
  have hPd : ∀ d fs, hc hA d = some (.inr (10, fs)) → ¬ (d = 21 + h.length ∨ d = cx 9 ∨ (d = a9 ∧ 21 ≤ d)) := by
    intro d fs ed u
    rcases u with u | u | u
    · rw [u, hKA] at ed; cases ed
    · exact aL_10 (lkA _ _ _ _ (lk16 _ _ _ _ e9)) d fs ed (Or.inl u)
    · exact aL_10 (lkA _ _ _ _ (lk16 _ _ _ _ e9)) d fs ed (Or.inr u.1)
  obtain ⟨st9, st9a, _, st9b⟩ := st_of st m2 m3 (fun t => TSI_0 t m9 hPd m10.2.2 rfl rfl rfl rfl)
  have rqC : rQ sB (khC F N sB kk (g 0 + 1) (sB.1 38)) := rQ_trans (rQ_trans (rQ_B (p := 62) (by omega)) (rQ_A (p := 63) (by omega))) (rQ_A (p := 64) (by omega))
  have rB : rKh s sB kk := rKh_trans rA (rKh_ty d5 d6)
  have rC : rKh s (khC F N sB kk (g 0 + 1) (sB.1 38)) kk := rKh_trans (rKh_trans (rKh_trans rB rKh_B) (rKh_A (by omega))) (rKh_A (by omega))
  have rtB := rKh_rT rB rt
  have rtC := rKh_rT rC rt
  have stC : SY cx F N q h9 (khC F N sB kk (g 0 + 1) (sB.1 38)) gB ts ∨ FLT cx F N q h9 (khC F N sB kk (g 0 + 1) (sB.1 38)) gB ts := st9.elim (fun u => Or.inl (SY_sc (s := sB) rtC (fun _ _ => rfl) rqC u)) (fun u => Or.inr (FLT_sc rtC (fun _ _ => rfl) u))
  obtain ⟨h', s', g', r1, r2, op, r3, w8, s10e, z1, z2, z3, z4, z5, z6⟩ := op_need (L := L) (xs := xs) (zf := zf) (w := w) (k := k + 4) (k2 := k2 + 2) hT P123 stC
  have ty := r308_Ty hT stC r2
  have rD : rKh s s' kk := rKh_trans rC (rKh_ty ty s10e)
  have l8 := w8.2.1
  have y8 := w8.2.2
  have og := op.2.2.2.2.2.1
  have p9 := m2 _ pA
  have K0' := K0
  have f09 : fr (fun y => M4 cx (g 1) y ∨ (y = cx 9 ∨ (y = a9 ∧ 21 ≤ y))) h h9 := fr_trans (fr_mono (fr_trans f16 d4 (fun _ _ u => u)) (fun _ _ u => Or.inl (Or.inl u))) m9 (fun y hy u => by
    rcases u with u | u
    · omega
    · exact Or.inr u)
  refine ⟨h', s', g', a9', c9', nm, 21 + hA.length, 22 + hA.length, cpl cx F (g 0 + 1), ?_, r_kh hkk x32 c1 (by omega) eax hax d2 rtB r2, ⟨op.1, fun u => ?_, fr_trans f09 w8.1 (fun _ _ u => Or.inl (Or.inl u)), Or.inl (z1.trans G1), ⟨by omega, by omega⟩, by omega, by omega⟩, by omega, rD, st1_old w8 m4 K0, ⟨by omega, by omega, by omega⟩, aL_st (pC_r p9) (by decide) w8 m5, aL_st (pC_r p9) (by decide) w8 m6, aL_st (pC_r p9) (by decide) w8 m7, fun y hy => oK_fr w8.1 (m8 y hy), by omega, fun l2 ar2 cap2 es2 ne e => aL_st (pC_r p9) (by decide) w8 (m13 _ _ _ _ ne (lkA _ _ _ _ (lk16 _ _ _ _ e))), ?_, ?_, ?_, fun u => ?_⟩
  · rw [e93]
    show b93_0 L xs zf (dM L xs zf w (k + 8)) w (some (cx 7)) h = _
    have b17 : ∀ ac, b93_17 L xs zf (dM L xs zf w (k + 8)) w (some (cx 7)) ac h = b93_r L xs (dM L xs zf w (k + 8)) (some (cx 7)) (21 + h.length) ac (cpl cx F (g 0 + 1)) (some nm) hA := by
      intro ac
      unfold b93_17
      rw [c_in p0, Option.bind_some, show (dcV L xs (dM L xs zf w (k + 8)) 92 [6] (some (cx 0)) [] h).bind dxV = some h5 from by rw [c_rv p0, e1]; rfl, Option.bind_some, c_in e2, Option.bind_some, c_I e2 7 (by omega), Option.bind_some, vS_7, Option.bind_some, show (dcV L xs (dM L xs zf w (k + 8)) 94 [8] (some (cx 7)) [.int 3] (h5 ++ [.inr (9, ah_DV 9)])).bind dxR = some (some nm, hA) from by rw [c_pv p16, d1]; rfl, Option.bind_some, l5]
      rfl
    have b93 : b93_0 L xs zf (dM L xs zf w (k + 8)) w (some (cx 7)) h = b93_17 L xs zf (dM L xs zf w (k + 8)) w (some (cx 7)) ax h := by
      unfold b93_0
      rw [c_in p0, Option.bind_some, c_I p0 6 (by omega), Option.bind_some, vS_6]
      rcases htk with ⟨e, ea⟩ | ⟨e, ea⟩
      · rw [e, ea, if_pos (by decide)]
      · rw [e, ea, if_neg (by decide)]
    rw [b93, b17, m1, c_pv p9, r1]
    rfl
  · obtain ⟨x1, x2, x3⟩ := op.2.1 u
    refine ⟨z, rKh_sX rD _, yA_trans (yA_of (s1 := khC F N sB kk (g 0 + 1) (sB.1 38)) ?_ (fun p h1 h2 => rC.2.1 p (by omega) (by omega) (by omega)) (rC.2.2.2.1 61 (by decide))) x3⟩
    have uB : SY cx F N q hA sB gB ts := st9b (SY_sc (s := khC F N sB kk (g 0 + 1) (sB.1 38)) rtB (fun _ _ => rfl) (rQ_sym rqC) x1)
    show sB.1 26 = s.1 26
    rcases st with y | y
    · have := y.1.2.2.2.2.1.2.2.1
      have t7 : sB = if F 4 (g 0 + 1) = 3 then nxS (khA s kk (g 0) ax) (g 0 + 1) else stS (khA s kk (g 0) ax) (g 0 + 1) := (congrArg Prod.snd (Option.some.inj (d2.symm.trans q7)))
      rw [t7]
      split <;> rfl
    · exact (sy_no uB y).elim
  · rw [ty.1 32 (by decide) (by decide) (by decide) (by decide)]
    show sB.1 32 = _
    rw [d5.1 32 (by decide) (by decide) (by decide) (by decide)]
    rfl
  · rw [s10e]
    show (rs_wA (rs_wA (rs_wB sB 62 kk (N (g 0 + 1))) 63 kk (F 5 (g 0 + 1))) 64 kk (sB.1 38)).2.1 66 kk = _
    rw [wA_get, if_neg (by omega), wA_get, if_neg (by omega)]
    show sB.2.1 66 kk = _
    rw [d6]
    show (rs_wA (rs_w s 32 (Int32.ofNat (kk + 1))) 66 kk ax).2.1 66 kk = _
    rw [wA_get, if_pos ⟨rfl, rfl⟩]
  · rw [s10e]
    show (rs_wA (rs_wA (rs_wB sB 62 kk (N (g 0 + 1))) 63 kk (F 5 (g 0 + 1))) 64 kk (sB.1 38)).2.1 64 kk = _
    rw [wA_get, if_pos ⟨rfl, rfl⟩, rB.1 38 (by decide) (by decide) (by decide) (by decide) (by decide)]
  · obtain ⟨x1, x2, x3⟩ := op.2.1 u
    have uB : SY cx F N q hA sB gB ts := st9b (SY_sc (s := khC F N sB kk (g 0 + 1) (sB.1 38)) rtB (fun _ _ => rfl) (rQ_sym rqC) x1)
    refine ⟨by omega, ?_, ?_⟩
    · rw [s10e]
      show nS L xs h' nm ((rs_wB sB 62 kk (N (g 0 + 1))).2.2 62 kk)
      rw [wB_get, if_pos ⟨rfl, rfl⟩]
      exact nS_fr w8.1 (nS_fr m9 (d3 uB))
    · rw [s10e]
      show (rs_wA (rs_wA (rs_wB sB 62 kk (N (g 0 + 1))) 63 kk (F 5 (g 0 + 1))) 64 kk (sB.1 38)).2.1 63 kk = _
      rw [wA_get, if_neg (by omega), wA_get, if_pos ⟨rfl, rfl⟩, f51]
end KC
