/-! A METHOD'S RESULT: ':' and a TYPE. -/
/-- what the reference's result of method m leaves alone -/
def rRs (s s' : rS) (m : Nat) : Prop := (∀ j, j ≠ 26 → j ≠ 56 → j ≠ 57 → j ≠ 58 → s'.1 j = s.1 j) ∧ (∀ p, (p < 57 ∨ 59 < p) → p ≠ 75 → s'.2.1 p = s.2.1 p) ∧ (∀ i, i ≠ m → s'.2.1 75 i = s.2.1 75 i) ∧ ∀ p, p ≠ 61 → s'.2.2 p = s.2.2 p
section RS
variable {L : Nat} {xs : Nat → Int32} {zf : Value} {w k k2 i y m : Nat} {cx : Nat → Nat} {F : Nat → Nat → Int32} {N : Nat → Int64} {q qm : List Value} {h h' h1 : rm_H} {s s' s1 : rS} {g g' : Nat → Nat} {ts : List Nat} {M : Nat} {v : Nat → Int32} {pt vr : Int32}
theorem rRs_rT (a : rRs s s' m) (t : rTk F N s) : rTk F N s' := by
  obtain ⟨t1, t2, t3, t4⟩ := t
  exact ⟨(a.2.1 40 (by omega) (by omega)).trans t1, (a.2.1 41 (by omega) (by omega)).trans t2, (a.2.1 42 (by omega) (by omega)).trans t3, (a.2.2.2 43 (by decide)).trans t4⟩
theorem rRs_sX (a : rRs s s' m) (nd : Nat) : sX s s' nd := fun j _ => ⟨fun p h1 h2 => by rw [a.2.1 p (by omega) (by omega)], by rw [a.2.2.2 56 (by decide)]⟩
/-- the reference at ':' -/
theorem r_res {so : Int32} (hT : TF cx F N) (hi : i < cx 16) (t11 : ctk cx F i = 11) (hm : m < 72) (h57 : s.1 57 = 0) (ht : s.1 56 = Int32.ofNat i) (h26 : s.1 26 = Int32.ofNat y) (hy : y < 1999) (rt : rTk F N s) : ∃ s9, (((rM w (k + 4) 309 [.ref 36, .int 58] s).bind rxI).bind fun x17 => if mx_f1 .eq x17.1 = true then s314_228 (rM w (k + 4)) w (Int32.ofNat m) x17.2 else ((rM w (k + 4) 312 [.ref 36] x17.2).bind rxI).bind fun x23 => (rs_sI x23.2 75 (Int32.ofNat m) x23.1).bind fun s28 => s314_228 (rM w (k + 4)) w (Int32.ofNat m) s28) = s314_228 (rM w (k + 4)) w (Int32.ofNat m) s9 ∧ rRs s s9 m ∧ yA s s9 ∧ s9.1 26 = Int32.ofNat (y + 1) ∧ tyO cx F N s s9 (i + 1) y ∧ s9.2.1 75 m = Int32.ofNat y := by
  have hT1 := hT.1
  obtain ⟨⟨f5, _, tr⟩, _⟩ := hT.2.2 i (by omega)
  have q9 := q309 (w := w) (k := k + 2) 58 h57 ht (by omega)
  rw [rt.1, rt.2.2.1, decide_eq_true ((sg_iff tr P58).mpr t11), if_pos ((sg_iff tr P58).mpr t11)] at q9
  obtain ⟨s', m1, m2, m3⟩ := ty_type (w := w) (k := k) (s := nxS s i) (i := i + 1) (y := y) hT (by omega) h57 rfl (rT_F rF_nx rt) h26 (by omega)
  have s26 : s'.1 26 = Int32.ofNat (y + 1) := (m2.1 26 (by decide) (by decide) (by decide)).trans rfl
  refine ⟨rs_wA s' 75 m (Int32.ofNat y), ?_, ⟨fun j h1 h2 h3 h4 => ?_, fun p hp hp2 => ?_, fun j hj => ?_, fun p hp => ?_⟩, ?_, s26, ?_, ?_⟩
  · rw [show (rM w (k + 4) 309 [.ref 36, .int 58] s).bind rxI = some (rd_01 true, nxS s i) from by rw [q9]; rfl, Option.bind_some, if_neg (show ¬ mx_f1 .eq (rd_01 true) = true by decide), show (rM w (k + 4) 312 [.ref 36] (nxS s i)).bind rxI = some (Int32.ofNat y, s') from by rw [m1]; rfl, Option.bind_some, mWt (by omega) hm, Option.bind_some]
  · show s'.1 j = _
    rw [m2.1 j h2 h3 h4]
    show upd (upd s.1 56 _) 26 _ j = _
    rw [upd_ne _ _ h1, upd_ne _ _ h2]
  · rw [wA_ne _ _ _ hp2, m2.2.1 p hp]
    rfl
  · rw [wA_get, if_neg (fun u => hj u.2), m2.2.1 75 (by omega)]
    rfl
  · show s'.2.2 p = _
    rw [m2.2.2.2.1 p hp]
    rfl
  · refine ⟨?_, fun y' hy' => ?_⟩
    · show (s.1 26).toInt ≤ (s'.1 26).toInt
      rw [s26, h26, of_int (by omega), of_int (by omega)]
      omega
    · rw [h26, of_int (by omega)] at hy'
      have ne : y' ≠ y := by omega
      refine ⟨?_, ?_, ?_, ?_⟩
      · rw [wA_ne _ _ _ (by decide), m2.2.2.1 57 y' ne]; rfl
      · rw [wA_ne _ _ _ (by decide), m2.2.2.1 58 y' ne]; rfl
      · rw [wA_ne _ _ _ (by decide), m2.2.2.1 59 y' ne]; rfl
      · show s'.2.2 61 y' = _
        rw [m2.2.2.2.2 61 y' ne]; rfl
  · exact tyO_w2 m3 rfl rfl rfl (fun p h1 h2 => wA_ne _ _ _ (by omega)) rfl rfl
  · rw [wA_get, if_pos ⟨rfl, rfl⟩]
/-- both at ':' -/
theorem op_res (hT : TF cx F N) (h14 : cx 14 = 0) (z : SY cx F N q h s g ts) (t11 : ctk cx F (g 0) = 11) (hM : hc h M = some (.inr (11, qm))) (q8 : qm[8]? = some .null) (hm : m < 72) : ∃ h' s' g' ts' d, ((dgR L xs h 0 [8] (some (cx 7))).bind fun p69 => ((dcV L xs (dM L xs zf w (k + 9)) 92 [6] p69 [] h).bind dxV).bind fun h71 => (some (h71 ++ [.inr (10, ah_DV 10)])).bind fun h75 => (dgR L xs h75 0 [8] (some (cx 7))).bind fun p77 => (dgI L xs h75 7 [6] p77).bind fun x79 => ((dcN (dM L xs zf w (k + 9)) 112 (some (21 + List.length h71)) [va_rf (some 9), .int x79] h75).bind dxV).bind fun h81 => (dpF h81 8 [11] (some M) (va_rf (some (21 + List.length h71)))).bind fun h85 => (dgR L xs h85 8 [11] (some M)).bind fun p87 => ((dcV L xs (dM L xs zf w (k + 9)) 113 [8] (some (cx 7)) [va_rf p87] h85).bind dxV).bind fun h89 => b142_220 L xs zf (dM L xs zf w (k + 9)) w (some (cx 7)) (some M) h89) = b142_220 L xs zf (dM L xs zf w (k + 9)) w (some (cx 7)) (some M) h' ∧ (((rM w (k2 + 4) 309 [.ref 36, .int 58] s).bind rxI).bind fun x17 => if mx_f1 .eq x17.1 = true then s314_228 (rM w (k2 + 4)) w (Int32.ofNat m) x17.2 else ((rM w (k2 + 4) 312 [.ref 36] x17.2).bind rxI).bind fun x23 => (rs_sI x23.2 75 (Int32.ofNat m) x23.1).bind fun s28 => s314_228 (rM w (k2 + 4)) w (Int32.ofNat m) s28) = s314_228 (rM w (k2 + 4)) w (Int32.ofNat m) s' ∧ OPX (fun y => y = M) cx F N q 0 0 h s g ts h' s' g' ts' ∧ g' 6 = 0 ∧ g' 3 = g 3 ∧ rRs s s' m ∧ hc h' M = some (.inr (11, qm.set 8 (.ref d))) ∧ (∀ l2 ar2 cap2 es2, l2 ≠ cx 11 → aL h l2 ar2 cap2 es2 → aL h' l2 ar2 cap2 es2) ∧ d = 21 + h.length ∧ (SY cx F N q h' s' g' ts' → s'.2.1 75 m = Int32.ofNat (g 5) ∧ (g 5 : Int) < (s'.1 26).toInt ∧ tyD L xs h' s' d (g 5) ∧ d < 21 + h'.length) := by
  obtain ⟨⟨p0, ⟨a1, a2, a3, a4⟩, rt, ch, ⟨b1, b2, b3, b4⟩, d1, d2, d3, d4⟩, g6⟩ := id z
  have hT1 := hT.1
  have hlt := w_pass hT z 11 t11 (by decide) (by decide)
  have hMl := hc_lt hM
  obtain ⟨h1, e1, e2, e3⟩ := y_adv (L := L) (xs := xs) (zf := zf) (w := w) (k := k + 6) hT hlt p0
  have l1 := e3.2.1
  have y1 := e3.2.2
  have ch1 := CH_r p0 e3 ch
  have M0 : M ≠ cx 0 := fun e => by rw [e, pC_r p0] at hM; cases hM
  have hM1 := st1_old e3 hM M0
  have dd : 21 + h1.length = 21 + h.length := by omega
  have p2a : pC (h1 ++ [.inr (10, ah_DV 10)]) cx F (vS cx F (g 0 + 1)) := pC_ap e2
  have p2 : pC (h1 ++ [dcC 9 (cpl cx F (g 0 + 1)) (-1) (-1) none (-1) 0 0 0]) cx F (vS cx F (g 0 + 1)) := pC_ap e2
  have c2 : CH cx q (h1 ++ [dcC 9 (cpl cx F (g 0 + 1)) (-1) (-1) none (-1) 0 0 0]) g ts (s.1 24) (s.1 25) := CH_ap (Or.inl (fun fs y => by cases y)) ch1
  have hM2 := hc_up (c2 := dcC 9 (cpl cx F (g 0 + 1)) (-1) (-1) none (-1) 0 0 0) hM1
  have hd2 : hc (h1 ++ [dcC 9 (cpl cx F (g 0 + 1)) (-1) (-1) none (-1) 0 0 0]) (21 + h.length) = some (dcC 9 (cpl cx F (g 0 + 1)) (-1) (-1) none (-1) 0 0 0) := by rw [← dd]; exact hc_new _
  have l2 : (h1 ++ [dcC 9 (cpl cx F (g 0 + 1)) (-1) (-1) none (-1) 0 0 0]).length = h.length + 1 := by rw [List.length_append, l1]; rfl
  have y2 : zh (h1 ++ [dcC 9 (cpl cx F (g 0 + 1)) (-1) (-1) none (-1) 0 0 0]) = zh h + 9 := by rw [zh_app, y1]; rfl
  obtain ⟨h3, f1, f2, f3⟩ := pF_ex (j := 8) (cis := [11]) (v := .ref (21 + h.length)) hM2 q8 (by decide) rfl (by decide)
  have p3 := pC_w hM2 (by decide) f3 p2
  have c3 := CH_w0 h14 hM2 (by decide) f3 c2
  have hd3 := st1_old f3 hd2 (by omega)
  have g8 : (qm.set 8 (.ref (21 + h.length)))[8]? = some (.ref (21 + h.length)) := List.getElem?_set_self (List.getElem?_eq_some_iff.mp q8).1
  obtain ⟨h4, ar', cap', v, m1, m2, m3, m4, m5, m6, m7, m8⟩ := tc_type (L := L) (xs := xs) (zf := zf) (w := w) (k := k) hT (show g 0 + 1 ≤ cx 16 by omega) p3 c3 hd3 (Or.inl rfl) (by omega)
  have l3 := f3.2.1
  have y3 := f3.2.2
  have M11 : M ≠ cx 11 := fun e => by
    obtain ⟨mc, r1, _⟩ := ch.2.1
    rw [e, r1] at hM; cases hM
  have Mg : M ≠ g 1 := fun e => by
    obtain ⟨mc, _, _, _, r3⟩ := ch.2.1
    rcases r3 with ⟨r3, _⟩ | ⟨f0, r3, _⟩
    · have := hc_ge hM
      omega
    · rw [← e, hM] at r3; cases r3
  have hM4 := fr_old m4 f2 (fun u => by
    rcases u with u | u | u | u
    · exact M0 u
    · exact M11 u
    · exact Mg u
    · omega)
  obtain ⟨s9, n1, n2, n3, n4, n5, n6⟩ := r_res (w := w) (k := k2) (so := 0) hT hlt t11 hm a1 b1 b3 (by omega) rt
  have lt1 : (ts ++ [21 + h.length]).length = ts.length + 1 := by rw [List.length_append]; rfl
  have ti : tiA cx F (g 0 + 1) = g 0 + 1 ∨ tiA cx F (g 0 + 1) = g 0 + 2 := by
    by_cases c : isC cx F (g 0 + 1)
    · exact Or.inr (tiA_c c)
    · exact Or.inl (tiA_n c)
  have fq : fr (fun y => M4 cx (g 1) y ∨ y = M) h h4 := by
    refine fr_trans (fr_trans (fr_trans (fr_mono e3.1 (fun _ _ u => Or.inl (Or.inl u))) (fr_app _ _) (fun _ _ u => u)) f3.1 (fun _ _ u => Or.inr u)) m4 (fun y hy u => ?_)
    rcases u with u | u | u | u
    · exact Or.inl (Or.inl u)
    · exact Or.inl (Or.inr (Or.inr (Or.inl u)))
    · exact Or.inl (Or.inr (Or.inr (Or.inr (Or.inr u))))
    · omega
  have lists : ∀ l2 ar2 cap2 es2, l2 ≠ cx 11 → aL h l2 ar2 cap2 es2 → aL h4 l2 ar2 cap2 es2 := by
    intro l2 ar2 cap2 es2 ne e
    have e' := aL_st hM2 (by decide) f3 (aL_app (c := dcC 9 (cpl cx F (g 0 + 1)) (-1) (-1) none (-1) 0 0 0) (aL_st (pC_r p0) (by decide) e3 e))
    obtain ⟨mc, r1, _, _, r3⟩ := id e'
    obtain ⟨mc2, k1, _, _, k3⟩ := id c3.2.1
    refine aL_fr m4 (fun u => ?_) (fun h5 u => ?_) e'
    · rcases u with u | u | u | u
      · rw [u, pC_r p3] at r1; cases r1
      · exact ne u
      · rcases k3 with ⟨k3, _⟩ | ⟨f0, k3, _⟩
        · have := hc_ge r1
          omega
        · rw [← u, r1] at k3; cases k3
      · rw [u, hd3] at r1; cases r1
    · rcases r3 with ⟨r3, _⟩ | ⟨f0, r3, _⟩
      · exact h5 r3
      · rcases u with u | u | u | u
        · rw [u, pC_r p3] at r3; cases r3
        · rw [u, k1] at r3; cases r3
        · rw [u] at r1
          rcases c3.2.2.2.1.2 _ _ _ _ _ r1 k1 with w | w
          · exact h5 (u.trans w)
          · exact ne w
        · rw [u, hd3] at r3; cases r3
  have ce : ((dgR L xs h 0 [8] (some (cx 7))).bind fun p69 => ((dcV L xs (dM L xs zf w (k + 9)) 92 [6] p69 [] h).bind dxV).bind fun h71 => (some (h71 ++ [.inr (10, ah_DV 10)])).bind fun h75 => (dgR L xs h75 0 [8] (some (cx 7))).bind fun p77 => (dgI L xs h75 7 [6] p77).bind fun x79 => ((dcN (dM L xs zf w (k + 9)) 112 (some (21 + List.length h71)) [va_rf (some 9), .int x79] h75).bind dxV).bind fun h81 => (dpF h81 8 [11] (some M) (va_rf (some (21 + List.length h71)))).bind fun h85 => (dgR L xs h85 8 [11] (some M)).bind fun p87 => ((dcV L xs (dM L xs zf w (k + 9)) 113 [8] (some (cx 7)) [va_rf p87] h85).bind dxV).bind fun h89 => b142_220 L xs zf (dM L xs zf w (k + 9)) w (some (cx 7)) (some M) h89) = b142_220 L xs zf (dM L xs zf w (k + 9)) w (some (cx 7)) (some M) h4 := by
    rw [c_in p0, Option.bind_some, show (dcV L xs (dM L xs zf w (k + 9)) 92 [6] (some (cx 0)) [] h).bind dxV = some h1 from by rw [c_rv p0, e1]; rfl, Option.bind_some, Option.bind_some, c_in p2a, Option.bind_some, c_I p2a 7 (by omega), Option.bind_some, vS_7, show (dcN (dM L xs zf w (k + 9)) 112 (some (21 + List.length h1)) [va_rf (some 9), .int (cpl cx F (g 0 + 1))] (h1 ++ [.inr (10, ah_DV 10)])).bind dxV = some (h1 ++ [dcC 9 (cpl cx F (g 0 + 1)) (-1) (-1) none (-1) 0 0 0]) from by
      show (dM L xs zf w (k + 9) 112 [.ref (21 + h1.length), .ref 9, .int (cpl cx F (g 0 + 1))] (h1 ++ [.inr (10, ah_DV 10)])).bind dxV = _
      rw [dc_new (k := k + 8)]
      rfl, Option.bind_some, show va_rf (some (21 + h1.length)) = .ref (21 + h.length) from by rw [dd]; rfl, f1, Option.bind_some, hc_gR (p := some (21 + h.length)) f2 g8 (by decide), Option.bind_some, show (dcV L xs (dM L xs zf w (k + 9)) 113 [8] (some (cx 7)) [va_rf (some (21 + h.length))] h3).bind dxV = some h4 from by rw [c_pv p3, va_s, m1]; rfl, Option.bind_some]
  -- the state behind it
  have r0 := n2.1
  have rt9 := rRs_rT n2 rt
  have chg : ∀ T, CH cx q h4 (gu (gu (gu (gu g 0 T) 1 ar') 2 cap') 5 (g 5 + 1)) (ts ++ [21 + h.length]) (s9.1 24) (s9.1 25) := by
    intro T
    rw [r0 24 (by decide) (by decide) (by decide) (by decide), r0 25 (by decide) (by decide) (by decide) (by decide)]
    exact CH_g (g := gu (gu g 1 ar') 2 cap') rfl rfl rfl m2
  have fin : ∀ T : Nat, g 0 + 1 ≤ T → T ≤ cx 16 → (SY cx F N q h4 s9 (gu (gu (gu (gu g 0 T) 1 ar') 2 cap') 5 (g 5 + 1)) (ts ++ [21 + h.length]) ∨ FLT cx F N q h4 s9 (gu (gu (gu (gu g 0 T) 1 ar') 2 cap') 5 (g 5 + 1)) (ts ++ [21 + h.length])) → OPX (fun y => y = M) cx F N q 0 0 h s g ts h4 s9 (gu (gu (gu (gu g 0 T) 1 ar') 2 cap') 5 (g 5 + 1)) (ts ++ [21 + h.length]) := by
    intro T hT0 hT2 st
    refine ⟨st, fun _ => ⟨z, rRs_sX n2 _, n3⟩, fq, (show ar' = g 1 ∨ 21 + h.length ≤ ar' by omega), ?_⟩
    show (g 0 ≤ T ∧ g 4 ≤ g 4) ∧ h4.length + 10 * g 0 + g 6 + 0 ≤ h.length + 10 * T + g 6 ∧ zh h4 + 4 * g 2 + 80 * g 0 + 8 * g 6 + 0 ≤ zh h + 4 * cap' + 80 * T + 8 * g 6 ∧ g 4 + g 0 + g 6 ≤ g 4 + T + g 6
    omega
  have sy : ∀ T : Nat, g 0 + 2 ≤ T → T ≤ cx 16 → v = vS cx F T → s9.1 57 = 0 → s9.1 58 = s.1 58 → s9.1 56 = Int32.ofNat T → (ctk cx F (g 0 + 1) = 43 ∨ ctk cx F (tiA cx F (g 0 + 1)) = 3) → SY cx F N q h4 s9 (gu (gu (gu (gu g 0 T) 1 ar') 2 cap') 5 (g 5 + 1)) (ts ++ [21 + h.length]) := by
    intro T hT0 hT2 hv r57 r58 r56 okk
    obtain ⟨td, fs, w1, _, _, _, w5⟩ := tyD_of hT (by omega) m8 n5 okk
    have l8c := hc_lt ch.1
    have hPd : ∀ d fs, hc h d = some (.inr (10, fs)) → ¬ (M4 cx (g 1) d ∨ d = M) := fun d fs ed u => u.elim (M4_10 p0 ch d fs ed) (fun u => by rw [u, hM] at ed; cases ed)
    have ne4 : nE (21 + h.length) h h4 := nE_r (nE_st (nE_l (nD_0 l1) (fr_app (fun _ => False) _) (by rw [← dd]; exact nE_ap)) f3) m4 m5.2
    refine ⟨⟨by have m3' := m3; rw [hv] at m3'; exact m3', ⟨r57, r58.trans a2, fun hh => (r0 59 (by decide) (by decide) (by decide) (by decide)).trans (a3 hh), a4⟩, rt9, chg T, ⟨r56, (r0 10 (by decide) (by decide) (by decide) (by decide)).trans b2, n4, b4⟩, ?_⟩, g6.1, TSI_decl g6.2 fq hPd ne4 (by omega) (tR_sX (rRs_sX n2 _)) (yA_n b3 (by omega) n3) rfl rfl rfl ⟨fs, w1, w5⟩ td⟩
    show T ≤ _ ∧ (ts ++ [21 + h.length]).length ≤ T ∧ g 4 ≤ T + 2 ∧ g 5 + 1 + 2 ≤ T
    omega
  have hl4 : 21 + h.length < 21 + h4.length := by
    have := m4.1
    omega
  have facts : (ctk cx F (g 0 + 1) = 43 ∨ ctk cx F (tiA cx F (g 0 + 1)) = 3) → s9.2.1 75 m = Int32.ofNat (g 5) ∧ (g 5 : Int) < (s9.1 26).toInt ∧ tyD L xs h4 s9 (21 + h.length) (g 5) ∧ 21 + h.length < 21 + h4.length := by
    intro ok
    refine ⟨n6, by rw [n4, of_int (by omega)]; omega, (tyD_of hT (by omega) m8 n5 ok).1, hl4⟩
  rcases id m8 with ⟨y1', _, y3', y4', _⟩ | ⟨y1', t2', cp, cq, _, _, y4', y5'⟩
  · rcases id n5 with ⟨_, w2, w3, w4, _⟩ | w'
    · exact ⟨h4, s9, _, _, 21 + h.length, ce, n1, fin (g 0 + 1 + 1) (by omega) (by omega) (Or.inl (sy (g 0 + 1 + 1) (by omega) (by omega) y4' w3 w4 w2 (Or.inl y1'))), g6.1, rfl, n2, hM4, lists, rfl, fun _ => facts (Or.inl y1')⟩
    · exact absurd y1' w'.1
  · have n43 : ¬ ctk cx F (g 0 + 1) = 43 := fun e => y1' ⟨e, rfl⟩
    rcases id n5 with w' | ⟨_, _, _, _, w'⟩
    · exact absurd w'.1 n43
    · rcases y5' with ⟨z1, z2, z3, _⟩ | ⟨z1, z2⟩
      · rcases w' with ⟨_, w2, w3, w4⟩ | ⟨w1, _⟩
        · exact ⟨h4, s9, _, _, 21 + h.length, ce, n1, fin (tiA cx F (g 0 + 1) + 1) (by omega) (by omega) (Or.inl (sy (tiA cx F (g 0 + 1) + 1) (by omega) (by omega) z3 w3 w4 w2 (Or.inr z1))), g6.1, rfl, n2, hM4, lists, rfl, fun _ => facts (Or.inr z1)⟩
        · exact absurd z1 w1
      · rcases w' with ⟨w1, _⟩ | ⟨_, w2, w3, w4⟩
        · exact absurd w1 z1
        · have F9 : FLT cx F N q h4 s9 (gu (gu (gu (gu g 0 (tiA cx F (g 0 + 1))) 1 ar') 2 cap') 5 (g 5 + 1)) (ts ++ [21 + h.length]) := by
            refine ⟨⟨v, m3, by rw [w4]; exact z2⟩, w3, rt9, ⟨_, _, chg _⟩, ⟨w2, (r0 10 (by decide) (by decide) (by decide) (by decide)).trans b2, n4, b4⟩, ?_⟩
            show tiA cx F (g 0 + 1) ≤ _ ∧ (ts ++ [21 + h.length]).length ≤ tiA cx F (g 0 + 1) + g 6 ∧ g 4 ≤ tiA cx F (g 0 + 1) + 2 + g 6
            omega
          exact ⟨h4, s9, _, _, 21 + h.length, ce, n1, fin _ (by omega) y4' (Or.inr F9), g6.1, rfl, n2, hM4, lists, rfl, fun u => (sy_no u F9).elim⟩
end RS
