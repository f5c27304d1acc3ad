/-! NEW: a TITLE, with a CAP or without, and arguments. -/
section NW
variable {L : Nat} {xs : Nat → Int32} {zf : Value} {w k i n t : Nat} {cx : Nat → Nat} {F : Nat → Nat → Int32} {N : Nat → Int64} {q : List Value} {h h1 h2 : rm_H} {s s1 s2 : rS} {g : Nat → Nat} {ts : List Nat} {A ke kr : Nat} {i1 : Int32} {R0 : Nat → Int32} {J0 : Int64} {pt vr : Int32}
/-- the reference has the TITLE -/
def nwT (F : Nat → Nat → Int32) (N : Nat → Int64) (s : rS) (n t : Nat) : rS := rs_wA (rs_wB (if F 4 t = 3 then nxS s t else stS s t) 56 n (N t)) 51 n (F 5 t)
theorem r_506 {r : rS} (hl : t ≤ 2000) (hn : n < 4400) (h57 : s.1 57 = 0) (ht : s.1 56 = Int32.ofNat t) (rt : rTk F N s) (hr : rM w (k + 3) 324 [.ref 36, .int (Int32.ofNat n), .int i1] (nwT F N s n t) = some (none, r)) : s322_506 (rM w (k + 3)) w i1 (Int32.ofNat n) s = some (some (.int (Int32.ofNat n)), r) := by
  have q7 := q307 (w := w) (k := k) 3 h57 ht hl
  rw [rt.1] at q7
  have rt2 : rTk F N (if F 4 t = 3 then nxS s t else stS s t) := by
    split
    · exact rT_F rF_nx rt
    · exact rT_F rF_st rt
  unfold s322_506
  refine bse (a := (Int32.ofNat t, if F 4 t = 3 then nxS s t else stS s t)) (by rw [q7]; rfl) ?_
  refine bse (a := N t) (by rw [aTn hl, rt2.2.2.2]) ?_
  refine bse (nWJ hn) ?_
  refine bse (a := F 5 t) ?_ ?_
  · rw [aTi (by omega) hl]
    show some ((if F 4 t = 3 then nxS s t else stS s t).2.1 41 t) = _
    rw [rt2.2.1]
  refine bse (nWt (by omega) hn) ?_
  exact bse (a := r) (by rw [show rs_wA (rs_wB (if F 4 t = 3 then nxS s t else stS s t) 56 n (N t)) 51 n (F 5 t) = nwT F N s n t from rfl, hr]; rfl) rfl
theorem nwT_rF : rF s (nwT F N s n t) := by
  unfold nwT
  refine rF_trans (rF_trans ?_ (rF_B (by omega))) (rF_A (by omega))
  split
  · exact rF_nx
  · exact rF_st
theorem nwT_sX {nd : Nat} (hn : nd ≤ n) : sX s (nwT F N s n t) nd := by
  unfold nwT
  refine sX_trans (sX_trans ?_ (sX_B hn) (Nat.le_refl _)) (sX_A hn) (Nat.le_refl _)
  split <;> exact sX_of rfl _
theorem nwT_yA : yA s (nwT F N s n t) := by
  unfold nwT
  refine yA_trans (yA_trans ?_ yA_B) (yA_A (by omega))
  split <;> exact yA_2 rfl rfl
theorem nwT_on (o : onR s n R0 J0) : onR (nwT F N s n t) n (upd R0 51 (F 5 t)) (N t) := by
  unfold nwT
  have o2 : onR (rs_wB (if F 4 t = 3 then nxS s t else stS s t) 56 n (N t)) n R0 (N t) := by
    refine ⟨fun r h1 h2 => ?_, by rw [wB_get, if_pos ⟨rfl, rfl⟩]⟩
    show (if F 4 t = 3 then nxS s t else stS s t).2.1 r n = _
    split <;> exact o.1 r h1 h2
  have o3 := onR_A (i := 51) (j := n) (y := F 5 t) o2
  rw [if_pos rfl] at o3
  exact o3
theorem nwT_1 : ((F 4 t = 3 ∧ (nwT F N s n t).1 56 = Int32.ofNat (t + 1) ∧ (nwT F N s n t).1 57 = s.1 57 ∧ (nwT F N s n t).1 58 = s.1 58) ∨ (¬ F 4 t = 3 ∧ (nwT F N s n t).1 56 = s.1 56 ∧ (nwT F N s n t).1 57 = 1 ∧ (nwT F N s n t).1 58 = s.2.1 41 t)) ∧ ∀ j, j ≠ 56 → j ≠ 57 → j ≠ 58 → (nwT F N s n t).1 j = s.1 j := by
  unfold nwT
  by_cases e : F 4 t = 3
  · rw [if_pos e]
    exact ⟨Or.inl ⟨e, rfl, rfl, rfl⟩, fun j h1 _ _ => upd_ne _ _ h1⟩
  · rw [if_neg e]
    exact ⟨Or.inr ⟨e, rfl, rfl, rfl⟩, fun j h1 h2 h3 => by
      show upd (upd s.1 57 1) 58 (s.2.1 41 t) j = _
      rw [upd_ne _ _ h3, upd_ne _ _ h2]⟩
/-- the reference from its new node to the arguments -/
theorem r_new (hT : TF cx F N) (hi : i ≤ cx 16) (hn : n < 4400) (h57 : s.1 57 = 0) (ht : s.1 56 = Int32.ofNat i) (rt : rTk F N s) (o : onR s n R0 J0) : ∃ s7 cv, (∀ r, rM w (k + 3) 324 [.ref 36, .int (Int32.ofNat n), .int i1] s7 = some (none, r) → s322_k (rM w (k + 3)) w i1 8 (Int32.ofNat n) s = some (some (.int (Int32.ofNat n)), r)) ∧ rF s s7 ∧ (∀ nd, nd ≤ n → sX s s7 nd) ∧ yA s s7 ∧ onR s7 n (upd (upd (upd R0 54 cv) 55 (F 5 i)) 51 (F 5 (tiA cx F i))) (N (tiA cx F i)) ∧ ((isC cx F i ∧ cv = ctk cx F i - 38) ∨ (¬ isC cx F i ∧ cv = -1)) ∧ ((ctk cx F (tiA cx F i) = 3 ∧ s7.1 56 = Int32.ofNat (tiA cx F i + 1) ∧ s7.1 57 = 0 ∧ s7.1 58 = s.1 58) ∨ (¬ ctk cx F (tiA cx F i) = 3 ∧ s7.1 56 = Int32.ofNat (tiA cx F i) ∧ s7.1 57 = 1 ∧ s7.1 58 = cpl cx F (tiA cx F i))) ∧ ∀ j, j ≠ 56 → j ≠ 57 → j ≠ 58 → s7.1 j = s.1 j := by
  have hT1 := hT.1
  have hl : i ≤ 2000 := by omega
  obtain ⟨⟨f5, _, tr⟩, _⟩ := hT.2.2 i hi
  have q13 := q313 (w := w) (k := k + 2) (s := rs_wA (rs_wA s 54 n (-1)) 55 n (F 5 i)) (t := i) h57 ht hl
  rw [show (rs_wA (rs_wA s 54 n (-1)) 55 n (F 5 i)).2.1 40 i = F 4 i from by rw [← rt.1]; rfl, show (rs_wA (rs_wA s 54 n (-1)) 55 n (F 5 i)).2.1 42 i = F 6 i from by rw [← rt.2.2.1]; rfl] at q13
  have rf4 : rF s (rs_wA (rs_wA s 54 n (-1)) 55 n (F 5 i)) := rF_trans (rF_A (by omega)) (rF_A (by omega))
  have on4 : onR (rs_wA (rs_wA s 54 n (-1)) 55 n (F 5 i)) n (upd (upd R0 54 (-1)) 55 (F 5 i)) J0 := by
    have a := onR_A (i := 55) (j := n) (y := F 5 i) (onR_A (i := 54) (j := n) (y := -1) o)
    rw [if_pos rfl, if_pos rfl] at a
    exact a
  have head : ∀ r : rA, (((rM w (k + 3) 313 [.ref 36] (rs_wA (rs_wA s 54 n (-1)) 55 n (F 5 i))).bind rxI).bind fun x48 => if mx_f1 .eq x48.1 = true then s322_506 (rM w (k + 3)) w i1 (Int32.ofNat n) x48.2 else (rs_aI x48.2 42 (x48.2.1 56)).bind fun x54 => (rs_sI x48.2 54 (Int32.ofNat n) (x54 - 18)).bind fun s56 => (rs_pI s56 56 ((s56.1 56) + 1)).bind fun s61 => s322_506 (rM w (k + 3)) w i1 (Int32.ofNat n) s61) = some r → s322_k (rM w (k + 3)) w i1 8 (Int32.ofNat n) s = some r := by
    intro r hr
    unfold s322_k
    refine ift (by decide) (ift (by decide) (ift (by decide) (ift (by decide) (ifn (by decide) ?_))))
    refine bse (nWt (by omega) hn) ?_
    refine bse (a := F 5 i) ?_ (bse (nWt (by omega) hn) hr)
    rw [aT (s := rs_wA s 54 n (-1)) (by omega) ht hl, ← rt.2.1]
    rfl
  have pls : ∀ (sa : rS) (t : Nat), t ≤ cx 16 → sa.1 57 = 0 → sa.1 56 = Int32.ofNat t → sa.1 58 = s.1 58 → rTk F N sa → ((ctk cx F t = 3 ∧ (nwT F N sa n t).1 56 = Int32.ofNat (t + 1) ∧ (nwT F N sa n t).1 57 = 0 ∧ (nwT F N sa n t).1 58 = s.1 58) ∨ (¬ ctk cx F t = 3 ∧ (nwT F N sa n t).1 56 = Int32.ofNat t ∧ (nwT F N sa n t).1 57 = 1 ∧ (nwT F N sa n t).1 58 = cpl cx F t)) := by
    intro sa t htl e57 e56 e58 rta
    obtain ⟨⟨f5', _, tr'⟩, _⟩ := hT.2.2 t htl
    have s3 := (so_iff tr').2.1
    rcases (nwT_1 (F := F) (N := N) (s := sa) (n := n) (t := t)).1 with ⟨a1, a2, a3, a4⟩ | ⟨a1, a2, a3, a4⟩
    · exact Or.inl ⟨s3.mp a1, a2, a3.trans e57, a4.trans e58⟩
    · exact Or.inr ⟨fun u => a1 (s3.mpr u), a2.trans e56, a3, by rw [a4, rta.2.1, f5']⟩
  by_cases cp : isC cx F i
  · have hlt := isC_lt hT hi cp
    have c38 : ctk cx F i - 38 = F 6 i - 18 := by
      obtain ⟨c, _, e1, e2⟩ := (cap_iff tr).2 cp
      rw [e1, e2]
    rw [tiA_c cp]
    have rfa : rF s (nxS (rs_wA (rs_wA (rs_wA s 54 n (-1)) 55 n (F 5 i)) 54 n (F 6 i - 18)) i) := rF_trans (rF_trans rf4 (rF_A (by omega))) rF_nx
    have rta := rT_F rfa rt
    refine ⟨nwT F N (nxS (rs_wA (rs_wA (rs_wA s 54 n (-1)) 55 n (F 5 i)) 54 n (F 6 i - 18)) i) n (i + 1), F 6 i - 18, fun r hr => head _ ?_, rF_trans rfa nwT_rF, fun nd hnd => ?_, ?_, ?_, Or.inl ⟨cp, c38.symm⟩, pls _ _ (by omega) h57 rfl rfl rta, fun j h1 h2 h3 => ?_⟩
    · refine bse (a := (rd_01 true, rs_wA (rs_wA s 54 n (-1)) 55 n (F 5 i))) (by rw [q13, decide_eq_true ((cap_iff tr).1.mpr cp)]; rfl) (ifn (show ¬ mx_f1 .eq (rd_01 true) = true by decide) ?_)
      refine bse (a := F 6 i) ?_ (bse (nWt (by omega) hn) (bse (pI_nx (s := rs_wA (rs_wA (rs_wA s 54 n (-1)) 55 n (F 5 i)) 54 n (F 6 i - 18)) ht) ?_))
      · show rs_aI (rs_wA (rs_wA s 54 n (-1)) 55 n (F 5 i)) 42 (s.1 56) = _
        rw [ht, aTi (by omega) hl, ← rt.2.2.1]
        rfl
      · exact r_506 (by omega) hn h57 rfl rta hr
    · exact sX_trans (sX_trans (sX_trans (sX_trans (sX_A hnd) (sX_A hnd) (Nat.le_refl _)) (sX_A hnd) (Nat.le_refl _)) sX_w (Nat.le_refl _)) (nwT_sX hnd) (Nat.le_refl _)
    · exact yA_trans (yA_trans (yA_trans (yA_trans (yA_A (by omega)) (yA_A (by omega))) (yA_A (by omega))) (s1 := nxS (rs_wA (rs_wA (rs_wA s 54 n (-1)) 55 n (F 5 i)) 54 n (F 6 i - 18)) i) (yA_2 rfl rfl)) nwT_yA
    · have a := onR_A (i := 54) (j := n) (y := F 6 i - 18) on4
      rw [if_pos rfl] at a
      have b : onR (nxS (rs_wA (rs_wA (rs_wA s 54 n (-1)) 55 n (F 5 i)) 54 n (F 6 i - 18)) i) n (upd (upd R0 54 (F 6 i - 18)) 55 (F 5 i)) J0 := by
        refine ⟨fun r h1 h2 => (a.1 r h1 h2).trans ?_, a.2⟩
        by_cases r54 : r = 54
        · subst r54
          rw [upd_eq, upd_ne _ _ (by decide), upd_eq]
        · rw [upd_ne _ _ r54]
          by_cases r55 : r = 55
          · subst r55
            rw [upd_eq, upd_eq]
          · rw [upd_ne _ _ r55, upd_ne _ _ r54, upd_ne _ _ r55, upd_ne _ _ r54]
      exact nwT_on b
    · rw [nwT_1.2 j h1 h2 h3]
      exact upd_ne _ _ h1
  · rw [tiA_n cp]
    have rta := rT_F rf4 rt
    refine ⟨nwT F N (rs_wA (rs_wA s 54 n (-1)) 55 n (F 5 i)) n i, -1, fun r hr => head _ ?_, rF_trans rf4 nwT_rF, fun nd hnd => ?_, ?_, nwT_on on4, Or.inr ⟨cp, rfl⟩, pls _ _ hi h57 ht rfl rta, fun j h1 h2 h3 => nwT_1.2 j h1 h2 h3⟩
    · refine bse (a := (rd_01 false, rs_wA (rs_wA s 54 n (-1)) 55 n (F 5 i))) (by rw [q13, decide_eq_false (fun u => cp ((cap_iff tr).1.mp u))]; rfl) (ift (show mx_f1 .eq (rd_01 false) = true by decide) ?_)
      exact r_506 hl hn h57 ht rta hr
    · exact sX_trans (sX_trans (sX_A hnd) (sX_A hnd) (Nat.le_refl _)) (nwT_sX hnd) (Nat.le_refl _)
    · exact yA_trans (yA_trans (yA_A (by omega)) (yA_A (by omega))) nwT_yA
/-- the class's cell of the Node -/
abbrev nwN (a b : Int32) (d : Nat) : List Value := [.int 8, .int a, .ref 9, .int b, .int 0, .ref d, .null, .null, .null, .null, .null, .null, .int 0]
/-- the class from its word to the arguments -/
theorem c_new (hT : TF cx F N) (hi : i < cx 16) (p : pC h cx F (vS cx F i)) (c : CH cx q h g ts pt vr) (hn : ts.length ≤ 99000) : ∃ h6 ar' cap' v t2 cp cq d, (∀ h9, dM L xs zf w (k + 9) 134 [.ref (cx 7), .ref (21 + h.length), .ref (cx 14), .int i1] h6 = some (none, h9) → dM L xs zf w (k + 10) 133 [.ref (cx 7), .ref (cx 14), .int i1] h = some (some (.ref (21 + h.length)), h9)) ∧ CH cx q h6 (gu (gu g 1 ar') 2 cap') (ts ++ [d]) pt vr ∧ pC h6 cx F v ∧ fr (fun y => y = cx 0 ∨ y = cx 11 ∨ y = g 1) h h6 ∧ (h6.length ≤ h.length + 5 ∧ nE (22 + h.length) h h6) ∧ (ar' = g 1 ∨ 21 + h.length ≤ ar') ∧ zh h6 + 4 * g 2 ≤ zh h + 4 * cap' + 34 ∧ d = 22 + h.length ∧ hc h6 (21 + h.length) = some (.inr (12, nwN (cpl cx F i) (cpl cx F (tiA cx F (i + 1))) d)) ∧ hc h6 d = some (dcC 9 (cpl cx F (i + 1)) cp cq (some t2) (cpl cx F (tiA cx F (i + 1))) 1 0 0) ∧ ((isC cx F (i + 1) ∧ cp = ctk cx F (i + 1) - 38 ∧ cq = cpl cx F (i + 1)) ∨ (¬ isC cx F (i + 1) ∧ cp = -1 ∧ cq = -1)) ∧ tiA cx F (i + 1) ≤ cx 16 ∧ ((ctk cx F (tiA cx F (i + 1)) = 3 ∧ tiA cx F (i + 1) < cx 16 ∧ v = vS cx F (tiA cx F (i + 1) + 1) ∧ nS L xs h6 t2 (N (tiA cx F (i + 1)))) ∨ (¬ ctk cx F (tiA cx F (i + 1)) = 3 ∧ rfd v (cpl cx F (tiA cx F (i + 1))))) := by
  obtain ⟨h2, a1, a2, a3, a4⟩ := c_128 (L := L) (xs := xs) (zf := zf) (w := w) (k := k + 5) hT p hi 8
  have ch2 : CH cx q h2 g ts pt vr := CH_r (pC_ap p) a4 (CH_ap (Or.inl (nd0_5 _ _)) c)
  have l2 : h2.length = h.length + 1 := by rw [a4.2.1, List.length_append]; rfl
  have y2 : zh h2 = zh h + 13 := by rw [a4.2.2, zh_nd]
  have dd : 21 + h2.length = 22 + h.length := by omega
  have p2a : pC (h2 ++ [.inr (10, ah_DV 10)]) cx F (vS cx F (i + 1)) := pC_ap a2
  have p2 : pC (h2 ++ [dcC 9 (cpl cx F (i + 1)) (-1) (-1) none (-1) 0 0 0]) cx F (vS cx F (i + 1)) := pC_ap a2
  have c2 : CH cx q (h2 ++ [dcC 9 (cpl cx F (i + 1)) (-1) (-1) none (-1) 0 0 0]) g ts pt vr := CH_ap (Or.inl (fun fs y => by cases y)) ch2
  have a3' := hc_up (c2 := dcC 9 (cpl cx F (i + 1)) (-1) (-1) none (-1) 0 0 0) a3
  have hd0 : hc (h2 ++ [dcC 9 (cpl cx F (i + 1)) (-1) (-1) none (-1) 0 0 0]) (22 + h.length) = some (dcC 9 (cpl cx F (i + 1)) (-1) (-1) none (-1) 0 0 0) := by rw [← dd]; exact hc_new _
  obtain ⟨h3, b1, b2, b3⟩ := pF_ex (j := 5) (cis := [12]) (v := .ref (22 + h.length)) (u := .null) a3' rfl (by decide) rfl (by decide)
  have b2 : hc h3 (21 + h.length) = some (.inr (12, nwN (cpl cx F i) (cpl cx F i) (22 + h.length))) := b2
  have p3 := pC_w a3' (by decide) b3 p2
  have c3 := CH_w a3' (by decide) b3 c2
  have hd3 := st1_old b3 hd0 (by omega)
  obtain ⟨h4, d1, d2, d3⟩ := pF_ex (j := 6) (cis := [10]) (v := .int 1) (u := .int 0) hd3 rfl (by decide) rfl (by decide)
  have d2 : hc h4 (22 + h.length) = some (dcC 9 (cpl cx F (i + 1)) (-1) (-1) none (-1) 1 0 0) := d2
  have p4 := pC_w hd3 (by decide) d3 p3
  have c4 := CH_w hd3 (by decide) d3 c3
  have b4 := st1_old d3 b2 (by omega)
  obtain ⟨h5, ar', cap', v, e1, e2, e3, e4, e5, e6, e7, e8⟩ := tc_type (L := L) (xs := xs) (zf := zf) (w := w) (k := k) hT (show i + 1 ≤ cx 16 by omega) p4 c4 d2 (Or.inr rfl) hn
  have l4 : h4.length = h.length + 2 := by rw [d3.2.1, b3.2.1, List.length_append, l2]; rfl
  have y4 : zh h4 = zh h + 22 := by rw [d3.2.2, b3.2.2, zh_app, y2]; rfl
  rcases e8 with ⟨_, z, _⟩ | ⟨_, t2, cp, cq, k1, k2, k3, k4⟩
  · exact absurd z (by decide)
  have hlp := hc_lt b4
  have np : ¬ (21 + h.length = cx 0 ∨ 21 + h.length = cx 11 ∨ 21 + h.length = g 1 ∨ 21 + h.length = 22 + h.length) := by
    intro u
    rcases u with u | u | u | u
    · have := hc_lt (pC_r p); omega
    · have := (aL_lt c.2.1).1; omega
    · have := (aL_lt c.2.1).2.1; omega
    · omega
  have b5 := fr_old e4 b4 np
  obtain ⟨h6, m1, m2, m3⟩ := pF_ex (j := 3) (cis := [12]) (v := .int (cpl cx F (tiA cx F (i + 1)))) (u := .int (cpl cx F i)) b5 rfl (by decide) rfl (by decide)
  have l6 := m3.2.1
  have y6 := m3.2.2
  refine ⟨h6, ar', cap', v, t2, cp, cq, 22 + h.length, fun h9 hr => ?_, CH_w b5 (by decide) m3 e2, pC_w b5 (by decide) m3 e3, ?_, ⟨by omega, nE_st (nE_r (nE_st (nE_st (nE_l (nD_st (nD_ap (fun _ z => by cases z)) a4) (fr_app (fun _ => False) _) (by rw [← dd]; exact nE_ap)) b3) d3) e4 e5.2) m3⟩, by omega, by omega, rfl, m2, st1_old m3 k1 (by omega), k2, k3, ?_⟩
  · rw [e133]
    show b133_0 L xs zf (dM L xs zf w (k + 9)) w (some (cx 7)) (some (cx 14)) i1 h = _
    unfold b133_0
    refine bse (a := (some (21 + h.length), h2)) (by rw [c_pv p, a1]; rfl) (bse rfl ?_)
    refine bse (c_in p2a) (bse (c_I p2a 7 (by omega)) ?_)
    rw [vS_7]
    refine bse (a := h2 ++ [dcC 9 (cpl cx F (i + 1)) (-1) (-1) none (-1) 0 0 0]) ?_ ?_
    · show (dM L xs zf w (k + 9) 112 [.ref (21 + h2.length), .ref 9, .int (cpl cx F (i + 1))] (h2 ++ [.inr (10, ah_DV 10)])).bind dxV = _
      rw [dc_new (k := k + 8)]
      rfl
    rw [show va_rf (some (21 + h2.length)) = .ref (22 + h.length) from by rw [dd]; rfl]
    refine bse b1 (bse (hc_gR (p := some (22 + h.length)) b2 rfl (by decide)) (bse d1 ?_))
    refine bse (hc_gR (p := some (22 + h.length)) b4 rfl (by decide)) ?_
    refine bse (a := h5) (by rw [c_pv p4, va_s, e1]; rfl) ?_
    refine bse (hc_gR (p := some (22 + h.length)) b5 rfl (by decide)) (bse (hc_gI k1 rfl (by decide)) (bse m1 ?_))
    exact bse (a := h9) (by rw [c_pv (pC_w b5 (by decide) m3 e3), va_s, va_s, hr]; rfl) rfl
  · refine fr_trans (fr_trans (fr_trans (fr_trans (fr_trans (fr_trans (fr_app _ _) a4.1 (fun _ _ u => Or.inl u)) (fr_app _ _) (fun _ _ u => u)) b3.1 (fun y hy u => by omega)) d3.1 (fun y hy u => by omega)) e4 (fun y hy u => ?_)) m3.1 (fun y hy u => by omega)
    rcases u with u | u | u | u
    · exact Or.inl u
    · exact Or.inr (Or.inl u)
    · exact Or.inr (Or.inr u)
    · omega
  · rcases k4 with ⟨u1, u2, u3, u4⟩ | u
    · exact Or.inl ⟨u1, u2, u3, nS_fr m3.1 u4⟩
    · exact Or.inr u
end NW
