/-! A BLOCK begins. -/
section B1
variable {L : Nat} {xs : Nat → Int32} {zf : Value} {w k k2 i : Nat} {cx : Nat → Nat} {F : Nat → Nat → Int32} {N : Nat → Int64} {q : List Value} {h h' : rm_H} {s s' : rS} {g : Nat → Nat} {ts : List Nat} {v : Nat → Int32} {A : Nat} {i1 : Int32}
/-- the reference has made node n of a block and passed its brace -/
def blN (s : rS) (n i : Nat) : rS := nxS (ndS s n 30 (s.2.1 41 i)) i
theorem blN_rF {n : Nat} : rF s (blN s n i) := rF_trans rF_nd rF_nx
theorem blN_sX {n : Nat} : sX s (blN s n i) n := sX_trans (sX_nd (Nat.le_refl _)) sX_w (Nat.le_refl _)
theorem blN_yA {n : Nat} : yA s (blN s n i) := by
  refine yA_trans (s1 := ndS s n 30 (s.2.1 41 i)) (yA_of rfl (fun p h1 h2 => ?_) ?_) (yA_2 rfl rfl)
  · funext j; rw [nd_get, if_neg (by omega)]
  · funext j; rw [nd_getJ, if_neg (by omega)]
theorem SY_nb (hT : TF cx F N) (z : SY cx F N q h s g ts) (t : ctk cx F (g 0) = 5) : ∃ h2, dM L xs zf w (k + 4) 109 [.ref (cx 7), .int 5] (h ++ [nd0 14 (cpl cx F (g 0))]) = some (none, h2) ∧ pC (h ++ [nd0 14 (cpl cx F (g 0))]) cx F (vS cx F (g 0)) ∧ SY cx F N q h2 (blN s (g 4) (g 0)) (gu (gu g 0 (g 0 + 1)) 4 (g 4 + 1)) ts ∧ OPC cx F N q 9 67 h s g ts h2 (blN s (g 4) (g 0)) (gu (gu g 0 (g 0 + 1)) 4 (g 4 + 1)) ts ∧ onR (blN s (g 4) (g 0)) (g 4) (fun r => ndV r 30 (F 5 (g 0))) 0 ∧ hc h2 (21 + h.length) = some (nd0 14 (cpl cx F (g 0))) ∧ h2.length = h.length + 1 := by
  obtain ⟨⟨p, ⟨a1, a2, a3, a4⟩, rt, ch0, ⟨c1, c2, c3, c4⟩, b1, b2, b3, b4⟩, g6⟩ := id z
  have hlt := w_pass hT z 5 t (by decide) (by decide)
  have p1 : pC (h ++ [nd0 14 (cpl cx F (g 0))]) cx F (vS cx F (g 0)) := pC_ap p
  obtain ⟨h2, d1, d2, d3⟩ := y_takeT (L := L) (xs := xs) (zf := zf) (w := w) (k := k) hT hlt p1 5 t
  have l2 : h2.length = h.length + 1 := by rw [d3.2.1, List.length_append]; rfl
  have y2 : zh h2 = zh h + 13 := by rw [d3.2.2, zh_nd]
  have hne : 21 + h.length ≠ cx 0 := by have := hc_lt (pC_r p); omega
  have sy : SY cx F N q h2 (blN s (g 4) (g 0)) (gu (gu g 0 (g 0 + 1)) 4 (g 4 + 1)) ts := by
    refine ⟨⟨d2, ⟨a1, a2, a3, a4⟩, rT_F blN_rF rt, CH_g (g := g) rfl rfl rfl (CH_r p1 d3 (CH_ap (Or.inl (nd0_5 _ _)) ch0)), ⟨rfl, rfl, c3, ?_⟩, ?_⟩, g6.1, TSI_n g6.2 (fr_trans (fr_app (fun y => y = cx 0) _) d3.1 (fun _ _ u => u)) (cx0_10 p) (nD_st (nD_ap (fun _ z => by cases z)) d3) (tR_sX blN_sX) (yA_n c3 (by have := hT.1; omega) blN_yA) (Nat.le_refl _) (Nat.le_succ _) rfl (fun n n1 n2 => ?_)⟩
    rotate_left 2
    · have n3 : n < g 4 + 1 := n2
      have n4 : n = g 4 := by omega
      have e44 : (blN s (g 4) (g 0)).2.1 44 (g 4) = 30 := by
        show (ndS s (g 4) 30 (s.2.1 41 (g 0))).2.1 44 (g 4) = _
        rw [nd_get, if_pos ⟨rfl, by omega, by omega⟩]
        rfl
      rw [n4, e44]
      decide
    · show 1 ≤ g 4 + 1
      omega
    · show g 0 + 1 ≤ _ ∧ _ ≤ g 0 + 1 ∧ g 4 + 1 ≤ (g 0 + 1) + 2 ∧ g 5 + 2 ≤ g 0 + 1
      omega
  refine ⟨h2, d1, p1, sy, ⟨⟨Or.inl sy, fun _ => ⟨z, blN_sX, blN_yA⟩, fr_trans (fr_app _ _) d3.1 (fun _ _ u => Or.inl u), Or.inl rfl, blN_rF, ?_⟩, ?_⟩, ⟨fun r h1 h2 => ?_, ?_⟩, st1_old d3 (hc_new _) hne, l2⟩
  · show (g 0 ≤ g 0 + 1 ∧ g 4 ≤ g 4 + 1) ∧ h2.length + 10 * g 0 + g 6 ≤ h.length + 10 * (g 0 + 1) + g 6 ∧ zh h2 + 4 * g 2 + 80 * g 0 + 8 * g 6 ≤ zh h + 4 * g 2 + 80 * (g 0 + 1) + 8 * g 6 ∧ g 4 + 1 + g 0 + g 6 ≤ g 4 + (g 0 + 1) + g 6
    omega
  · show h2.length + 10 * g 0 + g 6 + 9 ≤ h.length + 10 * (g 0 + 1) + g 6 ∧ zh h2 + 4 * g 2 + 80 * g 0 + 8 * g 6 + 67 ≤ zh h + 4 * g 2 + 80 * (g 0 + 1) + 8 * g 6
    omega
  · show (ndS s (g 4) 30 (s.2.1 41 (g 0))).2.1 r (g 4) = _
    rw [nd_get, if_pos ⟨rfl, h1, h2⟩, rt.2.1]
  · show (ndS s (g 4) 30 (s.2.1 41 (g 0))).2.2 56 (g 4) = _
    rw [nd_getJ, if_pos ⟨rfl, rfl⟩]
/-- both at the first statement -/
theorem c_119 {r : dR} {h2 : rm_H} (z : SY cx F N q h s g ts) (d : mx_f2 .le i1 24 = true) (p1 : pC (h ++ [nd0 14 (cpl cx F (g 0))]) cx F (vS cx F (g 0))) (e1 : dM L xs zf w (k + 1) 109 [.ref (cx 7), .int 5] (h ++ [nd0 14 (cpl cx F (g 0))]) = some (none, h2)) (hr : b119_40 L xs zf (dM L xs zf w (k + 1)) w w (some (cx 7)) (some (cx 14)) i1 (some (21 + h.length)) 0 h2 = some r) : dM L xs zf w (k + 2) 119 [.ref (cx 7), .ref (cx 14), .int i1] h = some r := by
  rw [e119]
  show b119_0 L xs zf (dM L xs zf w (k + 1)) w (some (cx 7)) (some (cx 14)) i1 h = _
  unfold b119_0
  refine c_mk z.1.1 14 (nd_new (k := k) 14 (vS cx F (g 0) 7)) ?_
  rw [vS_7]
  exact ift d (bse (a := h2) (by rw [c_pv p1, e1]; rfl) hr)
theorem r_317 {r : rA} (hT : TF cx F N) (z : SY cx F N q h s g ts) (d : mx_f2 .le i1 24 = true) (t : ctk cx F (g 0) = 5) (hr : s317_56 (rM w (k2 + 2)) w w i1 (Int32.ofNat (g 4)) 0 (blN s (g 4) (g 0)) = some r) : rM w (k2 + 3) 317 [.ref 36, .int i1] s = some r := by
  obtain ⟨⟨p, ⟨a1, a2, a3, a4⟩, rt, ch, ⟨c1, c2, c3, c4⟩, b1, b2, b3, b4⟩, g6⟩ := id z
  have hl : g 0 ≤ 2000 := by have := hT.1; omega
  obtain ⟨⟨f5, _, tr⟩, _⟩ := hT.2.2 (g 0) b1
  have q10 := q310 (w := w) (k := k2 + 1) 123 a1 c1 hl
  rw [rt.1, rt.2.2.1, decide_eq_true ((sg_iff tr P123).mpr t)] at q10
  rw [y317]
  show s317_0 (rM w (k2 + 2)) w i1 s = _
  unfold s317_0
  refine ifn (by rw [a1]; decide) (bse (a := (rd_01 true, s)) (by rw [q10]; rfl) (ifn (show ¬ mx_f1 .eq (rd_01 true) = true by decide) (ift d ?_)))
  refine bse (a := s.2.1 41 (g 0)) (aT (by omega) c1 hl) ?_
  refine bse (a := (Int32.ofNat (g 4), ndS s (g 4) 30 (s.2.1 41 (g 0)))) (by rw [q316 (k := k2 + 1) 30 _ c2 (by omega)]; rfl) ?_
  exact bse (pI_nx (s := ndS s (g 4) 30 (s.2.1 41 (g 0))) c1) hr
end B1
