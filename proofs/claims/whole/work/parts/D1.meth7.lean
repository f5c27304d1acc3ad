/-! A METHOD, by both. -/
/-- what the head of the reference's method m changes -/
def hA (s s4 : rS) (m : Nat) : Prop := (∀ j, j ≠ 42 → j ≠ 56 → j ≠ 57 → j ≠ 58 → s4.1 j = s.1 j) ∧ (∀ p, p < 70 ∨ 76 < p → s4.2.1 p = s.2.1 p) ∧ (∀ p i, i ≠ m → s4.2.1 p i = s.2.1 p i) ∧ (∀ p, p ≠ 78 → s4.2.2 p = s.2.2 p) ∧ ∀ i, i ≠ m → s4.2.2 78 i = s.2.2 78 i
section MG
variable {L : Nat} {xs : Nat → Int32} {zf : Value} {w k k2 i m np kk t : Nat} {cx : Nat → Nat} {F : Nat → Nat → Int32} {N : Nat → Int64} {q : List Value} {h h' h1 h2 : rm_H} {s s' s1 s2 s4 : rS} {g g' : Nat → Nat} {ts ts' : List Nat} {M K l a10 c10 am cm mlK nm d : Nat} {v : Nat → Int32} {pt vr so cv cp : Int32} {fsK : List Value} {ml mks : List Nat}
theorem hA_trans (a : hA s s1 m) (b : hA s1 s2 m) : hA s s2 m := ⟨fun j h1 h2 h3 h4 => (b.1 j h1 h2 h3 h4).trans (a.1 j h1 h2 h3 h4), fun p hp => (b.2.1 p hp).trans (a.2.1 p hp), fun p i hi => (b.2.2.1 p i hi).trans (a.2.2.1 p i hi), fun p hp => (b.2.2.2.1 p hp).trans (a.2.2.2.1 p hp), fun i hi => (b.2.2.2.2 i hi).trans (a.2.2.2.2 i hi)⟩
theorem hA_mh : hA s (mhS s m kk i so) m := by
  refine ⟨fun j h1 h2 _ _ => mh_1.2.2 j h1 h2, fun p hp => ?_, fun p j hj => ?_, fun p hp => ?_, fun j hj => ?_⟩
  · funext j; rw [mh_get, if_neg (by omega), if_neg (by omega), if_neg (by omega), if_neg (by omega), if_neg (by omega)]
  · rw [mh_get, if_neg (fun u => hj u.2), if_neg (fun u => hj u.2), if_neg (fun u => hj u.2), if_neg (fun u => hj u.2), if_neg (fun u => hj u.2)]
  · funext j; rw [mh_J, if_neg (by omega)]
  · rw [mh_J, if_neg (fun u => hj u.2)]
theorem hA_A {p : Nat} {x : Int32} (hp : 70 ≤ p ∧ p ≤ 76) : hA s (rs_wA s p m x) m := ⟨fun _ _ _ _ _ => rfl, fun r hr => wA_ne _ _ _ (by omega), fun r j hj => by rw [wA_get, if_neg (fun u => hj u.2)], fun _ _ => rfl, fun _ _ => rfl⟩
theorem hA_nx : hA s (nxS s i) m := ⟨fun j _ h2 _ _ => upd_ne _ _ h2, fun _ _ => rfl, fun _ _ _ => rfl, fun _ _ => rfl, fun _ _ => rfl⟩
theorem hA_st : hA s (stS s i) m := ⟨fun j _ _ h3 h4 => by
  show upd (upd s.1 57 1) 58 (s.2.1 41 i) j = _
  rw [upd_ne _ _ h4, upd_ne _ _ h3], fun _ _ => rfl, fun _ _ _ => rfl, fun _ _ => rfl, fun _ _ => rfl⟩
theorem hA_rT (a : hA s s4 m) (t : rTk F N s) : rTk F N s4 := by
  obtain ⟨t1, t2, t3, t4⟩ := t
  exact ⟨(a.2.1 40 (by omega)).trans t1, (a.2.1 41 (by omega)).trans t2, (a.2.1 42 (by omega)).trans t3, (a.2.2.2.1 43 (by decide)).trans t4⟩
theorem hA_sX (a : hA s s4 m) (nd : Nat) : sX s s4 nd := fun j _ => ⟨fun p h1 h2 => by rw [a.2.1 p (by omega)], by rw [a.2.2.2.1 56 (by decide)]⟩
theorem hA_yA (a : hA s s4 m) : yA s s4 := yA_of (a.1 26 (by decide) (by decide) (by decide) (by decide)) (fun p h1 h2 => a.2.1 p (by omega)) (a.2.2.2.1 61 (by decide))
theorem rMm_of2 {s7 : rS} (a : hA s s4 m) (b : (∀ j, j ≠ 56 → j ≠ 57 → j ≠ 58 → s7.1 j = s4.1 j) ∧ (∀ p, p ≠ 74 → s7.2.1 p = s4.2.1 p) ∧ (∀ i, i ≠ m → s7.2.1 74 i = s4.2.1 74 i) ∧ (∀ p, p ≠ 78 → s7.2.2 p = s4.2.2 p) ∧ ∀ i, i ≠ m → s7.2.2 78 i = s4.2.2 78 i) (c : rMt s7 s' m np) : rMm s s' m np := by
  obtain ⟨b1, b2, b3, b4, b5⟩ := b
  obtain ⟨c1, c2, c3, c4, c5⟩ := c
  obtain ⟨a1, a2, a3, a4, a5⟩ := a
  have row : ∀ p i, i ≠ m → s7.2.1 p i = s.2.1 p i := by
    intro p i hi
    by_cases e : p = 74
    · rw [e, b3 i hi, a3 74 i hi]
    · rw [b2 p e, a3 p i hi]
  refine ⟨fun j h1 h2 h3 h4 h5 h6 h7 h8 h9 h10 => ?_, fun p hp => ?_, fun p i h1 h2 hi => ?_, fun i hi hi1 => ?_, fun p h1 h2 h3 h4 => ?_, fun i hi => ?_, fun f hf => ⟨?_, ?_, ?_⟩⟩
  · rw [c1 j h1 h2 h3 h4 h6 h7 h8 h9 h10, b1 j h7 h8 h9, a1 j h5 h7 h8 h9]
  · rw [c2 p (by omega), b2 p (by omega), a2 p (by omega)]
  · by_cases p75 : p = 75
    · subst p75; rw [(c3 i hi).1, row _ i hi]
    · by_cases p76 : p = 76
      · subst p76; rw [(c3 i hi).2.1, row _ i hi]
      · rw [c2 p (by omega), row _ i hi]
  · rw [(c3 i hi).2.2 hi1, row _ i hi]
  · rw [c4 p h1 h2 h4, b4 p h3, a4 p h3]
  · rw [c4 78 (by decide) (by decide) (by decide), b5 i hi, a5 i hi]
  · rw [(c5 f hf).1, b4 79 (by decide), a4 79 (by decide)]
  · rw [(c5 f hf).2.1, b2 80 (by decide), a2 80 (by omega)]
  · rw [(c5 f hf).2.2, b2 81 (by decide), a2 81 (by omega)]
/-- both read the CAP of a fun -/
theorem op_cap (hT : TF cx F N) (z : SY cx F N q h s g ts) (hm : m < 72) : ∃ h4 s4 g4 cv, dM L xs zf w (k + 5) 143 [.ref (cx 7)] h = some (some (.int cv), h4) ∧ (((rM w (k2 + 2) 313 [.ref 36] s).bind rxI).bind fun x44 => if mx_f1 .ne x44.1 = true then s314_91 (rM w (k2 + 2)) w 1 (Int32.ofNat m) x44.2 else ((rM w (k2 + 2) 304 [.ref 36] x44.2).bind rxV).bind fun s50 => s314_91 (rM w (k2 + 2)) w 1 (Int32.ofNat m) s50) = s314_141 (rM w (k2 + 2)) w 1 (Int32.ofNat m) s4 ∧ (SY cx F N q h4 s4 g4 ts ∨ FLT cx F N q h4 s4 g4 ts) ∧ st1 (cx 0) h h4 ∧ hA s s4 m ∧ s4.1 42 = s.1 42 ∧ (g 0 ≤ g4 0 ∧ g4 1 = g 1 ∧ g4 2 = g 2 ∧ g4 3 = g 3 ∧ g4 4 = g 4 ∧ g4 5 = g 5 ∧ g4 6 = g 6) ∧ (∀ i, i ≠ 72 → i ≠ 73 → s4.2.1 i = s.2.1 i) ∧ s4.2.2 = s.2.2 ∧ (SY cx F N q h4 s4 g4 ts → ∃ c, c < 5 ∧ cv = Int32.ofNat c ∧ s4.2.1 72 m = Int32.ofNat c ∧ s4.2.1 73 m = cpl cx F (g 0)) := by
  obtain ⟨⟨p0, ⟨a1, a2, a3, a4⟩, rt, ch, ⟨c1, c2, c3, c4⟩, b1, b2, b3, b4⟩, g6⟩ := id z
  have hT1 := hT.1
  have hl : g 0 ≤ 2000 := by omega
  obtain ⟨⟨f5, _, tr⟩, _⟩ := hT.2.2 (g 0) b1
  have q13 := q313 (w := w) (k := k2 + 1) a1 c1 hl
  rw [rt.1, rt.2.2.1] at q13
  have cap := c_cap (L := L) (xs := xs) (zf := zf) (w := w) (k := k + 3) p0
  rw [vS_6] at cap
  have r91 : ∀ sx : rS, sx.1 56 = Int32.ofNat (g 0) → rTk F N sx → s314_91 (rM w (k2 + 2)) w 1 (Int32.ofNat m) sx = if mx_f1 .ne (sx.1 57) = true then s314_141 (rM w (k2 + 2)) w 1 (Int32.ofNat m) (rs_wA (rs_wA sx 72 m (F 6 (g 0) - 18)) 73 m (F 5 (g 0))) else s314_141 (rM w (k2 + 2)) w 1 (Int32.ofNat m) (nxS (rs_wA (rs_wA sx 72 m (F 6 (g 0) - 18)) 73 m (F 5 (g 0))) (g 0)) := by
    intro sx h56 rtx
    unfold s314_91
    rw [h56, aTi (by omega) hl, Option.bind_some, rtx.2.2.1, mWt (by omega) hm, Option.bind_some, show (rs_wA sx 72 m (F 6 (g 0) - 18)).1 56 = Int32.ofNat (g 0) from h56, aTi (by omega) hl, Option.bind_some, show (rs_wA sx 72 m (F 6 (g 0) - 18)).2.1 41 (g 0) = F 5 (g 0) from by rw [← rtx.2.1]; rfl, mWt (by omega) hm, Option.bind_some, pI_nx (s := rs_wA (rs_wA sx 72 m (F 6 (g 0) - 18)) 73 m (F 5 (g 0))) (t := g 0) h56, Option.bind_some]
    rfl
  by_cases cp : isC cx F (g 0)
  · have hlt := isC_lt hT b1 cp
    obtain ⟨h4, e1, e2, e3⟩ := y_adv (L := L) (xs := xs) (zf := zf) (w := w) (k := k + 1) hT hlt p0
    rw [decide_eq_true ((cap_iff tr).1.mpr cp)] at q13
    rw [decide_eq_true (show 38 ≤ (ctk cx F (g 0)).toInt ∧ (ctk cx F (g 0)).toInt < 43 from cp)] at cap
    obtain ⟨c, hc5, z1, z2⟩ := (cap_iff tr).2 cp
    have ha : hA s (nxS (rs_wA (rs_wA s 72 m (F 6 (g 0) - 18)) 73 m (F 5 (g 0))) (g 0)) m := hA_trans (hA_trans (hA_A (by omega)) (hA_A (by omega))) hA_nx
    have sy4 : SY cx F N q h4 (nxS (rs_wA (rs_wA s 72 m (F 6 (g 0) - 18)) 73 m (F 5 (g 0))) (g 0)) (gu g 0 (g 0 + 1)) ts := by
      refine ⟨⟨e2, ⟨a1, a2, a3, a4⟩, hA_rT ha rt, CH_g (g := g) rfl rfl rfl (CH_r p0 e3 ch), ⟨rfl, c2, c3, c4⟩, ?_⟩, g6.1, TSI_n g6.2 e3.1 (cx0_10 p0) (nD_0 e3.2.1) (tR_sX (hA_sX ha _)) (yA_n c3 (by omega) (hA_yA ha)) (Nat.le_refl _) (Nat.le_refl _) rfl (fun n n1 n2 => by
        have n3 : n < g 4 := n2
        omega)⟩
      show g 0 + 1 ≤ _ ∧ _ ≤ g 0 + 1 ∧ g 4 ≤ g 0 + 1 + 2 ∧ g 5 + 2 ≤ g 0 + 1
      omega
    refine ⟨h4, _, _, ctk cx F (g 0) - 38, ?_, ?_, Or.inl sy4, e3, ha, rfl, ⟨by show g 0 ≤ g 0 + 1; omega, rfl, rfl, rfl, rfl, rfl, rfl⟩, fun i h1 h2 => ?_, rfl, fun _ => ⟨c, hc5, z1, ?_, ?_⟩⟩
    · rw [e143]
      show b143_0 L xs zf (dM L xs zf w (k + 4)) w (some (cx 7)) h = _
      unfold b143_0
      refine bse (c_in p0) (bse (a := (rd_01 true, h)) (by rw [c_rv p0, cap]; rfl) (ift (show mx_f1 .ne (rd_01 true) = true by decide) ?_))
      refine bse (c_in p0) (bse (c_I p0 6 (by omega)) (bse (c_in p0) (bse (a := h4) (by rw [c_rv p0, e1]; rfl) ?_)))
      rfl
    · rw [show (rM w (k2 + 2) 313 [.ref 36] s).bind rxI = some (rd_01 true, s) from by rw [q13]; rfl, Option.bind_some, if_pos (show mx_f1 .ne (rd_01 true) = true by decide), r91 s c1 rt, a1, if_neg (by decide)]
    · show (rs_wA (rs_wA s 72 m (F 6 (g 0) - 18)) 73 m (F 5 (g 0))).2.1 i = _
      rw [wA_ne _ _ _ h2, wA_ne _ _ _ h1]
    · show (rs_wA (rs_wA s 72 m (F 6 (g 0) - 18)) 73 m (F 5 (g 0))).2.1 72 m = _
      rw [wA_get, if_neg (by omega), wA_get, if_pos ⟨rfl, rfl⟩, z2]
    · show (rs_wA (rs_wA s 72 m (F 6 (g 0) - 18)) 73 m (F 5 (g 0))).2.1 73 m = _
      rw [wA_get, if_pos ⟨rfl, rfl⟩, f5]
  · obtain ⟨h4, v4, e1, e2, e3, e4⟩ := y_ref (L := L) (xs := xs) (zf := zf) (w := w) (k := k + 3) hT b1 p0
    rw [decide_eq_false (fun u => cp ((cap_iff tr).1.mp u))] at q13
    rw [decide_eq_false (show ¬ (38 ≤ (ctk cx F (g 0)).toInt ∧ (ctk cx F (g 0)).toInt < 43) from cp)] at cap
    have ha : hA s (rs_wA (rs_wA (stS s (g 0)) 72 m (F 6 (g 0) - 18)) 73 m (F 5 (g 0))) m := hA_trans (hA_trans hA_st (hA_A (by omega))) (hA_A (by omega))
    have fl : FLT cx F N q h4 (rs_wA (rs_wA (stS s (g 0)) 72 m (F 6 (g 0) - 18)) 73 m (F 5 (g 0))) g ts := by
      refine ⟨⟨v4, e2, ?_⟩, rfl, hA_rT ha rt, ⟨_, _, CH_r p0 e4 ch⟩, ⟨c1, c2, c3, c4⟩, by omega⟩
      show rfd v4 (s.2.1 41 (g 0))
      rw [rt.2.1, f5]
      exact e3
    refine ⟨h4, _, g, 2, ?_, ?_, Or.inr fl, e4, ha, rfl, ⟨Nat.le_refl _, rfl, rfl, rfl, rfl, rfl, rfl⟩, fun i h1 h2 => ?_, rfl, fun u => (sy_no u fl).elim⟩
    · rw [e143]
      show b143_0 L xs zf (dM L xs zf w (k + 4)) w (some (cx 7)) h = _
      unfold b143_0
      refine bse (c_in p0) (bse (a := (rd_01 false, h)) (by rw [c_rv p0, cap]; rfl) (ifn (show ¬ mx_f1 .ne (rd_01 false) = true by decide) ?_))
      exact bse (c_in p0) (bse (a := h4) (by rw [c_rv p0, e1]; rfl) rfl)
    · rw [show (rM w (k2 + 2) 313 [.ref 36] s).bind rxI = some (rd_01 false, s) from by rw [q13]; rfl, Option.bind_some, if_neg (show ¬ mx_f1 .ne (rd_01 false) = true by decide), show (rM w (k2 + 2) 304 [.ref 36] s).bind rxV = some (stS s (g 0)) from by rw [q304 (k := k2) a1 c1 hl]; rfl, Option.bind_some, r91 (stS s (g 0)) c1 rt, if_pos (show mx_f1 .ne ((stS s (g 0)).1 57) = true from by rw [show (stS s (g 0)).1 57 = 1 from rfl]; decide)]
    · show (rs_wA (rs_wA (stS s (g 0)) 72 m (F 6 (g 0) - 18)) 73 m (F 5 (g 0))).2.1 i = _
      rw [wA_ne _ _ _ h2, wA_ne _ _ _ h1]
      rfl
end MG
