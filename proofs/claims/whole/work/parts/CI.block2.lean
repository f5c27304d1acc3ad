/-! A BLOCK'S STATEMENTS, one after another. -/
section BK
variable {L : Nat} {xs : Nat → Int32} {zf : Value} {w k k2 : Nat} {cx : Nat → Nat} {F : Nat → Nat → Int32} {N : Nat → Int64} {q : List Value} {hb h0 h h' h1 h2 : rm_H} {sb s0 s s' s1 s2 : rS} {gb g0 g g' g1 g2 : Nat → Nat} {tb t0 ts ts' ts1 ts2 : List Nat} {p n m c1 c2 d2 cap A ke kr : Nat} {c : Bool} {R : Nat → Int32} {J : Int64} {fp : Nat → Option Value} {ks : List (Nat → Nat)} {i1 : Int32}
theorem OPC_OPA2 {e1 e2 : Nat} (a : OPC cx F N q e1 e2 hb sb gb tb h s g ts) (b0 : OPA cx F N q p n c1 c2 d2 h s g ts h1 s1 g1 ts1) (hp : 21 + hb.length ≤ p) (hn : gb 4 ≤ n) (hc : d2 ≤ c2 + e2) : OPR cx F N q hb sb gb tb h1 s1 g1 ts1 := by
  obtain ⟨⟨a1, a2, a3, a4, a5, a6, a7, a8, a9⟩, a10, a11⟩ := a
  obtain ⟨b1, b2, b3, b4, b5, b6, b7, b8, b9⟩ := b0
  refine ⟨b1, fun z => ?_, fr_trans a3 b3 (fun y hy u => ?_), ?_, rF_trans a5 b5, by omega, by omega, by omega, by omega⟩
  · obtain ⟨y1, y2, y3⟩ := b2 z
    obtain ⟨x1, x2, x3⟩ := a2 y1
    exact ⟨x1, sX_trans x2 (fun i hi => y2 i (by omega) (by omega)) (Nat.le_refl _), yA_trans x3 y3⟩
  · rcases u with u | u
    · rcases u with u | u | u | u | u
      · exact Or.inl u
      · exact Or.inr (Or.inl u)
      · exact Or.inr (Or.inr (Or.inl u))
      · exact Or.inr (Or.inr (Or.inr (Or.inl u)))
      · rcases a4 with e | e
        · exact Or.inr (Or.inr (Or.inr (Or.inr (u.trans e))))
        · omega
    · omega
  · have := a3.1
    omega
/-- the open node itself is written -/
theorem OPA_pw {fs : List Value} {r : Nat} {x : Int32} (a : OPA cx F N q p n c1 c2 d2 hb sb gb tb h s g ts) (wp : st1 p h h2) (hp : hc h p = some (.inr (12, fs))) (hr : 44 ≤ r ∧ r ≤ 55) (hr4 : r ≠ 44) (hk : SY cx F N q h s g ts → s.2.1 44 n ≠ 8 ∧ s.2.1 44 n ≠ 20) : OPA cx F N q p n c1 c2 d2 hb sb gb tb h2 (rs_wA s r n x) g ts ∧ (SY cx F N q h2 (rs_wA s r n x) g ts → SY cx F N q h s g ts) := by
  obtain ⟨a1, a2, a3, a4, a5, a6, a7, a8, a9⟩ := a
  have rf : rF s (rs_wA s r n x) := rF_lk hr
  have toS : SY cx F N q h s g ts → SY cx F N q h2 (rs_wA s r n x) g ts := by
    intro z
    have kz := hk z
    obtain ⟨⟨p1, t1, rt, ch, cs, b⟩, g6⟩ := z
    exact ⟨⟨pC_w hp (by decide) wp p1, t1, rT_F rf rt, CH_w hp (by decide) wp ch, cs, b⟩, g6.1, TSI_wr g6.2 hp (by decide) wp (tR_A hr4 (fun _ => ⟨Or.inl kz.1, Or.inl kz.2⟩)) (fun y _ => ⟨by rw [wA_ne _ _ _ (by omega)], by rw [wA_ne _ _ _ (by omega)], by rw [wA_ne _ _ _ (by omega)], rfl⟩) rfl rfl rfl⟩
  have toF : FLT cx F N q h s g ts → FLT cx F N q h2 (rs_wA s r n x) g ts := by
    intro z
    refine FLT_s2 rf rfl ?_
    obtain ⟨⟨v, p1, rr⟩, t1, rt, ⟨pt, vr, ch⟩, cs, b⟩ := z
    exact ⟨⟨v, pC_w hp (by decide) wp p1, rr⟩, t1, rt, ⟨pt, vr, CH_w hp (by decide) wp ch⟩, cs, b⟩
  have bk : SY cx F N q h2 (rs_wA s r n x) g ts → SY cx F N q h s g ts := by
    intro y
    rcases a1 with u | u
    · exact u
    · exact (sy_no y (toF u)).elim
  have l := wp.2.1
  have yy := wp.2.2
  refine ⟨⟨a1.elim (fun u => Or.inl (toS u)) (fun u => Or.inr (toF u)), fun y => ?_, fr_trans a3 wp.1 (fun _ _ u => Or.inr u), a4, rF_trans a5 rf, a6, by omega, by omega, a9⟩, bk⟩
  obtain ⟨x1, x2, x3⟩ := a2 (bk y)
  exact ⟨x1, sXn_trans x2 (sXn_A (Or.inr rfl)) (Nat.le_refl _), yA_trans x3 (yA_A (by omega))⟩
/-- fields of a Node, with field 3 written -/
def fp3 (fp : Nat → Option Value) (x : Int32) : Nat → Option Value := fun j => if j = 3 then some (.int x) else fp j
theorem AJ_pw {zm : Nat × Nat} {fs : List Value} {x x2 : Int32} (j : AJ L xs zm cx F N q c R J fp p n h0 g0 h s g ts ks cap) (wp : st1 p h h2) (hp : hc h p = some (.inr (12, fs))) (np : nW h2 p) (f3 : fd h2 12 p 3 = some (.int x)) (fo : ∀ i, i ≠ 3 → fd h2 12 p i = fd h 12 p i) (hp0 : p < 21 + h0.length) (hn : n < g0 4) (bk : SY cx F N q h2 (rs_wA s 55 n x2) g ts → SY cx F N q h s g ts) : AJ L xs zm cx F N q c (upd R 55 x2) J (fp3 fp x) p n h0 g0 h2 (rs_wA s 55 n x2) g ts ks cap := by
  obtain ⟨j1, j2, j3, j4, j5, j6⟩ := j
  refine ⟨np, fun i hi => ?_, ?_, fun y hy => oK_fr wp.1 (j4 y hy), j5, fun y => ?_⟩
  · unfold fp3
    by_cases i3 : i = 3
    · rw [if_pos i3, i3]; exact f3
    · rw [if_neg i3, fo i i3]; exact j2 i hi
  · rcases j3 with ⟨e1, e2, e3⟩ | ⟨l, ar, e1, e2, e3⟩
    · exact Or.inl ⟨(fo 11 (by decide)).trans e1, e2, e3⟩
    · refine Or.inr ⟨l, ar, (fo 11 (by decide)).trans e1, aL_fr wp.1 (fun u => ?_) (fun h5 u => ?_) e2, e3⟩
      · obtain ⟨mc, r1, _⟩ := e2
        rw [u, hp] at r1; cases r1
      · obtain ⟨mc, _, _, _, r3⟩ := e2
        rcases r3 with ⟨r3, _⟩ | ⟨f0, r3, _⟩
        · exact h5 r3
        · rw [u, hp] at r3; cases r3
  · obtain ⟨X, x1, x3, x4⟩ := j6 (bk y)
    have len := wp.2.1
    refine ⟨X, ?_, chn_keep ks X (fun a ha => by rw [wA_get, if_neg (by omega)]) x3, fun l hl => ?_⟩
    · have a := onR_A (i := 55) (j := n) (y := x2) x1
      rw [if_pos rfl] at a
      refine ⟨fun r h1 h2 => (a.1 r h1 h2).trans ?_, a.2⟩
      by_cases r55 : r = 55
      · subst r55
        rw [upd_eq]
        show x2 = RR c (upd R 55 x2) X ks.length 55
        unfold RR
        rw [if_neg (by decide), if_neg (fun u => absurd u.2 (by decide)), upd_eq]
      · rw [upd_ne _ _ r55]
        unfold RR
        rw [upd_ne _ _ r55]
    · rw [fo 11 (by decide)] at hl
      have K := x4 l hl
      rw [len]
      refine ⟨fun a ha => ?_, K.2⟩
      obtain ⟨q0, q1, q2, q3, q4, q5⟩ := K.1 a ha
      have rg := NR_rg _ _ _ _ _ _ _ _ q0.1
      refine ⟨⟨NR_lk q0.1 wp hp (by omega) (sA_A (by omega)) (yA_A (by omega)), ?_⟩, q1, q2, q3, q4, q5⟩
      rw [wA_get, if_neg (by omega)]
      exact q0.2
/-- what both have of a block from here -/
def BLS (L : Nat) (xs : Nat → Int32) (cx : Nat → Nat) (F : Nat → Nat → Int32) (N : Nat → Int64) (q : List Value) (A : Nat) (R : Nat → Int32) (J : Int64) (fp : Nat → Option Value) (p n : Nat) (h0 : rm_H) (s0 : rS) (g0 : Nat → Nat) (t0 : List Nat) (rc : Option dR) (rr : Option rA) : Prop := ∃ h' s' g' ts' ks cap x xr, rc = some (some (.ref p), h') ∧ rr = some (some (.int (Int32.ofNat n)), s') ∧ OPA cx F N q p n 0 (8 * ks.length) (4 * cap) h0 s0 g0 t0 h' s' g' ts' ∧ g' 6 ≤ A ∧ AJ L xs (2, A / 20 + 1) cx F N q false (upd R 55 xr) J (fp3 fp x) p n h0 g0 h' s' g' ts' ks cap ∧ (SY cx F N q h' s' g' ts' → x = xr ∧ ks.length ≤ 2000)
theorem x_ble (hT : TF cx F N) (hA : A ≤ 2000) (hn : n < g0 4) (hp0 : p < 21 + h0.length) (hbl : bl cx (21 + h0.length)) (hR : R 44 ≠ 8 ∧ R 44 ≠ 20) (a : OPA cx F N q p n 0 (8 * ks.length) (4 * cap) h0 s0 g0 t0 h s g ts) (j : AJ L xs (2, A / 20 + 1) cx F N q false R J fp p n h0 g0 h s g ts ks cap) (hks : SY cx F N q h s g ts → ks.length ≤ 2000) (sl : g 6 ≤ A) : BLS L xs cx F N q A R J fp p n h0 s0 g0 t0 (b119_87 L xs zf (dM L xs zf w (ke + 12)) w (some (cx 7)) (some p) h) (s317_116 (rM w (kr + 6)) w (Int32.ofNat n) s) := by
  have nl := n_lt hT a.1
  have ag := a.2.2.2.2.2.1
  have rtk : rTk F N s ∧ (SY cx F N q h s g ts → cpl cx F (g 0) = F 5 (g 0)) := by
    rcases a.1 with z | z
    · exact ⟨z.1.2.2.1, fun _ => ((hT.2.2 (g 0) z.1.2.2.2.2.2.1).1.1).symm⟩
    · exact ⟨z.2.2.1, fun y => (sy_no y z).elim⟩
  have pv : ∃ v, pC h cx F v ∧ (SY cx F N q h s g ts → v 7 = cpl cx F (g 0)) := by
    rcases a.1 with z | z
    · exact ⟨_, z.1.1, fun _ => rfl⟩
    · obtain ⟨⟨v, u, _⟩, _⟩ := id z
      exact ⟨v, u, fun y => (sy_no y z).elim⟩
  obtain ⟨v, p0, v7⟩ := pv
  obtain ⟨fs, ep⟩ := nW_c j.1
  obtain ⟨h1, d1, d2, d3, d4, d5⟩ := nW_w (j := 3) (v := .int (v 7)) j.1 (by decide) (by decide) (fun y => absurd y (by decide)) rfl
  obtain ⟨o1, o2⟩ := OPA_pw (r := 55) (x := s.2.1 41 (g 0)) a d4 ep (by omega) (by decide) (fun u => by
    obtain ⟨X, x1, _⟩ := j.2.2.2.2.2 u
    have k := x1.1 44 (by omega) (by omega)
    unfold RR at k
    rw [if_neg (by decide), if_neg (fun z => absurd z.1 (by decide))] at k
    rw [k]
    exact hR)
  have j1 := AJ_pw (x2 := s.2.1 41 (g 0)) j d4 ep d5 d2 d3 hp0 hn o2
  obtain ⟨v1, p1⟩ := op_pC o1.1
  obtain ⟨h', s', g', e1, e2, op, n3, w3, s3e, y1, y2, y3, y4, y5, y6⟩ := op_need (L := L) (xs := xs) (zf := zf) (w := w) (k := ke + 8) (k2 := kr + 3) hT P125 o1.1
  refine ⟨h', s', g', ts, ks, cap, v 7, s.2.1 41 (g 0), ?_, ?_, OPA_op o1 op, by omega, AJ_keep op o1.1 hbl (by omega) j1, fun u => ?_⟩
  · unfold b119_87
    refine bse (c_in p0) (bse (c_I p0 7 (by omega)) (bse d1 ?_))
    exact bse (a := h') (by rw [c_pv p1, e1]; rfl) rfl
  · unfold s317_116
    refine bse (aT (by omega) nl.2.2.2 nl.1) (bse (nWt (by omega) (by omega)) ?_)
    exact bse (a := s') (by rw [e2]; rfl) rfl
  · have y := o2 (op.2.1 u).1
    exact ⟨by rw [v7 y, rtk.1.2.1, rtk.2 y], hks y⟩
/-- the reference takes a statement -/
theorem r_bst {j M : Nat} (hm : m < 4400) (hn : n < 4400) (hj : j < 4400) (h57 : s.1 57 = 0) (q10 : rM w k 310 [.ref 36, .int 125] s = some (some (.int 0), s)) (e1 : rM w k 318 [.ref 36, .int i1] s = some (some (.int (Int32.ofNat m)), s1)) : s317_56 (rM w k) w (M + 1) i1 (Int32.ofNat n) (Int32.ofNat j) s = s317_56 (rM w k) w M i1 (Int32.ofNat n) (Int32.ofNat m) (lkP s1 false n m j) := by
  rw [s317_56, h57, if_neg (by decide), q10]
  show ((rM w k 318 [.ref 36, .int i1] s).bind rxI).bind _ = _
  rw [e1]
  show (rs_sI s1 49 (Int32.ofNat m) (Int32.ofNat n)).bind _ = _
  rw [nWt (q := 49) (by omega) hm]
  by_cases j0 : j = 0
  · subst j0
    show (rs_sI (rs_wA s1 49 m (Int32.ofNat n)) 45 (Int32.ofNat n) (Int32.ofNat m)).bind _ = _
    rw [nWt (q := 45) (by omega) hn]
    rfl
  · have ne : mx_f1 .ne (Int32.ofNat j) = true := by
      rw [f1_ne]
      apply decide_eq_true
      intro u
      have u2 := congrArg Int32.toInt u
      rw [of_int (by omega), i0] at u2
      omega
    have e3 : lkP s1 false n m j = rs_wA (rs_wA s1 49 m (Int32.ofNat n)) 48 j (Int32.ofNat m) := by
      unfold lkP
      rw [if_neg (show ¬ false = true by decide), if_neg j0, if_neg j0]
    show (if mx_f1 .ne (Int32.ofNat j) = true then _ else _) = _
    rw [if_pos ne, nWt (q := 48) (by omega) hj, e3]
    rfl
/-- the loop -/
theorem x_bll (hT : TF cx F N) (hA : 2 ≤ A ∧ A ≤ 2000) (ST : ∀ (h : rm_H) (s : rS) (g : Nat → Nat) (ts : List Nat), SY cx F N q h s g ts → STR L xs cx F N q A h s g ts (dM L xs zf w (ke + 12) 121 [.ref (cx 7), .ref (cx 14), .int i1] h) (rM w (kr + 6) 318 [.ref 36, .int i1] s)) (hn : n < g0 4) (hg0 : 1 ≤ g0 4) (hp0 : p < 21 + h0.length) (hbl : bl cx (21 + h0.length)) (hR : R 44 ≠ 8 ∧ R 44 ≠ 20) : ∀ (K : Nat) (ks : List (Nat → Nat)) (cap : Nat) (h : rm_H) (s : rS) (g : Nat → Nat) (ts : List Nat) (M M2 : Nat), cx 16 - g 0 ≤ K → K + 1 ≤ M → K + 1 ≤ M2 → OPA cx F N q p n 0 (8 * ks.length) (4 * cap) h0 s0 g0 t0 h s g ts → SY cx F N q h s g ts → ks.length + 1 ≤ g 0 → AJ L xs (2, A / 20 + 1) cx F N q false R J fp p n h0 g0 h s g ts ks cap → BLS L xs cx F N q A R J fp p n h0 s0 g0 t0 (b119_40 L xs zf (dM L xs zf w (ke + 12)) w (M + 1) (some (cx 7)) (some (cx 14)) i1 (some p) (Int32.ofNat ks.length) h) (s317_56 (rM w (kr + 6)) w (M2 + 1) i1 (Int32.ofNat n) (Int32.ofNat (lst ks)) s) := by
  intro K
  induction K using Nat.strongRecOn with
  | ind K ih =>
    intro ks cap h s g ts M M2 hK hM hM2 a z hl j
    obtain ⟨⟨p0, ⟨a1, a2, a3, a4⟩, rt, ch, ⟨c1, c2, c3, c4⟩, b1, b2, b3, b4⟩, g6⟩ := id z
    have hT1 := hT.1
    obtain ⟨⟨f5, _, tr⟩, _⟩ := hT.2.2 (g 0) b1
    have ag := a.2.2.2.2.2.1
    have al := a.2.2.1.1
    have lt2 : ¬ mx_f2 .ge (Int32.ofNat ks.length) 2000 = true := by
      rw [f2_ge, of_int (by omega), show (2000 : Int32).toInt = 2000 from by decide]
      simp
      omega
    have q10 := q310 (w := w) (k := kr + 5) 125 a1 c1 (by omega)
    rw [rt.1, rt.2.2.1] at q10
    by_cases t6 : ctk cx F (g 0) = 6
    · have ce : b119_40 L xs zf (dM L xs zf w (ke + 12)) w (M + 1) (some (cx 7)) (some (cx 14)) i1 (some p) (Int32.ofNat ks.length) h = b119_87 L xs zf (dM L xs zf w (ke + 12)) w (some (cx 7)) (some p) h := by
        rw [b119_40, if_neg lt2, c_in p0]
        show (dgI L xs h 6 [6] (some (cx 0))).bind _ = _
        rw [c_I p0 6 (by omega), vS_6, t6]
        rfl
      have re : s317_56 (rM w (kr + 6)) w (M2 + 1) i1 (Int32.ofNat n) (Int32.ofNat (lst ks)) s = s317_116 (rM w (kr + 6)) w (Int32.ofNat n) s := by
        rw [decide_eq_true ((sg_iff tr P125).mpr t6)] at q10
        rw [s317_56, a1, if_neg (by decide), q10]
        rfl
      rw [ce, re]
      exact x_ble hT (by omega) hn hp0 hbl hR a j (fun _ => by omega) (by omega)
    · obtain ⟨h1, s1, g1, ts1, x, m, ec, er, oc, sl, nx, xl, nl, nr⟩ := ST h s g ts z
      have op := oc.1
      have og := op.2.2.2.2.2.1
      have n1 := n_lt hT op.1
      have aa := OPA_oc a oc
      obtain ⟨h2, cap', d1, d2, d3, d4⟩ := AJ_add (L := L) (xs := xs) (zf := zf) (w := w) (k := ke + 5) (c1 := 0) (c2 := 8 * ks.length + 8) hn hg0 hp0 hbl (OPA_le aa (by omega) (by omega)) (Or.inl z) op ag.2 al j nx nl (by omega) (fun u => (nr u).2)
      have lks : (ks ++ [prt x m (g 4) (g1 4) (21 + h.length) (21 + h1.length)]).length = ks.length + 1 := by rw [List.length_append]; rfl
      have mm : lst (ks ++ [prt x m (g 4) (g1 4) (21 + h.length) (21 + h1.length)]) = m := lst_app _
      have lj : lst ks < 4400 := by
        rcases l_cc ks with e | ⟨ini, a0, e⟩
        · rw [e]
          show (0 : Nat) < 4400
          omega
        · rw [e, lst_app]
          have := j.2.2.2.2.1 a0 (by rw [e]; simp)
          omega
      have np1 := (nW_op (Or.inl z) op j.1).1
      obtain ⟨fs1, ep1, _⟩ := id np1
      have aa2 : OPA cx F N q p n 0 (8 * (ks ++ [prt x m (g 4) (g1 4) (21 + h.length) (21 + h1.length)]).length) (4 * cap') h0 s0 g0 t0 h2 (lkP s1 false n m (lst ks)) g1 ts1 := by
        rw [lks]
        exact OPA_le d2 (by omega) (by omega)
      obtain ⟨M', rfl⟩ : ∃ M', M = M' + 1 := ⟨M - 1, by omega⟩
      obtain ⟨M2', rfl⟩ : ∃ M2', M2 = M2' + 1 := ⟨M2 - 1, by omega⟩
      have ce : b119_40 L xs zf (dM L xs zf w (ke + 12)) w (M' + 1 + 1) (some (cx 7)) (some (cx 14)) i1 (some p) (Int32.ofNat ks.length) h = b119_40 L xs zf (dM L xs zf w (ke + 12)) w (M' + 1) (some (cx 7)) (some (cx 14)) i1 (some p) (Int32.ofNat (ks ++ [prt x m (g 4) (g1 4) (21 + h.length) (21 + h1.length)]).length) h2 := by
        rw [b119_40, if_neg lt2, c_in p0]
        show (dgI L xs h 6 [6] (some (cx 0))).bind _ = _
        rw [c_I p0 6 (by omega), vS_6]
        show (if mx_f2 .eq (ctk cx F (g 0)) 6 = true then _ else _) = _
        rw [if_neg (show ¬ mx_f2 .eq (ctk cx F (g 0)) 6 = true from fun u => t6 (of_decide_eq_true u))]
        show (dgI L xs h 8 [6] (some (cx 0))).bind _ = _
        rw [c_I p0 8 (by omega), vS_8]
        show ((dcV L xs (dM L xs zf w (ke + 12)) 121 [8] (some (cx 7)) [.ref (cx 14), .int i1] h).bind dxR).bind _ = _
        rw [c_pv p0, ec]
        show ((dcV L xs (dM L xs zf w (ke + 12)) 135 [12] (some p) [.ref x] h1).bind dxV).bind _ = _
        rw [hc_v ep1 (by decide), d1, lks, show Int32.ofNat (ks.length + 1) = Int32.ofNat ks.length + 1 from (of_add ks.length 1).symm]
        rfl
      have re : s317_56 (rM w (kr + 6)) w (M2' + 1 + 1) i1 (Int32.ofNat n) (Int32.ofNat (lst ks)) s = s317_56 (rM w (kr + 6)) w (M2' + 1) i1 (Int32.ofNat n) (Int32.ofNat (lst (ks ++ [prt x m (g 4) (g1 4) (21 + h.length) (21 + h1.length)]))) (lkP s1 false n m (lst ks)) := by
        rw [decide_eq_false (fun u => t6 ((sg_iff tr P125).mp u))] at q10
        rw [mm]
        exact r_bst (by omega) (by omega) lj a1 q10 er
      rw [ce, re]
      rcases d2.1 with y | y
      · have y1 := d4 y
        have v0 := (nr y1).1
        have b11 := y1.1.2.2.2.2.2.1
        exact ih (K - 1) (by omega) _ cap' h2 _ g1 ts1 M' M2' (by omega) (by omega) (by omega) aa2 y (by rw [lks]; omega) d3
      · obtain ⟨⟨v, p2, r⟩, h57, _⟩ := id y
        have ce2 : b119_40 L xs zf (dM L xs zf w (ke + 12)) w (M' + 1) (some (cx 7)) (some (cx 14)) i1 (some p) (Int32.ofNat (ks ++ [prt x m (g 4) (g1 4) (21 + h.length) (21 + h1.length)]).length) h2 = b119_87 L xs zf (dM L xs zf w (ke + 12)) w (some (cx 7)) (some p) h2 := by
          rw [b119_40]
          by_cases d : mx_f2 .ge (Int32.ofNat (ks ++ [prt x m (g 4) (g1 4) (21 + h.length) (21 + h1.length)]).length) 2000 = true
          · rw [if_pos d]
          · rw [if_neg d, c_in p2]
            show (dgI L xs h2 6 [6] (some (cx 0))).bind _ = _
            rw [c_I p2 6 (by omega), r.2.1]
            show (dgI L xs h2 8 [6] (some (cx 0))).bind _ = _
            rw [c_I p2 8 (by omega)]
            show (if mx_f2 .ne (v 8) (-1) = true then _ else _) = _
            rw [if_pos (by rw [f2_ne, r.1]; exact decide_eq_true r.2.2)]
        have re2 : s317_56 (rM w (kr + 6)) w (M2' + 1) i1 (Int32.ofNat n) (Int32.ofNat (lst (ks ++ [prt x m (g 4) (g1 4) (21 + h.length) (21 + h1.length)]))) (lkP s1 false n m (lst ks)) = s317_116 (rM w (kr + 6)) w (Int32.ofNat n) (lkP s1 false n m (lst ks)) := by
          rw [s317_56, h57, if_pos (by decide)]
        rw [ce2, re2]
        exact x_ble hT (by omega) hn hp0 hbl hR aa2 d3 (fun u => (sy_no u y).elim) (by omega)
/-- a block's node -/
theorem NR_14 {zz d lo hi pl ph : Nat} {es : List Nat} (rg : 1 ≤ lo ∧ lo ≤ n ∧ n < hi ∧ pl ≤ p ∧ p < ph) (f0 : fd h 12 p 0 = some (.int (Int32.ofNat 14))) (r44 : s.2.1 44 n = Int32.ofNat (wK 14)) (f1 : fd h 12 p 1 = some (.int (s.2.1 50 n))) (e1 : pts h pl ph p es) (e2 : sq s (NRq L xs h s (2, zz)) hi ph n p lo pl es (s.2.1 45 n)) (e4 : es.length ≤ 2000) (f3 : fd h 12 p 3 = some (.int (s.2.1 55 n))) (f12 : (fd h 12 p 12).isSome = true) : NR L xs h s (1, zz + 1) (d + 1) lo hi pl ph n p := by
  refine ⟨rg, 14, ⟨by omega, by omega, f0, r44, f1, Or.inr (Or.inl ⟨rfl, rfl⟩), fun z => by omega⟩, fun z => by omega, fun c hc => ?_, fun z => by omega, fun z => by omega, fun _ => ⟨es, e1, e2, e4, f3⟩, fun z => by omega, fun z => by omega, fun z => by omega, fun z => by omega, fun z => by omega, fun z => by omega, fun z => by omega, fun z => by omega, f12⟩
  simp [kids] at hc
/-- a block -/
theorem x_blk (hT : TF cx F N) (hw : 2100 ≤ w) (hA : 2 ≤ A ∧ A ≤ 2000) (ST : ∀ (h : rm_H) (s : rS) (g : Nat → Nat) (ts : List Nat), SY cx F N q h s g ts → STR L xs cx F N q A h s g ts (dM L xs zf w (ke + 12) 121 [.ref (cx 7), .ref (cx 14), .int i1] h) (rM w (kr + 6) 318 [.ref 36, .int i1] s)) (z : SY cx F N q h s g ts ∨ FLT cx F N q h s g ts) : EXR 1 L xs cx F N q (A + 20) h s g ts (dM L xs zf w (ke + 13) 119 [.ref (cx 7), .ref (cx 14), .int i1] h) (rM w (kr + 7) 317 [.ref 36, .int i1] s) := by
  rcases z with z | z
  · by_cases hd : mx_f2 .le i1 24 = true ∧ ctk cx F (g 0) = 5
    · obtain ⟨d, t5⟩ := hd
      obtain ⟨h2, e1, p1, sy2, oc2, on2, cp2, l2⟩ := SY_nb (L := L) (xs := xs) (zf := zf) (w := w) (k := ke + 8) hT z t5
      have hT1 := hT.1
      have hlt := w_pass hT z 5 t5 (by decide) (by decide)
      have f5 := (hT.2.2 (g 0) z.1.2.2.2.2.2.1).1.1
      have nl := n_lt hT (Or.inl z)
      have q0 : gu (gu g 0 (g 0 + 1)) 4 (g 4 + 1) 0 = g 0 + 1 := rfl
      have q4 : gu (gu g 0 (g 0 + 1)) 4 (g 4 + 1) 4 = g 4 + 1 := rfl
      have np2 : nW h2 (21 + h.length) := nW_of (o := none) cp2 rfl rfl rfl
      have j0 : AJ L xs (2, A / 20 + 1) cx F N q false (fun r => ndV r 30 (F 5 (g 0))) 0 (fun j => fd h2 12 (21 + h.length) j) (21 + h.length) (g 4) h2 (gu (gu g 0 (g 0 + 1)) 4 (g 4 + 1)) h2 (blN s (g 4) (g 0)) (gu (gu g 0 (g 0 + 1)) 4 (g 4 + 1)) ts [] 0 := by
        refine ⟨np2, fun _ _ => rfl, Or.inl ⟨by rw [fd_of cp2]; rfl, rfl, rfl⟩, fun a ha => (List.not_mem_nil ha).elim, fun a ha => (List.not_mem_nil ha).elim, fun _ => ⟨0, ⟨fun r h1 h2 => (on2.1 r h1 h2).trans ?_, on2.2⟩, rfl, fun l hl => KS_nil⟩⟩
        unfold RR
        by_cases r45 : r = 45
        · rw [if_pos r45, r45]; rfl
        · rw [if_neg r45, if_neg (fun u => absurd u.1 (by decide))]
      obtain ⟨w', rfl⟩ : ∃ w', w = w' + 1 := ⟨w - 1, by omega⟩
      obtain ⟨h9, s9, g9, ts9, ks, cap, x, xr, ec, er, oa, sl, j9, sf⟩ := x_bll (A := A) (R := fun r => ndV r 30 (F 5 (g 0))) (J := 0) (fp := fun j => fd h2 12 (21 + h.length) j) (p := 21 + h.length) (n := g 4) (h0 := h2) (g0 := gu (gu g 0 (g 0 + 1)) 4 (g 4 + 1)) (t0 := ts) hT hA ST (by omega) (by omega) (by omega) (sy_cx (Or.inl sy2)) ⟨by show (30 : Int32) ≠ 8; decide, by show (30 : Int32) ≠ 20; decide⟩ 2000 [] 0 h2 (blN s (g 4) (g 0)) (gu (gu g 0 (g 0 + 1)) 4 (g 4 + 1)) ts w' w' (by omega) (by omega) (by omega) (OPA_refl (Or.inl sy2)) sy2 (by show 0 + 1 ≤ g 0 + 1; omega) j0
      have o9 := oa.2.2.2.2.2.1
      have len9 := oa.2.2.1.1
      have cpk := pW_cap j9.2.2.1
      rw [List.length_map] at cpk
      have c40 : 4 * cap ≤ 8 * ks.length + 67 := by
        rcases cpk with ⟨_, e⟩ | e | ⟨_, e⟩ <;> omega
      refine ⟨h9, s9, g9, ts9, 21 + h.length, g 4, ?_, ?_, OPC_OPA2 oc2 oa (Nat.le_refl _) (Nat.le_refl _) c40, Or.inl (by omega), j9.1, Nat.le_refl _, by omega, fun u => ?_⟩
      · refine c_119 (k := ke + 11) z d p1 e1 ?_
        exact ec
      · refine r_317 (k2 := kr + 4) hT z d t5 ?_
        exact er
      · obtain ⟨exx, lk⟩ := sf u
        obtain ⟨X, x1, x2, x3⟩ := j9.2.2.2.2.2 u
        refine ⟨by omega, by rw [x1.1 48 (by omega) (by omega)]; rfl, ?_⟩
        obtain ⟨dd, hdd⟩ : ∃ dd, g9 4 - g 4 = dd + 1 := ⟨g9 4 - g 4 - 1, by omega⟩
        rw [hdd, show (A + 20) / 20 = A / 20 + 1 from by omega]
        refine NR_14 (es := ks.map (fun a => a 0)) ⟨nl.2.2.1, Nat.le_refl _, by omega, Nat.le_refl _, by omega⟩ ?_ ?_ ?_ (pW_pts j9.2.2.1 (by omega) (Nat.le_refl _)) ?_ ?_ ?_ (by rw [j9.2.1 12 (by decide)]; show (fd h2 12 (21 + h.length) 12).isSome = true; rw [fd_of cp2]; rfl)
        · rw [j9.2.1 0 (by decide)]
          show fd h2 12 (21 + h.length) 0 = _
          rw [fd_of cp2]; rfl
        · rw [x1.1 44 (by omega) (by omega)]; rfl
        · rw [j9.2.1 1 (by decide), x1.1 50 (by omega) (by omega)]
          show fd h2 12 (21 + h.length) 1 = some (.int (F 5 (g 0)))
          rw [fd_of cp2, f5]; rfl
        · rw [x1.1 45 (by omega) (by omega)]
          exact AJ_sq j9.2.2.1 x2 x3 (by omega) (Nat.le_refl _) (by omega) (Nat.le_refl _) (by omega) (by omega)
        · rw [List.length_map]; exact lk
        · rw [j9.2.1 3 (by decide), x1.1 55 (by omega) (by omega)]
          show some (Value.int x) = some (Value.int xr)
          rw [exx]
    · have := x_bnone (L := L) (xs := xs) (zf := zf) (w := w) (A := A + 20) (k := ke + 8) (k2 := kr + 4) hT (by omega) z hd
      exact this
  · exact x_bflt (L := L) (xs := xs) (zf := zf) (w := w) (A := A + 20) (k := ke + 8) (k2 := kr + 4) hT (by omega) z
end BK
