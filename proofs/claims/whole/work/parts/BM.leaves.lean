/-! NODES BY THEIR FIRST TOKEN: a number's value, new Nodes of the class, new nodes of the reference. -/
section LV
variable {L : Nat} {xs : Nat → Int32} {zf : Value} {w k i : Nat} {cx : Nat → Nat} {F : Nat → Nat → Int32} {N : Nat → Int64} {q : List Value} {h h' h1 h2 : rm_H} {s s' s1 s2 : rS} {g g' g1 g2 : Nat → Nat} {ts ts' ts1 ts2 : List Nat} {v : Nat → Int32}
theorem dig_eq (v x : Int32) : (v * 10) + (x - 48) = (10 * v + x) - 48 := by
  rw [Int32.mul_comm v 10, Int32.sub_eq_add_neg, Int32.sub_eq_add_neg, Int32.add_assoc]
theorem c_num {b e : Nat} (hP : pC h cx F v) (h5 : v 5 = Int32.ofNat i) (hi : (i : Int) < (v 4).toInt) (hb : F 2 i = Int32.ofNat b) (he : F 3 i = Int32.ofNat e) (hbe : b ≤ e) (hen : e ≤ cx 6) (hw : 2001 ≤ w) : dM L xs zf w (k + 5) 127 [.ref (cx 0)] h = some (some (.int (rcV (fun j => F 0 j &&& 255) false (e - b) b 0)), h) := by
  have hn := pC_n hP
  have hv := hP.2.2
  have i5 : (Int32.ofNat i).toInt = (i : Int) := of_int (by omega)
  have hP1 := hP.1
  obtain ⟨⟨p1, p2, p3, p4, p5, p6⟩, nd, _, e1, ⟨x, y, e2⟩, e3, e4, e5, e6⟩ := hP1
  have hS : sT L xs h (cx 1) (cx 6) (fun i => F 0 i &&& 255) := ⟨7, cx 2, _, F 0, by decide, hc_look (hc_of p2 e2), rfl, rfl, hc_look (hc_of p3 e3), by omega, fun _ _ => rfl⟩
  have g5 := c_I (L := L) (xs := xs) hP 5 (by omega)
  rw [h5] at g5
  have ra := rp_A (L := L) (xs := xs) hP.1 (Int32.ofNat i) (by rw [i5]; omega) (by rw [i5]; omega)
  rw [of_clamp (by omega), hb, he] at ra
  have loop : ∀ (f j M : Nat) (u : Int32), j + f = e → f ≤ M → b127_30 L xs zf (dM L xs zf w (k + 4)) w (M + 1) (some (cx 0)) u (Int32.ofNat j) h = some (some (.int (rcV (fun j => F 0 j &&& 255) false f j u)), h) := by
    intro f
    induction f with
    | zero =>
      intro j M u hj _
      rw [b127_30]
      refine bse (rp_R hP.1).2.2 (bse g5 (bse ra.2.2 (ift (by rw [f2_ge, of_int (by omega), of_int (by omega)]; simp; omega) rfl)))
    | succ f ih =>
      intro j M u hj hM
      obtain ⟨M', rfl⟩ : ∃ M', M = M' + 1 := ⟨M - 1, by omega⟩
      rw [b127_30]
      refine bse (rp_R hP.1).2.2 (bse g5 (bse ra.2.2 (ifn (by rw [f2_ge, of_int (by omega), of_int (by omega)]; simp; omega) ?_)))
      refine bse (rd_t (rP_rD hP.1)) (bse (st_c hS j (by omega)) ?_)
      have := ih (j + 1) M' ((10 * u + (F 0 j &&& 255)) - 48) (by omega) (by omega)
      rw [rcV, if_neg (by decide), ← this]
      show b127_30 L xs zf (dM L xs zf w (k + 4)) w (M' + 1) (some (cx 0)) ((u * 10) + ((F 0 j &&& 255) - 48)) (Int32.ofNat j + 1) h = _
      rw [dig_eq, show Int32.ofNat j + 1 = Int32.ofNat (j + 1) from of_add j 1]
  obtain ⟨w', rfl⟩ : ∃ w', w = w' + 1 := ⟨w - 1, by omega⟩
  rw [e127]
  show b127_0 L xs zf (dM L xs zf (w' + 1) (k + 4)) (w' + 1) (some (cx 0)) h = _
  unfold b127_0
  refine bse g5 (ifn (by rw [f1_lt, i5]; simp) ?_)
  refine bse g5 (bse (c_I hP 4 (by omega)) (ifn (by rw [f2_ge, i5]; simp; omega) ?_))
  refine bse (rp_R hP.1).2.1 (bse g5 (bse ra.2.1 ?_))
  exact loop (e - b) b w' 0 (by omega) (by omega)
/-- a new Node at the reader's place -/
theorem c_mk (p : pC h cx F v) (W : Int32) {D : Nat → List Value → rm_H → Option dR} {f : rm_H → Option dR} {r : dR} (hD : D 120 [.ref (21 + h.length), .int W, .int (v 7)] (h ++ [.inr (12, ah_DV 12)]) = some (none, h ++ [nd0 W (v 7)])) (hr : f (h ++ [nd0 W (v 7)]) = some r) : ((some (h ++ [.inr (12, ah_DV 12)])).bind fun h1 => (dgR L xs h1 0 [8] (some (cx 7))).bind fun p3 => (dgI L xs h1 7 [6] p3).bind fun x5 => ((dcN D 120 (some (21 + List.length h)) [.int W, .int x5] h1).bind dxV).bind f) = some r := by
  have p1 : pC (h ++ [.inr (12, ah_DV 12)]) cx F v := pC_ap p
  refine bse rfl (bse (c_in p1) (bse (c_I p1 7 (by omega)) (bse (a := h ++ [nd0 W (v 7)]) ?_ hr)))
  show (D 120 [.ref (21 + h.length), .int W, .int (v 7)] (h ++ [.inr (12, ah_DV 12)])).bind dxV = _
  rw [hD]
  rfl
/-- a Node, and the token is passed -/
theorem c_128 (hT : TF cx F N) (p : pC h cx F (vS cx F i)) (hlt : i < cx 16) (W : Int32) : ∃ h', dM L xs zf w (k + 4) 128 [.ref (cx 7), .int W] h = some (some (.ref (21 + h.length)), h') ∧ pC h' cx F (vS cx F (i + 1)) ∧ hc h' (21 + h.length) = some (nd0 W (cpl cx F i)) ∧ st1 (cx 0) (h ++ [nd0 W (cpl cx F i)]) h' := by
  have p1 : pC (h ++ [nd0 W (cpl cx F i)]) cx F (vS cx F i) := pC_ap p
  obtain ⟨h1, a1, a2, a3⟩ := y_adv (L := L) (xs := xs) (zf := zf) (w := w) (k := k) hT hlt p1
  have hne : 21 + h.length ≠ cx 0 := by have := hc_lt (pC_r p); omega
  refine ⟨h1, ?_, a2, st1_old a3 (hc_new _) hne, a3⟩
  rw [e128]
  show b128_0 L xs zf (dM L xs zf w (k + 3)) w (some (cx 7)) W h = _
  unfold b128_0
  refine c_mk p W (nd_new (k := k + 2) W (vS cx F i 7)) ?_
  rw [vS_7]
  exact bse (c_in p1) (bse (a := h1) (by rw [c_rv p1, a1]; rfl) rfl)
/-- a NAME -/
theorem c_129 (hT : TF cx F N) (p : pC h cx F (vS cx F i)) (hi : i ≤ cx 16) (t : ctk cx F i = 2) : ∃ h' nm, dM L xs zf w (k + 9) 129 [.ref (cx 7)] h = some (some (.ref (21 + h.length)), h') ∧ i < cx 16 ∧ pC h' cx F (vS cx F (i + 1)) ∧ nS L xs h' nm (N i) ∧ hc h' (21 + h.length) = some (.inr (12, [.int 4, .int (cpl cx F i), .ref nm, .int (cpl cx F i), .int 0, .null, .null, .null, .null, .null, .null, .null, .int 0])) ∧ fr (fun y => y = cx 0) h h' ∧ (uA h → uA h') ∧ (h'.length ≤ h.length + 3 ∧ nD h h') ∧ zh h' ≤ zh h + 25 := by
  have p1 : pC (h ++ [nd0 4 (cpl cx F i)]) cx F (vS cx F i) := pC_ap p
  obtain ⟨nm, h1, a1, a2, a3, a4, a5, a6, a7, a8⟩ := y_twT (L := L) (xs := xs) (zf := zf) (w := w) (k := k) hT hi p1 2 t (Or.inl rfl)
  have hne : 21 + h.length ≠ cx 0 := by have := hc_lt (pC_r p); omega
  have hd : hc h1 (21 + h.length) = some (nd0 4 (cpl cx F i)) := fr_old a5 (hc_new _) hne
  obtain ⟨h2, b1, b2, b3⟩ := pF_ex (j := 2) (cis := [12]) (v := .ref nm) (u := .ref 9) hd rfl (by decide) rfl (by decide)
  have l1 : (h ++ [nd0 4 (cpl cx F i)]).length = h.length + 1 := by rw [List.length_append]; rfl
  have y1 := zh_nd (h := h) 4 (cpl cx F i)
  have l2 := b3.2.1
  have y2 := b3.2.2
  refine ⟨h2, nm, ?_, a2, pC_w hd (by decide) b3 a3, nS_fr b3.1 a4, b2, ?_, fun u => uA_st hd (by decide) b3 (a6 (uA_ap (Or.inl (nd0_5 _ _)) u)), ⟨by omega, nD_st (nD_trans (nD_ap (fun _ z => by cases z)) a5 a7.2) b3⟩, by omega⟩
  · rw [e129]
    show b129_0 L xs zf (dM L xs zf w (k + 8)) w (some (cx 7)) h = _
    unfold b129_0
    refine c_mk p 4 (nd_new (k := k + 7) 4 (vS cx F i 7)) ?_
    rw [vS_7]
    exact bse (a := (some nm, h1)) (by rw [c_pv p1, a1]; rfl) (bse b1 rfl)
  · exact fr_trans (fr_trans (fr_app _ _) a5 (fun _ _ u => u)) b3.1 (fun y hy u => by omega)
/-- a NUMBER -/
theorem c_126 (hT : TF cx F N) (p : pC h cx F (vS cx F i)) (hi : i ≤ cx 16) (t : ctk cx F i = 4) (hw : 2001 ≤ w) : ∃ h', dM L xs zf w (k + 6) 126 [.ref (cx 7)] h = some (some (.ref (21 + h.length)), h') ∧ i < cx 16 ∧ pC h' cx F (vS cx F (i + 1)) ∧ hc h' (21 + h.length) = some (.inr (12, [.int 1, .int (cpl cx F i), .ref 9, .int (cpl cx F i), .int (F 6 i), .null, .null, .null, .null, .null, .null, .null, .int 0])) ∧ fr (fun y => y = cx 0) h h' ∧ (uA h → uA h') ∧ h'.length = h.length + 1 ∧ zh h' = zh h + 13 := by
  have hlt : i < cx 16 := tk_lt hT hi (by rw [t]; decide) (by rw [t]; decide)
  obtain ⟨⟨t1, t2, t3⟩, tb, tt⟩ := id hT
  obtain ⟨b, e, e1, e2, e3, e4, e5⟩ := (tt i hi).2.2.2 t
  have p1 : pC (h ++ [nd0 1 (cpl cx F i)]) cx F (vS cx F i) := pC_ap p
  have n1 := c_num (L := L) (xs := xs) (zf := zf) (w := w) (k := k) p1 vS_5 (by rw [vS_4, of_int (by omega)]; omega) e1 e2 e3 e4 hw
  rw [← e5] at n1
  have hd : hc (h ++ [nd0 1 (cpl cx F i)]) (21 + h.length) = some (nd0 1 (cpl cx F i)) := hc_new _
  obtain ⟨h2, b1, b2, b3⟩ := pF_ex (j := 4) (cis := [12]) (v := .int (F 6 i)) (u := .int 0) hd rfl (by decide) rfl (by decide)
  have p2 := pC_w hd (by decide) b3 p1
  obtain ⟨h3, d1, d2, d3⟩ := y_adv (L := L) (xs := xs) (zf := zf) (w := w) (k := k + 2) hT hlt p2
  have hne : 21 + h.length ≠ cx 0 := by have := hc_lt (pC_r p); omega
  have l1 : (h ++ [nd0 1 (cpl cx F i)]).length = h.length + 1 := by rw [List.length_append]; rfl
  refine ⟨h3, ?_, hlt, d2, st1_old d3 b2 hne, ?_, fun u => uA_st (pC_r p2) (by decide) d3 (uA_st hd (by decide) b3 (uA_ap (Or.inl (nd0_5 _ _)) u)), by rw [d3.2.1, b3.2.1, l1], by rw [d3.2.2, b3.2.2, zh_nd]⟩
  · rw [e126]
    show b126_0 L xs zf (dM L xs zf w (k + 5)) w (some (cx 7)) h = _
    unfold b126_0
    refine c_mk p 1 (nd_new (k := k + 4) 1 (vS cx F i 7)) ?_
    rw [vS_7]
    refine bse (c_in p1) (bse (a := (F 6 i, h ++ [nd0 1 (cpl cx F i)])) (by rw [c_rv p1, n1]; rfl) (bse b1 ?_))
    exact bse (c_in p2) (bse (a := h3) (by rw [c_rv p2, d1]; rfl) rfl)
  · exact fr_trans (fr_trans (fr_app _ _) b3.1 (fun y hy u => by omega)) d3.1 (fun _ _ u => u)
/-- the reference has made node n at token i -/
def rnS (s : rS) (n i : Nat) (kk : Int32) : rS := nxS (rs_wB (rs_wA (rs_w (ndS s n kk (s.2.1 41 i)) 24 (s.1 24 + 1)) 54 n (s.2.1 42 i)) 56 n (s.2.2 43 i)) i
/-- the rest of a primary -/
def s322_k (E : rE) (w : Nat) (i1 kk x2 : Int32) (s26 : rS) : Option rA :=
    if mx_f2 .ne kk 5 = true then
      if mx_f2 .ne kk 6 = true then
        if mx_f2 .ne kk 7 = true then
          if mx_f2 .ne kk 9 = true then
            if mx_f2 .ne kk 8 = true then
              s322_548 E w x2 s26
            else
              (rs_sI s26 54 x2 (-1)).bind fun s36 =>
              (rs_aI s36 41 (s36.1 56)).bind fun x41 =>
              (rs_sI s36 55 x2 x41).bind fun s43 =>
              ((E 313 [.ref 36] s43).bind rxI).bind fun x48 =>
              if mx_f1 .eq x48.1 = true then
                s322_506 E w i1 x2 x48.2
              else
                (rs_aI x48.2 42 (x48.2.1 56)).bind fun x54 =>
                (rs_sI x48.2 54 x2 (x54 - 18)).bind fun s56 =>
                (rs_pI s56 56 ((s56.1 56) + 1)).bind fun s61 =>
                s322_506 E w i1 x2 s61
          else
            ((E 317 [.ref 36, .int (i1 + 1)] s26).bind rxI).bind fun x66 =>
            ((E 323 [.ref 36, .int x2, .int x66.1] x66.2).bind rxI).bind fun x71 =>
            (rs_sI x71.2 45 x2 x71.1).bind fun s76 =>
            s322_548 E w x2 s76
        else
          ((E 308 [.ref 36, .int 40] s26).bind rxV).bind fun s81 =>
          ((E 320 [.ref 36, .int (i1 + 1)] s81).bind rxI).bind fun x86 =>
          ((E 323 [.ref 36, .int x2, .int x86.1] x86.2).bind rxI).bind fun x91 =>
          (rs_sI x91.2 45 x2 x91.1).bind fun s96 =>
          ((E 308 [.ref 36, .int 44] s96).bind rxV).bind fun s101 =>
          ((E 320 [.ref 36, .int (i1 + 1)] s101).bind rxI).bind fun x106 =>
          ((E 323 [.ref 36, .int x2, .int x106.1] x106.2).bind rxI).bind fun x111 =>
          (rs_sI x111.2 46 x2 x111.1).bind fun s116 =>
          ((E 308 [.ref 36, .int 41] s116).bind rxV).bind fun s121 =>
          s322_548 E w x2 s121
      else
        ((E 308 [.ref 36, .int 40] s26).bind rxV).bind fun s126 =>
        ((E 320 [.ref 36, .int (i1 + 1)] s126).bind rxI).bind fun x131 =>
        ((E 323 [.ref 36, .int x2, .int x131.1] x131.2).bind rxI).bind fun x136 =>
        (rs_sI x136.2 45 x2 x136.1).bind fun s141 =>
        ((E 308 [.ref 36, .int 41] s141).bind rxV).bind fun s146 =>
        s322_548 E w x2 s146
    else
      ((E 307 [.ref 36, .int 1] s26).bind rxI).bind fun x151 =>
      (rs_aJ x151.2 43 x151.1).bind fun y156 =>
      (rs_sJ x151.2 56 x2 y156).bind fun s158 =>
      (rs_aI s158 41 x151.1).bind fun x163 =>
      (rs_sI s158 51 x2 x163).bind fun s165 =>
      s322_548 E w x2 s165
theorem r_181 {n : Nat} {i1 kk : Int32} {r : rA} (hk : mx_f1 .ne kk = true) (ht : s.1 56 = Int32.ofNat i) (hl : i ≤ 2000) (hn : s.1 10 = Int32.ofNat n) (hn2 : n < 4400) (hr : s322_k (rM w (k + 1)) w i1 kk (Int32.ofNat n) (rnS s n i kk) = some r) : s322_181 (rM w (k + 1)) w i1 (s.2.1 41 i) kk s = some r := by
  unfold s322_181
  refine ift hk (bse (a := (Int32.ofNat n, ndS s n kk (s.2.1 41 i))) (by rw [q316 (k := k) kk (s.2.1 41 i) hn hn2]; rfl) ?_)
  refine bse (a := rs_w (ndS s n kk (s.2.1 41 i)) 24 (s.1 24 + 1)) rfl ?_
  refine bse (a := s.2.1 42 i) (aT (s := rs_w (ndS s n kk (s.2.1 41 i)) 24 (s.1 24 + 1)) (by omega) ht hl) ?_
  refine bse (nWt (by omega) hn2) ?_
  refine bse (a := s.2.2 43 i) ?_ ?_
  · show rs_aJ (rs_wA (rs_w (ndS s n kk (s.2.1 41 i)) 24 (s.1 24 + 1)) 54 n (s.2.1 42 i)) 43 (s.1 56) = _
    rw [ht]
    exact aTn (s := rs_wA (rs_w (ndS s n kk (s.2.1 41 i)) 24 (s.1 24 + 1)) 54 n (s.2.1 42 i)) hl
  refine bse (nWJ hn2) ?_
  exact bse (pI_nx (s := rs_wB (rs_wA (rs_w (ndS s n kk (s.2.1 41 i)) 24 (s.1 24 + 1)) 54 n (s.2.1 42 i)) 56 n (s.2.2 43 i)) ht) hr
/-- which node a token begins -/
def sel (so va : Int32) : Int32 := if so = 4 then 1 else if so = 1 then 4 else if so = 2 then (if va = 14 then 2 else if va = 15 then 3 else if va = 16 then 5 else if va = 12 then 6 else if va = 13 then 7 else if va = 2 then 8 else if va = 17 then 9 else 0) else 0
theorem q322 {i1 : Int32} {r : rA} (h0 : s.1 57 = 0) (ht : s.1 56 = Int32.ofNat i) (hl : i ≤ 2000) (hn : ¬ (s.2.1 40 i = 5 ∧ s.2.1 42 i = 40)) (hr : s322_181 (rM w (k + 2)) w i1 (s.2.1 41 i) (sel (s.2.1 40 i) (s.2.1 42 i)) s = some r) : rM w (k + 3) 322 [.ref 36, .int i1] s = some r := by
  have tail : ∀ s0 : Int32, (s.2.1 40 i = 2 → s0 = s.2.1 42 i) → (s.2.1 40 i ≠ 2 → s0 = -1) → s322_45 (rM w (k + 2)) w i1 (s.2.1 41 i) s0 s = some r := by
    intro s0 h2 h3
    unfold s322_45
    have q9 := q309 (w := w) (k := k) 40 h0 ht hl
    rw [decide_eq_false hn, if_neg hn] at q9
    refine bse (a := (rd_01 false, s)) (by rw [q9]; rfl) (ift (show mx_f1 .eq (rd_01 false) = true by decide) ?_)
    refine bse (aT (by omega) ht hl) ?_
    unfold sel at hr
    by_cases c4 : s.2.1 40 i = 4
    · rw [if_pos c4] at hr
      exact ifn (by rw [f2_ne]; simp [c4]) hr
    · rw [if_neg c4] at hr
      refine ift (by rw [f2_ne]; simp [c4]) (bse (aT (by omega) ht hl) ?_)
      by_cases c1 : s.2.1 40 i = 1
      · rw [if_pos c1] at hr
        exact ifn (by rw [f2_ne]; simp [c1]) hr
      · rw [if_neg c1] at hr
        refine ift (by rw [f2_ne]; simp [c1]) ?_
        by_cases c2 : s.2.1 40 i = 2
        · rw [if_pos c2] at hr
          rw [h2 c2]
          by_cases d1 : s.2.1 42 i = 14
          · rw [if_pos d1] at hr
            exact ifn (by rw [f2_ne]; simp [d1]) hr
          rw [if_neg d1] at hr
          refine ift (by rw [f2_ne]; simp [d1]) ?_
          by_cases d2 : s.2.1 42 i = 15
          · rw [if_pos d2] at hr
            exact ifn (by rw [f2_ne]; simp [d2]) hr
          rw [if_neg d2] at hr
          refine ift (by rw [f2_ne]; simp [d2]) ?_
          by_cases d3 : s.2.1 42 i = 16
          · rw [if_pos d3] at hr
            exact ifn (by rw [f2_ne]; simp [d3]) hr
          rw [if_neg d3] at hr
          refine ift (by rw [f2_ne]; simp [d3]) ?_
          by_cases d4 : s.2.1 42 i = 12
          · rw [if_pos d4] at hr
            exact ifn (by rw [f2_ne]; simp [d4]) hr
          rw [if_neg d4] at hr
          refine ift (by rw [f2_ne]; simp [d4]) ?_
          by_cases d5 : s.2.1 42 i = 13
          · rw [if_pos d5] at hr
            exact ifn (by rw [f2_ne]; simp [d5]) hr
          rw [if_neg d5] at hr
          refine ift (by rw [f2_ne]; simp [d5]) ?_
          by_cases d6 : s.2.1 42 i = 2
          · rw [if_pos d6] at hr
            exact ifn (by rw [f2_ne]; simp [d6]) hr
          rw [if_neg d6] at hr
          refine ift (by rw [f2_ne]; simp [d6]) ?_
          by_cases d7 : s.2.1 42 i = 17
          · rw [if_pos d7] at hr
            exact ifn (by rw [f2_ne]; simp [d7]) hr
          rw [if_neg d7] at hr
          exact ift (by rw [f2_ne]; simp [d7]) hr
        · rw [if_neg c2] at hr
          rw [h3 c2]
          exact ift (by decide) (ift (by decide) (ift (by decide) (ift (by decide) (ift (by decide) (ift (by decide) (ift (by decide) hr))))))
  rw [y322]
  show s322_0 (rM w (k + 2)) w i1 s = _
  unfold s322_0
  refine ift (le0 h0) (bse (aT (by omega) ht hl) (bse (aT (by omega) ht hl) ?_))
  by_cases c2 : s.2.1 40 i = 2
  · exact ifn (by rw [f2_ne]; simp [c2]) (bse (aT (by omega) ht hl) (tail _ (fun _ => rfl) (fun u => absurd c2 u)))
  · exact ift (by rw [f2_ne]; simp [c2]) (tail _ (fun u => absurd u c2) (fun _ => rfl))
end LV
