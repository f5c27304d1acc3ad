/-! START: each side. -/
/-- the World's numbers when a program starts -/
def stNm (i1 i2 : Int32) : Nat → Int32 := fun j => if j = 5 then i1 else if j = 6 then i2 else 0
/-- the reference's -/
def stR (s : rS) (i1 i2 : Int32) : rS := rs_w (rs_w (rs_w (rs_w (rs_w (rs_w (rs_w (rs_w (rs_w (rs_w (rs_w (rs_w (rs_w s 74 1) 78 i1) 79 i2) 75 0) 76 0) 77 0) 87 0) 80 0) 81 0) 82 0) 83 0) 84 0) 111 0
section JZS
variable {L : Nat} {xs : Nat → Int32} {zf : Value} {w k : Nat} {n : Nat} {sg : cS} {Z : Nat → Prop} {hB h h' : rm_H} {a b P K nf cl m M loc : Nat} {i1 i2 num kn en : Int32} {cd : Value} {s sB : rS} {kk : Nat} {em : Nat → Int64}
theorem RH_N {f : Nat → Int32} {cd' : Value} (q : RH cd n sg Z hB h) (h1 : hc h' 24 = some (wCel cd' (f, sg.2))) (s1 : st1 24 h h') : RH cd' n (f, sg.2) Z hB h' := by
  refine RH_w (x := 0) q (by omega) h1 s1 (fun _ _ => rfl) (fun y _ hy => ?_)
  unfold vcl
  by_cases c : y < 6
  · rw [if_pos c, if_pos c]
    have : y = 1 ∨ y = 2 ∨ y = 3 ∨ y = 4 ∨ y = 5 := by omega
    rcases this with rfl | rfl | rfl | rfl | rfl <;> rfl
  · rw [if_neg c, if_neg c]
    rfl
/-- the class: a world begins -/
theorem k_224 (pb : PBp hB Z P) (pk : ∃ vs, hc hB P = some (.inr (4, vs)) ∧ vs[6]? = some (.ref K)) (nP : ¬ Z P) (kb : KBk hB Z K kn nf (.ref M)) (mb : MB hB Z M num 0 loc en) (q : RH cd n sg Z hB h) (ao : aOk sg) (e5 : i1 = Int32.ofNat cl) (cl4 : cl ≤ 400) (room : nf + 1 ≤ cl) (hnf : nf ≤ 8) (hw : 2000 ≤ w) : ∃ (h' : rm_H) (n' : Nat) (sg0 : cS) (q0 : Nat) (g cf : Nat → Int32), dM L xs zf w (k + 5) 224 [.ref 24, .ref P, .int i1, .int i2] h = some (none, h') ∧ RH (.ref P) n' (sA3 (sA2 sg0 0 K 0) 0 0 0 g) Z hB h' ∧ (1 ≤ n' ∧ n ≤ n') ∧ ((0 < n ∧ n' = n ∧ sg0 = sA1 (stNm i1 i2, sg.2) 0 nf cf) ∨ (0 = n ∧ n' = n + 1 ∧ sg0 = sN (sA1 (stNm i1 i2, sg.2) 0 nf cf) n q0)) ∧ (cf 0 = kn ∧ (∀ j, 0 < j → j < 0 + nf + 1 → cf j = 0) ∧ ∀ j, j < 0 ∨ 0 + nf + 1 ≤ j → cf j = sg.2.1 0 j) ∧ (g 0 = num ∧ ∀ i, 0 < i → g i = sg0.2.2.2.1 0 10 i) ∧ cNt n sg h n' (sA3 (sA2 sg0 0 K 0) 0 0 0 g) h' := by
  have hW : hc h 24 = some (wCel cd sg) := RH_wd (x := 0) q (by decide)
  obtain ⟨h1, a1, a2, a3⟩ := c_216 (L := L) (xs := xs) (zf := zf) (w := w) (k := k + 3) hW
  obtain ⟨h2, b1, b2, b3⟩ := pF_ex (v := .ref P) (j := 7) (cis := [2]) a2 rfl (by decide) rfl (by decide)
  obtain ⟨h3, c1, c2, c3⟩ := pF_ex (v := .int i1) (j := 5) (cis := [2]) b2 rfl (by decide) rfl (by decide)
  obtain ⟨h4, d1, d2, d3⟩ := pF_ex (v := .int i2) (j := 6) (cis := [2]) c2 rfl (by decide) rfl (by decide)
  have s4 : st1 24 h h4 := st1_trans (st1_trans (st1_trans a3 b3) c3) d3
  have q4 : RH (.ref P) n (stNm i1 i2, sg.2) Z hB h4 := RH_N q d2 s4
  obtain ⟨vs, p1, p2⟩ := pk
  have K0 : K ≠ 0 := by
    obtain ⟨fs, _, _, _, z, _⟩ := kb
    have := hc_ge z
    omega
  have pK : ∀ {h : rm_H} {cd : Value} {n : Nat} {sg : cS}, RH cd n sg Z hB h → dgR L xs h 6 [4] (some P) = some (some K) := fun q => hc_gR (p := some K) (fr_old q.1 p1 nP) p2 rfl
  obtain ⟨v, h5, sg1, k1, k2, k3, k4, cc⟩ := k_cells (L := L) (xs := xs) (zf := zf) (w := w) (k := k + 1) pb kb q4 (mc := cl) (tk := 0) e5 cl4 rfl (Nat.zero_le _) hnf hw
  rcases cc with ⟨z1, _⟩ | ⟨z1, z2, cf, z3, z4, z5, z6⟩
  · omega
  subst z2 z3
  obtain ⟨h6, n', sg0, m1, m2, m3, m4⟩ := k_add (L := L) (xs := xs) (zf := zf) (w := w) (k := k + 1) (K := K) (st := Int32.ofNat 0) (ac := 0) k2 rfl (Nat.zero_le _) (by decide) K0
  have nn : n ≤ n' := by
    rcases m4 with ⟨_, y, _⟩ | ⟨_, y, _⟩ <;> omega
  have cap : sg0.2.2.2.2 0 13 ≤ 40000 := by
    rcases m4 with ⟨_, _, y, _⟩ | ⟨y0, _, y, _⟩
    · rw [y]; exact (ao 0 (by decide)).2.2
    · rw [y, ← y0]
      show (64 : Nat) ≤ 40000
      decide
  have p13 : (sA2 sg0 0 K 0).2.2.2.2 0 13 = sg0.2.2.2.2 0 13 := z2_P (fun z => absurd z.2 (by decide))
  have pb0 : (sA2 sg0 0 K 0).2.2.2.2 0 0 = sg0.2.2.2.2 0 0 := z2_P (fun z => absurd z.2 (by decide))
  have z11 : (sA2 sg0 0 K 0).2.2.1 0 11 = Int32.ofNat 0 := z2_z (by decide)
  have z4b : (sA2 sg0 0 K 0).2.2.1 0 4 = Int32.ofNat 0 := z2_z (by decide)
  have z13 : (sA2 sg0 0 K 0).2.2.1 0 13 = Int32.ofNat (0 + 0) := z2_z (by decide)
  obtain ⟨h7, g, r1, r2, r3, r4, r5, r6, r7⟩ := k_deliver (L := L) (xs := xs) (zf := zf) (w := w) (k := k) (a := 0) (b := 0) (bs := 0) (fr0 := 0) (wt := 0) (sg := (sA2 sg0 0 K 0)) mb m2 m3 m3 z11 (by decide) z4b (by decide) z13 (Nat.zero_le _) (by rw [p13]; omega) (by decide) hw
  rw [pb0] at r1
  have r2' : RH (.ref P) n' (sA3 (sA2 sg0 0 K 0) 0 0 0 g) Z hB h7 := r2
  have q0x : ∃ q0, (0 < n ∧ n' = n ∧ sg0 = sA1 (stNm i1 i2, sg.2) 0 nf cf) ∨ (0 = n ∧ n' = n + 1 ∧ sg0 = sN (sA1 (stNm i1 i2, sg.2) 0 nf cf) n q0) := by
    rcases m4 with ⟨x1, x2, x3, _⟩ | ⟨x1, x2, x3, _⟩
    · exact ⟨0, Or.inl ⟨x1, x2, x3⟩⟩
    · exact ⟨_, Or.inr ⟨x1, x2, x3⟩⟩
  obtain ⟨q0, hq0⟩ := q0x
  refine ⟨h7, n', sg0, q0, g, cf, ?_, r2', ⟨m3, nn⟩, hq0, ⟨z4, z5, z6⟩, ⟨r3, fun i hi => r5 i (Or.inr hi)⟩, ?_⟩
  · rw [e224]
    show b224_0 L xs zf (dM L xs zf w (k + 4)) w (some 24) (some P) i1 i2 h = _
    unfold b224_0
    refine bse (a := h1) ?_ ?_
    · rw [cV_w q, a1]
      rfl
    refine bse b1 (bse c1 (bse d1 ?_))
    refine bse (pK q4) ?_
    refine ifn (fun z => by cases z) ?_
    refine bse (pK q4) ?_
    refine bse (a := (Int32.ofNat 0, h5)) ?_ ?_
    · rw [cV_w q4, show (va_rf (some K) : Value) = .ref K from rfl, k1]
      rfl
    refine bse (pK k2) ?_
    refine bse (a := (some (sg0.2.2.2.2 0 0), h6)) ?_ ?_
    · rw [cV_w k2, show (va_rf (some K) : Value) = .ref K from rfl, m1]
      rfl
    refine bse (pK m2) ?_
    obtain ⟨fs, fl, ar, mc, y1, _, _, y4, _, y6, _⟩ := kb
    refine bse (hc_gR (p := some M) (fr_old m2.1 y1 y6) y4 rfl) ?_
    refine bse (a := h7) ?_ rfl
    rw [cV_w m2]
    show (dM L xs zf w (k + 4) 230 [.ref 24, .ref (sg0.2.2.2.2 0 0), .ref M, .ref (sg0.2.2.2.2 0 0)] h6).bind dxV = _
    rw [r1]
    rfl
  · have l4 := s4.2.1
    have zh4 := s4.2.2
    rcases m4 with ⟨x1, x2, x3, x4, x5⟩ | ⟨x1, x2, x3, x4, x5⟩
    · have pn : pot n (sA3 (sA2 sg0 0 K 0) 0 0 0 g) = pot n sg := pot_e n (fun c hc => by
        show (sA2 sg0 0 K 0).2.2.2.2 c 13 = _
        rw [z2_P (fun z => absurd z.2 (by decide)), x3]
        rfl)
      refine ⟨?_, ?_⟩
      · rw [x2, pn]; omega
      · rw [x2, pn]; omega
    · have pn : pot (n + 1) (sA3 (sA2 sg0 0 K 0) 0 0 0 g) = 64 := by
        rw [← x1]
        show 0 + (sA2 sg0 0 K 0).2.2.2.2 0 13 = 64
        rw [p13, x3, ← x1]
        rfl
      have p0 : pot n sg = 0 := by rw [← x1]; rfl
      refine ⟨?_, ?_⟩
      · rw [x2, pn, p0]; omega
      · rw [x2, pn, p0]; omega
/-- the reference starts -/
theorem r_372 {p0 : Nat} (s73 : s.1 73 ≠ 0) (e1 : i1 = Int32.ofNat cl) (cl1 : 1 ≤ cl) (cl4 : cl ≤ 400) {mb : Nat} (e2 : i2 = Int32.ofNat mb) (m1 : 1 ≤ mb) (m6 : mb ≤ 6) (hm : rM w (k + 4) 328 [.ref 36, .long 1298229614] s = some (some (.int (Int32.ofNat kk)), s)) (kf : KFR s kk nf em) (h65 : s.2.1 65 kk = Int32.ofNat m) (m72 : m < 72) (h77 : s.2.1 77 m = Int32.ofNat p0) (h77' : s.2.1 77 (m + 1) = Int32.ofNat (p0 + 0)) (hp : p0 ≤ 500) (hw : 500 ≤ w) (room : nf + 1 ≤ cl) :
    ∃ (g0 : Nat → Int64) (us br wl : Nat → Int32) (bt ag : Nat → Int64) (Lo : List Nat), rM w (k + 5) 372 [.ref 36, .int i1, .int i2] s = some (some (.int 1), sSd (sS1 (rsI (rsL (sAc0 (stR s i1 i2) 0 kk 0 nf) 95 g0) 104 us) 0 0 (6 * 0 + 0) m) br wl bt ag) ∧ (∀ f, f < nf → g0 (8 * 0 + f) = em f) ∧ (∀ j, (j < 8 * 0 ∨ 8 * 0 + nf ≤ j) → g0 j = s.2.2 95 j) ∧ (∀ j, j < 6 → us (6 * 0 + j) = 0) ∧ (∀ j, (j < 6 * 0 ∨ 6 * 0 + 6 ≤ j) → us j = s.2.1 104 j) ∧ WLI (fun _ => False) (401 * (6 * 0 + 0)) br wl Lo ∧ (∀ i, (i < 6 * (6 * 0 + 0) ∨ 6 * (6 * 0 + 0) + 0 ≤ i) → ag i = s.2.2 106 i) ∧ (∀ x, (x < 400 * (6 * 0 + 0) ∨ 400 * (6 * 0 + 0) + 400 ≤ x) → bt x = s.2.2 107 x) ∧ ∀ x, (x < 401 * (6 * 0 + 0) ∨ 401 * (6 * 0 + 0) + 401 ≤ x) → br x = s.2.1 105 x := by
  have kf0 := kf
  obtain ⟨k8, f0, y2, y3, y4, n8, _⟩ := kf0
  obtain ⟨g0, us, o1, o2, o3, o4, o5⟩ := r_mkA (s := (stR s i1 i2)) (a := 0) (c := kk) (nf := nf) (em := em) (w := w) (k := k + 1) (tk := 0) (kf_k kf rfl rfl rfl) (by decide) rfl rfl (by omega)
  have rd : ∀ p i, p < 89 → (rsI (rsL (sAc0 (stR s i1 i2) 0 kk 0 nf) 95 g0) 104 us).2.1 p i = s.2.1 p i := fun p i hp => by
    rw [sAc_I, if_neg (by omega), if_neg (by omega), if_neg (by omega), if_neg (by omega), if_neg (by omega), if_neg (by omega), if_neg (by omega)]
    rfl
  obtain ⟨br, wl, bt, ag, Lo, r1, r2, r3, r4, r5, r6, r7⟩ := r_sendM (s := (rsI (rsL (sAc0 (stR s i1 i2) 0 kk 0 nf) 95 g0) 104 us)) (w := w) (k := k + 1) (j := 0) (wt := 0) (first := 0) (to := 0) (a := 0) (m := m) (np := 0) (p0 := p0) (Kn := fun _ => False) (by decide) (by decide) m72 (by decide) (by
    show us 0 = 0
    exact o4 0 (by decide)) (fun i h => absurd h (Nat.not_lt_zero _)) (by
    rw [sAc_I, if_neg (by decide), if_pos ⟨rfl, rfl⟩]
    rfl) (by decide) (by rw [rd 77 m (by decide)]; exact h77) (by rw [rd 77 (m + 1) (by decide)]; exact h77') (by omega) (by decide) (by decide) (by omega) (fun j hj => absurd hj (Nat.not_lt_zero _)) (fun o ho => ho.elim)
  refine ⟨g0, us, br, wl, bt, ag, Lo, ?_, o2, o3, o4, o5, r2, r5, r6, ?_⟩
  · rw [y372]
    show s372_0 (rM w (k + 4)) w i1 i2 s = _
    unfold s372_0
    have one : (1 : Int32).toInt = 1 := by decide
    have h400 : (400 : Int32).toInt = 400 := by decide
    have h6 : (6 : Int32).toInt = 6 := by decide
    have t1 : i1.toInt = cl := by rw [e1, of_int (by omega)]
    have t2 : i2.toInt = mb := by rw [e2, of_int (by omega)]
    refine ifn (fun z => s73 (of_decide_eq_true z)) ?_
    refine ifn (by rw [f2_lt, one, t1]; exact fun z => absurd (of_decide_eq_true z) (by omega)) ?_
    refine ifn (by rw [f2_gt, h400, t1]; exact fun z => absurd (of_decide_eq_true z) (by omega)) ?_
    refine ifn (by rw [f2_lt, one, t2]; exact fun z => absurd (of_decide_eq_true z) (by omega)) ?_
    refine ift (by rw [f2_le, h6, t2]; exact decide_eq_true (by omega)) ?_
    refine bse (a := (Int32.ofNat kk, s)) (by rw [hm]; rfl) ?_
    refine bse (a := (Int32.ofNat nf, s)) (by rw [r_373 (k := k + 3) k8 y2 y3 (by omega)]; rfl) ?_
    refine ift (by
      show mx_f2 .le (Int32.ofNat nf + 1) i1 = true
      rw [of_inc, f2_le, t1, of_int (by omega)]
      exact decide_eq_true (by omega)) ?_
    refine bse (a := rs_w s 74 1) rfl ?_
    refine bse rfl (bse rfl (bse rfl (bse rfl (bse rfl (bse rfl (bse rfl (bse rfl (bse rfl (bse rfl (bse rfl (bse rfl ?_)))))))))))
    refine bse (a := (Int32.ofNat 0, (rsI (rsL (sAc0 (stR s i1 i2) 0 kk 0 nf) 95 g0) 104 us))) (by
      show ((rM w (k + 4) 374 [.ref 36, .int (Int32.ofNat kk)] (stR s i1 i2)).bind rxI) = _
      rw [o1]
      rfl) ?_
    refine bse ((aI_at (s := (rsI (rsL (sAc0 (stR s i1 i2) 0 kk 0 nf) 95 g0) 104 us)) (p := 65) (i := kk) (n := 9) (by decide) rfl (by omega) (by decide)).trans (congrArg some (show (rsI (rsL (sAc0 (stR s i1 i2) 0 kk 0 nf) 95 g0) 104 us).2.1 65 kk = Int32.ofNat m from h65))) ?_
    refine bse (a := sSd (sS1 (rsI (rsL (sAc0 (stR s i1 i2) 0 kk 0 nf) 95 g0) 104 us) 0 0 (6 * 0 + 0) m) br wl bt ag) (by
      show ((rM w (k + 4) 377 [.ref 36, .int (Int32.ofNat 0), .int (Int32.ofNat m), .int (Int32.ofNat 0), .int (Int32.ofNat 0)] (rsI (rsL (sAc0 (stR s i1 i2) 0 kk 0 nf) 95 g0) 104 us)).bind rxV) = _
      rw [r1]
      rfl) rfl
  · intro x hx
    rw [r7 x hx, sAc_I]
    rfl
end JZS
