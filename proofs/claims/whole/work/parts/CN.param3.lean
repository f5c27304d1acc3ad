/-! PARAMETERS: one of them by both. -/
/-- Method M has parameters ds so far -/
def QJ (L : Nat) (xs : Nat → Int32) (cx : Nat → Nat) (F : Nat → Nat → Int32) (N : Nat → Int64) (q : List Value) (l M np : Nat) (qm : List Value) (h0 : rm_H) (h : rm_H) (s : rS) (g : Nat → Nat) (ts : List Nat) (ds : List Nat) (ar cap : Nat) : Prop :=
  hc h M = some (.inr (11, qm)) ∧ aL h l ar cap ds ∧ (ar = 5 ∨ 21 + h0.length ≤ ar) ∧ (∀ y ∈ ds, oK h y) ∧ (∀ l2 ar2 cap2 es2, l2 ≠ l → l2 ≠ cx 11 → aL h0 l2 ar2 cap2 es2 → aL h l2 ar2 cap2 es2)
  ∧ (SY cx F N q h s g ts → s.1 52 = Int32.ofNat (np + ds.length) ∧ ∀ i d, ds[i]? = some d → DCR L xs h s 79 80 81 d (np + i) i ∧ 21 + h0.length ≤ d ∧ d < 21 + h.length)
section PA3
variable {L : Nat} {xs : Nat → Int32} {zf : Value} {w k k2 i n y np : Nat} {cx : Nat → Nat} {F : Nat → Nat → Int32} {N : Nat → Int64} {q qm : List Value} {h0 h h' h1 h2 h5 : rm_H} {s0 s s' s1 s2 : rS} {g0 g g' g1 g2 : Nat → Nat} {t0 ts ts' ts1 ts2 : List Nat} {v v0 : Nat → Int32} {pt vr i3 : Int32} {P : Nat → Prop} {l ar cap M d : Nat} {ds es : List Nat} {c1 c2 : Nat}
theorem QJ_keep (h14 : cx 14 = 0) (z : SY cx F N q h s g ts ∨ FLT cx F N q h s g ts) (b : OPR cx F N q h s g ts h' s' g' ts') (hl : l ≠ cx 11) (j : QJ L xs cx F N q l M np qm h0 h s g ts ds ar cap) : QJ L xs cx F N q l M np qm h0 h' s' g' ts' ds ar cap := by
  obtain ⟨j1, j2, j3, j4, j5, j6⟩ := j
  obtain ⟨v, pt, vr, p1, ch⟩ := sy_pc z
  refine ⟨ob_keep h14 p1 ch b.2.2.1 j1 (by decide), aL_op z b.2.2.1 j2 hl, j3, oK_keep b j4, fun l2 ar2 cap2 es2 n1 n2 e => aL_op z b.2.2.1 (j5 l2 ar2 cap2 es2 n1 n2 e) n2, fun y => ?_⟩
  obtain ⟨y1, y2, y3⟩ := b.2.1 y
  obtain ⟨k1, k2⟩ := j6 y1
  have rf := b.2.2.2.2.1
  refine ⟨(rf.1 52 (by decide) (by decide) (by decide) (by decide) (by decide) (by decide) (by decide) (by decide)).trans k1, fun i d hi => ?_⟩
  obtain ⟨m1, m2, m3⟩ := k2 i d hi
  refine ⟨DCR_fr (fun j hj u e => ?_) (fun _ _ => nS_fr b.2.2.1) y3 (by rw [rf.2.2 79 (by decide) (by decide)]) (by rw [rf.2.1 80 (by omega)]) (by rw [rf.2.1 81 (by omega)]) m1, m2, by have := b.2.2.1.1; omega⟩
  obtain ⟨fs, e1, e2⟩ := fd_c e
  rw [fd_of (ob_keep h14 p1 ch b.2.2.1 e1 (by decide))]
  exact e2
theorem aL_cap (e : aL h l ar cap es) : cap ≤ 2 * es.length + 10 ∧ (es = [] ∨ 10 ≤ cap) := by
  obtain ⟨mc, _, _, e1, e2⟩ := e
  refine ⟨e1, ?_⟩
  rcases e2 with ⟨_, _, e3⟩ | ⟨_, _, _, e3, _⟩
  · exact Or.inl e3
  · exact Or.inr e3
/-- one parameter -/
theorem x_par1 (hT : TF cx F N) (h14 : cx 14 = 0) (z : SY cx F N q h s g ts) (a : OPX P cx F N q c1 c2 h0 s0 g0 t0 h s g ts) (hPl : P l) (j : QJ L xs cx F N q l M np qm h0 h s g ts ds ar cap) (rp : rPm s0 s np) (h5m : qm[5]? = some (.ref l)) (hnp : np + ds.length < 440) (hlen : ds.length ≤ 5) (hl : l ≠ cx 11) : ∃ (ret : Bool) (h7 : rm_H) (s9 : rS) (g7 : Nat → Nat) (ts7 : List Nat) (ar7 cap7 : Nat), (∀ K, b117_49 L xs zf (dM L xs zf w (k + 10)) w K (some (cx 7)) (some M) (Int32.ofNat ds.length) h = (((dcV L xs (dM L xs zf w (k + 10)) 118 [8] (some (cx 7)) [.int 10] h7).bind dxI).bind fun x17 => K (some (cx 7)) (some M) x17.1 (Int32.ofNat ds.length + 1) x17.2)) ∧ (ret = false → ∀ K i2, s315_52 (rM w (k2 + 4)) w K i2 s = (((rM w (k2 + 4) 309 [.ref 36, .int 44] s9).bind rxI).bind fun x41 => K x41.1 i2 x41.2)) ∧ (ret = true → (∀ K i2, s315_52 (rM w (k2 + 4)) w K i2 s = some (none, s9)) ∧ FLT cx F N q h7 s9 g7 ts7) ∧ OPX P cx F N q c1 c2 h0 s0 g0 t0 h7 s9 g7 ts7 ∧ QJ L xs cx F N q l M np qm h0 h7 s9 g7 ts7 (ds ++ [21 + h.length]) ar7 cap7 ∧ rPm s0 s9 np ∧ g7 6 ≤ 12 ∧ g7 3 = g 3 := by
  obtain ⟨⟨p0, ⟨a1, a2, a3, a4⟩, rt, ch, ⟨b1, b2, b3, b4⟩, d1, d2, d3, d4⟩, g6⟩ := id z
  obtain ⟨j1, j2, j3, j4, j5, j6⟩ := id j
  obtain ⟨k52, kd⟩ := j6 z
  have hT1 := hT.1
  have alen := a.2.2.1.1
  obtain ⟨f5, _, _⟩ := (hT.2.2 (g 0) d1).1
  obtain ⟨h5, ar', cap', v, e1, e2, e3, e4, e5, e6, e7, e8, e9⟩ := tc_decl (L := L) (xs := xs) (zf := zf) (w := w) (k := k) hT d1 p0 ch (by omega)
  obtain ⟨nm0, cp0, cq0, ti0, tp0, hd5⟩ := e4
  have f45 : fr (M4 cx (g 1)) h h5 := fr_mono e5 (fun y _ u => by
    rcases u with u | u | u
    · exact Or.inl u
    · exact Or.inr (Or.inr (Or.inl u))
    · exact Or.inr (Or.inr (Or.inr (Or.inr u))))
  have hM5 := ob_keep h14 p0 ch f45 j1 (by decide)
  have aL5 := aL_op (Or.inl z) f45 j2 hl
  have cp2 := aL_cap j2
  obtain ⟨h7, ar7, cap7, m1, m2, m3, m4, m5, m6, m7, m8, m9, m10, m11, m12⟩ := c_49 (L := L) (xs := xs) (zf := zf) (w := w) (k := k + 4) (i3 := Int32.ofNat ds.length) p0 e1 e3 e2 hd5 rfl hM5 h5m aL5 (fun y hy => oK_fr e5 (j4 y hy)) (by omega) hl
  have cp7 := aL_cap m4
  have lds : (ds ++ [21 + h.length]).length = ds.length + 1 := by rw [List.length_append]; rfl
  rw [lds] at cp7
  have cap24 : 4 * cap7 ≤ 4 * cap + 56 := by
    rcases cp2.2 with e | e
    · rw [e] at cp7
      have cp7 : cap7 ≤ 2 * (0 + 1) + 10 ∧ _ := cp7
      omega
    · omega
  have lt1 : (ts ++ [21 + h.length]).length = ts.length + 1 := by rw [List.length_append]; rfl
  have l5 := e5.1
  -- what stays of the class's cells
  have fq : fr (fun y => M4 cx (g 1) y ∨ ((y = l ∨ y = ar) ∧ 21 ≤ y)) h h7 := by
    refine fr_trans (fr_mono f45 (fun _ _ u => Or.inl u)) (fr_21 m8) (fun y hy u => ?_)
    obtain ⟨u, u21⟩ := u
    rcases u with u | u | u
    · omega
    · exact Or.inr ⟨Or.inl u, u21⟩
    · exact Or.inr ⟨Or.inr u, u21⟩
  have lst7 : ∀ l2 ar2 cap2 es2, l2 ≠ l → l2 ≠ cx 11 → aL h0 l2 ar2 cap2 es2 → aL h7 l2 ar2 cap2 es2 := fun l2 ar2 cap2 es2 n1 n2 e => m12 l2 ar2 cap2 es2 n1 (aL_op (Or.inl z) f45 (j5 l2 ar2 cap2 es2 n1 n2 e) n2)
  have dcell : ∀ d' fs, hc h d' = some (.inr (10, fs)) → hc h7 d' = some (.inr (10, fs)) := by
    intro d' fs e
    have el := hc_lt e
    refine fr_old m8 (ob_keep h14 p0 ch f45 e (by decide)) (fun u => ?_)
    have e5' := ob_keep h14 p0 ch f45 e (by decide)
    obtain ⟨mc, r1, _, _, r3⟩ := id aL5
    rcases u with u | u | u
    · omega
    · rw [u, r1] at e5'; cases e5'
    · rcases r3 with ⟨r3, _⟩ | ⟨f0, r3, _⟩
      · have := hc_ge e
        omega
      · rw [u, r3] at e5'; cases e5'
  have ns57 : ∀ a b, nS L xs h5 a b → nS L xs h7 a b := fun a b => nS_fr m8
  have nsh7 : ∀ a b, nS L xs h a b → nS L xs h7 a b := fun a b => nS_fr fq
  have opx : ∀ (s9 : rS) (T ar0 cap0 G5 G6 : Nat), g 0 ≤ T → ar0 = ar' → cap0 = cap' → rPm s s9 (np + ds.length) → (SY cx F N q h7 s9 (gu (gu (gu (gu (gu g 0 T) 1 ar0) 2 cap0) 5 G5) 6 G6) (ts ++ [21 + h.length]) ∨ FLT cx F N q h7 s9 (gu (gu (gu (gu (gu g 0 T) 1 ar0) 2 cap0) 5 G5) 6 G6) (ts ++ [21 + h.length])) → (SY cx F N q h7 s9 (gu (gu (gu (gu (gu g 0 T) 1 ar0) 2 cap0) 5 G5) 6 G6) (ts ++ [21 + h.length]) → yA s s9) → 89 + 80 * g 0 ≤ 80 * T + 8 * G6 → 7 + 10 * g 0 ≤ 10 * T + G6 → OPX P cx F N q c1 c2 h0 s0 g0 t0 h7 s9 (gu (gu (gu (gu (gu g 0 T) 1 ar0) 2 cap0) 5 G5) 6 G6) (ts ++ [21 + h.length]) := by
    intro s9 T ar0 cap0 G5 G6 hT0 ea ec r st yy cst cst2
    subst ea
    subst ec
    have o1 : OPX (fun y => (y = l ∨ y = ar) ∧ 21 ≤ y) cx F N q 0 0 h s g ts h7 s9 (gu (gu (gu (gu (gu g 0 T) 1 ar0) 2 cap0) 5 G5) 6 G6) (ts ++ [21 + h.length]) := by
      refine ⟨st, fun u => ⟨z, rPm_sX r _, yy u⟩, fq, e7, ?_⟩
      show (g 0 ≤ T ∧ g 4 ≤ g 4) ∧ h7.length + 10 * g 0 + g 6 + 0 ≤ h.length + 10 * T + G6 ∧ zh h7 + 4 * g 2 + 80 * g 0 + 8 * g 6 + 0 ≤ zh h + 4 * cap0 + 80 * T + 8 * G6 ∧ g 4 + g 0 + g 6 ≤ g 4 + T + G6
      omega
    refine OPX_le (OPX_trans a o1 (fun y hy u => ?_)) (by omega) (by omega)
    obtain ⟨u, u21⟩ := u
    rcases u with u | u
    · rw [u]; exact hPl
    · omega
  have flt : ∀ (s9 : rS) (T G5 : Nat), g 0 ≤ T → T ≤ cx 16 → rPm s s9 (np + ds.length) → rfd v (s9.1 58) → s9.1 57 = 1 → s9.1 56 = Int32.ofNat T → s9.1 26 = Int32.ofNat G5 → FLT cx F N q h7 s9 (gu (gu (gu (gu (gu g 0 T) 1 ar') 2 cap') 5 G5) 6 12) (ts ++ [21 + h.length]) := by
    intro s9 T G5 h1 h2 r r1 r57 r56 r26
    refine ⟨⟨v, m2, r1⟩, r57, rPm_rT r rt, ⟨_, _, CH_g (g := gu (gu g 1 ar') 2 cap') rfl rfl rfl m3⟩, ⟨r56, (r.1 10 (by decide) (by decide) (by decide) (by decide) (by decide)).trans b2, r26, b4⟩, ?_⟩
    show T ≤ _ ∧ (ts ++ [21 + h.length]).length ≤ T + 12 ∧ g 4 ≤ T + 2 + 12
    omega
  have qj : ∀ (s9 : rS) (g7 : Nat → Nat), (SY cx F N q h7 s9 g7 (ts ++ [21 + h.length]) → s9.1 52 = Int32.ofNat (np + (ds.length + 1)) ∧ yA s s9 ∧ DCR L xs h7 s9 79 80 81 (21 + h.length) (np + ds.length) ds.length) → rPm s s9 (np + ds.length) → QJ L xs cx F N q l M np qm h0 h7 s9 g7 (ts ++ [21 + h.length]) (ds ++ [21 + h.length]) ar7 cap7 := by
    intro s9 g7 hs r
    refine ⟨m7, m4, by omega, m5, lst7, fun y => ?_⟩
    obtain ⟨s1, s2, s3⟩ := hs y
    rw [lds]
    refine ⟨s1, fun i d hi => ?_⟩
    by_cases il : i < ds.length
    · rw [List.getElem?_append_left il] at hi
      obtain ⟨n1, n2, n3⟩ := kd i d hi
      obtain ⟨r1, r2, r3⟩ := r.2.2.2 (np + i) (by omega)
      have := fq.1
      refine ⟨DCR_fr (fun j hj u e => ?_) nsh7 s2 r1 r2 r3 n1, n2, by omega⟩
      obtain ⟨fs, e1, e2⟩ := fd_c e
      rw [fd_of (dcell d fs e1)]
      exact e2
    · have ii : i = ds.length := by
        have := (List.getElem?_eq_some_iff.mp hi).1
        omega
      subst ii
      rw [List.getElem?_append_right (Nat.le_refl _), Nat.sub_self] at hi
      have hd : 21 + h.length = d := Option.some.inj hi
      subst hd
      have := hc_lt m6
      exact ⟨s3, by omega, by omega⟩
  have rpp : ∀ s9, rPm s s9 (np + ds.length) → rPm s0 s9 np := fun s9 r => rPm_trans rp r (by omega)
  have RD := r_pdecl (w := w) (k := k2) hT d1 a1 b1 k52 hnp b3 (by omega) rt
  rcases e9 with ⟨t1, t2, t3, nm, t4, t5⟩ | ⟨t1, t2, t3, t4⟩ | ⟨t1, t2⟩
  · -- name and colon are there
    rcases RD with ⟨s9, rg, r, ps⟩ | ⟨s9, T, _, _, _, _, _, _, _, _, r⟩
    · obtain ⟨_, _, o3, o4, o5, o6, o7, o8, o9, o10⟩ := ps
      have tc7 : tcO L xs cx F N h7 (g 0 + 2) (21 + h.length) nm (cpl cx F (g 0)) 0 0 (Int32.ofNat ds.length) v := tcO_8 (fun fs e => by rw [hd5] at e; cases e; exact m6) ns57 t5
      have facts : (ctk cx F (g 0 + 2) = 43 ∨ ctk cx F (tiA cx F (g 0 + 2)) = 3) → s9.1 52 = Int32.ofNat (np + (ds.length + 1)) ∧ yA s s9 ∧ DCR L xs h7 s9 79 80 81 (21 + h.length) (np + ds.length) ds.length := by
        intro ok
        obtain ⟨td, fs, w1, w2, w3, w4, _⟩ := tyD_of hT o3 tc7 o5 ok
        refine ⟨o6, o10, ⟨nm, by rw [fd_of w1]; exact w2, by rw [o7]; exact ns57 _ _ t4⟩, by rw [fd_of w1, w3, o8, f5], by rw [fd_of w1]; exact w4, g 5, o9, ?_, td⟩
        rw [o4, of_int (by omega)]
        omega
      have e58 : s9.1 58 = s.1 58 → s9.1 58 = -1 := fun e => e.trans a2
      have sy : ∀ T : Nat, g 0 + 3 ≤ T → T ≤ cx 16 → v = vS cx F T → s9.1 57 = 0 → s9.1 58 = -1 → s9.1 56 = Int32.ofNat T → (ctk cx F (g 0 + 2) = 43 ∨ ctk cx F (tiA cx F (g 0 + 2)) = 3) → SY cx F N q h7 s9 (gu (gu (gu (gu (gu g 0 T) 1 ar') 2 cap') 5 (g 5 + 1)) 6 0) (ts ++ [21 + h.length]) := by
        intro T hT0 hT2 hv r57 r58 r56 okk
        obtain ⟨td, fs, w1, _, _, _, w5⟩ := tyD_of hT o3 tc7 o5 okk
        have l8c := hc_lt ch.1
        have hPd : ∀ d fs, hc h d = some (.inr (10, fs)) → ¬ (M4 cx (g 1) d ∨ ((d = l ∨ d = ar) ∧ 21 ≤ d)) := fun d fs ed u => u.elim (M4_10 p0 ch d fs ed) (fun u => aL_10 j2 d fs ed u.1)
        have rr := r.1
        refine ⟨⟨by have m2' := m2; rw [hv] at m2'; exact m2', ⟨r57, r58, fun hh => (rr 59 (by decide) (by decide) (by decide) (by decide) (by decide)).trans (a3 hh), a4⟩, rPm_rT r rt, ?_, ⟨r56, (rr 10 (by decide) (by decide) (by decide) (by decide) (by decide)).trans b2, o4, b4⟩, ?_⟩, rfl, TSI_decl g6.2 fq hPd (nE_r (e6.2 t1 t2) m8 m9.2) (by omega) (tR_sX (rPm_sX r (g 4))) (yA_n b3 (by omega) o10) rfl rfl rfl ⟨fs, w1, w5⟩ td⟩
        · rw [rr 24 (by decide) (by decide) (by decide) (by decide) (by decide), rr 25 (by decide) (by decide) (by decide) (by decide) (by decide)]
          exact CH_g (g := gu (gu g 1 ar') 2 cap') rfl rfl rfl m3
        · show T ≤ _ ∧ (ts ++ [21 + h.length]).length ≤ T ∧ g 4 ≤ T + 2 ∧ g 5 + 1 + 2 ≤ T
          omega
      have ti : tiA cx F (g 0 + 2) = g 0 + 2 ∨ tiA cx F (g 0 + 2) = g 0 + 3 := by
        by_cases c : isC cx F (g 0 + 2)
        · exact Or.inr (tiA_c c)
        · exact Or.inl (tiA_n c)
      have ok : ∀ T : Nat, g 0 + 3 ≤ T → T ≤ cx 16 → v = vS cx F T → s9.1 57 = 0 → s9.1 58 = -1 → s9.1 56 = Int32.ofNat T → (ctk cx F (g 0 + 2) = 43 ∨ ctk cx F (tiA cx F (g 0 + 2)) = 3) → ∃ (ret : Bool) (h7 : rm_H) (s9 : rS) (g7 : Nat → Nat) (ts7 : List Nat) (ar7 cap7 : Nat), (∀ K, b117_49 L xs zf (dM L xs zf w (k + 10)) w K (some (cx 7)) (some M) (Int32.ofNat ds.length) h = (((dcV L xs (dM L xs zf w (k + 10)) 118 [8] (some (cx 7)) [.int 10] h7).bind dxI).bind fun x17 => K (some (cx 7)) (some M) x17.1 (Int32.ofNat ds.length + 1) x17.2)) ∧ (ret = false → ∀ K i2, s315_52 (rM w (k2 + 4)) w K i2 s = (((rM w (k2 + 4) 309 [.ref 36, .int 44] s9).bind rxI).bind fun x41 => K x41.1 i2 x41.2)) ∧ (ret = true → (∀ K i2, s315_52 (rM w (k2 + 4)) w K i2 s = some (none, s9)) ∧ FLT cx F N q h7 s9 g7 ts7) ∧ OPX P cx F N q c1 c2 h0 s0 g0 t0 h7 s9 g7 ts7 ∧ QJ L xs cx F N q l M np qm h0 h7 s9 g7 ts7 (ds ++ [21 + h.length]) ar7 cap7 ∧ rPm s0 s9 np ∧ g7 6 ≤ 12 ∧ g7 3 = g 3 := by
        intro T h1 h2 h3 h4 h5 h6 h7'
        have S := sy T h1 h2 h3 h4 h5 h6 h7'
        exact ⟨false, h7, s9, _, _, ar7, cap7, m1, fun _ => rg, fun e => absurd e (by decide), opx s9 T ar' cap' (g 5 + 1) 0 (by omega) rfl rfl r (Or.inl S) (fun _ => o10) (by omega) (by omega), qj s9 _ (fun _ => facts h7') r, rpp s9 r, Nat.zero_le _, rfl⟩
      rcases id t5 with ⟨y1, _, y3, y4, _⟩ | ⟨y1, t2', cp, cq, _, _, y4, y5⟩
      · rcases id o5 with ⟨_, w2, w3, w4, _⟩ | w
        · exact ok (g 0 + 2 + 1) (by omega) (by omega) y4 w3 (e58 w4) w2 (Or.inl y1)
        · exact absurd y1 w.1
      · have n43 : ¬ ctk cx F (g 0 + 2) = 43 := fun e => y1 ⟨e, rfl⟩
        rcases id o5 with w | ⟨_, _, _, _, w⟩
        · exact absurd w.1 n43
        · rcases y5 with ⟨z1, z2, z3, _⟩ | ⟨z1, z2⟩
          · rcases w with ⟨_, w2, w3, w4⟩ | ⟨w1, _⟩
            · exact ok (tiA cx F (g 0 + 2) + 1) (by omega) (by omega) z3 w3 (e58 w4) w2 (Or.inr z1)
            · exact absurd z1 w1
          · rcases w with ⟨w1, _⟩ | ⟨_, w2, w3, w4⟩
            · exact absurd w1 z1
            · have F9 := flt s9 (tiA cx F (g 0 + 2)) (g 5 + 1) (by omega) y4 r (by rw [w4]; exact z2) w3 w2 o4
              exact ⟨false, h7, s9, _, _, ar7, cap7, m1, fun _ => rg, fun e => absurd e (by decide), opx s9 (tiA cx F (g 0 + 2)) ar' cap' (g 5 + 1) 12 (by omega) rfl rfl r (Or.inr F9) (fun u => (sy_no u F9).elim) (by omega) (by omega), qj s9 _ (fun u => (sy_no u F9).elim) r, rpp s9 r, Nat.le_refl _, rfl⟩
    · rcases r with ⟨_, r⟩ | ⟨_, _, r⟩
      · exact absurd t1 r
      · exact absurd t2 r
  · rcases RD with ⟨s9, _, _, ps⟩ | ⟨s9, T, rg, r, yy, x1, x2, x3, x4, x5, x6⟩
    · exact absurd ps.2.1 t2
    · have hTT : T = g 0 + 1 := by
        rcases x6 with ⟨_, u⟩ | ⟨u, _⟩
        · exact absurd t1 u
        · exact u
      have F9 := flt s9 T (g 5) (by omega) x5 r (by rw [x3, hTT]; exact t4) x1 x4 (x2.trans b3)
      exact ⟨true, h7, s9, _, _, ar7, cap7, m1, fun e => absurd e (by decide), fun _ => ⟨rg, F9⟩, opx s9 T ar' cap' (g 5) 12 (by omega) rfl rfl r (Or.inr F9) (fun u => (sy_no u F9).elim) (by omega) (by omega), qj s9 _ (fun u => (sy_no u F9).elim) r, rpp s9 r, Nat.le_refl _, rfl⟩
  · rcases RD with ⟨s9, _, _, ps⟩ | ⟨s9, T, rg, r, yy, x1, x2, x3, x4, x5, x6⟩
    · exact absurd ps.1 t1
    · have hTT : T = g 0 := by
        rcases x6 with ⟨u, _⟩ | ⟨_, u, _⟩
        · exact u
        · exact absurd u t1
      have F9 := flt s9 T (g 5) (by omega) x5 r (by rw [x3, hTT]; exact t2) x1 x4 (x2.trans b3)
      exact ⟨true, h7, s9, _, _, ar7, cap7, m1, fun e => absurd e (by decide), fun _ => ⟨rg, F9⟩, opx s9 T ar' cap' (g 5) 12 (by omega) rfl rfl r (Or.inr F9) (fun u => (sy_no u F9).elim) (by omega) (by omega), qj s9 _ (fun u => (sy_no u F9).elim) r, rpp s9 r, Nat.le_refl _, rfl⟩
end PA3
