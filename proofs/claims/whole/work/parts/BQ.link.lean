/-! PARTS ARE LINKED TO THEIR NODE. -/
/-- the reference links node m to n in row r -/
def lkS (s : rS) (r n m : Nat) : rS := rs_wA (rs_wA s 49 m (Int32.ofNat n)) r n (Int32.ofNat m)
/-- Node x is node m, linked to n -/
def KD (L : Nat) (xs : Nat → Int32) (zz : Nat × Nat) (h : rm_H) (s : rS) (n m x lo hi pl ph : Nat) : Prop := NR L xs h s zz (hi - lo) lo hi pl ph m x ∧ s.2.1 49 m = Int32.ofNat n
section LK
variable {zz : Nat × Nat}
variable {L : Nat} {xs : Nat → Int32} {zf : Value} {w k : Nat} {cx : Nat → Nat} {F : Nat → Nat → Int32} {N : Nat → Int64} {q : List Value} {h h' h1 h2 : rm_H} {s s' s1 s2 : rS} {g g' g1 g2 : Nat → Nat} {ts ts' ts1 ts2 : List Nat} {d lo hi pl ph n m p x r f : Nat}
theorem n_lt (hT : TF cx F N) (z : SY cx F N q h s g ts ∨ FLT cx F N q h s g ts) : g 0 ≤ 2000 ∧ g 4 ≤ g 0 + 2 + g 6 ∧ 1 ≤ g 4 ∧ s.1 56 = Int32.ofNat (g 0) := by
  have := hT.1
  rcases z with z | z
  · obtain ⟨⟨_, _, _, _, ⟨c1, _, _, c4⟩, b1, _, b3, _⟩, _⟩ := z
    exact ⟨by omega, by omega, c4, c1⟩
  · obtain ⟨_, _, _, _, ⟨c1, _, _, c4⟩, b1, _, b3⟩ := z
    exact ⟨by omega, by omega, c4, c1⟩
theorem op_pC (z : SY cx F N q h s g ts ∨ FLT cx F N q h s g ts) : ∃ v, pC h cx F v := by
  rcases z with u | u
  · exact ⟨_, u.1.1⟩
  · obtain ⟨⟨v, u, _⟩, _⟩ := u
    exact ⟨v, u⟩
theorem lk_rF (hr : 44 ≤ r ∧ r ≤ 55) : rF s (lkS s r n m) := rF_trans (rF_lk (by omega)) (rF_lk hr)
theorem lk_yA (hr : r < 57) : yA s (lkS s r n m) := yA_trans (yA_A (by omega)) (yA_A (by omega))
theorem lk_tR {m2 : Nat} (hr : r = 45 ∨ r = 46 ∨ r = 47) : tR s (lkS s r n m) m2 := tR_of (fun p hp => by unfold lkS; rw [wA_ne _ _ _ (show p ≠ r by omega), wA_ne _ _ _ (show p ≠ 49 by omega)]) rfl
theorem lk_49 (hr : r ≠ 49) : (lkS s r n m).2.1 49 m = Int32.ofNat n := by
  unfold lkS
  rw [wA_get, if_neg (by omega), wA_get, if_pos ⟨rfl, rfl⟩]
theorem lk_49n {i : Nat} (hr : r ≠ 49) (hi : i ≠ m) : (lkS s r n m).2.1 49 i = s.2.1 49 i := by
  unfold lkS
  rw [wA_get, if_neg (by omega), wA_get, if_neg (by omega)]
theorem lk_on {R : Nat → Int32} {J : Int64} (hmn : m ≠ n) (o : onR s n R J) : onR (lkS s r n m) n (upd R r (Int32.ofNat m)) J := by
  have a := onR_A (i := r) (j := n) (y := Int32.ofNat m) (onR_A (i := 49) (j := m) (y := Int32.ofNat n) o)
  rw [if_neg hmn, if_pos rfl] at a
  exact a
/-- both link a part -/
theorem op_lnk {fs : List Value} {u : Value} (hT : TF cx F N) (a : OPR cx F N q h s g ts h1 s1 g1 ts1) (hp : hc h1 p = some (.inr (12, fs))) (hp2 : 21 + h.length ≤ p) (hf : f = 6 ∨ f = 8 ∨ f = 9 ∨ f = 10) (hu : fs[f]? = some u) (hr : r = 45 ∨ r = 46 ∨ r = 47) (hn : n < g1 4) (hn2 : g 4 ≤ n) (hm : m < g1 4) (hm2 : SY cx F N q h1 s1 g1 ts1 → g 4 ≤ m) (hg : g1 6 ≤ 2300) : ∃ h2, dpF h1 f [12] (some p) (.ref x) = some h2 ∧ hc h2 p = some (.inr (12, fs.set f (.ref x))) ∧ st1 p h1 h2 ∧ (∀ kk, rM w (kk + 1) 323 [.ref 36, .int (Int32.ofNat n), .int (Int32.ofNat m)] s1 = some (some (.int (Int32.ofNat m)), rs_wA s1 49 m (Int32.ofNat n))) ∧ rs_sI (rs_wA s1 49 m (Int32.ofNat n)) r (Int32.ofNat n) (Int32.ofNat m) = some (lkS s1 r n m) ∧ OPR cx F N q h s g ts h2 (lkS s1 r n m) g1 ts1 ∧ (SY cx F N q h1 s1 g1 ts1 → SY cx F N q h2 (lkS s1 r n m) g1 ts1) ∧ (SY cx F N q h2 (lkS s1 r n m) g1 ts1 → SY cx F N q h1 s1 g1 ts1) := by
  have nl := n_lt hT a.1
  obtain ⟨h2, b1, b2, b3⟩ := pF_ex (j := f) (cis := [12]) (v := .ref x) hp hu (by decide) (by rcases hf with e | e | e | e <;> subst e <;> rfl) (by decide)
  obtain ⟨o1, o2, o3⟩ := OPR_lnk (s2 := lkS s1 r n m) a b3 hp hp2 (lk_rF (by omega)) rfl (fun z => ⟨sX_trans (sX_A (hm2 z)) (sX_A hn2) (Nat.le_refl _), lk_yA (by omega)⟩) (fun _ => lk_tR (by omega)) hT
  exact ⟨h2, b1, b2, b3, fun kk => q323 (k := kk) (by omega), nWt (by omega) (by omega), o1, o2, o3⟩
theorem KD_keep (b : OPR cx F N q h s g ts h' s' g' ts') (y : SY cx F N q h' s' g' ts') (hN : KD L xs zz h s n m x lo hi pl ph) (hhi : hi ≤ g 4) (hpl : bl cx pl) : KD L xs zz h' s' n m x lo hi pl ph := by
  have rg := NR_rg _ _ _ _ _ _ _ _ hN.1
  refine ⟨NR_keep b y hN.1 hhi hpl, ?_⟩
  rw [((b.2.1 y).2.1 m (by omega)).1 49 (by omega) (by omega)]
  exact hN.2
/-- a part is linked -/
theorem KD_new {fs : List Value} (hN : NR L xs h s zz (hi - lo) lo hi pl ph m x) (wp : st1 p h h') (hp : hc h p = some (.inr (12, fs))) (hp2 : ph ≤ p ∨ p < pl) (hn : n < lo ∨ hi ≤ n) (hr : r = 45 ∨ r = 46 ∨ r = 47) : KD L xs zz h' (lkS s r n m) n m x lo hi pl ph := ⟨NR_lk hN wp hp hp2 (sA_trans (sA_A (Or.inr (Or.inr ⟨rfl, Or.inr rfl⟩))) (sA_A (by omega))) (lk_yA (by omega)), lk_49 (by omega)⟩
/-- another one is linked -/
theorem KD_lk {fs : List Value} {m2 : Nat} (hN : KD L xs zz h s n m x lo hi pl ph) (wp : st1 p h h') (hp : hc h p = some (.inr (12, fs))) (hp2 : ph ≤ p ∨ p < pl) (hn : n < lo ∨ hi ≤ n) (hm : m2 < lo ∨ hi ≤ m2) (hr : r = 45 ∨ r = 46 ∨ r = 47) : KD L xs zz h' (lkS s r n m2) n m x lo hi pl ph := by
  have rg := NR_rg _ _ _ _ _ _ _ _ hN.1
  refine ⟨NR_lk hN.1 wp hp hp2 (sA_trans (sA_A (by omega)) (sA_A (by omega))) (lk_yA (by omega)), ?_⟩
  rw [lk_49n (by omega) (by omega)]
  exact hN.2
theorem kd_of {lo' hi' pl' ph' : Nat} (K : KD L xs zz h s n m x lo' hi' pl' ph') (e1 : fd h 12 p f = some (.ref x)) (e2 : s.2.1 r n = Int32.ofNat m) (hs : sub lo hi pl ph n p lo' hi' pl' ph') : kd h s (NRq L xs h s zz) lo hi pl ph n p (f, r, false) := ⟨m, x, lo', hi', pl', ph', e1, e2, K.2, K.1, hs, fun z => by cases z⟩
/-- a node with parts alone -/
theorem kids_f {W : Nat} (hW : W = 6 ∨ W = 7 ∨ W = 9 ∨ (17 ≤ W ∧ W ≤ 22)) : ∀ c ∈ kids W, c.2.2 = false := by
  have : W = 6 ∨ W = 7 ∨ W = 9 ∨ W = 17 ∨ W = 18 ∨ W = 19 ∨ W = 20 ∨ W = 21 ∨ W = 22 := by omega
  rcases this with e | e | e | e | e | e | e | e | e <;> subst e <;> decide
theorem NR_K {W zk : Nat} (rg : 1 ≤ lo ∧ lo ≤ n ∧ n < hi ∧ pl ≤ p ∧ p < ph) (hW : W = 6 ∨ W = 7 ∨ W = 9 ∨ (17 ≤ W ∧ W ≤ 22)) (f0 : fd h 12 p 0 = some (.int (Int32.ofNat W))) (r44 : s.2.1 44 n = Int32.ofNat (wK W)) (f1 : fd h 12 p 1 = some (.int (s.2.1 50 n))) (f6 : fd h 12 p 6 = some .null) (hk : ∀ c ∈ kids W, kd h s (NRq L xs h s (kC W c.1, zk)) lo hi pl ph n p c) (f12 : (fd h 12 p 12).isSome = true) (h7 : W = 7 ∨ W = 17 ∨ W = 21 → ∃ a b, kd h s (NRq L xs h s (kC W 8, zk)) lo a pl b n p (8, 45, false) ∧ kd h s (NRq L xs h s (kC W 9, zk)) a hi b ph n p (9, 46, false)) : NR L xs h s (W / 14 * 2, zk + 1) (d + 1) lo hi pl ph n p := ⟨rg, W, ⟨by clear h7; omega, by clear h7; omega, f0, r44, f1, by clear h7; unfold cW; omega, fun z => by clear h7; omega⟩, fun _ => f6, fun c hc => (by rw [if_neg (by rw [kids_f hW c hc]; decide)]; exact hk c hc), fun z => by clear h7; omega, fun z => by clear h7; omega, fun z => by clear h7; omega, fun z => by clear h7; omega, fun z => by clear h7; omega, fun z => by clear h7; omega, fun z => by clear h7; omega, fun z => by clear h7; omega, fun z => by clear h7; omega, h7, fun z => by clear h7; omega, f12⟩
end LK
theorem KD_lz {cl L zz z2 n m x lo hi pl ph : Nat} {xs : Nat → Int32} {h : rm_H} {s : rS} (K : KD L xs (cl, zz) h s n m x lo hi pl ph) (hz : zz ≤ z2) : KD L xs (cl, z2) h s n m x lo hi pl ph := ⟨NR_lz K.1 hz, K.2⟩
section W6
variable {L : Nat} {xs : Nat → Int32} {zf : Value} {w k i : Nat} {cx : Nat → Nat} {F : Nat → Nat → Int32} {N : Nat → Int64} {q : List Value} {h : rm_H} {s : rS} {g : Nat → Nat} {ts : List Nat} {A ke kr : Nat} {i1 : Int32}
/-- a word, and an expression in parentheses -/
theorem x_w6 (hT : TF cx F N) (hA : A ≤ 2000) (IH : IHx L xs zf w cx F N q A (ke + 4) (kr + 3) 123 320 (i1 + 1)) (z : SY cx F N q h s g ts) (t : ctk cx F (g 0) = 32) : EXR 0 L xs cx F N q (A + 20) h s g ts (dM L xs zf w (ke + 6 + k) 125 [.ref (cx 7), .ref (cx 14), .int i1] h) (rM w (kr + 4 + k) 322 [.ref 36, .int i1] s) := by
  obtain ⟨h1, e1, p1, ch1, w8⟩ := sy_parts z
  have hlt := w_pass hT z 32 t (by decide) (by decide)
  have c4 := z.1.2.2.2.2.1.2.2.2
  have g6 := z.2
  have f5 := (hT.2.2 (g 0) z.1.2.2.2.2.2.1).1.1
  have l8 := w8.2.1
  have y8 := w8.2.2
  obtain ⟨h2, a1, a2, a3, a4⟩ := c_128 (L := L) (xs := xs) (zf := zf) (w := w) (k := ke + k) hT p1 hlt 6
  rw [l8] at a1 a3
  have l2 : h2.length = h.length + 1 := by rw [a4.2.1, List.length_append, l8]; rfl
  have y2 : zh h2 = zh h + 13 := by rw [a4.2.2, zh_nd, y8]
  obtain ⟨sy2, op2, on2⟩ := SY_nd z hlt 6 a2 (CH_r (pC_ap p1) a4 (CH_ap (Or.inl (nd0_5 _ _)) ch1)) (fr_M4_8 w8 (fr_trans (fr_app _ _) a4.1 (fun _ _ u => u))) ⟨by omega, nD_1 (by omega) a3 (fun _ z => by cases z)⟩ (by omega) (by decide) hT
  have q0 : gu (gu g 0 (g 0 + 1)) 4 (g 4 + 1) 0 = g 0 + 1 := rfl
  have q4 : gu (gu g 0 (g 0 + 1)) 4 (g 4 + 1) 4 = g 4 + 1 := rfl
  have q6 : gu (gu g 0 (g 0 + 1)) 4 (g 4 + 1) 6 = g 6 := rfl
  obtain ⟨h3, s3, g3, b1, b2, op3, n3, w3, s3e, y31, y32, y33, y34, y35, y36⟩ := op_need (L := L) (xs := xs) (zf := zf) (w := w) (k := ke + k) (k2 := kr + k) hT P40 (Or.inl sy2)
  have l3 := w3.2.1
  obtain ⟨v3, p3⟩ := op_pC op3.1
  have cp3 := on_keep (Or.inl sy2) op3 a3
  obtain ⟨h4, s4, g4, ts4, x, m, ec, er, op4, sl, nx, xl, nl, nr⟩ := IH k k h3 s3 g3 ts op3.1 (by omega)
  have cp4 := on_keep op3.1 op4 cp3
  have o4 := op4.2.2.2.2.2.1
  have o3 := op3.2.2.2.2.2.1
  have hm2 : SY cx F N q h4 s4 g4 ts4 → g3 4 ≤ m := fun u => (NR_rg _ _ _ _ _ _ _ _ (nr u).2.2).2.1
  obtain ⟨h5, d1, d2, d3, d4, d5, op5, f45, f54⟩ := op_lnk (w := w) (x := x) (f := 8) (r := 45) (n := g 4) (m := m) hT (OPR_trans (OPR_trans op2 op3) op4) cp4 (Nat.le_refl _) (by omega) rfl (by omega) (by omega) (Nat.le_refl _) nl (fun u => by have := hm2 u; omega) (by omega)
  obtain ⟨v5, p5⟩ := op_pC op5.1
  obtain ⟨h6, s6, g6', e61, e62, op6, n6, w6, s6e, y61, y62, y63, y64, y65, y66⟩ := op_need (L := L) (xs := xs) (zf := zf) (w := w) (k := ke + k) (k2 := kr + k) hT P41 op5.1
  obtain ⟨v2, p2⟩ := op_pC (Or.inl sy2)
  obtain ⟨v4, p4⟩ := op_pC op4.1
  have cp6 := on_keep op5.1 op6 d2
  have l6 := w6.2.1
  have l5 := d3.2.1
  have le34 := op4.2.2.1.1
  have hlt6 := hc_lt cp6
  refine ⟨h6, s6, g6', ts4, 21 + h.length, g 4, ?_, ?_, OPR_trans op5 op6, by omega, nW_of (o := none) cp6 rfl rfl rfl, Nat.le_refl _, by omega, fun u => ?_⟩
  · rw [show ke + 6 + k = ke + 5 + k + 1 from by omega]
    refine c_125 (k := ke + 5 + k) z.1.1 p1 z.1.2.2.2.1 e1 (mi := 131) (As := [.ref (cx 14), .int i1]) (by rw [t]; rfl) ?_
    rw [show ke + 5 + k = ke + k + 4 + 1 from by omega, e131]
    show b131_0 L xs zf (dM L xs zf w (ke + k + 4)) w (some (cx 7)) (some (cx 14)) i1 h1 = _
    unfold b131_0
    refine bse (a := (some (21 + h.length), h2)) (by rw [c_pv p1, a1]; rfl) ?_
    refine bse (a := h3) (by rw [c_pv p2, b1]; rfl) ?_
    refine bse (a := (some x, h4)) (by rw [c_pv p3, va_s, show ke + k + 4 = ke + 4 + k from by omega, ec]; rfl) ?_
    refine bse d1 ?_
    exact bse (a := h6) (by rw [c_pv p5, e61]; rfl) rfl
  · rw [show kr + 4 + k = kr + k + 1 + 3 from by omega]
    refine r_322 (kk := 6) hT z (Or.inr (Or.inr (Or.inr (Or.inr (Or.inr (Or.inl ⟨t, rfl⟩)))))) ?_
    unfold s322_k
    refine ift (by decide) (ifn (by decide) ?_)
    refine bse (a := s3) (by rw [show kr + k + 1 + 2 = kr + k + 3 from by omega, b2]; rfl) ?_
    refine bse (a := (Int32.ofNat m, s4)) (by rw [show kr + k + 1 + 2 = kr + 3 + k from by omega, er]; rfl) ?_
    refine bse (a := (Int32.ofNat m, rs_wA s4 49 m (Int32.ofNat (g 4)))) (by rw [d4]; rfl) ?_
    refine bse d5 ?_
    exact bse (a := s6) (by rw [show kr + k + 1 + 2 = kr + k + 3 from by omega, e62]; rfl) rfl
  · have o6 := op6.2.2.2.2.2.1
    have u5 := (op6.2.1 u).1
    have u4 := f54 u5
    have u3 := (op4.2.1 u4).1
    obtain ⟨v1, v48, v2⟩ := nr u4
    have rg := NR_rg _ _ _ _ _ _ _ _ v2
    have on6 := onR_keep op6 u (by omega) (lk_on (r := 45) (m := m) (by omega) (onR_keep op4 u4 (by omega) (onR_keep op3 u3 (by omega) on2)))
    have K5 := KD_new (n := g 4) (r := 45) v2 d3 cp4 (by omega) (by omega) (by omega)
    have K6 := KD_keep op6 u K5 (by omega) (bl_le (sy_cx (Or.inl z)) (by omega))
    refine ⟨by omega, by rw [on6.1 48 (by omega) (by omega), upd_ne _ _ (by decide), upd_ne _ _ (by decide)]; rfl, ?_⟩
    obtain ⟨d, hd⟩ : ∃ d, g6' 4 - g 4 = d + 1 := ⟨g6' 4 - g 4 - 1, by omega⟩
    rw [hd]
    refine NR_K (W := 6) ⟨c4, Nat.le_refl _, by omega, Nat.le_refl _, hlt6⟩ (by omega) ?_ ?_ ?_ ?_ (fun c hc => ?_) (by rw [fd_of cp6]; rfl) (fun z => by omega)
    · rw [fd_of cp6]; rfl
    · rw [on6.1 44 (by omega) (by omega), upd_ne _ _ (by decide), upd_ne _ _ (by decide)]; rfl
    · rw [fd_of cp6, on6.1 50 (by omega) (by omega), upd_ne _ _ (by decide), upd_ne _ _ (by decide)]
      show some (Value.int (cpl cx F (g 0))) = some (Value.int (F 5 (g 0)))
      rw [f5]
    · rw [fd_of cp6]; rfl
    · have : c = (8, 45, false) := by simpa [kids] using hc
      subst this
      refine kd_of (KD_lz K6 (by omega)) ?_ ?_ ?_
      · rw [fd_of cp6]; rfl
      · rw [on6.1 45 (by omega) (by omega), upd_eq]
      · unfold sub; omega
end W6
