/-! A BODY BEGINS, A BODY ENDS. -/
/-- what the run reads of a Method -/
def MB (h : rm_H) (Z : Nat → Prop) (M : Nat) (num : Int32) (np loc : Nat) (en : Int32) : Prop := ∃ (fs : List Value) (pl ar : Nat) (mc : Value), hc h M = some (.inr (11, fs)) ∧ fs[2]? = some (.int num) ∧ fs[5]? = some (.ref pl) ∧ fs[10]? = some (.int (Int32.ofNat loc)) ∧ fs[11]? = some (.int en) ∧ hc h pl = some (.inr (5, [.ref ar, .int (Int32.ofNat np), mc])) ∧ ¬ Z M ∧ ¬ Z pl
/-- a body begins -/
def sE (sg : cS) (a b : Nat) (en bs self : Int32) : cS := sR (sR (sR (sA' sg a 3 (Int32.ofNat (b + 1))) a 7 b en) a 8 b bs) a 9 b self
section ENT
variable {L : Nat} {xs : Nat → Int32} {zf : Value} {w k : Nat} {cd : Value} {n : Nat} {sg sg' sg2 : cS} {Z : Nat → Prop} {hB h h' h2 : rm_H} {a b r j i z c ht M np loc : Nat} {v num en : Int32} {f : Nat → Int32}
theorem mb_k (mb : MB hB Z M num np loc en) (q : RH cd n sg Z hB h) : MB h Z M num np loc en := by
  obtain ⟨fs, pl, ar, mc, h1, h2, h3, h4, h5, h6, h7, h8⟩ := mb
  exact ⟨fs, pl, ar, mc, fr_old q.1 h1 h7, h2, h3, h4, h5, fr_old q.1 h6 h8, h7, h8⟩
theorem sz_of {pl ar : Nat} {x : Int32} {mc : Value} (e : hc h pl = some (.inr (5, [.ref ar, .int x, mc]))) : dM L xs zf w (k + 1) 101 [.ref pl] h = some (some (.int x), h) := by
  rw [e101]
  show b101_0 L xs zf (dM L xs zf w k) w (some pl) h = _
  unfold b101_0
  exact bse (hc_gI e rfl rfl) rfl
theorem mb_np (mb : MB h Z M num np loc en) : ∃ pl : Nat, dgR L xs h 5 [11] (some M) = some (some pl) ∧ (dcV L xs (dM L xs zf w (k + 1)) 101 [5] (some pl) [] h).bind dxI = some (Int32.ofNat np, h) := by
  obtain ⟨fs, pl, ar, mc, h1, h2, h3, h4, h5, h6, h7, h8⟩ := mb
  refine ⟨pl, hc_gR h1 h3 rfl, ?_⟩
  rw [dcV_of (hc_ge h6) (hc_at h6) rfl, sz_of h6]
  rfl
theorem mb_2 (mb : MB h Z M num np loc en) : dgI L xs h 2 [11] (some M) = some num := by
  obtain ⟨fs, pl, ar, mc, h1, h2, h3, h4, h5, h6, h7, h8⟩ := mb
  exact hc_gI h1 h2 rfl
theorem mb_10 (mb : MB h Z M num np loc en) : dgI L xs h 10 [11] (some M) = some (Int32.ofNat loc) := by
  obtain ⟨fs, pl, ar, mc, h1, h2, h3, h4, h5, h6, h7, h8⟩ := mb
  exact hc_gI h1 h4 rfl
theorem mb_11 (mb : MB h Z M num np loc en) : dgI L xs h 11 [11] (some M) = some en := by
  obtain ⟨fs, pl, ar, mc, h1, h2, h3, h4, h5, h6, h7, h8⟩ := mb
  exact hc_gI h1 h5 rfl
theorem k_ent_e {bs self : Int32} {N : Nat} (mb : MB hB Z M num np loc en) (q : RH cd n sg Z hB h) (ha : a < n) (hb : sg.2.2.1 a 3 = Int32.ofNat b) (b10 : b < 10) (l16 : loc ≤ 1000) : ∃ h', b244_40 L xs zf (dM L xs zf w (k + 3)) w (N + 1) (some (sg.2.2.2.2 a 0)) (some M) self bs (Int32.ofNat loc) h = some (none, h') ∧ RH cd n (sE sg a b en bs self) Z hB h' ∧ h'.length = h.length ∧ zh h' = zh h := by
  obtain ⟨h1, p1, p2, p3⟩ := pA' (j := 3) (v := Int32.ofNat (b + 1)) q ha (by decide)
  have hb1 : (sA' sg a 3 (Int32.ofNat (b + 1))).2.2.1 a 3 = Int32.ofNat (b + 1) := if_pos ⟨rfl, rfl⟩
  obtain ⟨h2, w1, w2, w3⟩ := wI_at (i := b) (v := en) (RH_ar (r := 1) p2 ha (by decide)) (by show b < 10; omega) (by decide)
  have q2 := RH_R p2 ha (Or.inl ⟨rfl, rfl, rfl⟩) w2 w3
  obtain ⟨h3, u1, u2, u3⟩ := wI_at (i := b) (v := bs) (RH_ar (r := 2) q2 ha (by decide)) (by show b < 10; omega) (by decide)
  have q3 := RH_R q2 ha (Or.inr (Or.inl ⟨rfl, rfl, rfl⟩)) u2 u3
  obtain ⟨h4, y1, y2, y3⟩ := wI_at (i := b) (v := self) (RH_ar (r := 3) q3 ha (by decide)) (by show b < 10; omega) (by decide)
  have q4 := RH_R q3 ha (Or.inr (Or.inr (Or.inl ⟨rfl, rfl, rfl⟩))) y2 y3
  have kt1 := k_top0 (L := L) (xs := xs) (zf := zf) (w := w) (k := k + 1) p2 ha hb1 (by omega)
  have kt2 := k_top0 (L := L) (xs := xs) (zf := zf) (w := w) (k := k + 1) q2 ha hb1 (by omega)
  have kt3 := k_top0 (L := L) (xs := xs) (zf := zf) (w := w) (k := k + 1) q3 ha hb1 (by omega)
  refine ⟨h4, ?_, q4, by rw [y3.2.1, u3.2.1, w3.2.1, p3.2.1], by rw [y3.2.2, u3.2.2, w3.2.2, p3.2.2]⟩
  show (dgI L xs h 10 [11] (some M)).bind _ = _
  refine bse (mb_10 (mb_k mb q)) ?_
  refine ift (by rw [f2_ge]; exact decide_eq_true (Int.le_refl _)) ?_
  refine bse ((gA (L := L) (xs := xs) q ha (j := 3) (by omega)).trans (congrArg some hb)) ?_
  rw [of_inc]
  refine bse p1 ?_
  refine bse (gAr (L := L) (xs := xs) (r := 1) (j := 7) p2 ha (by decide)) ?_
  refine bse kt1 ?_
  refine bse (mb_11 (mb_k mb p2)) ?_
  refine bse w1 ?_
  refine bse (gAr (L := L) (xs := xs) (r := 2) (j := 8) q2 ha (by decide)) ?_
  refine bse kt2 ?_
  refine bse u1 ?_
  refine bse (gAr (L := L) (xs := xs) (r := 3) (j := 9) q3 ha (by decide)) ?_
  refine bse kt3 ?_
  exact bse y1 rfl
theorem k_ent_l {bs self : Int32} (mb : MB hB Z M num np loc en) (ha : a < n) (b10 : b < 10) (l16 : loc ≤ 1000) : ∀ (r : Nat) (sg : cS) (h : rm_H) (ht N : Nat), RH cd n sg Z hB h → sg.2.2.1 a 13 = Int32.ofNat ht → ht ≤ sg.2.2.2.2 a 13 → 64 ≤ sg.2.2.2.2 a 13 → sg.2.2.2.2 a 13 ≤ 40000 → ht + r ≤ 20000 → sg.2.2.1 a 3 = Int32.ofNat b → r ≤ loc → r < N → ∃ (h' : rm_H) (z c : Nat) (f : Nat → Int32), b244_40 L xs zf (dM L xs zf w (k + 3)) w N (some (sg.2.2.2.2 a 0)) (some M) self bs (Int32.ofNat (loc - r)) h = some (none, h') ∧ RH cd n (sE (sQ sg a z c f (ht + r)) a b en bs self) Z hB h' ∧ (∀ i, i < ht → f i = sg.2.2.2.1 a 12 i) ∧ (∀ i, ht ≤ i → i < ht + r → f i = 0) ∧ ht + r ≤ c ∧ 64 ≤ c ∧ (c ≤ sg.2.2.2.2 a 13 ∨ c ≤ 2 * (ht + r)) ∧ CST n sg h (sQ sg a z c f (ht + r)) h' := by
  intro r
  induction r with
  | zero =>
    intro sg h ht N q hh hl c64 hm h2 hb hr hN
    obtain ⟨N', rfl⟩ : ∃ N', N = N' + 1 := ⟨N - 1, by omega⟩
    obtain ⟨h', p1, p2, p3, p4⟩ := k_ent_e (L := L) (xs := xs) (zf := zf) (w := w) (k := k) (bs := bs) (self := self) (N := N') mb q ha hb b10 l16
    have e : sQ sg a (sg.2.2.2.2 a 12) (sg.2.2.2.2 a 13) (sg.2.2.2.1 a 12) ht = sg := by
      rw [← sQ_pop]
      unfold sA'
      refine Prod.ext rfl (Prod.ext rfl (Prod.ext (funext fun b => funext fun p => ?_) rfl))
      show (if b = a ∧ p = 13 then Int32.ofNat ht else sg.2.2.1 b p) = sg.2.2.1 b p
      by_cases c : b = a ∧ p = 13
      · rw [if_pos c, c.1, c.2, hh]
      · rw [if_neg c]
    refine ⟨h', sg.2.2.2.2 a 12, sg.2.2.2.2 a 13, sg.2.2.2.1 a 12, p1, ?_, fun _ _ => rfl, fun i h1 h2 => by omega, hl, c64, Or.inl (Nat.le_refl _), ?_⟩
    · rw [Nat.add_zero, e]; exact p2
    · rw [Nat.add_zero, e]; exact CST_0 (fun _ => rfl) p3 p4
  | succ r ih =>
    intro sg h ht N q hh hl c64 hm h2 hb hr hN
    obtain ⟨N', rfl⟩ : ∃ N', N = N' + 1 := ⟨N - 1, by omega⟩
    obtain ⟨h1, z, c, f, p1, p2, p3, p4, p5, p6, p7⟩ := k_push (L := L) (xs := xs) (zf := zf) (w := w) (k := k) (v := 0) q ha hh hl c64 hm
    have e0 : (sQ sg a z c f (ht + 1)).2.2.2.2 a 0 = sg.2.2.2.2 a 0 := sQ_P (Or.inl (by decide))
    obtain ⟨h', z2, c2, f2, r1, r2, r3, r4, r5, r6, r7, r8⟩ := ih (sQ sg a z c f (ht + 1)) h1 (ht + 1) N' p2 sQ_h (by rw [sQ_c]; omega) (by rw [sQ_c]; omega) (by rw [sQ_c]; omega) (by omega) ((sQ_A (Or.inl (by decide))).trans hb) (by omega) (by omega)
    rw [e0] at r1
    rw [sQ_sQ] at r2 r8
    rw [sQ_c] at r7
    rw [show ht + 1 + r = ht + (r + 1) from by omega] at r2 r4 r5 r7 r8
    refine ⟨h', z2, c2, f2, ?_, r2, fun i hi => ?_, fun i g1 g2 => ?_, r5, r6, ?_, CST_t p7 r8⟩
    · show (dgI L xs h 10 [11] (some M)).bind _ = _
      refine bse (mb_10 (mb_k mb q)) ?_
      refine ifn (by rw [f2_ge, of_int (by omega), of_int (by omega)]; exact fun z => absurd (of_decide_eq_true z) (by omega)) ?_
      refine bse (a := h1) ?_ ?_
      · rw [cV_a q ha, p1]
        rfl
      · rw [show Int32.ofNat (loc - (r + 1)) + 1 = Int32.ofNat (loc - r) from by rw [of_inc, show loc - (r + 1) + 1 = loc - r from by omega]]
        exact r1
    · rw [r3 i (by omega), sQ_f, p3 i hi]
    · by_cases g : i = ht
      · rw [r3 i (by omega), sQ_f, g, p4]
      · exact r4 i (by omega) g2
    · omega
/-- a body begins, its arguments on the stack -/
theorem k_enter {self : Int32} (mb : MB hB Z M num np loc en) (q : RH cd n sg Z hB h) (ha : a < n) (hb : sg.2.2.1 a 3 = Int32.ofNat b) (b10 : b < 10) (l16 : loc ≤ 1000) (hh : sg.2.2.1 a 13 = Int32.ofNat (ht + np)) (hnp : np ≤ loc) (hl : ht + np ≤ sg.2.2.2.2 a 13) (c64 : 64 ≤ sg.2.2.2.2 a 13) (hm : sg.2.2.2.2 a 13 ≤ 40000) (h2 : ht + loc ≤ 20000) (hw : 2000 ≤ w) : ∃ (h' : rm_H) (z c : Nat) (f : Nat → Int32), dM L xs zf w (k + 4) 244 [.ref (sg.2.2.2.2 a 0), .ref M, .int self] h = some (none, h') ∧ RH cd n (sE (sQ sg a z c f (ht + loc)) a b en (Int32.ofNat ht) self) Z hB h' ∧ (∀ i, i < ht + np → f i = sg.2.2.2.1 a 12 i) ∧ (∀ i, ht + np ≤ i → i < ht + loc → f i = 0) ∧ ht + loc ≤ c ∧ 64 ≤ c ∧ (c ≤ sg.2.2.2.2 a 13 ∨ c ≤ 2 * (ht + loc)) ∧ CST n sg h (sQ sg a z c f (ht + loc)) h' := by
  obtain ⟨h', z, c, f, r1, r2, r3, r4, r5, r6, r7, r8⟩ := k_ent_l (L := L) (xs := xs) (zf := zf) (w := w) (k := k) (bs := Int32.ofNat ht) (self := self) mb ha b10 l16 (loc - np) sg h (ht + np) w q hh hl c64 hm (by omega) hb (by omega) (by omega)
  rw [show ht + np + (loc - np) = ht + loc from by omega] at r2 r4 r5 r7 r8
  rw [show loc - (loc - np) = np from by omega] at r1
  refine ⟨h', z, c, f, ?_, r2, r3, r4, r5, r6, r7, r8⟩
  rw [e244]
  show b244_0 L xs zf (dM L xs zf w (k + 3)) w (some (sg.2.2.2.2 a 0)) (some M) self h = _
  unfold b244_0
  obtain ⟨pl, s1, s2⟩ := mb_np (L := L) (xs := xs) (zf := zf) (w := w) (k := k + 2) (mb_k mb q)
  refine bse ((gA (L := L) (xs := xs) q ha (j := 3) (by omega)).trans (congrArg some hb)) ?_
  refine ift (by rw [f2_lt, of_int (by omega)]; exact decide_eq_true (show (b : Int) < (10 : Int32).toInt from by rw [show (10 : Int32).toInt = 10 from by decide]; omega)) ?_
  refine bse ((gA (L := L) (xs := xs) q ha (j := 13) (by omega)).trans (congrArg some hh)) ?_
  refine bse s1 (bse s2 ?_)
  refine bse (a := (Int32.ofNat ht, h)) ?_ ?_
  · show ((dM L xs zf w (k + 3) 18 [.int 0, .int (Int32.ofNat (ht + np) - Int32.ofNat np)] h).bind dxI) = _
    rw [show ht + np = np + ht from by omega, of_dif _ _ (by omega), show (0 : Int32) = Int32.ofNat 0 from rfl, mx_max _ _ (by omega) (by omega)]
    rfl
  · refine bse s1 (bse s2 ?_)
    exact r1
theorem k_idle (q : RH cd n sg Z hB h) (ha : a < n) : ∃ h', dM L xs zf w (k + 1) 229 [.ref (sg.2.2.2.2 a 0)] h = some (none, h') ∧ RH cd n (sA' (sA' sg a 3 0) a 13 0) Z hB h' ∧ h'.length = h.length ∧ zh h' = zh h := by
  obtain ⟨h1, p1, p2, p3⟩ := pA' (j := 3) (v := 0) q ha (by decide)
  obtain ⟨h2, r1, r2, r3⟩ := pA' (j := 13) (v := 0) p2 ha (by decide)
  refine ⟨h2, ?_, r2, r3.2.1.trans p3.2.1, r3.2.2.trans p3.2.2⟩
  rw [e229]
  show b229_0 L xs zf (dM L xs zf w k) w (some (sg.2.2.2.2 a 0)) h = _
  unfold b229_0
  exact bse p1 (bse r1 rfl)
theorem k_fail {x : Int32} (q : RH cd n sg Z hB h) (ha : a < n) : ∃ h', dM L xs zf w (k + 2) 261 [.ref 24, .ref (sg.2.2.2.2 a 0), .int x] h = some (none, h') ∧ RH cd n (sA' (sA' (sA' (sXc sg 15 (sg.1 15 + 1)) a 6 x) a 3 0) a 13 0) Z hB h' ∧ h'.length = h.length ∧ zh h' = zh h := by
  obtain ⟨h1, p1, p2, p3⟩ := pX (j := 15) (v := sg.1 15 + 1) q (by decide)
  obtain ⟨h2, r1, r2, r3⟩ := pA' (j := 6) (v := x) p2 ha (by decide)
  obtain ⟨h3, t1, t2, t3, t4⟩ := k_idle (L := L) (xs := xs) (zf := zf) (w := w) (k := k) r2 ha
  refine ⟨h3, ?_, t2, t3.trans (r3.2.1.trans p3.2.1), t4.trans (r3.2.2.trans p3.2.2)⟩
  rw [e261]
  show b261_0 L xs zf (dM L xs zf w (k + 1)) w (some 24) (some (sg.2.2.2.2 a 0)) x h = _
  unfold b261_0
  refine bse (gX (L := L) (xs := xs) q (by decide)) (bse p1 (bse r1 ?_))
  refine bse (a := h3) ?_ rfl
  show ((dcV L xs (dM L xs zf w (k + 1)) 229 [14] (some ((sA' (sXc sg 15 (sg.1 15 + 1)) a 6 x).2.2.2.2 a 0)) [] h2).bind dxV) = _
  rw [cV_a r2 ha, t1]
  rfl
theorem k_leave {bs : Nat} (q : RH cd n sg Z hB h) (ha : a < n) (hb : sg.2.2.1 a 3 = Int32.ofNat (b + 1)) (b10 : b + 1 ≤ 10) (hs : sg.2.2.2.1 a 8 b = Int32.ofNat bs) (hl : bs ≤ sg.2.2.2.2 a 13) (c64 : 64 ≤ sg.2.2.2.2 a 13) (hm : sg.2.2.2.2 a 13 ≤ 40000) : ∃ (h' : rm_H) (sg' : cS), dM L xs zf w (k + 4) 259 [.ref (sg.2.2.2.2 a 0), .int v] h = some (none, h') ∧ RH cd n sg' Z hB h' ∧ CST n sg h sg' h' ∧ ((b = 0 ∧ sg' = sA' (sA' (sA' sg a 13 (Int32.ofNat bs)) a 3 0) a 13 0) ∨ (1 ≤ b ∧ ∃ (z c : Nat) (f : Nat → Int32), sg' = sQ (sA' (sA' sg a 13 (Int32.ofNat bs)) a 3 (Int32.ofNat b)) a z c f (bs + 1) ∧ (∀ i, i < bs → f i = sg.2.2.2.1 a 12 i) ∧ f bs = v ∧ bs < c ∧ (c = sg.2.2.2.2 a 13 ∨ (c = 2 * sg.2.2.2.2 a 13 ∧ bs = sg.2.2.2.2 a 13)))) := by
  obtain ⟨h1, p1, p2, p3⟩ := pA' (j := 13) (v := Int32.ofNat bs) q ha (by decide)
  have hb1 : (sA' sg a 13 (Int32.ofNat bs)).2.2.1 a 3 = Int32.ofNat (b + 1) := (if_neg (fun z => absurd z.2 (by decide))).trans hb
  obtain ⟨h2, r1, r2, r3⟩ := pA' (j := 3) (v := Int32.ofNat b) p2 ha (by decide)
  have hb2 : (sA' (sA' sg a 13 (Int32.ofNat bs)) a 3 (Int32.ofNat b)).2.2.1 a 3 = Int32.ofNat b := if_pos ⟨rfl, rfl⟩
  have hh2 : (sA' (sA' sg a 13 (Int32.ofNat bs)) a 3 (Int32.ofNat b)).2.2.1 a 13 = Int32.ofNat bs := (if_neg (fun z => absurd z.2 (by decide))).trans (if_pos ⟨rfl, rfl⟩)
  have head : ∀ X, (if mx_f1 .ne (Int32.ofNat b) = true then ((dcV L xs (dM L xs zf w (k + 3)) 243 [14] (some (sg.2.2.2.2 a 0)) [.int v] h2).bind dxV).bind fun h22 => b259_47 L xs zf (dM L xs zf w (k + 3)) w h22 else (dpF h2 13 [14] (some (sg.2.2.2.2 a 0)) (.int 0)).bind fun h26 => b259_47 L xs zf (dM L xs zf w (k + 3)) w h26) = X → dM L xs zf w (k + 4) 259 [.ref (sg.2.2.2.2 a 0), .int v] h = X := by
    intro X hX
    rw [e259]
    show b259_0 L xs zf (dM L xs zf w (k + 3)) w (some (sg.2.2.2.2 a 0)) v h = _
    unfold b259_0
    rw [gAr (L := L) (xs := xs) (r := 2) (j := 8) q ha (by decide)]
    show ((dcV L xs (dM L xs zf w (k + 3)) 245 [14] (some (sg.2.2.2.2 a 0)) [] h).bind dxI).bind _ = _
    rw [k_top0 (k := k + 1) q ha hb b10]
    show (daI L xs h (some (pA sg a 2)) (Int32.ofNat b)).bind _ = _
    rw [rI_at (RH_ar (r := 2) q ha (by decide)) (by show b < 10; omega) (by decide), show (sg.2.2.2.1 a (rj 2).1 b) = Int32.ofNat bs from hs]
    show (dpF h 13 [14] (some (sg.2.2.2.2 a 0)) (.int (Int32.ofNat bs))).bind _ = _
    rw [p1]
    show (dgI L xs h1 3 [14] (some (sg.2.2.2.2 a 0))).bind _ = _
    rw [show dgI L xs h1 3 [14] (some (sg.2.2.2.2 a 0)) = some (Int32.ofNat (b + 1)) from (gA (L := L) (xs := xs) p2 ha (j := 3) (by omega)).trans (congrArg some hb1)]
    show ((dM L xs zf w (k + 3) 18 [.int 0, .int (Int32.ofNat (b + 1) - 1)] h1).bind dxI).bind _ = _
    rw [of_dec, show (0 : Int32) = Int32.ofNat 0 from rfl, mx_max _ _ (by omega) (by omega)]
    show (dpF h1 3 [14] (some (sg.2.2.2.2 a 0)) (.int (Int32.ofNat b))).bind _ = _
    rw [show dpF h1 3 [14] (some (sg.2.2.2.2 a 0)) (.int (Int32.ofNat b)) = some h2 from r1]
    show (dgI L xs h2 3 [14] (some (sg.2.2.2.2 a 0))).bind _ = _
    rw [show dgI L xs h2 3 [14] (some (sg.2.2.2.2 a 0)) = some (Int32.ofNat b) from (gA (L := L) (xs := xs) r2 ha (j := 3) (by omega)).trans (congrArg some hb2)]
    exact hX
  have lz : h2.length = h.length ∧ zh h2 = zh h := ⟨r3.2.1.trans p3.2.1, r3.2.2.trans p3.2.2⟩
  by_cases b0 : b = 0
  · subst b0
    obtain ⟨h3, t1, t2, t3⟩ := pA' (j := 13) (v := 0) r2 ha (by decide)
    refine ⟨h3, _, head _ ?_, t2, CST_0 (fun _ => rfl) (t3.2.1.trans lz.1) (t3.2.2.trans lz.2), Or.inl ⟨rfl, rfl⟩⟩
    refine ifn (by decide) ?_
    exact bse t1 rfl
  · obtain ⟨h3, z, c, f, t1, t2, t3, t4, t5, t6, t7⟩ := k_push (L := L) (xs := xs) (zf := zf) (w := w) (k := k) (v := v) r2 ha hh2 hl c64 hm
    refine ⟨h3, _, head _ ?_, t2, CST_t (sg' := sA' (sA' sg a 13 (Int32.ofNat bs)) a 3 (Int32.ofNat b)) (CST_0 (fun _ => rfl) lz.1 lz.2) t7, Or.inr ⟨by omega, z, c, f, rfl, t3, t4, t5, t6⟩⟩
    refine ift (ne1_t (ofn_0 (by omega) (by omega))) ?_
    refine bse (a := h3) ?_ rfl
    show ((dcV L xs (dM L xs zf w (k + 3)) 243 [14] (some ((sA' (sA' sg a 13 (Int32.ofNat bs)) a 3 (Int32.ofNat b)).2.2.2.2 a 0)) [.int v] h2).bind dxV) = _
    rw [cV_a r2 ha, t1]
    rfl
end ENT
