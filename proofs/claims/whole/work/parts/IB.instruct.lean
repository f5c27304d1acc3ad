/-! THE CLASS: AN INSTRUCTION, FROM OUTSIDE; A NEW ACTOR. -/
/-- it is counted, the body goes on behind p -/
def sCn (sg : cS) (a : Nat) : cS := sA' (sXc sg 11 (sg.1 11 + 1)) a 5 (sg.2.2.1 a 5 + 1)
def sI1 (sg : cS) (a d p : Nat) : cS := sR (sCn sg a) a 7 d (Int32.ofNat (p + 1))
section INS
variable {L : Nat} {xs : Nat → Int32} {zf : Value} {w k : Nat} {n : Nat} {sg : cS} {Z : Nat → Prop} {hB h : rm_H} {a b d i p j o P sz : Nat} {A B : Nat → Int32} {es : List Nat} {v : Int32}
theorem k_7P (q : RH (.ref P) n sg Z hB h) : dgR L xs h 7 [2] (some 24) = some (some P) := hc_gR (RH_wd (x := 0) q (by decide)) rfl rfl
theorem k_cnt (q : RH (.ref P) n sg Z hB h) (ha : a < n) : ∃ h3 h7, dpF h 11 [2] (some 24) (.int (sg.1 11 + 1)) = some h3 ∧ RH (.ref P) n (sXc sg 11 (sg.1 11 + 1)) Z hB h3 ∧ dpF h3 5 [14] (some (sg.2.2.2.2 a 0)) (.int (sg.2.2.1 a 5 + 1)) = some h7 ∧ RH (.ref P) n (sCn sg a) Z hB h7 ∧ h7.length = h.length ∧ zh h7 = zh h := by
  obtain ⟨h3, p1, p2, p3⟩ := pX (j := 11) (v := sg.1 11 + 1) q (by decide)
  obtain ⟨h7, r1, r2, r3⟩ := pA' (j := 5) (v := sg.2.2.1 a 5 + 1) p2 ha (by decide)
  exact ⟨h3, h7, p1, p2, r1, r2, r3.2.1.trans p3.2.1, r3.2.2.trans p3.2.2⟩
theorem k_ins (cb : CB hB Z P A B sz es) (q : RH (.ref P) n sg Z hB h) (ha : a < n) (hb : sg.2.2.1 a 3 = Int32.ofNat (d + 1)) (d10 : d + 1 ≤ 10) (h7 : sg.2.2.2.1 a 7 d = Int32.ofNat b) (pj : PJ A B j b p) (hA : A p = Int32.ofNat o) (ho : o ≤ 19) (hw : 9010 ≤ w) : ∃ h1, RH (.ref P) n (sI1 sg a d p) Z hB h1 ∧ h1.length = h.length ∧ zh h1 = zh h ∧ ∀ h', dM L xs zf w (k + 5) 251 [.ref 24, .ref (sg.2.2.2.2 a 0), .int (Int32.ofNat p)] h1 = some (none, h') → dM L xs zf w (k + 6) 237 [.ref 24, .ref (sg.2.2.2.2 a 0)] h = some (some (.int 1), h') := by
  obtain ⟨h3, hh, p1, p2, r1, r2, l1, l2⟩ := k_cnt q ha
  have n99 : A p ≠ 99 := by
    rw [hA]
    have : ∀ o, o ≤ 19 → Int32.ofNat o ≠ 99 := by decide
    exact this o ho
  have b3 : (sCn sg a).2.2.1 a 3 = Int32.ofNat (d + 1) := by
    show (sA' (sXc sg 11 (sg.1 11 + 1)) a 5 (sg.2.2.1 a 5 + 1)).2.2.1 a 3 = _
    rw [sA_ne (Or.inl (by decide))]
    exact hb
  have hne : mx_f1 .ne (Int32.ofNat (d + 1)) = true := ne1_t (ofn_0 (by omega) (by omega))
  have kn := k_next (L := L) (xs := xs) (zf := zf) (w := w) (k := k + 2) r2 ha b3 d10
  have kp := k_pass (L := L) (xs := xs) (zf := zf) (w := w) (k := k + 3) (cb_k cb r2) n99 pj hw
  obtain ⟨h1, t1, t2, t3, t4⟩ := k_goTo (L := L) (xs := xs) (zf := zf) (w := w) (k := k + 2) (v := Int32.ofNat (p + 1)) r2 ha b3 d10
  obtain ⟨vs, pP, _⟩ := cb_P (cb_k cb r2)
  refine ⟨h1, t2, t3.trans l1, t4.trans l2, fun h' hx => ?_⟩
  rw [e237]
  show b237_0 L xs zf (dM L xs zf w (k + 5)) w (some 24) (some (sg.2.2.2.2 a 0)) h = _
  unfold b237_0
  refine bse (k_7P q) ?_
  refine ifn (fun z => by cases z) ?_
  refine bse ((gA (L := L) (xs := xs) q ha (j := 3) (by decide)).trans (congrArg some hb)) ?_
  refine ift hne ?_
  unfold b237_23
  refine bse (gX (L := L) (xs := xs) q (j := 11) (by decide)) (bse p1 ?_)
  refine bse (gA (L := L) (xs := xs) p2 ha (j := 5) (by decide)) (bse r1 ?_)
  refine bse ((gA (L := L) (xs := xs) r2 ha (j := 3) (by decide)).trans (congrArg some b3)) ?_
  refine ift hne ?_
  refine bse (k_7P r2) ?_
  refine bse (a := (Int32.ofNat b, hh)) ?_ ?_
  · have cv := cV_a (L := L) (xs := xs) (D := dM L xs zf w (k + 5)) (mi := 246) (As := []) r2 ha
    have e7 : (sCn sg a).2.2.2.1 a 7 d = Int32.ofNat b := h7
    rw [e7] at kn
    exact (congrArg (fun r => r.bind dxI) (cv.trans kn))
  refine bse (a := (Int32.ofNat p, hh)) ?_ ?_
  · rw [dcV_of (hc_ge pP) (hc_at pP) rfl, kp]
    rfl
  rw [of_inc]
  refine bse (a := h1) ?_ ?_
  · have cv := cV_a (L := L) (xs := xs) (D := dM L xs zf w (k + 5)) (mi := 250) (As := [.int (Int32.ofNat (p + 1))]) r2 ha
    exact (congrArg (fun r => r.bind dxV) (cv.trans t1))
  refine bse (a := h') ?_ rfl
  have cv := cV_w (L := L) (xs := xs) (D := dM L xs zf w (k + 5)) (mi := 251) (As := [.ref (sg.2.2.2.2 a 0), .int (Int32.ofNat p)]) t2
  exact (congrArg (fun r => r.bind dxV) (cv.trans hx))
/-- it has none to do -/
theorem k_insN (q : RH (.ref P) n sg Z hB h) (ha : a < n) (hb : sg.2.2.1 a 3 = 0) (hw4 : sg.2.2.1 a 4 = 0) : dM L xs zf w (k + 1) 237 [.ref 24, .ref (sg.2.2.2.2 a 0)] h = some (some (.int 0), h) := by
  rw [e237]
  show b237_0 L xs zf (dM L xs zf w k) w (some 24) (some (sg.2.2.2.2 a 0)) h = _
  unfold b237_0
  refine bse (k_7P q) ?_
  refine ifn (fun z => by cases z) ?_
  refine bse ((gA (L := L) (xs := xs) q ha (j := 3) (by decide)).trans (congrArg some hb)) ?_
  refine ifn (by decide) ?_
  refine bse ((gA (L := L) (xs := xs) q ha (j := 4) (by decide)).trans (congrArg some hw4)) ?_
  exact ifn (by decide) rfl
/-- it takes a message -/
theorem k_ins0 {M m np loc fr0 wt : Nat} {num en : Int32} (cb : CB hB Z P A B sz es) (mb : MB hB Z M num np loc en) (q : RH (.ref P) n sg Z hB h) (ha : a < n) (hM : es[m]? = some M) (m1 : m < 1000) (hm : sg.2.2.2.1 a 10 (fr0 * 7) = Int32.ofNat m) (l16 : loc ≤ 1000) (hnp : np ≤ loc) (n6 : np ≤ 6) (f6 : fr0 < 6) (w6 : wt < 6) (hw : 2000 ≤ w) (hh : sg.2.2.1 a 13 = 0) (c64 : 64 ≤ sg.2.2.2.2 a 13) (hm4 : sg.2.2.2.2 a 13 ≤ 40000) (hb : sg.2.2.1 a 3 = 0) (hf : sg.2.2.1 a 11 = Int32.ofNat fr0) (hw4 : sg.2.2.1 a 4 = Int32.ofNat (wt + 1)) : ∃ (h' : rm_H) (z c : Nat) (f : Nat → Int32), dM L xs zf w (k + 6) 237 [.ref 24, .ref (sg.2.2.2.2 a 0)] h = some (some (.int 1), h') ∧ RH (.ref P) n (sTk (sCn sg a) a z c f loc en fr0 wt) Z hB h' ∧ (∀ j, j < np → f j = sg.2.2.2.1 a 10 (fr0 * 7 + 1 + j)) ∧ (∀ j, np ≤ j → j < loc → f j = 0) ∧ loc ≤ c ∧ 64 ≤ c ∧ (c ≤ sg.2.2.2.2 a 13 ∨ c ≤ 2 * loc) ∧ CST n sg h (sTk (sCn sg a) a z c f loc en fr0 wt) h' := by
  obtain ⟨h3, hh7, p1, p2, r1, r2, l1, l2⟩ := k_cnt q ha
  have cA : ∀ j, j ≠ 5 → (sCn sg a).2.2.1 a j = sg.2.2.1 a j := fun j hj => sA_ne (sg := sXc sg 11 (sg.1 11 + 1)) (Or.inl hj)
  obtain ⟨h', z, c, f, t1, t2, t3, t4, t5, t6, t7, t8⟩ := k_take (L := L) (xs := xs) (zf := zf) (w := w) (k := k) mb r2 ha l16 hnp n6 f6 w6 hw ((cA 13 (by decide)).trans hh) c64 hm4 ((cA 3 (by decide)).trans hb) ((cA 11 (by decide)).trans hf) ((cA 4 (by decide)).trans hw4)
  obtain ⟨vs, pP, _⟩ := cb_P (cb_k cb r2)
  have fm := k_fm (L := L) (xs := xs) (zf := zf) (w := w) (k := k + 1) r2 ha ((cA 11 (by decide)).trans hf) f6
  have km := k_meth (L := L) (xs := xs) (zf := zf) (w := w) (k := k + 1) (cb_k cb r2) hM (by obtain ⟨fs, _, _, _, z1, _⟩ := mb_k mb r2; exact ⟨fs, z1⟩) m1
  refine ⟨h', z, c, f, ?_, t2, t3, t4, t5, t6, t7, ?_⟩
  · rw [e237]
    show b237_0 L xs zf (dM L xs zf w (k + 5)) w (some 24) (some (sg.2.2.2.2 a 0)) h = _
    unfold b237_0
    refine bse (k_7P q) ?_
    refine ifn (fun z => by cases z) ?_
    refine bse ((gA (L := L) (xs := xs) q ha (j := 3) (by decide)).trans (congrArg some hb)) ?_
    refine ifn (by decide) ?_
    refine bse ((gA (L := L) (xs := xs) q ha (j := 4) (by decide)).trans (congrArg some hw4)) ?_
    refine ift (ne1_t (ofn_0 (by omega) (by omega))) ?_
    unfold b237_23
    refine bse (gX (L := L) (xs := xs) q (j := 11) (by decide)) (bse p1 ?_)
    refine bse (gA (L := L) (xs := xs) p2 ha (j := 5) (by decide)) (bse r1 ?_)
    refine bse ((gA (L := L) (xs := xs) r2 ha (j := 3) (by decide)).trans (congrArg some ((cA 3 (by decide)).trans hb))) ?_
    refine ifn (by decide) ?_
    refine bse (k_7P r2) ?_
    refine bse (a := (Int32.ofNat m, hh7)) ?_ ?_
    · have cv := cV_a (L := L) (xs := xs) (D := dM L xs zf w (k + 5)) (mi := 238) (As := []) r2 ha
      have e7 : (sCn sg a).2.2.2.1 a 10 (fr0 * 7) = Int32.ofNat m := hm
      rw [e7] at fm
      exact (congrArg (fun r => r.bind dxI) (cv.trans fm))
    refine bse (a := (some M, hh7)) ?_ ?_
    · rw [dcV_of (hc_ge pP) (hc_at pP) rfl, km]
      rfl
    refine ifn (fun z => by cases z) ?_
    refine bse (a := h') ?_ rfl
    have cv := cV_a (L := L) (xs := xs) (D := dM L xs zf w (k + 5)) (mi := 241) (As := [.ref M]) r2 ha
    exact (congrArg (fun r => r.bind dxV) (cv.trans t1))
  · exact CST_t (sg' := sCn sg a) (h' := hh7) (CST_0 (fun _ => rfl) l1 l2) t8
end INS
