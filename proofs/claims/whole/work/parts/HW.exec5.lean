/-! THE CLASS MAKES OBJECTS, SENDS MESSAGES. -/
section EX5
variable {L : Nat} {xs : Nat → Int32} {zf : Value} {w k : Nat} {n : Nat} {sg : cS} {Z : Nat → Prop} {hB h : rm_H} {a b i ht P f st : Nat} {v op : Int32}
theorem sXc_at {j : Nat} : (sXc sg j v).1 j = v := by
  show upd sg.1 j v j = v
  exact upd_eq'
/-- whose Method it is -/
def MOw (h : rm_H) (Z : Nat → Prop) (M K : Nat) : Prop := ∃ fs, hc h M = some (.inr (11, fs)) ∧ fs[1]? = some (.ref K) ∧ ¬ Z M
theorem mo_g {cd : Value} {M K : Nat} (mo : MOw hB Z M K) (q : RH cd n sg Z hB h) : dgR L xs h 1 [11] (some M) = some (some K) := by
  obtain ⟨fs, h1, h2, h3⟩ := mo
  exact hc_gR (p := some K) (fr_old q.1 h1 h3) h2 rfl
/-- too many bodies -/
theorem k_newF3 (q : RH (.ref P) n sg Z hB h) (ha : a < n) {M : Nat} (hb : sg.2.2.1 a 3 = Int32.ofNat 10) : ∃ h' : rm_H, dM L xs zf w (k + 3) 263 [.ref 24, .ref (sg.2.2.2.2 a 0), .ref M] h = some (none, h') ∧ RH (.ref P) n (sA' (sA' (sA' (sXc sg 15 (sg.1 15 + 1)) a 6 3) a 3 0) a 13 0) Z hB h' ∧ h'.length = h.length ∧ zh h' = zh h := by
  obtain ⟨h', r1, r2, r3, r4⟩ := k_fail (L := L) (xs := xs) (zf := zf) (w := w) (k := k) (x := 3) q ha
  refine ⟨h', ?_, r2, r3, r4⟩
  rw [e263]
  show b263_0 L xs zf (dM L xs zf w (k + 2)) w (some 24) (some (sg.2.2.2.2 a 0)) (some M) h = _
  unfold b263_0
  refine bse ((gA (L := L) (xs := xs) q ha (j := 3) (by omega)).trans (congrArg some hb)) ?_
  refine ifn (by decide) ?_
  refine bse (a := h') ?_ rfl
  rw [cV_w q, show (va_rf (some (sg.2.2.2.2 a 0)) : Value) = .ref (sg.2.2.2.2 a 0) from rfl, r1]
  rfl
/-- an object is made, or cells are wanting -/
theorem k_newO {M K np loc nf tk mc ob bs : Nat} {num en kn : Int32} {mk : Value} (mb : MB hB Z M num np loc en) (mo : MOw hB Z M K) (kb : KBk hB Z K kn nf mk) (pb : PBp hB Z P) (q : RH (.ref P) n sg Z hB h) (ha : a < n) (so : SOK sg a (bs + np)) (hb : sg.2.2.1 a 3 = Int32.ofNat b) (b10 : b < 10) (h5 : sg.1 5 = Int32.ofNat mc) (m4 : mc ≤ 400) (h10 : sg.1 10 = Int32.ofNat tk) (htk : tk ≤ mc) (hnf : nf ≤ 8) (h9 : sg.1 9 = Int32.ofNat ob) (ho : ob < 400) (l16 : loc ≤ 1000) (hnp : np ≤ loc) (h2 : bs + loc ≤ 20000) (hw : 2000 ≤ w) :
    (mc < tk + nf + 1 ∧ ∃ h' : rm_H, dM L xs zf w (k + 5) 263 [.ref 24, .ref (sg.2.2.2.2 a 0), .ref M] h = some (none, h') ∧ RH (.ref P) n (sA' (sA' (sA' (sXc sg 15 (sg.1 15 + 1)) a 6 2) a 3 0) a 13 0) Z hB h' ∧ h'.length = h.length ∧ zh h' = zh h)
    ∨ (tk + nf + 1 ≤ mc ∧ ∃ (h' : rm_H) (z c : Nat) (g cf : Nat → Int32), dM L xs zf w (k + 5) 263 [.ref 24, .ref (sg.2.2.2.2 a 0), .ref M] h = some (none, h') ∧ RH (.ref P) n (sE (sQ (sW (sXc (sC (sXc sg 10 (Int32.ofNat (tk + nf + 1))) cf) 9 (Int32.ofNat (ob + 1))) 1 (ob + 1) (Int32.ofNat tk)) a z c g (bs + loc)) a b en (Int32.ofNat bs) (Int32.ofNat (ob + 1))) Z hB h' ∧ (cf tk = kn ∧ (∀ j, tk < j → j < tk + nf + 1 → cf j = 0) ∧ ∀ j, j < tk ∨ tk + nf + 1 ≤ j → cf j = sg.2.1 0 j) ∧ (∀ i, i < bs + np → g i = sg.2.2.2.1 a 12 i) ∧ (∀ i, bs + np ≤ i → i < bs + loc → g i = 0) ∧ bs + loc ≤ c ∧ 64 ≤ c ∧ (c ≤ sg.2.2.2.2 a 13 ∨ c ≤ 2 * (bs + loc)) ∧ CST n sg h (sQ (sW (sXc (sC (sXc sg 10 (Int32.ofNat (tk + nf + 1))) cf) 9 (Int32.ofNat (ob + 1))) 1 (ob + 1) (Int32.ofNat tk)) a z c g (bs + loc)) h') := by
  obtain ⟨v, h1, sg1, c1, c2, c3, c4, cc⟩ := k_cells (L := L) (xs := xs) (zf := zf) (w := w) (k := k + 1) pb kb q h5 m4 h10 htk hnf hw
  have hd : ∀ X, b263_32 L xs zf (dM L xs zf w (k + 4)) w (some 24) (some (sg.2.2.2.2 a 0)) (some M) v h1 = X → dM L xs zf w (k + 5) 263 [.ref 24, .ref (sg.2.2.2.2 a 0), .ref M] h = X := by
    intro X hX
    rw [e263]
    show b263_0 L xs zf (dM L xs zf w (k + 4)) w (some 24) (some (sg.2.2.2.2 a 0)) (some M) h = _
    unfold b263_0
    refine bsq ((gA (L := L) (xs := xs) q ha (j := 3) (by omega)).trans (congrArg some hb)) ?_
    rw [if_pos (by rw [f2_lt, of_int (by omega), show (10 : Int32).toInt = 10 from by decide]; exact decide_eq_true (by omega)), if_neg (fun z => by cases z)]
    refine bsq (mo_g mo q) ?_
    refine bsq (a := (v, h1)) ?_ hX
    rw [cV_w q, show (va_rf (some K) : Value) = .ref K from rfl, c1]
    rfl
  rcases cc with ⟨z1, z2, z3, z4⟩ | ⟨z1, z2, cf, z3, z4, z5, z6⟩
  · subst z2 z3 z4
    obtain ⟨h', r1, r2, r3, r4⟩ := k_fail (L := L) (xs := xs) (zf := zf) (w := w) (k := k + 2) (x := 2) q ha
    refine Or.inl ⟨z1, h', hd _ ?_, r2, r3, r4⟩
    unfold b263_32
    refine ift (by decide) ?_
    unfold b263_52
    refine bse (a := h') ?_ rfl
    rw [cV_w q, show (va_rf (some (sg1.2.2.2.2 a 0)) : Value) = .ref (sg1.2.2.2.2 a 0) from rfl, r1]
    rfl
  · subst z2 z3
    obtain ⟨h2', x1, x2, x3⟩ := pX (j := 9) (v := Int32.ofNat (ob + 1)) c2 (by decide)
    obtain ⟨h3, y1, y2, y3⟩ := wI_at (i := ob + 1) (v := Int32.ofNat tk) (RH_wd (x := 2) x2 (by decide)) (by omega) (by decide)
    have q3 := RH_W x2 (Or.inr (Or.inl ⟨rfl, rfl, rfl⟩)) y2 y3
    obtain ⟨s1, s2, s3, s4⟩ := so
    obtain ⟨h', z, c, g, r1, r2, r3, r4, r5, r6, r7, r8⟩ := k_enter (L := L) (xs := xs) (zf := zf) (w := w) (k := k) (self := Int32.ofNat (ob + 1)) (ht := bs) (b := b) mb q3 ha hb b10 l16 s1 hnp s2 s3 s4 h2 hw
    refine Or.inr ⟨z1, h', z, c, g, cf, hd _ ?_, r2, ⟨z4, z5, z6⟩, r3, r4, r5, r6, r7, ?_⟩
    · unfold b263_32
      refine ifn (eq_f (fun z => by
        have := congrArg Int32.toInt z
        rw [of_int (by omega), show (-1 : Int32).toInt = -1 from by decide] at this
        omega)) ?_
      have e9 : dgI L xs h1 9 [2] (some 24) = some (Int32.ofNat ob) := (gX (L := L) (xs := xs) c2 (j := 9) (by decide)).trans (congrArg some (show (sC (sXc sg 10 (Int32.ofNat (tk + nf + 1))) cf).1 9 = Int32.ofNat ob from h9))
      refine bse e9 ?_
      refine bse (gXr (L := L) (xs := xs) c2 (j := 1) (by decide)) ?_
      refine bse (hc_aN (RH_wd (x := 2) c2 (by decide)) (by decide)) ?_
      rw [of_inc]
      refine ift (by rw [f2_lt, of_int (by omega), of_int (by omega)]; exact decide_eq_true (by omega)) ?_
      refine bse e9 ?_
      rw [of_inc]
      refine bse x1 ?_
      refine bse (gXr (L := L) (xs := xs) x2 (j := 1) (by decide)) ?_
      refine bse ((gX (L := L) (xs := xs) x2 (j := 9) (by decide)).trans (congrArg some (show (sXc (sC (sXc sg 10 (Int32.ofNat (tk + nf + 1))) cf) 9 (Int32.ofNat (ob + 1))).1 9 = Int32.ofNat (ob + 1) from sXc_at))) (bse y1 ?_)
      refine bse ((gX (L := L) (xs := xs) q3 (j := 9) (by decide)).trans (congrArg some (show (sXc (sC (sXc sg 10 (Int32.ofNat (tk + nf + 1))) cf) 9 (Int32.ofNat (ob + 1))).1 9 = Int32.ofNat (ob + 1) from sXc_at))) ?_
      refine bse (a := h') ?_ rfl
      have cv := cV_a (L := L) (xs := xs) (D := dM L xs zf w (k + 4)) (mi := 244) (As := [.ref M, .int (Int32.ofNat (ob + 1))]) q3 ha
      rw [show (va_rf (some M) : Value) = .ref M from rfl]
      exact (congrArg (fun r => r.bind dxV) (cv.trans r1))
    · exact CST_t (sg' := sW (sXc (sC (sXc sg 10 (Int32.ofNat (tk + nf + 1))) cf) 9 (Int32.ofNat (ob + 1))) 1 (ob + 1) (Int32.ofNat tk)) (h' := h3) (CST_0 (fun _ => rfl) (by rw [y3.2.1, x3.2.1, c3]) (by rw [y3.2.2, x3.2.2, c4])) r8
end EX5
