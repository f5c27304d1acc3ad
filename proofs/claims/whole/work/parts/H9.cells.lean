/-! CELLS ARE TAKEN, ACTORS ARE MADE. -/
/-- the cells are f -/
def sC (sg : cS) (f : Nat → Int32) : cS := (sg.1, fun q => if q = 0 then f else sg.2.1 q, sg.2.2)
/-- what the run reads of a Kind -/
def KBk (h : rm_H) (Z : Nat → Prop) (K : Nat) (num : Int32) (nf : Nat) (mk : Value) : Prop := ∃ (fs : List Value) (fl ar : Nat) (mc : Value), hc h K = some (.inr (9, fs)) ∧ fs[3]? = some (.int num) ∧ fs[4]? = some (.ref fl) ∧ fs[6]? = some mk ∧ hc h fl = some (.inr (5, [.ref ar, .int (Int32.ofNat nf), mc])) ∧ ¬ Z K ∧ ¬ Z fl
def PBp (h : rm_H) (Z : Nat → Prop) (P : Nat) : Prop := ∃ vs, hc h P = some (.inr (4, vs)) ∧ ¬ Z P
section CEL
variable {L : Nat} {xs : Nat → Int32} {zf : Value} {w k : Nat} {cd : Value} {n : Nat} {sg sg' sg2 : cS} {Z : Nat → Prop} {hB h h' h2 : rm_H} {a b r j i z c ht K P nf tk mc : Nat} {v num en : Int32} {f g : Nat → Int32} {mk : Value}
theorem kb_k (mb : KBk hB Z K num nf mk) (q : RH cd n sg Z hB h) : KBk h Z K num nf mk := by
  obtain ⟨fs, pl, ar, mc, h1, h2, h3, h4, h5, h7, h8⟩ := mb
  exact ⟨fs, pl, ar, mc, fr_old q.1 h1 h7, h2, h3, h4, fr_old q.1 h5 h8, h7, h8⟩
theorem pb_k (mb : PBp hB Z P) (q : RH cd n sg Z hB h) : PBp h Z P := by
  obtain ⟨vs, h1, h2⟩ := mb
  exact ⟨vs, fr_old q.1 h1 h2, h2⟩
theorem k_223 (pb : PBp h Z P) (kb : KBk h Z K num nf mk) : (dcV L xs (dM L xs zf w (k + 2)) 223 [4] (some P) [.ref K] h).bind dxI = some (Int32.ofNat (nf + 1), h) := by
  obtain ⟨vs, p1, _⟩ := pb
  obtain ⟨fs, pl, ar, mc, h1, h2, h3, h4, h5, h7, h8⟩ := kb
  rw [dcV_of (hc_ge p1) (hc_at p1) rfl, e223]
  have : f223 L xs zf (dM L xs zf w (k + 1)) w [.ref P, .ref K] h = some (some (.int (Int32.ofNat (nf + 1))), h) := by
    show b223_0 L xs zf (dM L xs zf w (k + 1)) w (some K) h = _
    unfold b223_0
    refine ifn (fun z => by cases z) ?_
    refine bse (hc_gR (p := some pl) h1 h3 rfl) ?_
    refine bse (a := (Int32.ofNat nf, h)) ?_ ?_
    · rw [dcV_of (hc_ge h5) (hc_at h5) rfl, sz_of h5]
      rfl
    · show b223_19 L xs zf (dM L xs zf w (k + 1)) w (Int32.ofNat nf + 1) h = _
      rw [of_inc]
      rfl
  rw [this]
  rfl
theorem RH_C (q : RH cd n sg Z hB h) : RH cd n (sC sg (sg.2.1 0)) Z hB h := by
  have : sC sg (sg.2.1 0) = sg := by
    unfold sC
    refine Prod.ext rfl (Prod.ext (funext fun q => ?_) rfl)
    show (if q = 0 then sg.2.1 0 else sg.2.1 q) = sg.2.1 q
    by_cases c : q = 0
    · rw [if_pos c, c]
    · rw [if_neg c]
  rw [this]
  exact q
theorem sW_C : sW (sC sg f) 0 i v = sC sg (upd f i v) := by
  unfold sW sC
  refine Prod.ext rfl (Prod.ext (funext fun q => ?_) rfl)
  show (if q = 0 then upd (if q = 0 then f else sg.2.1 q) i v else if q = 0 then f else sg.2.1 q) = if q = 0 then upd f i v else sg.2.1 q
  by_cases c : q = 0
  · rw [if_pos c, if_pos c, if_pos c]
  · rw [if_neg c, if_neg c, if_neg c]
theorem k_wc (q : RH cd n (sC sg f) Z hB h) (hi : i < 400) : ∃ h', dsI h (some 25) (Int32.ofNat i) v = some h' ∧ RH cd n (sC sg (upd f i v)) Z hB h' ∧ h'.length = h.length ∧ zh h' = zh h := by
  have e : hc h 25 = some (iaA 400 f) := RH_wd (x := 1) q (by decide)
  obtain ⟨h', w1, w2, w3⟩ := wI_at (i := i) (v := v) e hi (by decide)
  refine ⟨h', w1, ?_, w3.2.1, w3.2.2⟩
  rw [← sW_C]
  exact RH_W q (Or.inl ⟨rfl, rfl, rfl⟩) w2 w3
theorem k_225l (tk' : Nat) (h4 : tk' ≤ 400) (i3 : Int32) : ∀ (r : Nat) (f : Nat → Int32) (h : rm_H) (i N : Nat), i + r = tk' → RH cd n (sC sg f) Z hB h → sg.1 10 = Int32.ofNat tk' → r < N → ∃ (h' : rm_H) (f' : Nat → Int32), b225_70 L xs zf (dM L xs zf w k) w N (some 24) i3 (Int32.ofNat i) h = some (some (.int i3), h') ∧ RH cd n (sC sg f') Z hB h' ∧ (∀ j, i ≤ j → j < tk' → f' j = 0) ∧ (∀ j, j < i ∨ tk' ≤ j → f' j = f j) ∧ h'.length = h.length ∧ zh h' = zh h := by
  intro r
  induction r with
  | zero =>
    intro f h i N hi q ht hN
    obtain ⟨N', rfl⟩ : ∃ N', N = N' + 1 := ⟨N - 1, by omega⟩
    refine ⟨h, f, ?_, q, fun j h1 h2 => by omega, fun _ _ => rfl, rfl, rfl⟩
    show (dgI L xs h 10 [2] (some 24)).bind _ = _
    refine bse ((gX (L := L) (xs := xs) q (j := 10) (by decide)).trans (congrArg some ht)) ?_
    refine ift (by rw [f2_ge, of_int (by omega), of_int (by omega)]; exact decide_eq_true (by omega)) rfl
  | succ r ih =>
    intro f h i N hi q ht hN
    obtain ⟨N', rfl⟩ : ∃ N', N = N' + 1 := ⟨N - 1, by omega⟩
    obtain ⟨h1, w1, w2, w3, w4⟩ := k_wc (i := i) (v := 0) q (by omega)
    obtain ⟨h', f', r1, r2, r3, r4, r5, r6⟩ := ih (upd f i 0) h1 (i + 1) N' (by omega) w2 ht (by omega)
    refine ⟨h', f', ?_, r2, fun j h1 h2 => ?_, fun j hj => ?_, r5.trans w3, r6.trans w4⟩
    · show (dgI L xs h 10 [2] (some 24)).bind _ = _
      refine bse ((gX (L := L) (xs := xs) q (j := 10) (by decide)).trans (congrArg some ht)) ?_
      refine ifn (by rw [f2_ge, of_int (by omega), of_int (by omega)]; exact fun z => absurd (of_decide_eq_true z) (by omega)) ?_
      refine bse (gXr (L := L) (xs := xs) q (j := 0) (by decide)) (bse w1 ?_)
      rw [of_inc]
      exact r1
    · by_cases e : j = i
      · rw [r4 j (by omega), e, upd_eq']
      · exact r3 j (by omega) h2
    · rw [r4 j (by omega), upd_ne' (by omega)]
/-- cells for an object or an actor of Kind K -/
theorem k_cells (pb : PBp hB Z P) (kb : KBk hB Z K num nf mk) (q : RH (.ref P) n sg Z hB h) (h5 : sg.1 5 = Int32.ofNat mc) (m4 : mc ≤ 400) (h10 : sg.1 10 = Int32.ofNat tk) (ht : tk ≤ mc) (hnf : nf ≤ 8) (hw : 2000 ≤ w) : ∃ (v : Int32) (h' : rm_H) (sg' : cS), dM L xs zf w (k + 3) 225 [.ref 24, .ref K] h = some (some (.int v), h') ∧ RH (.ref P) n sg' Z hB h' ∧ h'.length = h.length ∧ zh h' = zh h ∧ ((mc < tk + nf + 1 ∧ v = -1 ∧ sg' = sg ∧ h' = h) ∨ (tk + nf + 1 ≤ mc ∧ v = Int32.ofNat tk ∧ ∃ f, sg' = sC (sXc sg 10 (Int32.ofNat (tk + nf + 1))) f ∧ f tk = num ∧ (∀ j, tk < j → j < tk + nf + 1 → f j = 0) ∧ ∀ j, j < tk ∨ tk + nf + 1 ≤ j → f j = sg.2.1 0 j)) := by
  have hd : ∀ X, (if mx_f2 .gt (Int32.ofNat (nf + 1)) (Int32.ofNat mc - Int32.ofNat tk) = true then b225_43 L xs zf (dM L xs zf w (k + 2)) w h else (dgR L xs h 0 [2] (some 24)).bind fun p22 => (daN L xs h p22).bind fun x24 => if mx_f2 .le (Int32.ofNat tk + Int32.ofNat (nf + 1)) x24 = true then (dgI L xs h 10 [2] (some 24)).bind fun x27 => (dpF h 10 [2] (some 24) (.int (x27 + Int32.ofNat (nf + 1)))).bind fun h29 => (dgR L xs h29 0 [2] (some 24)).bind fun p31 => (dgI L xs h29 3 [9] (some K)).bind fun x33 => (dsI h29 p31 (Int32.ofNat tk) x33).bind fun h35 => b225_70 L xs zf (dM L xs zf w (k + 2)) w w (some 24) (Int32.ofNat tk) (Int32.ofNat tk + 1) h35 else b225_43 L xs zf (dM L xs zf w (k + 2)) w h) = X → dM L xs zf w (k + 3) 225 [.ref 24, .ref K] h = X := by
    intro X hX
    rw [e225]
    show b225_0 L xs zf (dM L xs zf w (k + 2)) w (some 24) (some K) h = _
    unfold b225_0
    have e7 : dgR L xs h 7 [2] (some 24) = some (some P) := hc_gR (RH_wd (x := 0) q (by decide)) rfl rfl
    subst hX
    have e10 := (gX (L := L) (xs := xs) q (j := 10) (by decide)).trans (congrArg some h10)
    have e5 := (gX (L := L) (xs := xs) q (j := 5) (by decide)).trans (congrArg some h5)
    rw [e7]
    show ((dcV L xs (dM L xs zf w (k + 2)) 223 [4] (some P) [.ref K] h).bind dxI).bind _ = _
    rw [k_223 (pb_k pb q) (kb_k kb q)]
    show (dgI L xs h 10 [2] (some 24)).bind _ = _
    rw [e10]
    show (if mx_f2 .lt (Int32.ofNat (nf + 1)) 1 = true then _ else (dgI L xs h 5 [2] (some 24)).bind _) = _
    rw [if_neg (by rw [f2_lt, of_int (by omega), show (1 : Int32).toInt = 1 from by decide]; exact fun z => absurd (of_decide_eq_true z) (by omega)), e5]
    rfl
  by_cases hc1 : mc < tk + nf + 1
  · refine ⟨-1, h, sg, hd _ ?_, q, rfl, rfl, Or.inl ⟨hc1, rfl, rfl, rfl⟩⟩
    exact ift (by rw [f2_gt, of_sub (by omega) (by omega), of_int (by omega)]; exact decide_eq_true (by omega)) rfl
  · obtain ⟨h1, p1, p2, p3⟩ := pX (j := 10) (v := Int32.ofNat (tk + (nf + 1))) q (by decide)
    have p2' := RH_C p2
    obtain ⟨h2, w1, w2, w3, w4⟩ := k_wc (i := tk) (v := num) p2' (by omega)
    obtain ⟨h', f', r1, r2, r3, r4, r5, r6⟩ := k_225l (L := L) (xs := xs) (zf := zf) (w := w) (k := k + 2) (tk + nf + 1) (by omega) (Int32.ofNat tk) nf _ h2 (tk + 1) w (by omega) w2 (by show upd sg.1 10 _ 10 = _; rw [upd_eq']; rfl) (by omega)
    refine ⟨Int32.ofNat tk, h', _, hd _ ?_, r2, r5.trans (w3.trans p3.2.1), r6.trans (w4.trans p3.2.2), Or.inr ⟨by omega, rfl, f', rfl, ?_, fun j h1 h2 => r3 j (by omega) h2, fun j hj => ?_⟩⟩
    · refine ifn (by rw [f2_gt, of_sub (by omega) (by omega), of_int (by omega)]; exact fun z => absurd (of_decide_eq_true z) (by omega)) ?_
      refine bse (gXr (L := L) (xs := xs) q (j := 0) (by decide)) ?_
      refine bse (hc_aN (RH_wd (x := 1) q (by decide)) (by decide)) ?_
      refine ift (by rw [of_add, f2_le, of_int (by omega), of_int (by omega)]; exact decide_eq_true (by omega)) ?_
      refine bse ((gX (L := L) (xs := xs) q (j := 10) (by decide)).trans (congrArg some h10)) ?_
      rw [of_add]
      refine bse p1 ?_
      refine bse (gXr (L := L) (xs := xs) p2 (j := 0) (by decide)) ?_
      have e33 : dgI L xs h1 3 [9] (some K) = some num := by
        obtain ⟨fs, pl, ar, mc, h1, h2, h3, h4, h5, h7, h8⟩ := kb_k kb p2
        exact hc_gI h1 h2 rfl
      refine bse e33 (bse w1 ?_)
      rw [of_inc]
      exact r1
    · rw [r4 tk (by omega), upd_eq']
    · rw [r4 j (by omega), upd_ne' (by omega)]
      rfl
end CEL
