/-! START BY BOTH. -/
section KBS
variable {tB : rS} {A B : Nat → Int32} {mi : Nat → Nat × Nat × Nat × Nat × Nat} {kc : kCi} {n n2 m2 b2 p0 k k2 w P L kk m : Nat} {sg : cS} {s s' : rS} {xs f2 : Nat → Int32} {zf cd t1 t2 t3 t6 x4 x5 : Value} {Z : Nat → Prop} {hB h h' : rm_H} {es : List Nat} {i1 i2 ml2 y4 y5 : Int32}
/-- two cells that are no texts changed -/
theorem fr_2c {p q ci cj : Nat} {fs fs' gs gs' : List Value} (hl : h'.length = h.length) (a1 : hc h p = some (.inr (ci, fs))) (a2 : hc h' p = some (.inr (ci, fs'))) (hi : ci ≠ 7 ∧ ci ≠ 16) (b1 : hc h q = some (.inr (cj, gs))) (b2 : hc h' q = some (.inr (cj, gs'))) (hj : cj ≠ 7 ∧ cj ≠ 16) (r : ∀ y, y ≠ q → y ≠ p → hc h' y = hc h y) : fr (fun y => y = p ∨ y = q) h h' := by
  refine ⟨Nat.le_of_eq hl.symm, fun y _ hy => r y (fun z => hy (Or.inr z)) (fun z => hy (Or.inl z)), fun y c us e => ?_, fun y u e => ?_⟩
  · by_cases yp : y = p
    · subst yp
      rw [a1] at e
      cases e
      exact ⟨fs', a2, fun z => absurd z (by omega)⟩
    by_cases yq : y = q
    · subst yq
      rw [b1] at e
      cases e
      exact ⟨gs', b2, fun z => absurd z (by omega)⟩
    exact ⟨us, (r y yq yp).trans e, fun _ => rfl⟩
  · have yp : y ≠ p := fun z => by
      subst z
      rw [a1] at e
      cases e
    have yq : y ≠ q := fun z => by
      subst z
      rw [b1] at e
      cases e
    exact ⟨u, (r y yq yp).trans e, fun _ => rfl⟩
/-- what the reference's start leaves alone -/
theorem z_372 (e : rM w (k + 1) 372 [.ref 36, .int i1, .int i2] s = some (some (.int 1), s')) : ∃ s1, zFs s s1 ∧ zFs (stR s1 i1 i2) s' := by
  have hE := fEs_all w k
  have no : ∀ S : rS, rrI (some .boolean) 0 S = some (some (.int 1), s') → False := fun S e => by
    have e : some ((some (Value.int 0) : Option Value), S) = some (some (.int 1), s') := e
    exact absurd (Value.int.inj (Option.some.inj (congrArg Prod.fst (Option.some.inj e)))) (by decide)
  rw [y372] at e
  have e : s372_0 (rM w k) w i1 i2 s = some (some (.int 1), s') := e
  unfold s372_0 at e
  split at e
  · exact (no _ e).elim
  split at e
  · exact (no _ e).elim
  split at e
  · exact (no _ e).elim
  split at e
  · exact (no _ e).elim
  split at e
  · have key : ∀ (f : Int32 × rS → Option rA) (mm : Nat) (As : List Value) (S : rS), fMs mm = true → ((rM w k mm As S).bind rxI).bind f = some (some (.int 1), s') → ∃ x : Int32 × rS, zFs S x.2 ∧ f x = some (some (.int 1), s') := by
      intro f mm As S hm e
      cases e1 : rM w k mm As S with
      | none => rw [e1] at e; cases e
      | some y =>
        obtain ⟨r, s1⟩ := y
        have z := hE mm hm As S r s1 e1
        rw [e1] at e
        have e : (rxI (r, s1)).bind f = some (some (.int 1), s') := e
        cases e2 : rxI (r, s1) with
        | none => rw [e2] at e; cases e
        | some x =>
          rw [e2] at e
          refine ⟨x, ?_, e⟩
          unfold rxI at e2
          split at e2
          · cases e2; exact z
          · cases e2
    obtain ⟨x6, z6, e⟩ := key _ _ _ _ (by decide) e
    obtain ⟨x11, z11, e⟩ := key _ _ _ _ (by decide) e
    have e := e
    split at e
    · refine ⟨x11.2, zFs_trans z6 z11, ?_⟩
      have e : (((rM w k 374 [.ref 36, .int x6.1] (stR x11.2 i1 i2)).bind rxI).bind fun x82 => (rs_aI x82.2 65 x6.1).bind fun x87 => ((rM w k 377 [.ref 36, .int x82.1, .int x87, .int x82.1, .int 0] x82.2).bind rxV).bind fun s89 => rrI (some .boolean) 1 s89) = some (some (.int 1), s') := e
      have o : oKs (stR x11.2 i1 i2) (((rM w k 374 [.ref 36, .int x6.1] (stR x11.2 i1 i2)).bind rxI).bind fun x82 => (rs_aI x82.2 65 x6.1).bind fun x87 => ((rM w k 377 [.ref 36, .int x82.1, .int x87, .int x82.1, .int 0] x82.2).bind rxV).bind fun s89 => rrI (some .boolean) 1 s89) := oKs_cI hE (by decide) (zFs_refl _) (fun x zx => oKs_rd (fun _ => oKs_cV hE (by decide) zx (fun _ zy => oKs_rI zy)))
      exact o _ _ e
    · exact (no _ e).elim
  · exact (no _ e).elim
/-- START -/
theorem b_start (h21 : hc h 21 = some (.inr (0, [.ref p0, .ref 24, .ref 30, .ref P, x4, x5]))) (hT : hc h 30 = some (.inr (3, [.ref 31, t1, t2, t3, .int y4, .int y5, t6]))) (hS2 : sB h 31 b2 n2 m2 ml2 f2) (q : RH cd n sg Z hB h) (z30 : Z 30) (z31 : Z 31) (r30 : ¬ Zr n sg 30) (r31 : ¬ Zr n sg 31) (nv : mNv hB Z es) (mn : mMn tB kc hB Z P es kk m) (fx : fxR tB s) (s73 : s.1 73 ≠ 0) (hm : rM w (k2 + 4) 328 [.ref 36, .long 1298229614] s = some (some (.int (Int32.ofNat kk)), s)) (ao : aOk sg) (hw : 2000 ≤ w) (i1 i2 : Int32) : (dM L xs zf w (k + 6) 222 [.ref 21, .int i1, .int i2] h = some (some (.int 0), h) ∧ rM w (k2 + 5) 372 [.ref 36, .int i1, .int i2] s = some (some (.int 0), s)) ∨ ∃ (h1 h' : rm_H) (n' : Nat) (sg' : cS) (s1 s' : rS) (om' : oMg) (ka' : kAp) (la' : lAy) (ms' : mSg) (N' : Nat) (x' : Nat → Nat → fDs) (ml' : Int32), dM L xs zf w (k + 6) 222 [.ref 21, .int i1, .int i2] h = some (some (.int 1), h') ∧ rM w (k2 + 5) 372 [.ref 36, .int i1, .int i2] s = some (some (.int 1), s') ∧ RH (.ref P) n' sg' Z hB h' ∧ (ka'.2.2.2 ≤ n' ∧ n ≤ n') ∧ rUn tB A B mi kc om' ka' la' ms' N' 0 sg' s' (fun _ => 0) x' ∧ cNt n sg h1 n' sg' h' ∧ h1.length = h.length ∧ zh h1 = zh h ∧ (∀ p c, hc h p = some c → p ≠ 30 → p ≠ 31 → ¬ Zr n sg p → hc h' p = some c ∧ ¬ Zr n' sg' p) ∧ hc h' 30 = some (.inr (3, [.ref 31, t1, t2, t3, .int 0, .int (y5 + 1), t6])) ∧ ¬ Zr n' sg' 30 ∧ sB h' 31 b2 0 m2 ml' f2 ∧ ¬ Zr n' sg' 31 ∧ zFs s s1 ∧ zFs (stR s1 i1 i2) s' ∧ fr (fun y => y = 30 ∨ y = 31) h h1 ∧ fr (Zr n sg) h1 h' := by
  have one : (1 : Int32).toInt = 1 := by decide
  have h400 : (400 : Int32).toInt = 400 := by decide
  have h6 : (6 : Int32).toInt = 6 := by decide
  have hdc : ∀ X, b222_0 L xs zf (dM L xs zf w (k + 5)) w (some 21) i1 i2 h = X → dM L xs zf w (k + 6) 222 [.ref 21, .int i1, .int i2] h = X := fun X hX => by rw [e222]; exact hX
  have hdr : ∀ X, s372_0 (rM w (k2 + 4)) w i1 i2 s = X → rM w (k2 + 5) 372 [.ref 36, .int i1, .int i2] s = X := fun X hX => by rw [y372]; exact hX
  have g3 : dgR L xs h 3 [0] (some 21) = some (some P) := hc_gR (p := some P) h21 rfl (by decide)
  have n73 : ¬ mx_f1 .eq (s.1 73) = true := fun z => s73 (of_decide_eq_true z)
  by_cases c1 : i1.toInt < 1
  · refine Or.inl ⟨hdc _ ?_, hdr _ ?_⟩
    · unfold b222_0
      exact bse g3 (ifn (fun z => by cases z) (ift (by rw [f2_lt, one]; exact decide_eq_true c1) rfl))
    · unfold s372_0
      exact ifn n73 (ift (by rw [f2_lt, one]; exact decide_eq_true c1) rfl)
  have d1 : ¬ mx_f2 .lt i1 1 = true := by rw [f2_lt, one]; exact fun z => c1 (of_decide_eq_true z)
  by_cases c2 : 400 < i1.toInt
  · refine Or.inl ⟨hdc _ ?_, hdr _ ?_⟩
    · unfold b222_0
      exact bse g3 (ifn (fun z => by cases z) (ifn d1 (ift (by rw [f2_gt, h400]; exact decide_eq_true c2) rfl)))
    · unfold s372_0
      exact ifn n73 (ifn d1 (ift (by rw [f2_gt, h400]; exact decide_eq_true c2) rfl))
  have d2 : ¬ mx_f2 .gt i1 400 = true := by rw [f2_gt, h400]; exact fun z => c2 (of_decide_eq_true z)
  by_cases c3 : i2.toInt < 1
  · refine Or.inl ⟨hdc _ ?_, hdr _ ?_⟩
    · unfold b222_0
      exact bse g3 (ifn (fun z => by cases z) (ifn d1 (ifn d2 (ift (by rw [f2_lt, one]; exact decide_eq_true c3) rfl))))
    · unfold s372_0
      exact ifn n73 (ifn d1 (ifn d2 (ift (by rw [f2_lt, one]; exact decide_eq_true c3) rfl)))
  have d3 : ¬ mx_f2 .lt i2 1 = true := by rw [f2_lt, one]; exact fun z => c3 (of_decide_eq_true z)
  by_cases c4 : 6 < i2.toInt
  · have d4 : ¬ mx_f2 .le i2 6 = true := by rw [f2_le, h6]; exact fun z => absurd (of_decide_eq_true z) (by omega)
    refine Or.inl ⟨hdc _ ?_, hdr _ ?_⟩
    · unfold b222_0
      exact bse g3 (ifn (fun z => by cases z) (ifn d1 (ifn d2 (ifn d3 (ifn d4 rfl)))))
    · unfold s372_0
      exact ifn n73 (ifn d1 (ifn d2 (ifn d3 (ifn d4 rfl))))
  have d4 : mx_f2 .le i2 6 = true := by rw [f2_le, h6]; exact decide_eq_true (by omega)
  obtain ⟨cl, e1⟩ : ∃ cl : Nat, i1 = Int32.ofNat cl ∧ 1 ≤ cl ∧ cl ≤ 400 := ⟨i1.toInt.toNat, i32_of (by rw [of_int (by omega)]; omega), by omega, by omega⟩
  obtain ⟨mb, e2⟩ : ∃ mb : Nat, i2 = Int32.ofNat mb ∧ 1 ≤ mb ∧ mb ≤ 6 := ⟨i2.toInt.toNat, i32_of (by rw [of_int (by omega)]; omega), by omega, by omega⟩
  obtain ⟨e1, cl1, cl4⟩ := e1
  obtain ⟨e2, mb1, mb6⟩ := e2
  have ti1 : i1.toInt = cl := by rw [e1, of_int (by omega)]
  have mn0 := mn
  obtain ⟨k8, _, _, _, _, _, _, _, ⟨em, kf, _⟩, M, loc, num, en, _, _, kb, vs, pv1, pv2, nP⟩ := mn0
  have kf0 := kf
  obtain ⟨_, f0, y2, y3, y4', nf8, _⟩ := kf0
  have pb : PBp h Z P := pb_k ⟨vs, pv1, nP⟩ q
  have g6 : dgR L xs h 6 [4] (some P) = some (some (kc kk).2.2) := hc_gR (p := some (kc kk).2.2) (fr_old q.1 pv1 nP) pv2 (by decide)
  have g223 := k_223 (L := L) (xs := xs) (zf := zf) (w := w) (k := k + 3) pb (kb_k kb q)
  have r373 := r_373 (w := w) (k := k2 + 3) (s := s) (c := kk) (nf := (kc kk).1) (f0 := f0) k8 (by rw [fx.1 64 (by decide)]; exact y2) (by rw [fx.1 64 (by decide)]; exact y3) (by omega)
  by_cases room : (kc kk).1 + 1 ≤ cl
  · obtain ⟨h1, ml', a1, a2, a3, a4, a5, a6⟩ := c_217 (L := L) (xs := xs) (zf := zf) (w := w) (k := k + 1) hT hS2
    have hcp : ∀ {h : rm_H} {n : Nat} {ml : Int32}, sB h 31 b2 n m2 ml f2 → hc h 31 = some (.inr (1, [.ref b2, .int 0, .int ml, .int (Int32.ofNat n)])) := by
      intro h n ml hS
      unfold hc
      rw [if_pos hS.1]
      exact hS.2.2.2.2.2.2.1
    have f1 : fr (fun y => y = 30 ∨ y = 31) h h1 := fr_2c a4 hT a2 (by decide) (hcp hS2) (hcp a3) (by decide) a6
    have q1 : RH cd n sg Z hB h1 := RH_oth q f1 (fun p t _ => by rcases t with rfl | rfl <;> assumption) (fun p t => by rcases t with rfl | rfl <;> assumption)
    have fs := RH_sFx q1
    obtain ⟨h', n', sg', s', om', ka', la', ms', N', x', b1, b2', b3, b4, b5, b6⟩ := w_start (A := A) (B := B) (mi := mi) (L := L) (xs := xs) (zf := zf) (k := k) (k2 := k2) (mNu_v (mNv_m fs nv)) (mMn_m fs mn) fx s73 hm (RH_own q1) ao e1 cl4 e2 mb1 mb6 room hw
    obtain ⟨s1, zs1, zs2⟩ := z_372 b2'
    have s30 := RH_stay b3 a2 r30
    have s31 := RH_stay b3 (hcp a3) r31
    have h21a : hc h1 21 = some (.inr (0, [.ref p0, .ref 24, .ref 30, .ref P, x4, x5])) := (a6 21 (by decide) (by decide)).trans h21
    refine Or.inr ⟨h1, h', n', sg', s1, s', om', ka', la', ms', N', x', ml', hdc _ ?_, b2', RH_in q1 b3, b4, b5, b6, a4, a5, fun p c e n30 n31 nz => RH_stay b3 ((a6 p n31 n30).trans e) nz, s30.1, s30.2, sB_fr b3.1 r31 a3, s31.2, zs1, zs2, f1, b3.1⟩
    unfold b222_0
    refine bse g3 (ifn (fun z => by cases z) (ifn d1 (ifn d2 (ifn d3 (ift d4 (bse g3 (bse g3 (bse g6 (bse g223 (ift ?_ ?_))))))))))
    · show mx_f2 .le (Int32.ofNat ((kc kk).1 + 1)) i1 = true
      rw [f2_le, ti1, of_int (by omega)]
      exact decide_eq_true (by omega)
    refine bse (hc_gR (p := some 30) h21 rfl (by decide)) (bse (a := h1) ?_ ?_)
    · rw [hc_v hT (by decide)]
      show (dM L xs zf w (k + 5) 217 [.ref 30] h).bind dxV = _
      rw [a1]
      rfl
    refine bse (hc_gR (p := some 24) h21a rfl (by decide)) (bse (hc_gR (p := some P) h21a rfl (by decide)) (bse (a := h') ?_ rfl))
    rw [cV_w q1]
    show (dM L xs zf w (k + 5) 224 [.ref 24, .ref P, .int i1, .int i2] h1).bind dxV = _
    rw [b1]
    rfl
  · refine Or.inl ⟨hdc _ ?_, hdr _ ?_⟩
    · unfold b222_0
      refine bse g3 (ifn (fun z => by cases z) (ifn d1 (ifn d2 (ifn d3 (ift d4 (bse g3 (bse g3 (bse g6 (bse g223 (ifn ?_ rfl))))))))))
      show ¬ mx_f2 .le (Int32.ofNat ((kc kk).1 + 1)) i1 = true
      rw [f2_le, ti1, of_int (by omega)]
      exact fun z => absurd (of_decide_eq_true z) (by omega)
    · unfold s372_0
      refine ifn n73 (ifn d1 (ifn d2 (ifn d3 (ift d4 (bse (a := (Int32.ofNat kk, s)) (by rw [hm]; rfl) (bse (a := (Int32.ofNat (kc kk).1, s)) (by rw [r373]; rfl) (ifn ?_ rfl)))))))
      show ¬ mx_f2 .le (Int32.ofNat (kc kk).1 + 1) i1 = true
      rw [of_inc, f2_le, ti1, of_int (by omega)]
      exact fun z => absurd (of_decide_eq_true z) (by omega)
end KBS
