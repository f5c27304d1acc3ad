/-! STEP as the world around it sees it, and where nothing runs. -/
section KOU
variable {tB : rS} {A B : Nat → Int32} {mi : Nat → Nat × Nat × Nat × Nat × Nat} {kc : kCi} {om : oMg} {ka : kAp} {la : lAy} {ms : mSg} {N cn : Nat} {sg : cS} {s : rS} {n n2 m2 b2 p0 k k2 w P L sz : Nat} {xs f2 : Nat → Int32} {zf cd t1 t2 t3 t6 : Value} {Z : Nat → Prop} {hB h : rm_H} {es : List Nat} {x : Nat → Nat → fDs} {D : Nat → Nat} {i1 i2 ml2 y4 y5 : Int32}
theorem b_stepF (cb : CB hB Z P A B sz es) (hs : hSe hB Z) (st : sTc tB A B mi kc hB Z P es) (nv : mNv hB Z es) (hw : 10000 ≤ w) (rh : RH (.ref P) n sg Z hB h) (hn : ka.2.2.2 ≤ n) (ru : rUn tB A B mi kc om ka la ms N cn sg s D x) (hcn : cn + 200 ≤ 1000000) (i1 i2 : Int32) : ∃ (v : Int32) (h' : rm_H) (n' : Nat) (sg' : cS) (s' : rS) (om' : oMg) (ka' : kAp) (la' : lAy) (ms' : mSg) (N' : Nat) (D' : Nat → Nat) (x' : Nat → Nat → fDs), dM L xs zf w (k + 15) 235 [.ref 21, .int i1, .int i2] h = some (some (.int v), h') ∧ rM w (k2 + 15) 380 [.ref 36, .int i1, .int i2] s = some (some (.int v), s') ∧ RH (.ref P) n' sg' Z hB h' ∧ (ka'.2.2.2 ≤ n' ∧ n ≤ n') ∧ rUn tB A B mi kc om' ka' la' ms' N' (cn + 200) sg' s' D' x' ∧ cNt n sg h n' sg' h' ∧ fr (Zr n sg) h h' ∧ (∀ p c, hc h p = some c → ¬ Zr n sg p → hc h' p = some c ∧ ¬ Zr n' sg' p) ∧ zFs s s' := by
  have f := RH_sFx rh
  obtain ⟨v, h', n', sg', s', om', ka', la', ms', N', D', x', a1, a2, a3, a4, a5, a6⟩ := b_step (L := L) (xs := xs) (zf := zf) (k := k) (k2 := k2) (CB_m (Zr_5 rh) f cb) (hSe_m f hs) (sTc_m f nv st) hw (RH_own rh) hn ru hcn i1 i2
  exact ⟨v, h', n', sg', s', om', ka', la', ms', N', D', x', a1, a2, RH_in rh a3, a4, a5, a6, a3.1, fun p c e nz => RH_stay a3 e nz, fEs_all w (k2 + 15) 380 (by decide) _ _ _ _ a2⟩
/-- no actor is found where none is -/
theorem c_236z {vs : List Value} (hW : hc h 24 = some (.inr (2, vs))) (h8 : vs[8]? = some (.int 0)) (i1 : Int32) : dM L xs zf w (k + 1) 236 [.ref 24, .int i1] h = some (some .null, h) := by
  rw [e236]
  show b236_0 L xs zf (dM L xs zf w k) w (some 24) i1 h = _
  unfold b236_0
  by_cases c : i1.toInt < 0
  · exact ift (by rw [f1_lt]; exact decide_eq_true c) rfl
  · refine ifn (by rw [f1_lt]; exact fun z => c (of_decide_eq_true z)) ?_
    refine bse (hc_gI hW h8 (by decide)) ?_
    exact ifn (by rw [f2_lt, show (0 : Int32).toInt = 0 from by decide]; exact fun z => c (of_decide_eq_true z)) rfl
theorem r_381z (h74 : s.1 74 = 0) (i1 : Int32) : rM w (k + 1) 381 [.ref 36, .int i1] s = some (some (.int 0), s) := by
  rw [y381]
  show s381_0 (rM w k) w i1 s = _
  unfold s381_0
  exact ift (by rw [h74]; decide) rfl
theorem n_step {vs ws : List Value} (h21 : hc h 21 = some (.inr (0, ws))) (w1 : ws[1]? = some (.ref 24)) (hW : hc h 24 = some (.inr (2, vs))) (h8 : vs[8]? = some (.int 0)) (h74 : s.1 74 = 0) (i1 i2 : Int32) : dM L xs zf w (k + 2) 235 [.ref 21, .int i1, .int i2] h = some (some (.int (-1)), h) ∧ rM w (k2 + 2) 380 [.ref 36, .int i1, .int i2] s = some (some (.int (-1)), s) := by
  refine ⟨?_, ?_⟩
  · rw [e235]
    show b235_0 L xs zf (dM L xs zf w (k + 1)) w (some 21) i1 i2 h = _
    unfold b235_0
    by_cases c1 : mx_f2 .lt i2 1 = true
    · exact ift c1 rfl
    refine ifn c1 ?_
    by_cases c2 : mx_f2 .le i2 200 = true
    · refine ift c2 (bse (hc_gR (p := some 24) h21 w1 (by decide)) (bse (a := (none, h)) ?_ (ift rfl rfl)))
      rw [hc_v hW (by decide), c_236z hW h8]
      rfl
    · exact ifn c2 rfl
  · rw [y380]
    show s380_0 (rM w (k2 + 1)) w i1 i2 s = _
    unfold s380_0
    exact bse (a := ((0 : Int32), s)) (by rw [r_381z h74]; rfl) (ift rfl rfl)
theorem n_actor {vs ws : List Value} (h21 : hc h 21 = some (.inr (0, ws))) (w1 : ws[1]? = some (.ref 24)) (hW : hc h 24 = some (.inr (2, vs))) (h8 : vs[8]? = some (.int 0)) (h74 : s.1 74 = 0) (i1 i2 : Int32) : dM L xs zf w (k + 2) 268 [.ref 21, .int i1, .int i2] h = some (some (.int (-1)), h) ∧ rM w (k2 + 2) 403 [.ref 36, .int i1, .int i2] s = some (some (.int (-1)), s) := by
  refine ⟨?_, ?_⟩
  · rw [e268]
    show b268_0 L xs zf (dM L xs zf w (k + 1)) w (some 21) i1 i2 h = _
    unfold b268_0
    refine bse (hc_gR (p := some 24) h21 w1 (by decide)) (bse (a := (none, h)) ?_ (ift rfl rfl))
    rw [hc_v hW (by decide), c_236z hW h8]
    rfl
  · rw [y403]
    show s403_0 (rM w (k2 + 1)) w i1 i2 s = _
    unfold s403_0
    exact bse (a := ((0 : Int32), s)) (by rw [r_381z h74]; rfl) (ifn (show ¬ mx_f1 .ne (0 : Int32) = true by decide) rfl)
/-- no program, no start -/
theorem n_start {ws : List Value} (h21 : hc h 21 = some (.inr (0, ws))) (w3 : ws[3]? = some .null) (h73 : s.1 73 = 0) (i1 i2 : Int32) : dM L xs zf w (k + 1) 222 [.ref 21, .int i1, .int i2] h = some (some (.int 0), h) ∧ rM w (k2 + 1) 372 [.ref 36, .int i1, .int i2] s = some (some (.int 0), s) := by
  refine ⟨?_, ?_⟩
  · rw [e222]
    show b222_0 L xs zf (dM L xs zf w k) w (some 21) i1 i2 h = _
    unfold b222_0
    exact bse (hc_gR (p := none) h21 w3 (by decide)) (ift rfl rfl)
  · rw [y372]
    show s372_0 (rM w k2) w i1 i2 s = _
    unfold s372_0
    exact ift (by rw [h73]; decide) rfl
/-- what was told is cleared: the reference -/
theorem r_406l : ∀ (r : Nat) (g : Nat → Int32) (o N : Nat), o + r = 401 → r < N → ∃ g' : Nat → Int32, s406_7 (rM w k) w N (Int32.ofNat o) (rsI s 112 g) = some (none, rsI s 112 g') ∧ (∀ j, o ≤ j → j < 401 → g' j = 0) ∧ ∀ j, j < o ∨ 401 ≤ j → g' j = g j := by
  intro r
  induction r with
  | zero =>
    intro g o N ho hN
    obtain ⟨N', rfl⟩ : ∃ N', N = N' + 1 := ⟨N - 1, by omega⟩
    have : o = 401 := by omega
    subst this
    refine ⟨g, ?_, fun j h1 h2 => by omega, fun _ _ => rfl⟩
    show (if mx_f2 .gt (Int32.ofNat 401) 400 = true then _ else _) = _
    rw [if_pos (by decide)]
  | succ r ih =>
    intro g o N ho hN
    obtain ⟨N', rfl⟩ : ∃ N', N = N' + 1 := ⟨N - 1, by omega⟩
    obtain ⟨g', r1, r2, r3⟩ := ih (upd g o 0) (o + 1) N' (by omega) (by omega)
    refine ⟨g', ?_, fun j h1 h2 => ?_, fun j hj => ?_⟩
    · show (if mx_f2 .gt (Int32.ofNat o) 400 = true then _ else _) = _
      rw [if_neg (by rw [f2_gt, of_int (by omega), show (400 : Int32).toInt = 400 from by decide]; exact fun z => absurd (of_decide_eq_true z) (by omega))]
      refine bsq (sB_at (p := 112) (i := o) (n := 401) (by decide) rfl (by omega) (by decide)) ?_
      rw [rsI_w, of_inc]
      exact r1
    · by_cases e : j = o
      · rw [e, r3 _ (by omega), upd_eq']
      · exact r2 j (by omega) h2
    · rw [r3 j (by omega), upd_ne' (by omega)]
theorem r_406 (hw : 402 ≤ w) : ∃ g' : Nat → Int32, rM w (k + 1) 406 [.ref 36] s = some (none, rsI (rs_w s 111 0) 112 g') ∧ ∀ j, j < 401 → g' j = 0 := by
  obtain ⟨g', a1, a2, _⟩ := r_406l (w := w) (k := k) (s := rs_w s 111 0) 401 ((rs_w s 111 0).2.1 112) 0 w (by omega) (by omega)
  refine ⟨g', ?_, fun j hj => a2 j (Nat.zero_le _) hj⟩
  rw [rsI_id] at a1
  rw [y406]
  show s406_0 (rM w k) w s = _
  unfold s406_0
  exact bse rfl a1
end KOU
