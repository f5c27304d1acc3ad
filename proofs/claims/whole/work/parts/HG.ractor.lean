/-! THE REFERENCE: A NEW ACTOR. -/
section RAC
variable {s s' : rS} {w k : Nat} {a c nf : Nat} {em : Nat → Int64}
theorem rsI_id {p : Nat} : rsI s p (s.2.1 p) = s := by
  unfold rsI
  refine Prod.ext rfl (Prod.ext (funext fun q => ?_) rfl)
  show (if q = p then s.2.1 p else s.2.1 q) = s.2.1 q
  by_cases c : q = p
  · rw [if_pos c, c]
  · rw [if_neg c]
theorem rsI_w {p i : Nat} {x : Int32} {g : Nat → Int32} : rs_wA (rsI s p g) p i x = rsI s p (upd g i x) := by
  unfold rsI rs_wA
  refine Prod.ext rfl (Prod.ext (funext fun q => ?_) rfl)
  show (if q = p then upd (if q = p then g else s.2.1 q) i x else if q = p then g else s.2.1 q) = if q = p then upd g i x else s.2.1 q
  by_cases c : q = p
  · rw [if_pos c, if_pos c, if_pos c]
  · rw [if_neg c, if_neg c, if_neg c]
theorem r_374b (ha : a < 12) : ∀ (r : Nat) (g : Nat → Int32) (i N : Nat), i + r = 6 → r < N → ∃ g' : Nat → Int32, s374_124 (rM w k) w N (Int32.ofNat a) (Int32.ofNat i) (rsI s 104 g) = some (some (.int (Int32.ofNat a)), rsI s 104 g') ∧ (∀ j, i ≤ j → j < 6 → g' (6 * a + j) = 0) ∧ ∀ j, (j < 6 * a + i ∨ 6 * a + 6 ≤ j) → g' j = g j := by
  intro r
  induction r with
  | zero =>
    intro g i N hi hN
    obtain ⟨N', rfl⟩ : ∃ N', N = N' + 1 := ⟨N - 1, by omega⟩
    have : i = 6 := by omega
    subst this
    refine ⟨g, ?_, fun j h1 h2 => by omega, fun _ _ => rfl⟩
    show (if mx_f2 .ge (Int32.ofNat 6) 6 = true then _ else _) = _
    exact ift (by decide) rfl
  | succ r ih =>
    intro g i N hi hN
    obtain ⟨N', rfl⟩ : ∃ N', N = N' + 1 := ⟨N - 1, by omega⟩
    obtain ⟨g', r1, r2, r3⟩ := ih (upd g (6 * a + i) 0) (i + 1) N' (by omega) (by omega)
    refine ⟨g', ?_, fun j h1 h2 => ?_, fun j hj => ?_⟩
    · show (if mx_f2 .ge (Int32.ofNat i) 6 = true then _ else _) = _
      refine ifn (by rw [f2_ge, of_int (by omega), show (6 : Int32).toInt = 6 from by decide]; exact fun z => absurd (of_decide_eq_true z) (by omega)) ?_
      rw [show (6 : Int32) = Int32.ofNat 6 from rfl, mul_of, of_add]
      refine bse (sB_at (p := 104) (i := 6 * a + i) (n := 72) (by decide) rfl (by omega) (by decide)) ?_
      rw [rsI_w, of_inc]
      exact r1
    · by_cases e : j = i
      · rw [e, r3 _ (by omega), upd_eq']
      · exact r2 j (by omega) h2
    · rw [r3 j (by omega), upd_ne' (by omega)]
/-- the fields of a new actor are empty -/
theorem r_374l (kf : KFR s c nf em) (ha : a < 12) (hw : 100 ≤ w) : ∀ (r : Nat) (g : Nat → Int64) (i N : Nat), i + r = nf → r < N → ∃ (g' : Nat → Int64) (u : Nat → Int32), s374_75 (rM w (k + 2)) w N (Int32.ofNat c) (Int32.ofNat a) (Int32.ofNat i) (rsL s 95 g) = some (some (.int (Int32.ofNat a)), rsI (rsL s 95 g') 104 u) ∧ (∀ f, i ≤ f → f < nf → g' (8 * a + f) = em f) ∧ (∀ j, (j < 8 * a + i ∨ 8 * a + nf ≤ j) → g' j = g j) ∧ (∀ j, j < 6 → u (6 * a + j) = 0) ∧ ∀ j, (j < 6 * a ∨ 6 * a + 6 ≤ j) → u j = s.2.1 104 j := by
  intro r
  induction r with
  | zero =>
    intro g i N hi hN
    obtain ⟨N', rfl⟩ : ∃ N', N = N' + 1 := ⟨N - 1, by omega⟩
    have ei : i = nf := by omega
    subst ei
    have k1 := kf_n (w := w) (k := k + 1) (kf_k (s' := rsL s 95 g) kf rfl rfl rfl)
    obtain ⟨u, r1, r2, r3⟩ := r_374b (s := rsL s 95 g) (w := w) (k := k + 2) ha 6 (s.2.1 104) 0 w (by omega) (by omega)
    rw [show rsI (rsL s 95 g) 104 (s.2.1 104) = rsL s 95 g from rsI_id (p := 104)] at r1
    refine ⟨g, u, ?_, fun f h1 h2 => by omega, fun _ _ => rfl, fun j hj => r2 j (by omega) hj, fun j hj => r3 j (by omega)⟩
    show ((rM w (k + 2) 373 [.ref 36, .int (Int32.ofNat c)] (rsL s 95 g)).bind rxI).bind _ = _
    refine bse (a := (Int32.ofNat i, rsL s 95 g)) (by rw [k1]; rfl) ?_
    exact ift (by rw [f2_ge]; exact decide_eq_true (Int.le_refl _)) r1
  | succ r ih =>
    intro g i N hi hN
    obtain ⟨N', rfl⟩ : ∃ N', N = N' + 1 := ⟨N - 1, by omega⟩
    have k1 := kf_n (w := w) (k := k + 1) (kf_k (s' := rsL s 95 g) kf rfl rfl rfl)
    obtain ⟨h0, f0, h1, h2, h3, h4, h5⟩ := kf
    obtain ⟨y, y1, y2, y3⟩ := h5 i (by omega)
    obtain ⟨g', u, r1, r2, r3, r4⟩ := ih (vp_updL g (8 * a + i) (em i)) (i + 1) N' (by omega) (by omega)
    refine ⟨g', u, ?_, fun f h1 h2 => ?_, fun j hj => ?_, r4⟩
    · show ((rM w (k + 2) 373 [.ref 36, .int (Int32.ofNat c)] (rsL s 95 g)).bind rxI).bind _ = _
      refine bse (a := (Int32.ofNat nf, rsL s 95 g)) (by rw [k1]; rfl) ?_
      refine ifn (by rw [f2_ge, of_int (by omega), of_int (by omega)]; exact fun z => absurd (of_decide_eq_true z) (by omega)) ?_
      refine bse ((aI_at (p := 64) (i := c) (n := 9) (by decide) rfl (by omega) (by decide)).trans (congrArg some h1)) ?_
      rw [of_add]
      refine bse ((aI_at (p := 69) (i := f0 + i) (n := 64) (by decide) rfl (by omega) (by decide)).trans (congrArg some y2)) ?_
      refine bse (aI_at (p := 60) (i := y) (n := 2000) (by decide) rfl (by omega) (by decide)) ?_
      refine bse (a := (em i, rsL s 95 g)) ?_ ?_
      · rw [r_375, y3]
        rfl
      rw [show (8 : Int32) = Int32.ofNat 8 from rfl, mul_of, of_add]
      refine bse (sJ_at (p := 95) (i := 8 * a + i) (n := 96) (by decide) rfl (by omega) (by decide)) ?_
      rw [rsL_w, of_inc]
      exact r1
    · by_cases e : f = i
      · rw [e, r3 _ (by omega), updL_eq]
      · exact r2 f (by omega) h2
    · rw [r3 j (by omega), updL_ne (by omega)]
/-- actor a of Kind c begins -/
def sAc0 (s : rS) (a c tk nf : Nat) : rS := rs_wA (rs_wA (rs_wA (rs_wA (rs_wA (rs_wA (rs_w (rs_w s 75 (Int32.ofNat (a + 1))) 77 (Int32.ofNat (tk + (nf + 1)))) 89 a (Int32.ofNat c)) 90 a 0) 91 a 0) 92 a 0) 93 a 0) 94 a 0
theorem r_mkA {tk : Nat} (kf : KFR s c nf em) (ha : a < 12) (h75 : s.1 75 = Int32.ofNat a) (h77 : s.1 77 = Int32.ofNat tk) (hw : 100 ≤ w) : ∃ (g : Nat → Int64) (u : Nat → Int32), rM w (k + 3) 374 [.ref 36, .int (Int32.ofNat c)] s = some (some (.int (Int32.ofNat a)), rsI (rsL (sAc0 s a c tk nf) 95 g) 104 u) ∧ (∀ f, f < nf → g (8 * a + f) = em f) ∧ (∀ j, (j < 8 * a ∨ 8 * a + nf ≤ j) → g j = s.2.2 95 j) ∧ (∀ j, j < 6 → u (6 * a + j) = 0) ∧ ∀ j, (j < 6 * a ∨ 6 * a + 6 ≤ j) → u j = s.2.1 104 j := by
  have kf5 : KFR (sAc0 s a c tk nf) c nf em := kf_k kf rfl rfl rfl
  obtain ⟨_, _, _, _, _, n8, _⟩ := id kf
  obtain ⟨g, u, r1, r2, r3, r4, r5⟩ := r_374l (w := w) (k := k) kf5 ha hw nf (s.2.2 95) 0 w (by omega) (by omega)
  refine ⟨g, u, ?_, fun f hf => r2 f (by omega) hf, r3, r4, r5⟩
  rw [show rsL (sAc0 s a c tk nf) 95 (s.2.2 95) = sAc0 s a c tk nf from rsL_id (p := 95)] at r1
  rw [y374]
  show s374_0 (rM w (k + 2)) w (Int32.ofNat c) s = _
  unfold s374_0
  rw [h75, of_inc]
  refine bse (rs_p rfl) ?_
  refine bse (a := (Int32.ofNat nf, rs_w s 75 (Int32.ofNat (a + 1)))) (by rw [kf_n (k := k + 1) (kf_k (s' := rs_w s 75 (Int32.ofNat (a + 1))) kf rfl rfl rfl)]; rfl) ?_
  refine bse (a := rs_w (rs_w s 75 (Int32.ofNat (a + 1))) 77 (Int32.ofNat (tk + (nf + 1)))) ?_ ?_
  · show rs_pI (rs_w s 75 (Int32.ofNat (a + 1))) 77 (s.1 77 + (Int32.ofNat nf + 1)) = _
    rw [h77, of_inc, of_add, rs_p rfl]
  refine bse (sI_at (p := 89) (i := a) (n := 12) (by decide) rfl ha (by decide)) ?_
  refine bse (sI_at (p := 90) (i := a) (n := 12) (by decide) rfl ha (by decide)) ?_
  refine bse (sI_at (p := 91) (i := a) (n := 12) (by decide) rfl ha (by decide)) ?_
  refine bse (sI_at (p := 92) (i := a) (n := 12) (by decide) rfl ha (by decide)) ?_
  refine bse (sI_at (p := 93) (i := a) (n := 12) (by decide) rfl ha (by decide)) ?_
  refine bse (sI_at (p := 94) (i := a) (n := 12) (by decide) rfl ha (by decide)) ?_
  exact r1
end RAC
