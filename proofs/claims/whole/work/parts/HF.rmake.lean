/-! THE REFERENCE: OBJECTS AND ACTORS ARE MADE. -/
def rsI (s : rS) (p : Nat) (g : Nat → Int32) : rS := (s.1, fun q => if q = p then g else s.2.1 q, s.2.2)
/-- the fields of Kind c: nf of them, empty as em -/
def KFR (s : rS) (c nf : Nat) (em : Nat → Int64) : Prop := c < 8 ∧ ∃ f0 : Nat, s.2.1 64 c = Int32.ofNat f0 ∧ s.2.1 64 (c + 1) = Int32.ofNat (f0 + nf) ∧ f0 + nf ≤ 64 ∧ nf ≤ 8 ∧ ∀ f, f < nf → ∃ y : Nat, y < 2000 ∧ s.2.1 69 (f0 + f) = Int32.ofNat y ∧ em f = if s.2.1 60 y = 0 then mdV 1 0 else 0
section RMK
variable {s s' : rS} {w k : Nat} {a c nf : Nat} {em : Nat → Int64}
theorem r_375 {x : Int32} : rM w (k + 2) 375 [.int x] s = some (some (.long (if x = 0 then mdV 1 0 else 0)), s) := by
  rw [y375]
  show s375_0 (rM w (k + 1)) w x s = _
  unfold s375_0
  by_cases h : x = 0
  · rw [if_pos h]
    refine ifn (ne1_f h) ?_
    refine bse (a := (mdV 1 0, s)) ?_ rfl
    rw [show (1 : Int32) = Int32.ofNat 1 from rfl, r_376]
    rfl
  · rw [if_neg h]
    exact ift (ne1_t h) rfl
theorem kf_n (h : KFR s c nf em) : rM w (k + 1) 373 [.ref 36, .int (Int32.ofNat c)] s = some (some (.int (Int32.ofNat nf)), s) := by
  obtain ⟨h0, f0, h1, h2, h3, _⟩ := h
  exact r_373 h0 h1 h2 (by omega)
theorem kf_k (h : KFR s c nf em) (e : s'.2.1 64 = s.2.1 64) (e2 : s'.2.1 69 = s.2.1 69) (e3 : s'.2.1 60 = s.2.1 60) : KFR s' c nf em := by
  obtain ⟨h0, f0, h1, h2, h3, h4, h5⟩ := h
  refine ⟨h0, f0, by rw [e]; exact h1, by rw [e]; exact h2, h3, h4, fun f hf => ?_⟩
  obtain ⟨y, y1, y2, y3⟩ := h5 f hf
  exact ⟨y, y1, by rw [e2]; exact y2, by rw [e3]; exact y3⟩
theorem rs_p {j : Nat} {x : Int32} (hf : rm_fit (ah_FT 15 j) (.int x) = true) : rs_pI s j x = some (rs_w s j x) := by
  unfold rs_pI
  rw [if_pos hf]
/-- the fields of a new object are empty -/
theorem r_398l {bd : Nat} (kf : KFR s c nf em) (ha : a < 12) (h87 : s.1 87 = Int32.ofNat bd) (hb : bd + nf ≤ 400) : ∀ (r : Nat) (g : Nat → Int64) (i N : Nat), i + r = nf → r < N → ∃ g' : Nat → Int64, s398_51 (rM w (k + 2)) w N (Int32.ofNat a) (Int32.ofNat c) (Int32.ofNat i) (rsL s 96 g) = some (some (.int (s.1 76)), rs_w (rsL s 96 g') 87 (Int32.ofNat (bd + nf))) ∧ (∀ f, i ≤ f → f < nf → g' (400 * a + bd + f) = em f) ∧ ∀ j, (j < 400 * a + bd + i ∨ 400 * a + bd + nf ≤ j) → g' j = g j := by
  intro r
  induction r with
  | zero =>
    intro g i N hi hN
    obtain ⟨N', rfl⟩ : ∃ N', N = N' + 1 := ⟨N - 1, by omega⟩
    have ei : i = nf := by omega
    subst ei
    refine ⟨g, ?_, fun f h1 h2 => by omega, fun _ _ => rfl⟩
    have k1 := kf_n (w := w) (k := k + 1) (kf_k (s' := rsL s 96 g) kf rfl rfl rfl)
    show ((rM w (k + 2) 373 [.ref 36, .int (Int32.ofNat c)] (rsL s 96 g)).bind rxI).bind _ = _
    rw [k1]
    show (if mx_f2 .ge (Int32.ofNat i) (Int32.ofNat i) = true then _ else _) = _
    rw [if_pos (by rw [f2_ge]; exact decide_eq_true (Int.le_refl _))]
    show ((rM w (k + 2) 373 [.ref 36, .int (Int32.ofNat c)] (rsL s 96 g)).bind rxI).bind _ = _
    rw [k1]
    refine bse (a := (Int32.ofNat i, rsL s 96 g)) rfl ?_
    refine bse (a := rs_w (rsL s 96 g) 87 (Int32.ofNat (bd + i))) ?_ rfl
    show rs_pI (rsL s 96 g) 87 (s.1 87 + Int32.ofNat i) = _
    rw [h87, of_add, rs_p rfl]
  | succ r ih =>
    intro g i N hi hN
    obtain ⟨N', rfl⟩ : ∃ N', N = N' + 1 := ⟨N - 1, by omega⟩
    have kf' := kf_k (s' := rsL s 96 g) kf rfl rfl rfl
    have k1 := kf_n (w := w) (k := k + 1) kf'
    obtain ⟨h0, f0, h1, h2, h3, h4, h5⟩ := kf
    obtain ⟨y, y1, y2, y3⟩ := h5 i (by omega)
    obtain ⟨g', r1, r2, r3⟩ := ih (vp_updL g (400 * a + bd + i) (em i)) (i + 1) N' (by omega) (by omega)
    refine ⟨g', ?_, fun f h1 h2 => ?_, fun j hj => ?_⟩
    · show ((rM w (k + 2) 373 [.ref 36, .int (Int32.ofNat c)] (rsL s 96 g)).bind rxI).bind _ = _
      rw [k1]
      show (if mx_f2 .ge (Int32.ofNat i) (Int32.ofNat nf) = true then _ else (rs_aI (rsL s 96 g) 64 (Int32.ofNat c)).bind _) = _
      rw [if_neg (by rw [f2_ge, of_int (by omega), of_int (by omega)]; exact fun z => absurd (of_decide_eq_true z) (by omega))]
      refine bse ((aI_at (p := 64) (i := c) (n := 9) (by decide) rfl (by omega) (by decide)).trans (congrArg some h1)) ?_
      rw [of_add]
      refine bse ((aI_at (p := 69) (i := f0 + i) (n := 64) (by decide) rfl (by omega) (by decide)).trans (congrArg some y2)) ?_
      refine bse (aI_at (p := 60) (i := y) (n := 2000) (by decide) rfl (by omega) (by decide)) ?_
      refine bse (a := (em i, rsL s 96 g)) ?_ ?_
      · rw [r_375, y3]
        rfl
      show (rs_sJ (rsL s 96 g) 96 ((400 * Int32.ofNat a) + (s.1 87) + Int32.ofNat i) (em i)).bind _ = _
      rw [h87, show (400 : Int32) = Int32.ofNat 400 from rfl, mul_of, of_add, of_add]
      refine bse (sJ_at (i := 400 * a + bd + i) (n := 4800) (by decide) rfl (by omega) (by decide)) ?_
      rw [rsL_w, of_inc]
      exact r1
    · by_cases e : f = i
      · rw [e, r3 _ (by omega), updL_eq]
      · exact r2 f (by omega) h2
    · rw [r3 j (by omega), updL_ne (by omega)]
/-- an object of Kind c, made by actor a -/
def sOb (s : rS) (c ob tk bd nf : Nat) (g : Nat → Int64) : rS := rs_w (rsL (rs_wA (rs_wA (rs_w (rs_w s 76 (Int32.ofNat (ob + 1))) 77 (Int32.ofNat (tk + (nf + 1)))) 87 (ob + 1) (Int32.ofNat c)) 88 (ob + 1) (Int32.ofNat bd)) 96 g) 87 (Int32.ofNat (bd + nf))
theorem r_mkO {ob tk bd : Nat} (kf : KFR s c nf em) (ha : a < 12) (h76 : s.1 76 = Int32.ofNat ob) (ho : ob < 400) (h77 : s.1 77 = Int32.ofNat tk) (h87 : s.1 87 = Int32.ofNat bd) (hb : bd + nf ≤ 400) (hw : 100 ≤ w) : ∃ g : Nat → Int64, rM w (k + 3) 398 [.ref 36, .int (Int32.ofNat a), .int (Int32.ofNat c)] s = some (some (.int (Int32.ofNat (ob + 1))), sOb s c ob tk bd nf g) ∧ (∀ f, f < nf → g (400 * a + bd + f) = em f) ∧ ∀ j, (j < 400 * a + bd ∨ 400 * a + bd + nf ≤ j) → g j = s.2.2 96 j := by
  have kf5 : KFR (rs_wA (rs_wA (rs_w (rs_w s 76 (Int32.ofNat (ob + 1))) 77 (Int32.ofNat (tk + (nf + 1)))) 87 (ob + 1) (Int32.ofNat c)) 88 (ob + 1) (Int32.ofNat bd)) c nf em := kf_k kf rfl rfl rfl
  obtain ⟨_, _, _, _, _, n8, _⟩ := id kf
  obtain ⟨g, r1, r2, r3⟩ := r_398l (w := w) (k := k) (bd := bd) kf5 ha h87 hb nf (s.2.2 96) 0 w (by omega) (by omega)
  refine ⟨g, ?_, fun f hf => r2 f (by omega) hf, r3⟩
  rw [y398]
  show s398_0 (rM w (k + 2)) w (Int32.ofNat a) (Int32.ofNat c) s = _
  unfold s398_0
  rw [h76, of_inc]
  refine bse (rs_p rfl) ?_
  refine bse (a := (Int32.ofNat nf, rs_w s 76 (Int32.ofNat (ob + 1)))) (by rw [kf_n (k := k + 1) (kf_k (s' := rs_w s 76 (Int32.ofNat (ob + 1))) kf rfl rfl rfl)]; rfl) ?_
  show (rs_pI (rs_w s 76 (Int32.ofNat (ob + 1))) 77 (s.1 77 + (Int32.ofNat nf + 1))).bind _ = _
  rw [h77, of_inc, of_add]
  refine bse (rs_p rfl) ?_
  refine bse (sI_at (p := 87) (i := ob + 1) (n := 401) (by decide) rfl (by omega) (by decide)) ?_
  show (rs_sI _ 88 (Int32.ofNat (ob + 1)) (s.1 87)).bind _ = _
  rw [h87]
  refine bse (sI_at (p := 88) (i := ob + 1) (n := 401) (by decide) rfl (by omega) (by decide)) ?_
  have e : rsL (rs_wA (rs_wA (rs_w (rs_w s 76 (Int32.ofNat (ob + 1))) 77 (Int32.ofNat (tk + (nf + 1)))) 87 (ob + 1) (Int32.ofNat c)) 88 (ob + 1) (Int32.ofNat bd)) 96 (s.2.2 96) = rs_wA (rs_wA (rs_w (rs_w s 76 (Int32.ofNat (ob + 1))) 77 (Int32.ofNat (tk + (nf + 1)))) 87 (ob + 1) (Int32.ofNat c)) 88 (ob + 1) (Int32.ofNat bd) := rsL_id (p := 96)
  rw [e] at r1
  exact r1
end RMK
