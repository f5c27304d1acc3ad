/-! THE REFERENCE TAKES A MESSAGE. -/
section RTK
variable {sB s s' : rS} {w k : Nat} {a s0 m np p0 wt ob : Nat}
theorem r_take_o (ha : a < 12) (w5 : wt ≤ 5) (x : Int32) (h94 : s.2.1 94 a = Int32.ofNat wt) : ∀ (r : Nat) (g : Nat → Int32) (i N : Nat), i + r = wt → r < N → ∃ g' : Nat → Int32, s384_22 (rM w k) w N (Int32.ofNat a) x (Int32.ofNat i) (rsI s 102 g) = (rs_sB (rsI s 102 g') 104 x 0).bind (fun s4 => s384_71 (rM w k) w w (Int32.ofNat a) x 1 s4) ∧ (∀ j, i ≤ j → j < wt → g' (6 * a + j) = g (6 * a + j + 1)) ∧ ∀ j, (j < 6 * a + i ∨ 6 * a + wt ≤ j) → g' j = g j := by
  intro r
  induction r with
  | zero =>
    intro g i N hi hN
    obtain ⟨N', rfl⟩ : ∃ N', N = N' + 1 := ⟨N - 1, by omega⟩
    have : i = wt := by omega
    subst this
    refine ⟨g, ?_, fun j h1 h2 => by omega, fun _ _ => rfl⟩
    show (rs_aI (rsI s 102 g) 94 (Int32.ofNat a)).bind _ = _
    refine bsq ((aI_at (s := rsI s 102 g) (p := 94) (i := a) (n := 12) (by decide) rfl ha (by decide)).trans (congrArg some h94)) ?_
    rw [if_pos (by rw [f2_ge]; exact decide_eq_true (Int.le_refl _))]
  | succ r ih =>
    intro g i N hi hN
    obtain ⟨N', rfl⟩ : ∃ N', N = N' + 1 := ⟨N - 1, by omega⟩
    obtain ⟨g', r1, r2, r3⟩ := ih (upd g (6 * a + i) (g (6 * a + i + 1))) (i + 1) N' (by omega) (by omega)
    refine ⟨g', ?_, fun j h1 h2 => ?_, fun j hj => ?_⟩
    · show (rs_aI (rsI s 102 g) 94 (Int32.ofNat a)).bind _ = _
      refine bsq ((aI_at (s := rsI s 102 g) (p := 94) (i := a) (n := 12) (by decide) rfl ha (by decide)).trans (congrArg some h94)) ?_
      rw [if_neg (by rw [f2_ge, of_int (by omega), of_int (by omega)]; exact fun z => absurd (of_decide_eq_true z) (by omega)), show (6 : Int32) = Int32.ofNat 6 from rfl, mul_of, of_add, of_inc]
      refine bsq (aI_at (s := rsI s 102 g) (p := 102) (i := 6 * a + i + 1) (n := 72) (by decide) rfl (by omega) (by decide)) ?_
      refine bsq (sI_at (p := 102) (i := 6 * a + i) (n := 72) (by decide) rfl (by omega) (by decide)) ?_
      rw [rsI_w, of_inc]
      exact r1
    · by_cases e : j = i
      · rw [e, r3 _ (by omega), upd_eq']
      · rw [r2 j (by omega) h2, upd_ne' (by omega)]
    · rw [r3 j (by omega), upd_ne' (by omega)]
theorem r_take_f {K : Int32 → Int32 → Int32 → rS → Option rA} {o c bs nf : Nat} (ha : a < 12) (h0 : s0 < 72) (ho : o ≤ 400) (obj : OBJ s o c bs nf) : ∀ (r : Nat) (g : Nat → Int64) (f N : Nat), f + r = nf → r < N → ∃ g' : Nat → Int64, s384_100 (rM w (k + 1)) w K N (Int32.ofNat a) (Int32.ofNat s0) (Int32.ofNat o) (Int32.ofNat f) (rsL s 96 g) = K (Int32.ofNat a) (Int32.ofNat s0) (Int32.ofNat (o + 1)) (rsL s 96 g') ∧ (∀ i, f ≤ i → i < nf → g' (400 * a + bs + i) = s.2.2 107 (400 * s0 + bs + i)) ∧ (∀ x, x < 400 → g' (400 * a + x) = g (400 * a + x) ∨ g' (400 * a + x) = s.2.2 107 (400 * s0 + x)) ∧ (∀ j, (j < 400 * a ∨ 400 * a + 400 ≤ j) → g' j = g j) ∧ ∀ x, (x < bs ∨ bs + nf ≤ x) → g' (400 * a + x) = g (400 * a + x) := by
  obtain ⟨b1, b2, b3, em, kf⟩ := id obj
  intro r
  induction r with
  | zero =>
    intro g f N hf hN
    obtain ⟨N', rfl⟩ : ∃ N', N = N' + 1 := ⟨N - 1, by omega⟩
    have ef : f = nf := by omega
    subst ef
    refine ⟨g, ?_, fun i h1 h2 => by omega, fun _ _ => Or.inl rfl, fun _ _ => rfl, fun _ _ => rfl⟩
    show (rs_aI (rsL s 96 g) 87 (Int32.ofNat o)).bind _ = _
    refine bsq ((aI_at (s := rsL s 96 g) (p := 87) (i := o) (n := 401) (by decide) rfl (by omega) (by decide)).trans (congrArg some b1)) ?_
    refine bsq (a := (Int32.ofNat f, rsL s 96 g)) (by rw [kf_n (k := k) (kf_k (s' := rsL s 96 g) kf rfl rfl rfl)]; rfl) ?_
    show (if mx_f2 .ge (Int32.ofNat f) (Int32.ofNat f) = true then _ else _) = _
    rw [if_pos (by rw [f2_ge]; exact decide_eq_true (Int.le_refl _))]
    show K (Int32.ofNat a) (Int32.ofNat s0) (Int32.ofNat o + 1) (rsL s 96 g) = _
    rw [of_inc]
  | succ r ih =>
    intro g f N hf hN
    obtain ⟨N', rfl⟩ : ∃ N', N = N' + 1 := ⟨N - 1, by omega⟩
    obtain ⟨g', r1, r2, r3, r4, r5⟩ := ih (vp_updL g (400 * a + bs + f) (s.2.2 107 (400 * s0 + bs + f))) (f + 1) N' (by omega) (by omega)
    refine ⟨g', ?_, fun i h1 h2 => ?_, fun x hx => ?_, fun j hj => ?_, fun x hx => ?_⟩
    · show (rs_aI (rsL s 96 g) 87 (Int32.ofNat o)).bind _ = _
      refine bsq ((aI_at (s := rsL s 96 g) (p := 87) (i := o) (n := 401) (by decide) rfl (by omega) (by decide)).trans (congrArg some b1)) ?_
      refine bsq (a := (Int32.ofNat nf, rsL s 96 g)) (by rw [kf_n (k := k) (kf_k (s' := rsL s 96 g) kf rfl rfl rfl)]; rfl) ?_
      show (if mx_f2 .ge (Int32.ofNat f) (Int32.ofNat nf) = true then _ else _) = _
      rw [if_neg (by rw [f2_ge, of_int (by omega), of_int (by omega)]; exact fun z => absurd (of_decide_eq_true z) (by omega))]
      have e88 := (aI_at (s := rsL s 96 g) (p := 88) (i := o) (n := 401) (by decide) rfl (by omega) (by decide)).trans (congrArg some b2)
      refine bsq e88 (bsq e88 ?_)
      rw [show (400 : Int32) = Int32.ofNat 400 from rfl, mul_of, of_add, of_add]
      refine bsq (aJ_at (s := rsL s 96 g) (p := 107) (i := 400 * s0 + bs + f) (n := 28800) (by decide) rfl (by omega) (by decide)) ?_
      rw [mul_of, of_add, of_add]
      refine bsq (sJ_at (p := 96) (i := 400 * a + bs + f) (n := 4800) (by decide) rfl (by omega) (by decide)) ?_
      rw [rsL_w, of_inc]
      exact r1
    · by_cases e : i = f
      · subst e
        rcases r3 (bs + i) (by omega) with z | z
        · rw [show 400 * a + bs + i = 400 * a + (bs + i) from by omega, z, show 400 * a + (bs + i) = 400 * a + bs + i from by omega, updL_eq]
        · rw [show 400 * a + bs + i = 400 * a + (bs + i) from by omega, z, show 400 * s0 + (bs + i) = 400 * s0 + bs + i from by omega]
      · exact r2 i (by omega) h2
    · rcases r3 x hx with z | z
      · rw [z]
        by_cases e : x = bs + f
        · right
          rw [e, show 400 * a + (bs + f) = 400 * a + bs + f from by omega, updL_eq, show 400 * s0 + (bs + f) = 400 * s0 + bs + f from by omega]
        · left
          rw [updL_ne (by omega)]
      · exact Or.inr z
    · rw [r4 j hj, updL_ne (by omega)]
    · rw [r5 x hx, updL_ne (by omega)]
/-- the end of it -/
def tkE (w k a s0 m : Nat) (S : rS) : Option rA := ((rM w k 385 [.ref 36, .int (Int32.ofNat a), .int (Int32.ofNat m), .long (mdV 3 (Int32.ofNat a))] S).bind rxV).bind fun s9 => s384_188 (rM w k) w w (Int32.ofNat a) (Int32.ofNat s0) (Int32.ofNat m) 0 s9
theorem r_take_w (ha : a < 12) (h0 : s0 < 72) (hw : 500 ≤ w) (h76 : s.1 76 = Int32.ofNat ob) (o4 : ob ≤ 400) (h103 : s.2.1 103 s0 = Int32.ofNat m) (objs : ∀ o, 1 ≤ o → o ≤ ob → s.2.1 105 (401 * s0 + o) ≠ 0 → ∃ c bs nf, OBJ s o c bs nf) : ∀ (r : Nat) (g : Nat → Int64) (o N : Nat), o + r = ob + 1 → 1 ≤ o → r < N → ∃ g' : Nat → Int64, s384_71 (rM w (k + 1)) w N (Int32.ofNat a) (Int32.ofNat s0) (Int32.ofNat o) (rsL s 96 g) = tkE w (k + 1) a s0 m (rsL s 96 g') ∧ (∀ o', o ≤ o' → o' ≤ ob → s.2.1 105 (401 * s0 + o') ≠ 0 → ∀ c bs nf, OBJ s o' c bs nf → ∀ f, f < nf → g' (400 * a + bs + f) = s.2.2 107 (400 * s0 + bs + f)) ∧ (∀ x, x < 400 → g' (400 * a + x) = g (400 * a + x) ∨ g' (400 * a + x) = s.2.2 107 (400 * s0 + x)) ∧ (∀ j, (j < 400 * a ∨ 400 * a + 400 ≤ j) → g' j = g j) ∧ ∀ x, (∀ o', o ≤ o' → o' ≤ ob → s.2.1 105 (401 * s0 + o') ≠ 0 → ∀ c bs nf, OBJ s o' c bs nf → x < bs ∨ bs + nf ≤ x) → g' (400 * a + x) = g (400 * a + x) := by
  intro r
  induction r with
  | zero =>
    intro g o N ho o1 hN
    obtain ⟨N', rfl⟩ : ∃ N', N = N' + 1 := ⟨N - 1, by omega⟩
    refine ⟨g, ?_, fun o' h1 h2 => by omega, fun _ _ => Or.inl rfl, fun _ _ => rfl, fun _ _ => rfl⟩
    show (if mx_f2 .gt (Int32.ofNat o) (s.1 76) = true then _ else _) = _
    rw [h76, if_pos (by rw [f2_gt, of_int (by omega), of_int (by omega)]; exact decide_eq_true (by omega))]
    refine bsq ((aI_at (s := rsL s 96 g) (p := 103) (i := s0) (n := 72) (by decide) rfl h0 (by decide)).trans (congrArg some h103)) ?_
    refine bsq (a := (mdV 3 (Int32.ofNat a), rsL s 96 g)) (by rw [show (3 : Int32) = Int32.ofNat 3 from rfl, r_376]; rfl) ?_
    rfl
  | succ r ih =>
    intro g o N ho o1 hN
    obtain ⟨N', rfl⟩ : ∃ N', N = N' + 1 := ⟨N - 1, by omega⟩
    have hd : ∀ X, (if mx_f1 .ne (s.2.1 105 (401 * s0 + o)) = true then s384_100 (rM w (k + 1)) w (s384_71 (rM w (k + 1)) w N') w (Int32.ofNat a) (Int32.ofNat s0) (Int32.ofNat o) 0 (rsL s 96 g) else s384_71 (rM w (k + 1)) w N' (Int32.ofNat a) (Int32.ofNat s0) (Int32.ofNat o + 1) (rsL s 96 g)) = X → s384_71 (rM w (k + 1)) w (N' + 1) (Int32.ofNat a) (Int32.ofNat s0) (Int32.ofNat o) (rsL s 96 g) = X := by
      intro X hX
      show (if mx_f2 .gt (Int32.ofNat o) (s.1 76) = true then _ else _) = _
      rw [h76, if_neg (by rw [f2_gt, of_int (by omega), of_int (by omega)]; exact fun z => absurd (of_decide_eq_true z) (by omega)), show (401 : Int32) = Int32.ofNat 401 from rfl, mul_of, of_add]
      exact bsq (aB_at (s := rsL s 96 g) (p := 105) (i := 401 * s0 + o) (n := 28872) (by decide) rfl (by omega) (by decide)) hX
    by_cases cb : s.2.1 105 (401 * s0 + o) = 0
    · obtain ⟨g', r1, r2, r3, r4, r5⟩ := ih g (o + 1) N' (by omega) (by omega) (by omega)
      refine ⟨g', hd _ ?_, fun o' h1 h2 h3 => ?_, r3, r4, fun x hx => r5 x (fun o' h1 => hx o' (by omega))⟩
      · rw [if_neg (ne1_f cb), of_inc]
        exact r1
      · by_cases e : o' = o
        · rw [e] at h3
          exact absurd cb h3
        · exact r2 o' (by omega) h2 h3
    · obtain ⟨c, bs, nf, obj⟩ := objs o o1 (by omega) cb
      have n8 : nf ≤ 8 := by obtain ⟨_, _, _, em, _, f0, _, _, _, n8, _⟩ := obj; exact n8
      obtain ⟨g1, t1, t2, t3, t4, t5⟩ := r_take_f (s := s) (w := w) (k := k) (K := s384_71 (rM w (k + 1)) w N') ha h0 (by omega) obj nf g 0 w (by omega) (by omega)
      obtain ⟨g', r1, r2, r3, r4, r5⟩ := ih g1 (o + 1) N' (by omega) (by omega) (by omega)
      refine ⟨g', hd _ ?_, fun o' h1 h2 h3 c' bs' nf' obj' f hf => ?_, fun x hx => ?_, fun j hj => (r4 j hj).trans (t4 j hj), fun x hx => (r5 x (fun o' h1 => hx o' (by omega))).trans (t5 x (hx o (Nat.le_refl _) (by omega) cb c bs nf obj))⟩
      · rw [if_pos (ne1_t cb), show (0 : Int32) = Int32.ofNat 0 from rfl, t1]
        exact r1
      · by_cases e : o' = o
        · subst e
          obtain ⟨_, z1, z2⟩ := OBJ_u obj obj'
          subst z1 z2
          have := obj.2.2.1
          rcases r3 (bs + f) (by omega) with z | z
          · rw [show 400 * a + bs + f = 400 * a + (bs + f) from by omega, z, show 400 * a + (bs + f) = 400 * a + bs + f from by omega]
            exact t2 f (by omega) hf
          · rw [show 400 * a + bs + f = 400 * a + (bs + f) from by omega, z, show 400 * s0 + (bs + f) = 400 * s0 + bs + f from by omega]
        · exact r2 o' (by omega) h2 h3 c' bs' nf' obj' f hf
      · rcases r3 x hx with z | z
        · rw [z]
          exact t3 x hx
        · exact Or.inr z
theorem r_take_v (ha : a < 12) (h0 : s0 < 72) (hm : m < 72) (n6 : np ≤ 6) (h77 : s.2.1 77 m = Int32.ofNat p0) (h77' : s.2.1 77 (m + 1) = Int32.ofNat (p0 + np)) (hp : p0 + np ≤ 500) : ∀ (r : Nat) (g : Nat → Int64) (i N : Nat), i + r = np → r < N → ∃ g' : Nat → Int64, s384_188 (rM w k) w N (Int32.ofNat a) (Int32.ofNat s0) (Int32.ofNat m) (Int32.ofNat i) (rsL s 101 g) = some (none, rsL s 101 g') ∧ (∀ j, i ≤ j → j < np → g' (160 * a + j) = s.2.2 106 (6 * s0 + j)) ∧ ∀ j, (j < 160 * a + i ∨ 160 * a + np ≤ j) → g' j = g j := by
  intro r
  induction r with
  | zero =>
    intro g i N hi hN
    obtain ⟨N', rfl⟩ : ∃ N', N = N' + 1 := ⟨N - 1, by omega⟩
    have : i = np := by omega
    subst this
    refine ⟨g, ?_, fun j h1 h2 => by omega, fun _ _ => rfl⟩
    show (rs_aI (rsL s 101 g) 77 (Int32.ofNat m + 1)).bind _ = _
    rw [of_inc]
    refine bse ((aI_at (s := rsL s 101 g) (p := 77) (i := m + 1) (n := 73) (by decide) rfl (by omega) (by decide)).trans (congrArg some h77')) ?_
    refine bse ((aI_at (s := rsL s 101 g) (p := 77) (i := m) (n := 73) (by decide) rfl (by omega) (by decide)).trans (congrArg some h77)) ?_
    rw [of_dif _ _ (by omega)]
    exact ift (by rw [f2_ge]; exact decide_eq_true (Int.le_refl _)) rfl
  | succ r ih =>
    intro g i N hi hN
    obtain ⟨N', rfl⟩ : ∃ N', N = N' + 1 := ⟨N - 1, by omega⟩
    obtain ⟨g', r1, r2, r3⟩ := ih (vp_updL g (160 * a + i) (s.2.2 106 (6 * s0 + i))) (i + 1) N' (by omega) (by omega)
    refine ⟨g', ?_, fun j h1 h2 => ?_, fun j hj => ?_⟩
    · show (rs_aI (rsL s 101 g) 77 (Int32.ofNat m + 1)).bind _ = _
      rw [of_inc]
      refine bse ((aI_at (s := rsL s 101 g) (p := 77) (i := m + 1) (n := 73) (by decide) rfl (by omega) (by decide)).trans (congrArg some h77')) ?_
      refine bse ((aI_at (s := rsL s 101 g) (p := 77) (i := m) (n := 73) (by decide) rfl (by omega) (by decide)).trans (congrArg some h77)) ?_
      rw [of_dif _ _ (by omega)]
      refine ifn (by rw [f2_ge, of_int (by omega), of_int (by omega)]; exact fun z => absurd (of_decide_eq_true z) (by omega)) ?_
      rw [show (6 : Int32) = Int32.ofNat 6 from rfl, mul_of, of_add]
      refine bse (aJ_at (s := rsL s 101 g) (p := 106) (i := 6 * s0 + i) (n := 432) (by decide) rfl (by omega) (by decide)) ?_
      rw [show (160 : Int32) = Int32.ofNat 160 from rfl, mul_of, of_add]
      refine bse (sJ_at (p := 101) (i := 160 * a + i) (n := 1920) (by decide) rfl (by omega) (by decide)) ?_
      rw [rsL_w, of_inc]
      exact r1
    · by_cases e : j = i
      · rw [e, r3 _ (by omega), updL_eq]
      · exact r2 j (by omega) h2
    · rw [r3 j (by omega), updL_ne (by omega)]
end RTK
