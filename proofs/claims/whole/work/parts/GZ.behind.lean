/-! WHAT IS BEHIND A NODE. -/
/-- the part behind part n of p -/
def pB (s : rS) (p n : Nat) (x : Int32) : Prop := ∀ (s' : rS) (w k : Nat), rqs s s' → rM w (k + 1) 395 [.ref 36, .int (Int32.ofNat p), .int (Int32.ofNat n)] s' = some (some (.int x), s')
def iP (s : rS) (p : Nat) (x : Int32) : Prop := ∀ (s' : rS) (w k : Nat), rqs s s' → rM w (k + 1) 394 [.ref 36, .int (Int32.ofNat p)] s' = some (some (.int x), s')
/-- behind n comes q -/
def bhd (s : rS) (N n q : Nat) : Prop := ∀ (s' : rS) (w k N' : Nat), rqs s s' → 6000 ≤ w → N ≤ N' → s393_2 (rM w (k + 2)) w N' (Int32.ofNat n) s' = some (some (.int (Int32.ofNat q)), s')
section BHL
variable {s s' : rS} {w k n p q e K N M : Nat}
theorem ne_t {x y : Int32} (h : x ≠ y) : mx_f2 .ne x y = true := decide_eq_true h
theorem ne_f {x y : Int32} (h : x = y) : ¬ mx_f2 .ne x y = true := by
  rw [h]
  exact fun z => absurd rfl (of_decide_eq_true z)
theorem eq_t {x y : Int32} (h : x = y) : mx_f2 .eq x y = true := decide_eq_true h
theorem eq_f {x y : Int32} (h : x ≠ y) : ¬ mx_f2 .eq x y = true := fun z => h (of_decide_eq_true z)
theorem ne1_t {x : Int32} (h : x ≠ 0) : mx_f1 .ne x = true := decide_eq_true h
theorem ne1_f {x : Int32} (h : x = 0) : ¬ mx_f1 .ne x = true := by
  rw [h]
  decide
theorem eq1_t {x : Int32} (h : x = 0) : mx_f1 .eq x = true := decide_eq_true h
theorem eq1_f {x : Int32} (h : x ≠ 0) : ¬ mx_f1 .eq x = true := fun z => h (of_decide_eq_true z)
theorem pB_0 (hp : p < 4400) (eK : s.2.1 44 p = Int32.ofNat K) (hK : K < 32) (k1 : K ≠ 13 ∧ K ≠ 7 ∧ K ≠ 26 ∧ K ≠ 11 ∧ K ≠ 12 ∧ K ≠ 8) : pB s p n 0 := by
  intro s' w k r
  rw [y395]
  show s395_0 _ _ _ _ _ = _
  unfold s395_0
  have t : ∀ K, K < 32 → (K ≠ 13 ∧ K ≠ 7 ∧ K ≠ 26 ∧ K ≠ 11 ∧ K ≠ 12 ∧ K ≠ 8) → Int32.ofNat K ≠ 13 ∧ Int32.ofNat K ≠ 7 ∧ Int32.ofNat K ≠ 26 ∧ Int32.ofNat K ≠ 11 ∧ Int32.ofNat K ≠ 12 ∧ Int32.ofNat K ≠ 8 := by decide
  obtain ⟨b1, b2, b3, b4, b5, b6⟩ := t K hK k1
  refine bse ((nd_at r (by decide) hp).trans (congrArg some eK)) ?_
  exact ift (ne_t b1) (ifn (eq_f b2) (ift (ne_t b3) (ifn (eq_f b4) (ifn (eq_f b5) (ifn (eq_f b6) rfl)))))
theorem pB_13l (hp : p < 4400) (eK : s.2.1 44 p = 13) (e45 : s.2.1 45 p = Int32.ofNat n) : pB s p n (s.2.1 46 p) := by
  intro s' w k r
  rw [y395]
  show s395_0 _ _ _ _ _ = _
  unfold s395_0
  refine bse ((nd_at r (by decide) hp).trans (congrArg some eK)) ?_
  refine ifn (by decide) ?_
  refine bse (nd_at r (by decide) hp) ?_
  refine ifn (ne_f e45.symm) ?_
  exact bse (nd_at r (by decide) hp) rfl
theorem pB_13r (hp : p < 4400) (eK : s.2.1 44 p = 13) (e45 : s.2.1 45 p ≠ Int32.ofNat n) : pB s p n 0 := by
  intro s' w k r
  rw [y395]
  show s395_0 _ _ _ _ _ = _
  unfold s395_0
  refine bse ((nd_at r (by decide) hp).trans (congrArg some eK)) ?_
  refine ifn (by decide) ?_
  refine bse (nd_at r (by decide) hp) ?_
  exact ift (ne_t (Ne.symm e45)) rfl
theorem pB_7 (hp : p < 4400) (eK : s.2.1 44 p = 7 ∨ s.2.1 44 p = 26) (e46 : s.2.1 46 p = Int32.ofNat n) (e45 : s.2.1 45 p = Int32.ofNat q) (hq : q < 4400) : pB s p n (if s.2.1 44 q = 10 then s.2.1 45 q else 0) := by
  intro s' w k r
  rw [y395]
  show s395_0 _ _ _ _ _ = _
  unfold s395_0
  have go : s395_46 (rM w k) w (Int32.ofNat p) (Int32.ofNat n) s' = some (some (.int (if s.2.1 44 q = 10 then s.2.1 45 q else 0)), s') := by
    unfold s395_46
    refine bse (nd_at r (by decide) hp) ?_
    refine ifn (ne_f e46.symm) ?_
    refine bse ((nd_at r (by decide) hp).trans (congrArg some e45)) ?_
    refine bse (nd_at r (by decide) hq) ?_
    by_cases c : s.2.1 44 q = 10
    · rw [if_pos c]
      refine ifn (ne_f c) ?_
      refine bse ((nd_at r (by decide) hp).trans (congrArg some e45)) ?_
      exact bse (nd_at r (by decide) hq) rfl
    · rw [if_neg c]
      exact ift (ne_t c) rfl
  rcases eK with eK | eK
  · refine bse ((nd_at r (by decide) hp).trans (congrArg some eK)) ?_
    exact ift (by decide) (ift (by decide) go)
  · refine bse ((nd_at r (by decide) hp).trans (congrArg some eK)) ?_
    exact ift (by decide) (ifn (by decide) (ifn (by decide) go))
theorem pB_a (hp : p < 4400) (hn : n < 4400) (eK : s.2.1 44 p = Int32.ofNat K) (hK : K = 8 ∨ K = 11 ∨ K = 12) : pB s p n (if s.2.1 46 p = Int32.ofNat n then 0 else if s.2.1 48 n = 0 then (if K = 8 then 0 else s.2.1 46 p) else s.2.1 48 n) := by
  intro s' w k r
  rw [y395]
  show s395_0 _ _ _ _ _ = _
  unfold s395_0
  have go : s395_108 (rM w k) w (Int32.ofNat p) (Int32.ofNat n) (Int32.ofNat K) s' = some (some (.int (if s.2.1 46 p = Int32.ofNat n then 0 else if s.2.1 48 n = 0 then (if K = 8 then 0 else s.2.1 46 p) else s.2.1 48 n)), s') := by
    unfold s395_108
    refine bse (nd_at r (by decide) hp) ?_
    by_cases c : s.2.1 46 p = Int32.ofNat n
    · rw [if_pos c]
      exact ifn (ne_f c.symm) rfl
    · rw [if_neg c]
      refine ift (ne_t (Ne.symm c)) ?_
      refine bse (nd_at r (by decide) hn) ?_
      by_cases c0 : s.2.1 48 n = 0
      · rw [if_pos c0]
        refine ift (eq1_t c0) ?_
        rcases hK with rfl | rfl | rfl
        · exact ifn (by decide) rfl
        · refine ift (by decide) ?_
          exact bse (nd_at r (by decide) hp) rfl
        · refine ift (by decide) ?_
          exact bse (nd_at r (by decide) hp) rfl
      · rw [if_neg c0]
        refine ifn (eq1_f c0) ?_
        exact bse (nd_at r (by decide) hn) rfl
  refine bse ((nd_at r (by decide) hp).trans (congrArg some eK)) ?_
  rcases hK with rfl | rfl | rfl
  · exact ift (by decide) (ifn (by decide) (ift (by decide) (ifn (by decide) (ifn (by decide) (ift (by decide) go)))))
  · exact ift (by decide) (ifn (by decide) (ift (by decide) (ift (by decide) go)))
  · exact ift (by decide) (ifn (by decide) (ift (by decide) (ifn (by decide) (ift (by decide) go))))
theorem iP_1 {P : Nat} (hp : p < 4400) (e49 : s.2.1 49 p = Int32.ofNat P) (hP : P < 4400) (eK : s.2.1 44 P = 7 ∨ s.2.1 44 P = 26) (e45 : s.2.1 45 P = Int32.ofNat p) : iP s p 1 := by
  intro s' w k r
  rw [y394]
  show s394_0 _ _ _ _ = _
  unfold s394_0
  have go : s394_29 (rM w k) w (Int32.ofNat p) (Int32.ofNat P) s' = some (some (.int 1), s') := by
    unfold s394_29
    refine bse ((nd_at r (by decide) hP).trans (congrArg some e45)) ?_
    exact ifn (ne_f rfl) rfl
  refine bse ((nd_at r (by decide) hp).trans (congrArg some e49)) ?_
  rcases eK with eK | eK
  · refine bse ((nd_at r (by decide) hP).trans (congrArg some eK)) ?_
    refine ifn (by decide) ?_
    refine bse ((nd_at r (by decide) hP).trans (congrArg some eK)) ?_
    exact ifn (by decide) go
  · refine bse ((nd_at r (by decide) hP).trans (congrArg some eK)) ?_
    exact ift (by decide) go
theorem iP_0 {P : Nat} (hp : p < 4400) (e49 : s.2.1 49 p = Int32.ofNat P) (h1 : 1 ≤ P) (hP : P < 4400) (ns : ¬ isSet s p) : iP s p 0 := by
  intro s' w k r
  rw [y394]
  show s394_0 _ _ _ _ = _
  unfold s394_0
  have go : (s.2.1 44 P = 7 ∨ s.2.1 44 P = 26) → s394_29 (rM w k) w (Int32.ofNat p) (Int32.ofNat P) s' = some (some (.int 0), s') := by
    intro h
    unfold s394_29
    refine bse (nd_at r (by decide) hP) ?_
    exact ift (ne_t (fun z => ns ⟨P, e49, h1, hP, h, z⟩)) rfl
  refine bse ((nd_at r (by decide) hp).trans (congrArg some e49)) ?_
  refine bse (nd_at r (by decide) hP) ?_
  by_cases c : s.2.1 44 P = 26
  · exact ift (eq_t c) (go (Or.inr c))
  · refine ifn (eq_f c) ?_
    refine bse (nd_at r (by decide) hP) ?_
    by_cases c7 : s.2.1 44 P = 7
    · exact ifn (ne_f c7) (go (Or.inl c7))
    · exact ift (ne_t c7) rfl
theorem bh_e {x : Int32} {y : Nat} (hn : n < 4400) (e49 : s.2.1 49 n = Int32.ofNat p) (hp : p < 4400) (n30 : s.2.1 44 n ≠ 30) (p30 : s.2.1 44 p ≠ 30) (h10 : s.2.1 44 p = 10 → iP s p 0) (pb : pB s p n x) (hx : (x = 0 ∧ y = p) ∨ ∃ e M : Nat, x = Int32.ofNat e ∧ 1 ≤ e ∧ e < 4400 ∧ fI s M e y ∧ M ≤ 6000) : bhd s 1 n y := by
  intro s' w k N' r hw hN
  obtain ⟨j, rfl⟩ : ∃ j, N' = j + 1 := ⟨N' - 1, by omega⟩
  have go : s393_124 (rM w (k + 2)) w (Int32.ofNat n) (Int32.ofNat p) s' = some (some (.int (Int32.ofNat y)), s') := by
    show s393_125 _ _ _ _ _ _ = _
    unfold s393_125
    refine ift (eq_t rfl) ?_
    rw [pb s' w (k + 1) r]
    rcases hx with ⟨hx, hy⟩ | ⟨e, M, hx, h1, h2, h3, h4⟩
    · subst hy
      show (if mx_f1 .ne x = true then _ else _) = _
      exact ifn (ne1_f hx) rfl
    · show (if mx_f1 .ne x = true then _ else _) = _
      refine ift (ne1_t (by rw [hx]; exact ofn_0 h2 h1)) ?_
      rw [hx, fI_run h3 r (by omega)]
      rfl
  show (rs_aI s' 49 (Int32.ofNat n)).bind _ = _
  refine bse ((nd_at r (by decide) hn).trans (congrArg some e49)) ?_
  refine bse (nd_at r (by decide) hn) ?_
  refine ift (ne_t n30) ?_
  refine bse (nd_at r (by decide) hp) ?_
  refine ift (ne_t p30) ?_
  refine bse (nd_at r (by decide) hp) ?_
  by_cases c : s.2.1 44 p = 10
  · refine ifn (ne_f c) ?_
    rw [h10 c s' w (k + 1) r]
    refine bse (a := ((0 : Int32), s')) rfl ?_
    exact ift (eq1_t rfl) go
  · exact ift (ne_t c) go
theorem bh_p {P : Nat} (hn : n < 4400) (e49 : s.2.1 49 n = Int32.ofNat p) (hp : p < 4400) (n30 : s.2.1 44 n ≠ 30) (p10 : s.2.1 44 p = 10) (hP : s.2.1 49 p = Int32.ofNat P) (P4 : P < 4400) (hi : iP s p 1) (hne : P ≠ p) : bhd s 1 n P := by
  intro s' w k N' r hw hN
  obtain ⟨j, rfl⟩ : ∃ j, N' = j + 1 := ⟨N' - 1, by omega⟩
  show (rs_aI s' 49 (Int32.ofNat n)).bind _ = _
  refine bse ((nd_at r (by decide) hn).trans (congrArg some e49)) ?_
  refine bse (nd_at r (by decide) hn) ?_
  refine ift (ne_t n30) ?_
  refine bse ((nd_at r (by decide) hp).trans (congrArg some p10)) ?_
  refine ift (by decide) ?_
  refine bse ((nd_at r (by decide) hp).trans (congrArg some p10)) ?_
  refine ifn (by decide) ?_
  rw [hi s' w (k + 1) r]
  refine bse (a := ((1 : Int32), s')) rfl ?_
  refine ifn (eq1_f (show (1 : Int32) ≠ 0 by decide)) ?_
  refine bse ((nd_at r (by decide) hp).trans (congrArg some hP)) ?_
  show s393_125 _ _ _ _ _ _ = _
  unfold s393_125
  exact ifn (eq_f (fun z => hne (ofn_inj P4 hp z))) rfl
theorem bh_n (hn : n < 4400) (e49 : s.2.1 49 n = Int32.ofNat p) (hp : p < 4400) (n30 : s.2.1 44 n ≠ 30) (p30 : s.2.1 44 p = 30) (e48 : s.2.1 48 n = Int32.ofNat e) (h1 : 1 ≤ e) (h2 : e < 4400) (f : fI s M e q) (hM : M ≤ 6000) : bhd s 1 n q := by
  intro s' w k N' r hw hN
  obtain ⟨j, rfl⟩ : ∃ j, N' = j + 1 := ⟨N' - 1, by omega⟩
  show (rs_aI s' 49 (Int32.ofNat n)).bind _ = _
  refine bse ((nd_at r (by decide) hn).trans (congrArg some e49)) ?_
  refine bse (nd_at r (by decide) hn) ?_
  refine ift (ne_t n30) ?_
  refine bse ((nd_at r (by decide) hp).trans (congrArg some p30)) ?_
  refine ifn (by decide) ?_
  refine bse ((nd_at r (by decide) hn).trans (congrArg some e48)) ?_
  refine ifn (eq1_f (ofn_0 h2 h1)) ?_
  refine bse ((nd_at r (by decide) hn).trans (congrArg some e48)) ?_
  rw [fI_run f r (by omega)]
  rfl
theorem bh_l (hn : n < 4400) (e49 : s.2.1 49 n = Int32.ofNat p) (hp : p < 4400) (n30 : s.2.1 44 n ≠ 30) (p30 : s.2.1 44 p = 30) (e48 : s.2.1 48 n = 0) (f : bhd s N p q) : bhd s (N + 1) n q := by
  intro s' w k N' r hw hN
  obtain ⟨j, rfl⟩ : ∃ j, N' = j + 1 := ⟨N' - 1, by omega⟩
  show (rs_aI s' 49 (Int32.ofNat n)).bind _ = _
  refine bse ((nd_at r (by decide) hn).trans (congrArg some e49)) ?_
  refine bse (nd_at r (by decide) hn) ?_
  refine ift (ne_t n30) ?_
  refine bse ((nd_at r (by decide) hp).trans (congrArg some p30)) ?_
  refine ifn (by decide) ?_
  refine bse ((nd_at r (by decide) hn).trans (congrArg some e48)) ?_
  refine ift (by decide) ?_
  exact f s' w k j r hw (by omega)
theorem bh_b (hn : n < 4400) (e49 : s.2.1 49 n = Int32.ofNat p) (hp : p < 4400) (n30 : s.2.1 44 n = 30) (p31 : s.2.1 44 p = 31) : bhd s 1 n p := by
  intro s' w k N' r hw hN
  obtain ⟨j, rfl⟩ : ∃ j, N' = j + 1 := ⟨N' - 1, by omega⟩
  show (rs_aI s' 49 (Int32.ofNat n)).bind _ = _
  refine bse ((nd_at r (by decide) hn).trans (congrArg some e49)) ?_
  refine bse ((nd_at r (by decide) hn).trans (congrArg some n30)) ?_
  refine ifn (by decide) ?_
  refine bse ((nd_at r (by decide) hp).trans (congrArg some p31)) ?_
  exact ifn (by decide) rfl
theorem bh_w (hn : n < 4400) (e49 : s.2.1 49 n = Int32.ofNat p) (hp : p < 4400) (n30 : s.2.1 44 n = 30) (p22 : s.2.1 44 p = 22) (e45 : s.2.1 45 p = Int32.ofNat e) (f : fI s M e q) (hM : M ≤ 6000) : bhd s 1 n q := by
  intro s' w k N' r hw hN
  obtain ⟨j, rfl⟩ : ∃ j, N' = j + 1 := ⟨N' - 1, by omega⟩
  show (rs_aI s' 49 (Int32.ofNat n)).bind _ = _
  refine bse ((nd_at r (by decide) hn).trans (congrArg some e49)) ?_
  refine bse ((nd_at r (by decide) hn).trans (congrArg some n30)) ?_
  refine ifn (by decide) ?_
  refine bse ((nd_at r (by decide) hp).trans (congrArg some p22)) ?_
  refine ift (by decide) ?_
  refine bse ((nd_at r (by decide) hp).trans (congrArg some p22)) ?_
  refine ifn (by decide) ?_
  refine bse ((nd_at r (by decide) hp).trans (congrArg some e45)) ?_
  rw [fI_run f r (by omega)]
  rfl
theorem bh_i (hn : n < 4400) (e49 : s.2.1 49 n = Int32.ofNat p) (hp : p < 4400) (n30 : s.2.1 44 n = 30) (p21 : s.2.1 44 p = 21) (f : bhd s N p q) : bhd s (N + 1) n q := by
  intro s' w k N' r hw hN
  obtain ⟨j, rfl⟩ : ∃ j, N' = j + 1 := ⟨N' - 1, by omega⟩
  show (rs_aI s' 49 (Int32.ofNat n)).bind _ = _
  refine bse ((nd_at r (by decide) hn).trans (congrArg some e49)) ?_
  refine bse ((nd_at r (by decide) hn).trans (congrArg some n30)) ?_
  refine ifn (by decide) ?_
  refine bse ((nd_at r (by decide) hp).trans (congrArg some p21)) ?_
  refine ift (by decide) ?_
  refine bse ((nd_at r (by decide) hp).trans (congrArg some p21)) ?_
  refine ift (by decide) ?_
  exact f s' w k j r hw (by omega)
theorem bh_run (b : bhd s N n q) (r : rqs s s') (hw : 6000 ≤ w) (hN : N ≤ w) : rM w (k + 3) 393 [.ref 36, .int (Int32.ofNat n)] s' = some (some (.int (Int32.ofNat q)), s') := by
  rw [y393]
  exact b s' w k w r hw hN
theorem bhd_mono {N' : Nat} (b : bhd s N n q) (h : N ≤ N') : bhd s N' n q := fun s' w k N2 r hw h2 => b s' w k N2 r hw (Nat.le_trans h h2)
end BHL
