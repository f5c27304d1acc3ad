/-! WHERE A NODE BEGINS: first, and positions of code. -/
section TAB
variable {s : rS} {SL A B : Nat → Int32} {m : Nat}
theorem AG_ab {R : EXJ} {lv : Nat} {G : List scN} (hR : ∀ lv G g n t g' a b, R lv G g n t g' a b → a < b) : ∀ (ts : List Nat) (g x g' : Int32) (a b : Nat), AG s R lv G ts g x g' a b → a + ts.length ≤ b
  | [], g, x, g', a, b, e => by rw [e.2.2]; exact Nat.le_refl _
  | t :: ts, g, x, g', a, b, e => by
    obtain ⟨e1, g1, c, _, _, _, ⟨t0, q, _⟩, e2⟩ := e
    have := AG_ab hR ts _ _ _ _ _ e2
    have := hR _ _ _ _ _ _ _ _ q
    rw [List.length_cons]
    omega
theorem ST_ab {R : EXJ} {sw : Bool} {lv : Nat} {G : List scN} {g g' : Int32} {p e t a b : Nat} (hR : ∀ lv G g n t g' a b, R lv G g n t g' a b → a < b) (h : ST s SL A B R sw lv G g p e t g' a b) : a < b := by
  obtain ⟨tv, g1, c, ⟨t0, q, _⟩, h | ⟨_, l, ta, k, f0, f, tf, d, _, _, _, q2, h2, _⟩⟩ := h
  · have := hR _ _ _ _ _ _ _ _ q
    omega
  · have := hR _ _ _ _ _ _ _ _ q
    have := hR _ _ _ _ _ _ _ _ q2
    omega
theorem XS_ab {R : EXJ} {Q : BLJ} (hR : ∀ lv G g n t g' a b, R lv G g n t g' a b → a < b) (hQ : ∀ lv G g n how t g' a b, Q lv G g n how t g' a b → a ≤ b) {lv : Nat} {G G' : List scN} {g g' : Int32} {n how tg a b : Nat} (h : XS s SL A B m R Q lv G g n how G' tg g' a b) : a < b := by
  obtain ⟨K, l, _, _, _, _, x⟩ := h
  by_cases hk : K = 20 ∨ K = 21 ∨ K = 22 ∨ K = 23 ∨ K = 24 ∨ K = 25 ∨ K = 26 ∨ K = 27
  · rcases hk with rfl | rfl | rfl | rfl | rfl | rfl | rfl | rfl
    · obtain ⟨tv, td, sl, c, g1, ⟨t0, q, _⟩, _, _, _, _, _, _, _, _, h2, _⟩ := x
      have := hR _ _ _ _ _ _ _ _ q
      omega
    · obtain ⟨_, _, r, c, d, x, g1, g2, _, _, _, q, _, q2, h2 | ⟨e, y, g3, _, _, _, _, _, _, q3, _⟩⟩ := x
      · have := hR _ _ _ _ _ _ _ _ q
        have := hQ _ _ _ _ _ _ _ _ _ q2
        omega
      · have := hR _ _ _ _ _ _ _ _ q
        have := hQ _ _ _ _ _ _ _ _ _ q2
        have := hQ _ _ _ _ _ _ _ _ _ q3
        omega
    · obtain ⟨_, _, r, c, d, x, g2, _, _, _, q, _, _, q2, _, _, h2, _⟩ := x
      have := hR _ _ _ _ _ _ _ _ q
      have := hQ _ _ _ _ _ _ _ _ _ q2
      omega
    · obtain ⟨_, _, c, q, h2, _⟩ := x
      have := hR _ _ _ _ _ _ _ _ q
      omega
    · obtain ⟨_, _, _, tv, c, tr, ⟨t0, q, _⟩, _, _, h2, _⟩ := x
      have := hR _ _ _ _ _ _ _ _ q
      omega
    · obtain ⟨_, _, c, ⟨t0, q, _⟩, h2, _⟩ := x
      have := hR _ _ _ _ _ _ _ _ q
      omega
    · obtain ⟨_, _, r, y, _, _, _, q⟩ := x
      exact ST_ab hR q
    · obtain ⟨_, _, t, c, q, h2, _⟩ := x
      have := hR _ _ _ _ _ _ _ _ q
      omega
  · exfalso
    revert x
    split <;> first | omega | exact id
theorem XL_ab {R : EXJ} {Q : BLJ} (hR : ∀ lv G g n t g' a b, R lv G g n t g' a b → a < b) (hQ : ∀ lv G g n how t g' a b, Q lv G g n how t g' a b → a ≤ b) {lv how : Nat} : ∀ (es : List Nat) (G : List scN) (g x : Int32) (tg : Nat) (g' : Int32) (a b : Nat), XL s SL A B m R Q lv how es G g x tg g' a b → a ≤ b ∧ (es ≠ [] → a < b) ∧ (how ≠ 0 → es ≠ [])
  | [], G, g, x, tg, g', a, b, e => ⟨by rw [e.2.2.1]; exact Nat.le_refl _, fun z => absurd rfl z, fun z => absurd e.2.2.2.2 z⟩
  | e0 :: r, G, g, x, tg, g', a, b, e => by
    obtain ⟨G1, t1, c, g1, _, _, _, ⟨h1, _, q, _⟩ | ⟨h1, q, q2⟩⟩ := e
    · have := XS_ab hR hQ q
      exact ⟨by omega, fun _ => this, fun _ => List.cons_ne_nil _ _⟩
    · have h2 := XS_ab hR hQ q
      have h3 := (XL_ab hR hQ r _ _ _ _ _ _ _ q2).1
      exact ⟨by omega, fun _ => by omega, fun _ => List.cons_ne_nil _ _⟩
theorem TU_ab : ∀ f, (∀ lv G g n t g' a b, (TU s SL A B m f).1 lv G g n t g' a b → a < b) ∧ ∀ lv G g n how t g' a b, (TU s SL A B m f).2 lv G g n how t g' a b → a ≤ b ∧ (how ≠ 0 → a < b)
  | 0 => ⟨fun _ _ _ _ _ _ _ _ h => absurd h id, fun _ _ _ _ _ _ _ _ _ h => absurd h id⟩
  | f + 1 => by
    obtain ⟨hR, hQ⟩ := TU_ab f
    have hQ1 : ∀ lv G g n how t g' a b, (TU s SL A B m f).2 lv G g n how t g' a b → a ≤ b := fun lv G g n how t g' a b h => (hQ lv G g n how t g' a b h).1
    constructor
    · intro lv G g n t g' a b h
      rcases h with h | h
      · exact hR _ _ _ _ _ _ _ _ h
      · obtain ⟨K, _, hK, x⟩ := h
        have hk : K = 0 ∨ K = 1 ∨ K = 2 ∨ K = 3 ∨ K = 4 ∨ K = 5 ∨ K = 6 ∨ K = 7 ∨ K = 8 ∨ K = 9 ∨ K = 10 ∨ K = 11 ∨ K = 12 ∨ K = 13 := by omega
        rcases hk with rfl | rfl | rfl | rfl | rfl | rfl | rfl | rfl | rfl | rfl | rfl | rfl | rfl | rfl
        · exact absurd x id
        · obtain ⟨_, _, h2, _⟩ := x
          omega
        · obtain ⟨_, _, h2, _⟩ := x
          omega
        · obtain ⟨_, _, h2, _⟩ := x
          omega
        · obtain ⟨_, _, _, _, _, _, _, _, _, h2, _⟩ := x
          omega
        · obtain ⟨_, _, _, _, _, _, _, _, _, h2, _⟩ := x
          omega
        · obtain ⟨l, tl, c, _, _, _, q, _, _, h2, _⟩ := x
          have := hR _ _ _ _ _ _ _ _ q
          omega
        · obtain ⟨p, e, _, _, _, _, _, _, q⟩ := x
          exact ST_ab hR q
        · obtain ⟨k, m', c, ts, _, _, _, _, q, _, h2, _⟩ := x
          have := AG_ab hR _ _ _ _ _ _ q
          omega
        · obtain ⟨l, tg, _, _, _, q, _⟩ := x
          exact (hQ _ _ _ _ _ _ _ _ _ q).2 (by decide)
        · obtain ⟨l, tl, k, f0, f, tf, c, _, _, _, q, _, _, _, _, h2, _⟩ := x
          have := hR _ _ _ _ _ _ _ _ q
          omega
        · obtain ⟨l, tl, k, m', c, d, g1, ts, _, _, _, q, q2, _, _, _, _, _, _, h2, _⟩ := x
          have := AG_ab hR _ _ _ _ _ _ q
          have := hR _ _ _ _ _ _ _ _ q2
          omega
        · obtain ⟨l, tl, m', c, d, g1, ts, _, _, _, q, q2, _, _, _, _, _, _, h2, _⟩ := x
          have := AG_ab hR _ _ _ _ _ _ q
          have := hR _ _ _ _ _ _ _ _ q2
          omega
        · obtain ⟨l, r, c, d, g1, _, _, _, _, _, _, q, q2, _, h2, _⟩ := x
          have := hR _ _ _ _ _ _ _ _ q
          have := hR _ _ _ _ _ _ _ _ q2
          omega
    · intro lv G g n how t g' a b h
      rcases h with h | h
      · exact hQ _ _ _ _ _ _ _ _ _ h
      · obtain ⟨_, es, q⟩ := h
        obtain ⟨q1, q2, q3⟩ := XL_ab hR hQ1 es _ _ _ _ _ _ _ q
        exact ⟨q1, fun z => q2 (q3 z)⟩
end TAB
/-- the rows of nodes -/
def rqs (s s' : rS) : Prop := ∀ p, 44 ≤ p → p ≤ 49 → s'.2.1 p = s.2.1 p
/-- the first part of node n is x -/
def fP (s : rS) (n : Nat) (x : Int32) : Prop := ∀ (s' : rS) (w k : Nat), rqs s s' → rM w (k + 1) 387 [.ref 36, .int (Int32.ofNat n)] s' = some (some (.int x), s')
/-- node n begins with node q -/
def fI (s : rS) (N n q : Nat) : Prop := ∀ (s' : rS) (w k N' : Nat), rqs s s' → N ≤ N' → s386_4 (rM w (k + 1)) w N' (Int32.ofNat n) 1 s' = some (some (.int (Int32.ofNat q)), s')
section FIR
variable {s s' : rS} {w k n K : Nat}
theorem nd_at (r : rqs s s') {p i : Nat} (hp : 44 ≤ p ∧ p ≤ 49) (hi : i < 4400) : rs_aI s' p (Int32.ofNat i) = some (s.2.1 p i) := by
  rw [← r p hp.1 hp.2]
  have : p = 44 ∨ p = 45 ∨ p = 46 ∨ p = 47 ∨ p = 48 ∨ p = 49 := by omega
  rcases this with rfl | rfl | rfl | rfl | rfl | rfl <;> exact aI_at (n := 4400) (by decide) rfl hi (by decide)
theorem fP_d (hn : n < 4400) (e : s.2.1 44 n = Int32.ofNat K) (hK : K < 32) (k1 : K ≠ 7 ∧ K ≠ 9 ∧ K ≠ 11 ∧ K ≠ 12 ∧ K ≠ 26) : fP s n (s.2.1 45 n) := by
  intro s' w k r
  rw [y387]
  show s387_0 _ _ _ _ = _
  unfold s387_0
  have a1 : ∀ K, K < 32 → (K ≠ 7 ∧ K ≠ 9 ∧ K ≠ 11 ∧ K ≠ 12 ∧ K ≠ 26) → Int32.ofNat K ≠ 7 ∧ Int32.ofNat K ≠ 9 ∧ Int32.ofNat K ≠ 11 ∧ Int32.ofNat K ≠ 12 ∧ Int32.ofNat K ≠ 26 ∧ Op.lookupswitch.offset (#[(7, 50), (9, 57), (11, 69), (12, 69), (26, 50)] : Array (Int × Int)).toList 94 (Int32.toInt (Int32.ofNat K)) = 94 := by decide +kernel
  obtain ⟨b1, b2, b3, b4, b5, b6⟩ := a1 K hK k1
  refine bse ((nd_at r (by decide) hn).trans (congrArg some e)) ?_
  refine ifn b1 (ifn b2 (ifn b3 (ifn b4 (ifn b5 (ift b6 ?_)))))
  exact bse (nd_at r (by decide) hn) rfl
theorem fP_7 (hn : n < 4400) (e : s.2.1 44 n = 7 ∨ s.2.1 44 n = 26) : fP s n (s.2.1 46 n) := by
  intro s' w k r
  rw [y387]
  show s387_0 _ _ _ _ = _
  unfold s387_0
  rcases e with e | e
  · refine bse ((nd_at r (by decide) hn).trans (congrArg some e)) ?_
    refine ift rfl ?_
    exact bse (nd_at r (by decide) hn) rfl
  · refine bse ((nd_at r (by decide) hn).trans (congrArg some e)) ?_
    refine ifn (by decide) (ifn (by decide) (ifn (by decide) (ifn (by decide) (ift rfl ?_))))
    exact bse (nd_at r (by decide) hn) rfl
theorem fP_9 {l : Nat} (hn : n < 4400) (e : s.2.1 44 n = 9) (el : s.2.1 45 n = Int32.ofNat l) (hl : l < 4400) : fP s n (s.2.1 45 l) := by
  intro s' w k r
  rw [y387]
  show s387_0 _ _ _ _ = _
  unfold s387_0
  refine bse ((nd_at r (by decide) hn).trans (congrArg some e)) ?_
  refine ifn (by decide) (ift rfl ?_)
  refine bse ((nd_at r (by decide) hn).trans (congrArg some el)) ?_
  exact bse (nd_at r (by decide) hl) rfl
theorem fP_11 (hn : n < 4400) (e : s.2.1 44 n = 11 ∨ s.2.1 44 n = 12) : fP s n (if s.2.1 45 n = 0 then s.2.1 46 n else s.2.1 45 n) := by
  intro s' w k r
  rw [y387]
  show s387_0 _ _ _ _ = _
  unfold s387_0
  have go : ∀ y : Int32, y = s.2.1 45 n → (if mx_f1 .ne y = true then (rs_aI s' 45 (Int32.ofNat n)).bind fun x15 => s387_99 (rM w k) w x15 s' else (rs_aI s' 46 (Int32.ofNat n)).bind fun x17 => s387_99 (rM w k) w x17 s') = some (some (.int (if s.2.1 45 n = 0 then s.2.1 46 n else s.2.1 45 n)), s') := by
    intro y ey
    by_cases h0 : s.2.1 45 n = 0
    · rw [if_pos h0]
      refine ifn (by rw [ey, h0]; decide) ?_
      exact bse (nd_at r (by decide) hn) rfl
    · rw [if_neg h0]
      refine ift (by rw [ey]; exact decide_eq_true h0) ?_
      exact bse (nd_at r (by decide) hn) rfl
  rcases e with e | e
  · refine bse ((nd_at r (by decide) hn).trans (congrArg some e)) ?_
    refine ifn (by decide) (ifn (by decide) (ift rfl ?_))
    refine bse (nd_at r (by decide) hn) ?_
    exact go _ rfl
  · refine bse ((nd_at r (by decide) hn).trans (congrArg some e)) ?_
    refine ifn (by decide) (ifn (by decide) (ifn (by decide) (ift rfl ?_)))
    refine bse (nd_at r (by decide) hn) ?_
    exact go _ rfl
theorem fI_leaf (e : fP s n 0) : fI s 2 n n := by
  intro s' w k N' r hN
  obtain ⟨j, rfl⟩ : ∃ j, N' = j + 1 + 1 := ⟨N' - 2, by omega⟩
  show (if mx_f1 .eq (1 : Int32) = true then _ else _) = _
  refine ifn (by decide) ?_
  rw [e s' w k r]
  rfl
theorem fI_part {x N q : Nat} (e : fP s n (Int32.ofNat x)) (hx : x < 4400) (x1 : 1 ≤ x) (e2 : fI s N x q) : fI s (N + 1) n q := by
  intro s' w k N' r hN
  obtain ⟨j, rfl⟩ : ∃ j, N' = j + 1 := ⟨N' - 1, by omega⟩
  have h0 : mx_f1 .eq (Int32.ofNat x) = false := decide_eq_false (ofn_0 hx x1)
  show (if mx_f1 .eq (1 : Int32) = true then _ else _) = _
  refine ifn (by decide) ?_
  rw [e s' w k r]
  show (if mx_f1 .eq (Int32.ofNat x) = true then _ else _) = _
  rw [h0, if_neg (by decide)]
  show (if mx_f1 .eq (1 : Int32) = true then _ else _) = _
  refine ifn (by decide) ?_
  exact e2 s' w k j r (by omega)
theorem fI_run {N q : Nat} (e : fI s N n q) (r : rqs s s') (hw : N ≤ w) : rM w (k + 2) 386 [.ref 36, .int (Int32.ofNat n)] s' = some (some (.int (Int32.ofNat q)), s') := by
  rw [y386]
  exact e s' w k w r hw
end FIR
