/-! STRINGS ARE EQUAL just where their codes are; the Kind of a name. -/
/-- the byte of a character -/
def bw (z : Int32) : Int32 := if z.toInt ≤ 127 then z else z - 256
theorem bw_of (x : Int32) (hx : fits .byte (.int x) = true) : bw (x &&& 255) = x := by
  have d : ∀ n : Nat, n ≤ 255 → bw (Int32.ofInt ((n : Int) - 128) &&& 255) = Int32.ofInt ((n : Int) - 128) := by decide +kernel
  have hx : (decide (-128 ≤ x) && decide (x ≤ 127)) = true := hx
  rw [Bool.and_eq_true, decide_eq_true_eq, decide_eq_true_eq, Int32.le_iff_toInt_le, Int32.le_iff_toInt_le] at hx
  have a : (-128 : Int32).toInt = -128 := by decide
  have b : (127 : Int32).toInt = 127 := by decide
  rw [a, b] at hx
  have e := d (x.toInt + 128).toNat (by omega)
  have i : (((x.toInt + 128).toNat : Nat) : Int) - 128 = x.toInt := by omega
  rw [i, Int32.ofInt_toInt] at e
  exact e
theorem O_gc {L : Nat} {xs : Nat → Int32} {ci : Nat} {fs : List Value} : ∀ p : Nat, p < 21 → ah_O L xs p = some (.inr (ci, fs)) → ah_gc p = true
  | 0, _, e => by cases e
  | 1, _, e => by cases e
  | 2, _, e => by cases e
  | 3, _, e => by cases e
  | 4, _, e => by cases e
  | 5, _, e => by cases e
  | 6, _, e => by cases e
  | 7, _, _ => rfl
  | 8, _, _ => rfl
  | 9, _, _ => rfl
  | 10, _, _ => rfl
  | 11, _, _ => rfl
  | 12, _, _ => rfl
  | 13, _, _ => rfl
  | 14, _, e => by cases e
  | 15, _, e => by cases e
  | 16, _, e => by cases e
  | 17, _, e => by cases e
  | 18, _, e => by cases e
  | 19, _, e => by cases e
  | 20, _, e => by cases e
  | n + 21, h, _ => absurd h (by omega)
theorem lg_ne (x y : Int64) : mx_f1 .ne (lg_cmp x y) = decide (¬ x = y) := by
  have e := lg_0 x y
  rw [f1_eqd] at e
  rw [f1_ne]
  have e2 := decide_eq_decide.mp e
  exact decide_eq_decide.mpr (not_congr e2)
section SE
variable {L : Nat} {xs : Nat → Int32} {zf : Value} {w k : Nat} {h : rm_H} {s : rS} {p q a b n : Nat} {f g : Nat → Int32} {c d : Int64}
theorem lk_gc {ci : Nat} {fs : List Value} (e : rm_look 21 (ah_O L xs) h p = some (.inr (ci, fs))) : ah_gc p = true := by
  unfold rm_look at e
  split at e
  · next u => exact O_gc p u e
  · next u =>
    have v : Nat.ble 21 p = true := Nat.ble_eq.mpr (by omega)
    unfold ah_gc
    rw [v]
    rfl
theorem se_loop (ea : rm_look 21 (ah_O L xs) h a = some (.inl (1, n, .inl f))) (eb : rm_look 21 (ah_O L xs) h b = some (.inl (1, n, .inl g))) (hn : n ≤ 10000) {D : dD} : ∀ (m i N : Nat), i + m = n → m < N → ∃ r, b152_9 L xs zf D w N (some a) (some b) (Int32.ofNat i) h = some (some (.int r), h) ∧ ((r = 1 ∧ ∀ j, i ≤ j → j < n → f j = g j) ∨ (r = 0 ∧ ∃ j, j < n ∧ f j ≠ g j)) := by
  intro m
  induction m with
  | zero =>
    intro i N e hN
    obtain ⟨N, rfl⟩ : ∃ M, N = M + 1 := ⟨N - 1, by omega⟩
    refine ⟨1, ?_, Or.inl ⟨rfl, fun j h1 h2 => by omega⟩⟩
    rw [b152_9]
    refine bse (aN_lk ea (by decide)) (ift ?_ rfl)
    rw [f2_ge, of_int (by omega), of_int (by omega)]
    simp
    omega
  | succ m ih =>
    intro i N e hN
    obtain ⟨N, rfl⟩ : ∃ M, N = M + 1 := ⟨N - 1, by omega⟩
    have ge : ¬ mx_f2 .ge (Int32.ofNat i) (Int32.ofNat n) = true := by
      rw [f2_ge, of_int (by omega), of_int (by omega)]
      simp
      omega
    have x1 : daB L xs h (some a) (Int32.ofNat i) = some (f i) := by rw [aB_lk ea (of_in (by omega) (by omega)), of_clamp (by omega)]
    have x2 : daB L xs h (some b) (Int32.ofNat i) = some (g i) := by rw [aB_lk eb (of_in (by omega) (by omega)), of_clamp (by omega)]
    by_cases c : f i = g i
    · obtain ⟨r, r1, r2⟩ := ih (i + 1) N (by omega) (by omega)
      refine ⟨r, ?_, ?_⟩
      · rw [b152_9]
        refine bse (aN_lk ea (by decide)) (ifn ge (bse x1 (bse x2 (ift ?_ ?_))))
        · show decide (f i = g i) = true
          exact decide_eq_true c
        · rw [show Int32.ofNat i + 1 = Int32.ofNat (i + 1) from of_add i 1]
          exact r1
      · rcases r2 with ⟨u, v⟩ | v
        · refine Or.inl ⟨u, fun j h1 h2 => ?_⟩
          by_cases z : j = i
          · rw [z]; exact c
          · exact v j (by omega) h2
        · exact Or.inr v
    · refine ⟨0, ?_, Or.inr ⟨rfl, i, by omega, c⟩⟩
      rw [b152_9]
      refine bse (aN_lk ea (by decide)) (ifn ge (bse x1 (bse x2 (ifn ?_ rfl))))
      show ¬ decide (f i = g i) = true
      exact fun z => c (of_decide_eq_true z)
theorem se_of (hp : nS L xs h p c) (hq : nS L xs h q d) (hw : 9 ≤ w) : dM L xs zf w (k + 2) 151 [.ref p, .ref q] h = some (some (.int (if c = d then 1 else 0)), h) := by
  obtain ⟨n, g1, ⟨ci, a, fs, f, p1, p2, p3, p4, p5, p6, p7, p8⟩, p9, p10, p11⟩ := hp
  obtain ⟨m, g2, ⟨ci2, b, fs2, f2, q1, q2, q3, q4, q5, q6, q7, q8⟩, q9, q10, q11⟩ := hq
  have iff := cd_iff g1 g2 0 0 n m p9 q9 p10 q10
  rw [← p11, ← q11] at iff
  have ff : n = m → ((∀ j, j < n → g1 (0 + j) = g2 (0 + j)) ↔ ∀ j, j < n → f j = f2 j) := by
    intro nm
    constructor
    · intro e j hj
      have := e j hj
      rw [Nat.zero_add, ← p7 j hj, ← q7 j (by omega)] at this
      rw [← bw_of _ (p8 j hj), this, bw_of _ (q8 j (by omega))]
    · intro e j hj
      rw [Nat.zero_add, ← p7 j hj, ← q7 j (by omega), e j hj]
  rw [e151]
  show b151_0 L xs zf (dM L xs zf w (k + 1)) w (some p) (some q) h = _
  unfold b151_0
  refine ift ?_ ?_
  · show (ah_gc p && ah_gc q) = true
    rw [lk_gc p2, lk_gc q2]
    rfl
  by_cases pq : p = q
  · subst pq
    refine ift (decide_eq_true rfl) ?_
    rw [p2] at q2
    cases q2
    rw [p3] at q3
    cases q3
    rw [p5] at q5
    cases q5
    rw [if_pos (iff.mpr ⟨rfl, (ff rfl).mpr (fun _ _ => rfl)⟩)]
    rfl
  refine ifn (fun z => pq (Option.some.inj (of_decide_eq_true z))) ?_
  have ck : dcK L xs h [7, 16] (some q) = true := by
    show rm_cis 21 (ah_O L xs) h q [7, 16] = true
    unfold rm_cis
    rw [q2]
    exact q1
  rw [ck]
  refine ifn (by decide) (ifn (by rw [if_neg (dnl_s q)]; decide) (ifn (by decide) (ifn (by decide) ?_)))
  refine bse (gI_lk p2 p1 p4) (bse (gI_lk q2 q1 q4) (ifn (by decide) ?_))
  have s152 : ∃ r, dM L xs zf w (k + 1) 152 [.ref a, .ref b] h = some (some (.int r), h) ∧ ((r = 1 ∧ c = d) ∨ (r = 0 ∧ c ≠ d)) := by
    rw [e152]
    show ∃ r, b152_0 L xs zf (dM L xs zf w k) w (some a) (some b) h = _ ∧ _
    unfold b152_0
    by_cases nm : n = m
    · subst nm
      obtain ⟨r, r1, r2⟩ := se_loop (zf := zf) (w := w) (D := dM L xs zf w k) p5 q5 p6 n 0 w (by omega) (by omega)
      refine ⟨r, bse (aN_lk p5 (by decide)) (bse (aN_lk q5 (by decide)) (ifn ?_ r1)), ?_⟩
      · rw [f2_ne]
        simp
      · rcases r2 with ⟨r2, r3⟩ | ⟨r2, j, r3, r4⟩
        · exact Or.inl ⟨r2, iff.mpr ⟨rfl, (ff rfl).mpr (fun j hj => r3 j (by omega) hj)⟩⟩
        · exact Or.inr ⟨r2, fun z => r4 ((ff rfl).mp (iff.mp z).2 j r3)⟩
    · refine ⟨0, bse (aN_lk p5 (by decide)) (bse (aN_lk q5 (by decide)) (ift ?_ rfl)), Or.inr ⟨rfl, fun z => nm (iff.mp z).1⟩⟩
      rw [f2_ne]
      refine decide_eq_true (fun z => nm ?_)
      have := congrArg Int32.toInt z
      rw [of_int (by omega), of_int (by omega)] at this
      omega
  obtain ⟨r, r1, r2⟩ := s152
  unfold b151_36
  refine bse (gR_lk (p := some a) p2 p1 p3) (bse (gR_lk (p := some b) q2 q1 q3) (bse (a := (r, h)) (bse r1 rfl) ?_))
  rcases r2 with ⟨u, v⟩ | ⟨u, v⟩
  · subst u
    rw [if_pos v]
    exact ifn (show ¬ mx_f1 .eq (1 : Int32) = true by decide) rfl
  · subst u
    rw [if_neg v]
    exact ift (show mx_f1 .eq (0 : Int32) = true by decide) rfl
/-- "Main" -/
theorem nS_main : nS L xs h 11 1298229614 := by
  refine ⟨4, fun i => (ah_byt.getD 4 []).getD i 0, ⟨16, 18, [.ref 18, .int 0], fun i => (ah_byt.getD 4 []).getD i 0, by decide, rfl, rfl, rfl, rfl, by decide, fun i hi => ?_, fun i hi => ?_⟩, by decide, fun j hj => ?_, by decide +kernel⟩
  · have : ∀ i, i < 4 → (ah_byt.getD 4 []).getD i 0 &&& 255 = (ah_byt.getD 4 []).getD i 0 := by decide +kernel
    exact this i hi
  · have : ∀ i, i < 4 → fits .byte (.int ((ah_byt.getD 4 []).getD i 0)) = true := by decide +kernel
    exact this i hi
  · have : ∀ j, j < 4 → 1 ≤ ((ah_byt.getD 4 []).getD (0 + j) 0).toInt ∧ ((ah_byt.getD 4 []).getD (0 + j) 0).toInt ≤ 255 := by decide +kernel
    exact this j hj
end SE
