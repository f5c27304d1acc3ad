/-! FEED: both sides. -/
def by20 (a b c d e : Int32) (j : Nat) : Int32 := by4 (if j < 4 then a else if j < 8 then b else if j < 12 then c else if j < 16 then d else e) (j % 4)
section FD2
variable {L : Nat} {xs : Nat → Int32} {zf : Value} {w k : Nat} {h : rm_H} {bp : Option Nat} {fn fp : Int32} {s : rS}
theorem rs_sI_at {p t n i : Nat} {x : Int32} (hp : 37 ≤ p ∧ p ≤ 114) (ht : rs_t p = (0, n, false)) (hi : i < n) (hn : n ≤ 100000000) : rs_sI s p (Int32.ofNat i) x = some (rs_wA s p i x) := by
  unfold rs_sI
  rw [ht, if_pos, of_clamp (by omega)]
  show (rs_in p && true && true && rm_in (Int32.ofNat i) n) = true
  rw [of_in hi hn]
  unfold rs_in
  rw [decide_eq_true hp]
  rfl
theorem rf_m4 : ∀ j : Nat, j < 20 → (24 - (8 * (Int32.ofNat j - Int32.ofNat j / 4 * 4))) = 24 - 8 * Int32.ofNat (j % 4) := by decide +kernel
theorem rf_it (E : rE) (N : Nat) (a b c d e : Int32) (n j : Nat) (hn : s.1 2 = Int32.ofNat n) (h20 : n + 20 ≤ 2000) (hj : j < 20) : s286_18 E w (N + 1) a b c d e (Int32.ofNat j) s = s286_18 E w N a b c d e (Int32.ofNat (j + 1)) (rs_wA s 37 (n + j) (by20 a b c d e j)) := by
  have key : ∀ s0 : Int32, s286_71 E w (s286_18 E w N) a b c d e (Int32.ofNat j) s0 s = s286_18 E w N a b c d e (Int32.ofNat (j + 1)) (rs_wA s 37 (n + j) (by4 s0 (j % 4))) := by
    intro s0
    unfold s286_71
    rw [hn, of_add, rf_m4 j hj, rs_sI_at (t := 0) (n := 2000) (by omega) (by decide) (by omega) (by omega), show (1 : Int32) = Int32.ofNat 1 from rfl, of_add]
    rfl
  have c20 : ¬ mx_f2 .ge (Int32.ofNat j) 20 = true := by rw [f2_ge, of_int (by omega), show (20 : Int32).toInt = 20 from by decide]; simp; omega
  rw [s286_18, if_neg c20]
  unfold by20
  by_cases j4 : j < 4
  · rw [if_neg (show ¬ mx_f2 .ge (Int32.ofNat j) 4 = true by rw [f2_ge, of_int (by omega), i4]; simp; omega), key, if_pos j4]
  · rw [if_pos (show mx_f2 .ge (Int32.ofNat j) 4 = true by rw [f2_ge, of_int (by omega), i4]; simp; omega), if_neg j4]
    by_cases j8 : j < 8
    · rw [if_neg (show ¬ mx_f2 .ge (Int32.ofNat j) 8 = true by rw [f2_ge, of_int (by omega), show (8 : Int32).toInt = 8 from by decide]; simp; omega), key, if_pos j8]
    · rw [if_pos (show mx_f2 .ge (Int32.ofNat j) 8 = true by rw [f2_ge, of_int (by omega), show (8 : Int32).toInt = 8 from by decide]; simp; omega), if_neg j8]
      by_cases j12 : j < 12
      · rw [if_neg (show ¬ mx_f2 .ge (Int32.ofNat j) 12 = true by rw [f2_ge, of_int (by omega), show (12 : Int32).toInt = 12 from by decide]; simp; omega), key, if_pos j12]
      · rw [if_pos (show mx_f2 .ge (Int32.ofNat j) 12 = true by rw [f2_ge, of_int (by omega), show (12 : Int32).toInt = 12 from by decide]; simp; omega), if_neg j12]
        by_cases j16 : j < 16
        · rw [if_neg (show ¬ mx_f2 .ge (Int32.ofNat j) 16 = true by rw [f2_ge, of_int (by omega), show (16 : Int32).toInt = 16 from by decide]; simp; omega), key, if_pos j16]
        · rw [if_pos (show mx_f2 .ge (Int32.ofNat j) 16 = true by rw [f2_ge, of_int (by omega), show (16 : Int32).toInt = 16 from by decide]; simp; omega), if_neg j16, key]
/-- twenty characters in the reference's text -/
def rf_tx (g : Nat → Int32) (s s1 : rS) (n : Nat) (j : Nat) : Prop := s1.1 = s.1 ∧ s1.2.2 = s.2.2 ∧ (∀ p, p ≠ 37 → s1.2.1 p = s.2.1 p) ∧ (∀ i, i < n → s1.2.1 37 i = s.2.1 37 i) ∧ ∀ i, i < j → s1.2.1 37 (n + i) = g i
theorem rf_loop (E : rE) (a b c d e : Int32) (n : Nat) (h20 : n + 20 ≤ 2000) (s : rS) (hn : s.1 2 = Int32.ofNat n) : ∀ (d0 : Nat) (j N : Nat) (s0 : rS), j + d0 = 20 → rf_tx (by20 a b c d e) s s0 n j → d0 ≤ N → ∃ s1, s286_18 E w (N + 1) a b c d e (Int32.ofNat j) s0 = some (some (.int (Int32.ofNat (n + 20))), rs_w s1 2 (Int32.ofNat (n + 20))) ∧ rf_tx (by20 a b c d e) s s1 n 20 := by
  intro d0
  induction d0 with
  | zero =>
    intro j N s0 hj ht _
    have hj : j = 20 := by omega
    subst hj
    refine ⟨s0, ?_, ht⟩
    rw [s286_18, if_pos (by decide), show s0.1 2 = Int32.ofNat n from by rw [ht.1]; exact hn, show (20 : Int32) = Int32.ofNat 20 from rfl, of_add]
    rfl
  | succ d0 ih =>
    intro j N s0 hj ht hN
    obtain ⟨N', rfl⟩ : ∃ N', N = N' + 1 := ⟨N - 1, by omega⟩
    rw [rf_it E (N' + 1) a b c d e n j (by rw [ht.1]; exact hn) h20 (by omega)]
    refine ih (j + 1) N' _ (by omega) ?_ (by omega)
    obtain ⟨t1, t2, t3, t4, t5⟩ := ht
    refine ⟨t1, t2, ?_, ?_, ?_⟩
    · intro p hp
      unfold rs_wA
      dsimp only
      rw [if_neg hp]
      exact t3 p hp
    · intro i hi
      unfold rs_wA
      dsimp only
      rw [if_pos rfl, upd_ne _ _ (by omega)]
      exact t4 i hi
    · intro i hi
      unfold rs_wA
      dsimp only
      rw [if_pos rfl]
      by_cases hij : i = j
      · rw [hij, upd_eq]
      · rw [upd_ne _ _ (by omega)]
        exact t5 i (by omega)
theorem rf_feed (a b c d e : Int32) (n : Nat) (hn : s.1 2 = Int32.ofNat n) (hn2 : n ≤ 2000) (hw : 21 ≤ w) : (n + 20 ≤ 2000 → ∃ s1, rM w (k + 1) 286 [.ref 36, .int a, .int b, .int c, .int d, .int e] s = some (some (.int (Int32.ofNat (n + 20))), rs_w s1 2 (Int32.ofNat (n + 20))) ∧ rf_tx (by20 a b c d e) s s1 n 20) ∧ (2000 < n + 20 → rM w (k + 1) 286 [.ref 36, .int a, .int b, .int c, .int d, .int e] s = some (some (.int (-1)), s)) := by
  rw [y286]
  show (_ → ∃ s1, s286_0 (rM w k) w a b c d e s = _ ∧ _) ∧ (_ → s286_0 (rM w k) w a b c d e s = _)
  unfold s286_0
  rw [hn, show (20 : Int32) = Int32.ofNat 20 from rfl, of_add]
  have i2 : (2000 : Int32).toInt = 2000 := by decide
  constructor
  · intro h20
    rw [if_pos (show mx_f2 .le (Int32.ofNat (n + 20)) 2000 = true by rw [f2_le, of_int (by omega), i2]; simp; omega)]
    obtain ⟨w', rfl⟩ : ∃ w', w = w' + 1 := ⟨w - 1, by omega⟩
    exact rf_loop (rM (w' + 1) k) a b c d e n h20 s hn 20 0 w' s rfl ⟨rfl, rfl, fun _ _ => rfl, fun _ _ => rfl, fun i hi => absurd hi (by omega)⟩ (by omega)
  · intro h20
    rw [if_neg (show ¬ mx_f2 .le (Int32.ofNat (n + 20)) 2000 = true by rw [f2_le, of_int (by omega), i2]; simp; omega)]
    rfl
theorem cf_feed {b n m : Nat} {ml : Int32} {f : Nat → Int32} (hX : tX h bp fn fp b n m ml f) (hn : n ≤ 2000) (hw : 5 ≤ w) (x1 x2 x3 x4 x5 : Int32) : (n + 20 ≤ 2000 → ∃ h' b' m' f', dM L xs zf w (k + 8) 9 [.ref 21, .int x1, .int x2, .int x3, .int x4, .int x5] h = some (some (.int (Int32.ofNat (n + 20))), h') ∧ tX h' bp fn fp b' (n + 20) m' ml f' ∧ (∀ i, i < n → f' i = f i) ∧ (∀ j, j < 20 → f' (n + j) = bv (by20 x1 x2 x3 x4 x5 j)) ∧ tS 22 h h' b m b' m') ∧ (2000 < n + 20 → dM L xs zf w (k + 8) 9 [.ref 21, .int x1, .int x2, .int x3, .int x4, .int x5] h = some (some (.int (-1)), h)) := by
  have i2 : (2000 : Int32).toInt = 2000 := by decide
  have hX0 := hX
  obtain ⟨hB, hS, hb, hl⟩ := hX0
  have e1 : dgR L xs h 0 [0] (some 21) = some (some 22) := gR_of (by decide) hB (by decide) rfl
  have e2 : (dcV L xs (dM L xs zf w (k + 7)) 10 [1] (some 22) [] h).bind dxI = some (Int32.ofNat n, h) := by rw [dcV_of hS.1 hS.2.2.2.2.2.2.1 (by decide), sb_len hS]; rfl
  rw [e9]
  show (_ → ∃ h' b' m' f', b9_0 L xs zf (dM L xs zf w (k + 7)) w (some 21) x1 x2 x3 x4 x5 h = _ ∧ _) ∧ (_ → b9_0 L xs zf (dM L xs zf w (k + 7)) w (some 21) x1 x2 x3 x4 x5 h = _)
  unfold b9_0
  constructor
  · intro h20
    obtain ⟨h1, b1, m1, f1, p1, p2, p3, p4, p5⟩ := fd_word (L := L) (xs := xs) (zf := zf) (k := k) hX (by omega) hw x1
    obtain ⟨h2, b2, m2, f2, q1, q2, q3, q4, q5⟩ := fd_word (L := L) (xs := xs) (zf := zf) (k := k) p2 (by omega) hw x2
    obtain ⟨h3, b3, m3, f3, r1, r2, r3, r4, r5⟩ := fd_word (L := L) (xs := xs) (zf := zf) (k := k) q2 (by omega) hw x3
    obtain ⟨h4, b4, m4, f4, s1, s2, s3, s4, s5⟩ := fd_word (L := L) (xs := xs) (zf := zf) (k := k) r2 (by omega) hw x4
    obtain ⟨h5, b5, m5, f5, t1, t2, t3, t4, t5⟩ := fd_word (L := L) (xs := xs) (zf := zf) (k := k) s2 (by omega) hw x5
    refine ⟨h5, b5, m5, f5, ?_, t2, ?_, ?_, tS_trans (tS_trans (tS_trans (tS_trans p5 q5) r5) s5) t5⟩
    · refine bse e1 (bse e2 ?_)
      refine ift (show mx_f2 .le (Int32.ofNat n + 20) 2000 = true by rw [show (20 : Int32) = Int32.ofNat 20 from rfl, of_add, f2_le, of_int (by omega), i2]; simp; omega) ?_
      refine bse (a := h1) (by show (dcV L xs _ 12 [0] (some 21) _ h).bind dxV = _; rw [dcV_of (p := 21) (by decide) hB (by decide), p1]; rfl) ?_
      refine bse (a := h2) (by show (dcV L xs _ 12 [0] (some 21) _ h1).bind dxV = _; rw [dcV_of (p := 21) (by decide) p2.1 (by decide), q1]; rfl) ?_
      refine bse (a := h3) (by show (dcV L xs _ 12 [0] (some 21) _ h2).bind dxV = _; rw [dcV_of (p := 21) (by decide) q2.1 (by decide), r1]; rfl) ?_
      refine bse (a := h4) (by show (dcV L xs _ 12 [0] (some 21) _ h3).bind dxV = _; rw [dcV_of (p := 21) (by decide) r2.1 (by decide), s1]; rfl) ?_
      refine bse (a := h5) (by show (dcV L xs _ 12 [0] (some 21) _ h4).bind dxV = _; rw [dcV_of (p := 21) (by decide) s2.1 (by decide), t1]; rfl) ?_
      refine bse (gR_of (p := some 22) (by decide) t2.1 (by decide) rfl) ?_
      refine bse (a := (Int32.ofNat (n + 20), h5)) (by rw [dcV_of t2.2.1.1 t2.2.1.2.2.2.2.2.2.1 (by decide), sb_len t2.2.1]; rfl) ?_
      rfl
    · intro i hi
      rw [t3 i (by omega), s3 i (by omega), r3 i (by omega), q3 i (by omega), p3 i hi]
    · intro j hj
      unfold by20
      by_cases j4 : j < 4
      · rw [if_pos j4, t3 _ (by omega), s3 _ (by omega), r3 _ (by omega), q3 _ (by omega), p4 j j4, Nat.mod_eq_of_lt j4]
      rw [if_neg j4]
      by_cases j8 : j < 8
      · rw [if_pos j8, t3 _ (by omega), s3 _ (by omega), r3 _ (by omega), show n + j = n + 4 + (j - 4) from by omega, q4 (j - 4) (by omega), show j % 4 = j - 4 from by omega]
      rw [if_neg j8]
      by_cases j12 : j < 12
      · rw [if_pos j12, t3 _ (by omega), s3 _ (by omega), show n + j = n + 4 + 4 + (j - 8) from by omega, r4 (j - 8) (by omega), show j % 4 = j - 8 from by omega]
      rw [if_neg j12]
      by_cases j16 : j < 16
      · rw [if_pos j16, t3 _ (by omega), show n + j = n + 4 + 4 + 4 + (j - 12) from by omega, s4 (j - 12) (by omega), show j % 4 = j - 12 from by omega]
      rw [if_neg j16, show n + j = n + 4 + 4 + 4 + 4 + (j - 16) from by omega, t4 (j - 16) (by omega), show j % 4 = j - 16 from by omega]
  · intro h20
    refine bse e1 (bse e2 ?_)
    exact ifn (show ¬ mx_f2 .le (Int32.ofNat n + 20) 2000 = true by rw [show (20 : Int32) = Int32.ofNat 20 from rfl, of_add, f2_le, of_int (by omega), i2]; simp; omega) rfl
end FD2
