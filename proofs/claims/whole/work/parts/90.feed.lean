/-! FEED, THE CLASS'S SIDE: twenty characters come to the text. -/
/-- what a StringBuilder at place p may change: itself, its bytes, and there may be new cells -/
def tS (p : Nat) (h h' : rm_H) (b m b' m' : Nat) : Prop := h.length ≤ h'.length ∧ m ≤ m' ∧ h'.length + m ≤ h.length + m' ∧ zh h' + 2 * m ≤ zh h + 2 * m' ∧ (b' = b ∨ 21 + h.length ≤ b') ∧ ∀ q, q < h.length → q ≠ p - 21 → q ≠ b - 21 → h'[q]? = h[q]?
theorem tS_refl (p : Nat) (h : rm_H) (b m : Nat) : tS p h h b m b m := ⟨Nat.le_refl _, Nat.le_refl _, Nat.le_refl _, Nat.le_refl _, Or.inl rfl, fun _ _ _ _ => rfl⟩
theorem tS_trans {p : Nat} {h h1 h2 : rm_H} {b m b1 m1 b2 m2 : Nat} (x : tS p h h1 b m b1 m1) (y : tS p h1 h2 b1 m1 b2 m2) : tS p h h2 b m b2 m2 := by
  obtain ⟨x1, x2, x3, x4, x5, x6⟩ := x
  obtain ⟨y1, y2, y3, y4, y5, y6⟩ := y
  refine ⟨by omega, by omega, by omega, by omega, ?_, ?_⟩
  · rcases y5 with y5 | y5
    · rcases x5 with x5 | x5
      · exact Or.inl (y5.trans x5)
      · exact Or.inr (by omega)
    · exact Or.inr (by omega)
  · intro q q1 q2 q3
    rw [y6 q (by omega) q2 (by rcases x5 with x5 | x5 <;> omega)]
    exact x6 q q1 q2 q3
section FD
variable {L : Nat} {xs : Nat → Int32} {zf : Value} {w k : Nat} {h : rm_H} {bp : Option Nat} {fn fp : Int32}
theorem tS_app {p b n m : Nat} {ml : Int32} {f : Nat → Int32} (hS : sB h p b n m ml f) (hn3 : n ≤ 3000) (c : Int32) (c0 : 0 ≤ c.toInt) (c1 : c.toInt ≤ 255) : ∃ h' b' m' f', dM L xs zf w (k + 6) 13 [.ref p, .int c] h = some (some (.ref p), h') ∧ sB h' p b' (n + 1) m' ml f' ∧ (∀ i, i < n → f' i = f i) ∧ f' n = bv c ∧ tS p h h' b m b' m' := by
  obtain ⟨h', b', m', f', g1, g2, g3, g4, g5, g6⟩ := sb_append (L := L) (xs := xs) (zf := zf) (w := w) (k := k) hS hn3 c c0 c1
  refine ⟨h', b', m', f', g1, g2, g3, g4, ?_⟩
  rcases g5 with ⟨a1, a2, a3, a4⟩ | ⟨a0, a1, a2, a3, a4⟩
  · exact ⟨by omega, by omega, by omega, by omega, Or.inl a4, g6⟩
  · exact ⟨by omega, by omega, by omega, by omega, Or.inr (by omega), g6⟩
/-- the class's text, and its own object beside it -/
def tX (h : rm_H) (bp : Option Nat) (fn fp : Int32) (b n m : Nat) (ml : Int32) (f : Nat → Int32) : Prop := iB h bp fn fp ∧ sB h 22 b n m ml f ∧ (b = 23 ∨ 115 ≤ b) ∧ 94 ≤ h.length
theorem fd_it {b n m : Nat} {ml : Int32} {f : Nat → Int32} (hX : tX h bp fn fp b n m ml f) (hn : n ≤ 3000) (x i2 : Int32) (hi : ¬ mx_f1 .lt i2 = true) (N : Nat) : ∃ h' b' m' f', b12_3 L xs zf (dM L xs zf w (k + 6)) w (N + 1) (some 21) x i2 h = b12_3 L xs zf (dM L xs zf w (k + 6)) w N (some 21) x (i2 + (-8)) h' ∧ tX h' bp fn fp b' (n + 1) m' ml f' ∧ (∀ i, i < n → f' i = f i) ∧ f' n = bv ((x >>> (i2 &&& 31)) &&& 255) ∧ tS 22 h h' b m b' m' := by
  obtain ⟨hB, hS, hb, hl⟩ := hX
  have g := a255_i (x >>> (i2 &&& 31))
  obtain ⟨h', b', m', f', g1, g2, g3, g4, g5⟩ := tS_app (L := L) (xs := xs) (zf := zf) (w := w) (k := k) hS hn ((x >>> (i2 &&& 31)) &&& 255) g.1 g.2
  have hg := g5
  obtain ⟨t1, t2, t3, t4, t5, t6⟩ := hg
  refine ⟨h', b', m', f', ?_, ⟨?_, g2, ?_, by omega⟩, g3, g4, g5⟩
  · rw [b12_3, if_neg hi]
    have e1 : dgR L xs h 0 [0] (some 21) = some (some 22) := gR_of (by decide) hB (by decide) rfl
    rw [e1]
    show ((dcV L xs (dM L xs zf w (k + 6)) 13 [1] (some 22) [.int (UInt32.toInt32 (Int32.toUInt32 ((x >>> (i2 &&& 31)) &&& 255) % 65536))] h).bind dxR).bind _ = _
    rw [a255_ch, dcV_of hS.1 hS.2.2.2.2.2.2.1 (by decide), g1]
    rfl
  · show h'[0]? = _
    rw [t6 0 (by omega) (by decide) (by omega)]
    exact hB
  · rcases t5 with t5 | t5
    · rw [t5]; exact hb
    · exact Or.inr (by omega)
def by4 (x : Int32) (j : Nat) : Int32 := (x >>> ((24 - 8 * Int32.ofNat j) &&& 31)) &&& 255
theorem fd_word {b n m : Nat} {ml : Int32} {f : Nat → Int32} (hX : tX h bp fn fp b n m ml f) (hn : n + 4 ≤ 3000) (hw : 5 ≤ w) (x : Int32) : ∃ h' b' m' f', dM L xs zf w (k + 7) 12 [.ref 21, .int x] h = some (none, h') ∧ tX h' bp fn fp b' (n + 4) m' ml f' ∧ (∀ i, i < n → f' i = f i) ∧ (∀ j, j < 4 → f' (n + j) = bv (by4 x j)) ∧ tS 22 h h' b m b' m' := by
  obtain ⟨w', rfl⟩ : ∃ w', w = w' + 5 := ⟨w - 5, by omega⟩
  obtain ⟨h1, b1, m1, f1, p1, p2, p3, p4, p5⟩ := fd_it (L := L) (xs := xs) (zf := zf) (w := w' + 5) (k := k) hX (by omega) x 24 (by decide) (w' + 4)
  obtain ⟨h2, b2, m2, f2, q1, q2, q3, q4, q5⟩ := fd_it (L := L) (xs := xs) (zf := zf) (w := w' + 5) (k := k) p2 (by omega) x (24 + (-8)) (by decide) (w' + 3)
  obtain ⟨h3, b3, m3, f3, r1, r2, r3, r4, r5⟩ := fd_it (L := L) (xs := xs) (zf := zf) (w := w' + 5) (k := k) q2 (by omega) x (24 + (-8) + (-8)) (by decide) (w' + 2)
  obtain ⟨h4, b4, m4, f4, s1, s2, s3, s4, s5⟩ := fd_it (L := L) (xs := xs) (zf := zf) (w := w' + 5) (k := k) r2 (by omega) x (24 + (-8) + (-8) + (-8)) (by decide) (w' + 1)
  refine ⟨h4, b4, m4, f4, ?_, s2, ?_, ?_, tS_trans (tS_trans (tS_trans p5 q5) r5) s5⟩
  · rw [e12]
    show b12_0 L xs zf (dM L xs zf (w' + 5) (k + 6)) (w' + 5) (some 21) x h = _
    unfold b12_0
    rw [p1, q1, r1, s1, b12_3]
    exact if_pos (by decide)
  · intro i hi
    rw [s3 i (by omega), r3 i (by omega), q3 i (by omega), p3 i hi]
  · intro j hj
    rcases j with _ | _ | _ | _ | j
    · rw [s3 _ (by omega), r3 _ (by omega), q3 _ (by omega)]; exact p4
    · rw [s3 _ (by omega), r3 _ (by omega)]; exact q4
    · rw [s3 _ (by omega)]; exact r4
    · exact s4
    · omega
end FD
