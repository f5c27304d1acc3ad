/-! A STRINGBUILDER TAKES A CHARACTER. -/
def bv (c : Int32) : Int32 := Int8.toInt32 (Int32.toInt8 (Int8.toInt32 (Int32.toInt8 c)))
section SB3
variable {L : Nat} {xs : Nat → Int32} {zf : Value} {w k : Nat} {h : rm_H}
theorem upd_eq (f : Nat → Int32) (n : Nat) (x : Int32) : upd f n x n = x := if_pos rfl
theorem upd_ne (f : Nat → Int32) {n i : Nat} (x : Int32) (hi : i ≠ n) : upd f n x i = f i := if_neg hi
theorem sb_enc (c : Int32) (h0 : 0 ≤ c.toInt) (h1 : c.toInt ≤ 255) (h : rm_H) : dM L xs zf w (k + 1) 23 [.int c] h = some (some (.int 1), h) := by
  rw [e23]
  show b23_0 L xs zf (dM L xs zf w k) w c h = _
  unfold b23_0
  exact ifn (by rw [f2_gt, show (255 : Int32).toInt = 255 from by decide]; simp; omega) rfl
/-- the room is there: the character comes in -/
theorem sb_put {p b n m : Nat} {ml : Int32} {f : Nat → Int32} (hS : sB h p b n m ml f) (hr : n + 1 ≤ m) (c : Int32) : ∃ h4 h5, dpF h 3 [1] (some p) (.int (Int32.ofNat n + 1)) = some h4 ∧ dsB h4 (some b) (Int32.ofNat n) (Int8.toInt32 (Int32.toInt8 c)) = some h5 ∧ sB h5 p b (n + 1) m ml (upd f n (bv c)) ∧ h5.length = h.length ∧ zh h5 = zh h ∧ ∀ q, q ≠ p - 21 → q ≠ b - 21 → h5[q]? = h[q]? := by
  obtain ⟨hp, hb, hpb, hn, hm, hf, h1, h2⟩ := hS
  have hd : p - 21 ≠ b - 21 := by omega
  have e4 : (h.set (p - 21) (sbO b (n + 1) ml))[b - 21]? = some (byA m f) := set_old hd h2
  refine ⟨h.set (p - 21) (sbO b (n + 1) ml), (h.set (p - 21) (sbO b (n + 1) ml)).set (b - 21) (byA m (upd f n (bv c))), ?_, ?_, ⟨hp, hb, hpb, hr, hm, ?_, ?_, ?_⟩, ?_, ?_, ?_⟩
  · unfold dpF
    dsimp only
    rw [if_pos hp, h1]
    dsimp only
    rw [if_pos ⟨by decide, rfl, Nat.le_of_ble_eq_true rfl⟩, show Int32.ofNat n + 1 = Int32.ofNat (n + 1) from of_add n 1]
    rfl
  · unfold dsB
    dsimp only
    rw [if_pos hb, e4]
    dsimp only
    rw [if_pos ⟨rfl, of_in (by omega) (by omega)⟩, of_clamp (by omega)]
    rfl
  · intro i
    unfold upd
    split
    · exact pk_fb _
    · exact hf i
  · exact set_old (fun z => hd z.symm) (rs_set_eq h1)
  · exact rs_set_eq e4
  · simp
  · rw [zh_set (by rfl) e4, zh_set (by rfl) h1]
  · intro q q1 q2
    rw [rs_set_ne (fun z => q2 z.symm), rs_set_ne (fun z => q1 z.symm)]
theorem va_cpy_lt {f g : Nat → Int32} {m i : Nat} (hi : i < m) : va_cpy f g 0 0 m i = f i := by
  unfold va_cpy
  rw [if_pos ⟨Nat.zero_le _, by omega⟩]
  simp
theorem sb_append {p b n m : Nat} {ml : Int32} {f : Nat → Int32} (hS : sB h p b n m ml f) (hn3 : n ≤ 3000) (c : Int32) (c0 : 0 ≤ c.toInt) (c1 : c.toInt ≤ 255) : ∃ h' b' m' f', dM L xs zf w (k + 6) 13 [.ref p, .int c] h = some (some (.ref p), h') ∧ sB h' p b' (n + 1) m' ml f' ∧ (∀ i, i < n → f' i = f i) ∧ f' n = bv c ∧ ((h'.length = h.length ∧ zh h' = zh h ∧ m' = m ∧ b' = b) ∨ (n = m ∧ h'.length = h.length + 1 ∧ zh h' = zh h + (2 * m + 2) ∧ m' = 2 * m + 2 ∧ b' = 21 + h.length)) ∧ ∀ q, q < h.length → q ≠ p - 21 → q ≠ b - 21 → h'[q]? = h[q]? := by
  have hS0 := hS
  obtain ⟨hp, hb, hpb, hn, hm, hf, h1, h2⟩ := hS
  -- the room
  have hroom : ∃ h3 b3 m3 f3, dM L xs zf w (k + 4) 15 [.ref p, .int (Int32.ofNat (n + 1))] h = some (none, h3) ∧ sB h3 p b3 n m3 ml f3 ∧ n + 1 ≤ m3 ∧ (∀ i, i < n → f3 i = f i) ∧ ((h3 = h ∧ m3 = m ∧ b3 = b) ∨ (n = m ∧ h3.length = h.length + 1 ∧ zh h3 = zh h + (2 * m + 2) ∧ m3 = 2 * m + 2 ∧ b3 = 21 + h.length)) ∧ ∀ q, q < h.length → q ≠ p - 21 → h3[q]? = h[q]? := by
    by_cases hr : n + 1 ≤ m
    · exact ⟨h, b, m, f, sb_room hS0 (n + 1) hr, hS0, hr, fun _ _ => rfl, Or.inl ⟨rfl, rfl, rfl⟩, fun _ _ _ => rfl⟩
    · have hnm : n = m := by omega
      subst hnm
      obtain ⟨h3, g1, g2, g3, g4, g5⟩ := sb_grow (L := L) (xs := xs) (zf := zf) (w := w) (k := k) hS0 (by omega)
      exact ⟨h3, _, _, _, g1, g2, by omega, fun i hi => va_cpy_lt hi, Or.inr ⟨rfl, g3, g4, rfl, rfl⟩, fun q q1 q2 => g5 q q2 q1⟩
  obtain ⟨h3, b3, m3, f3, r1, r2, r3, r4, r5, r6⟩ := hroom
  obtain ⟨h4, h5, s1, s2, s3, s4, s5, s6⟩ := sb_put r2 r3 c
  have r2' := r2
  obtain ⟨hp3, hb3, hpb3, hn3', hm3, hf3, t1, t2⟩ := r2'
  refine ⟨h5, b3, m3, upd f3 n (bv c), ?_, s3, ?_, upd_eq _ _ _, ?_, ?_⟩
  · rw [e13]
    show b13_0 L xs zf (dM L xs zf w (k + 5)) w (some p) c h = _
    unfold b13_0
    refine bse (a := (some p, h5)) ?_ rfl
    rw [dcV_of hp h1 (by decide), e14]
    show (b14_0 L xs zf (dM L xs zf w (k + 4)) w (some p) c h).bind dxR = _
    refine bse (a := (some (.ref p), h5)) ?_ rfl
    unfold b14_0
    refine bse (gI_of (x := Int32.ofNat n) hp h1 (by decide) rfl) ?_
    refine bse (a := h3) (by rw [dcV_of hp h1 (by decide), show Int32.ofNat n + 1 = Int32.ofNat (n + 1) from of_add n 1, r1]; rfl) ?_
    refine bse (a := ((1 : Int32), h3)) (by rw [dcV_of hp3 t1 (by decide), sb_lat r2]; rfl) ?_
    refine ifn (show ¬ mx_f1 .eq 1 = true from by decide) ?_
    refine bse (a := ((1 : Int32), h3)) (by rw [sb_enc c c0 c1 h3]; rfl) ?_
    refine ifn (show ¬ mx_f1 .eq 1 = true from by decide) ?_
    refine bse (gR_of (p := some b3) hp3 t1 (by decide) rfl) ?_
    refine bse (gI_of (x := Int32.ofNat n) hp3 t1 (by decide) rfl) ?_
    refine bse s1 ?_
    refine bse s2 ?_
    rfl
  · intro i hi
    rw [upd_ne _ _ (by omega)]
    exact r4 i hi
  · rcases r5 with ⟨a1, a2, a3⟩ | ⟨a1, a2, a3, a4, a5⟩
    · subst a1
      exact Or.inl ⟨s4, s5, a2, a3⟩
    · exact Or.inr ⟨a1, by rw [s4, a2], by rw [s5, a3], a4, a5⟩
  · intro q q1 q2 q3
    rcases r5 with ⟨a1, a2, a3⟩ | ⟨a1, a2, a3, a4, a5⟩
    · rw [s6 q q2 (by rw [a3]; exact q3)]
      exact r6 q q1 q2
    · rw [s6 q q2 (by rw [a5]; omega)]
      exact r6 q q1 q2
end SB3
