/-! THE REFERENCE CUTS THE TEXT: one token after the other. -/
def lx_bl (g : Nat → Int32) (n : Nat) : Nat → Nat → Nat
  | 0, a => a
  | f + 1, a => if a < n ∧ g a = 32 then lx_bl g n f (a + 1) else a
def lx_ln (g : Nat → Int32) (n a : Nat) : Nat := lx_sk g (n - a) a - a
/-- how many characters the token at a takes; what is written down of it -/
def rkN (g : Nat → Int32) (n a : Nat) : Nat := if a = n then 0 else if 0 < lx_ln g n a then lx_ln g n a else if is_eq g n a = true then 2 else 1
def rk0 (s : rS) (tok a : Nat) : rS := rs_wB (rs_wA (rs_wA s 41 tok (Int32.ofNat a)) 42 tok 0) 43 tok 0
def rkT (s : rS) (n tok a : Nat) : rS := if a = n then rs_wA (rk0 s tok a) 40 tok 0 else if 0 < lx_ln (s.2.1 38) n a then rcF (rk0 s tok a) tok a (lx_ln (s.2.1 38) n a) (allD (s.2.1 38) a (lx_ln (s.2.1 38) n a)) (!(anyG (s.2.1 38) a (lx_ln (s.2.1 38) n a))) (rcV (s.2.1 38) (decide (10 ≤ lx_ln (s.2.1 38) n a)) (lx_ln (s.2.1 38) n a) a 0) (rcC (s.2.1 38) (lx_ln (s.2.1 38) n a) a 0) else rs_wA (rs_wA (rk0 s tok a) 40 tok (if is_sg (s.2.1 38 a) = true then 5 else 6)) 42 tok (if is_eq (s.2.1 38) n a = true then 256 else s.2.1 38 a)
/-- is there more behind a token of this sort -/
def rkM (x : Int32) : Bool := decide (¬ x = 0 ∧ ¬ x = 6)
section RC4
variable {w k : Nat} {s : rS}
theorem lx_bl_le (g : Nat → Int32) (n : Nat) : ∀ (f a : Nat), a ≤ n → a ≤ lx_bl g n f a ∧ lx_bl g n f a ≤ n := by
  intro f
  induction f with
  | zero => exact fun a h => ⟨Nat.le_refl _, h⟩
  | succ f ih =>
    intro a h
    rw [lx_bl]
    split
    · rename_i c
      have := ih (a + 1) (by omega)
      omega
    · exact ⟨Nat.le_refl _, h⟩
theorem t41 : rs_t 41 = (0, 2001, false) := by decide
theorem rb_loop {n : Nat} (hG : rG s n) (E : rE) (K9 : Int32 → Int32 → rS → Option rA) : ∀ (f a N : Nat), a + f = n → f ≤ N → s295_13 E w K9 (N + 1) (Int32.ofNat a) s = s295_38 E w K9 (Int32.ofNat (lx_bl (s.2.1 38) n f a)) s := by
  have hn := hG.1
  have h3 := hG.2
  intro f
  induction f with
  | zero =>
    intro a N ha _
    rw [s295_13, h3, if_pos (show mx_f2 .ge (Int32.ofNat a) (Int32.ofNat n) = true by rw [f2_ge, of_int (by omega), of_int (by omega)]; simp; omega), lx_bl]
  | succ f ih =>
    intro a N ha hN
    obtain ⟨N', rfl⟩ : ∃ N', N = N' + 1 := ⟨N - 1, by omega⟩
    rw [s295_13, h3, if_neg (show ¬ mx_f2 .ge (Int32.ofNat a) (Int32.ofNat n) = true by rw [f2_ge, of_int (by omega), of_int (by omega)]; simp; omega), aI_at (by omega) t38 (by omega) (by omega), lx_bl]
    show (if mx_f2 .ne (s.2.1 38 a) 32 = true then _ else _) = _
    by_cases c : s.2.1 38 a = 32
    · rw [if_neg (show ¬ mx_f2 .ne (s.2.1 38 a) 32 = true by rw [f2_ne]; simp [c]), if_pos ⟨by omega, c⟩, show Int32.ofNat a + 1 = Int32.ofNat (a + 1) from of_add a 1]
      exact ih (a + 1) N' (by omega) (by omega)
    · rw [if_pos (show mx_f2 .ne (s.2.1 38 a) 32 = true by rw [f2_ne]; simp [c]), if_neg (fun z => c z.2)]
theorem r126 (E : rE) (K9 : Int32 → Int32 → rS → Option rA) (tok : Nat) (ht : s.1 5 = Int32.ofNat tok) (htk : tok ≤ 2000) (i1 i3 : Int32) : s295_126 E w K9 i1 i3 s = K9 (i1 + i3) (rd_01 (rkM (s.2.1 40 tok))) (rs_w s 5 (Int32.ofNat (tok + 1))) := by
  have k2 : ∀ x : Int32, s295_161 E w K9 (i1 + i3) x s = K9 (i1 + i3) x (rs_w s 5 (Int32.ofNat (tok + 1))) := by
    intro x
    unfold s295_161
    rw [ht, show Int32.ofNat tok + 1 = Int32.ofNat (tok + 1) from of_add tok 1]
    rfl
  unfold s295_126
  rw [ht, aI_at (by omega) t40 (by omega) (by omega)]
  show (if mx_f1 .eq (s.2.1 40 tok) = true then _ else _) = _
  by_cases c0 : s.2.1 40 tok = 0
  · rw [if_pos (show mx_f1 .eq (s.2.1 40 tok) = true from decide_eq_true c0), show rkM (s.2.1 40 tok) = false from decide_eq_false (fun z => z.1 c0)]
    exact k2 0
  · rw [if_neg (show ¬ mx_f1 .eq (s.2.1 40 tok) = true from fun z => c0 (of_decide_eq_true z))]
    show (if mx_f2 .eq (s.2.1 40 tok) 6 = true then _ else _) = _
    by_cases c6 : s.2.1 40 tok = 6
    · rw [if_pos (show mx_f2 .eq (s.2.1 40 tok) 6 = true from decide_eq_true c6), show rkM (s.2.1 40 tok) = false from decide_eq_false (fun z => z.2 c6)]
      exact k2 0
    · rw [if_neg (show ¬ mx_f2 .eq (s.2.1 40 tok) 6 = true from fun z => c6 (of_decide_eq_true z)), show rkM (s.2.1 40 tok) = true from decide_eq_true ⟨c0, c6⟩]
      exact k2 1
theorem ra_of {n tok : Nat} (hG : rG s n) (ht : s.1 5 = Int32.ofNat tok) (htk : tok ≤ 2000) (hw : 2001 ≤ w) (K9 : Int32 → Int32 → rS → Option rA) (a : Nat) (ha : a ≤ n) : s295_after (rM w (k + 2)) w K9 (Int32.ofNat a) (Int32.ofNat (lx_ln (s.2.1 38) n a)) s = K9 (Int32.ofNat (a + rkN (s.2.1 38) n a)) (rd_01 (rkM ((rkT s n tok a).2.1 40 tok))) (rs_w (rkT s n tok a) 5 (Int32.ofNat (tok + 1))) := by
  have hn := hG.1
  have h3 := hG.2
  have hb := lx_sk_ge (s.2.1 38) (n - a) a
  have e0 : (rk0 s tok a).2.1 38 = s.2.1 38 := by
    unfold rk0
    show (rs_wA (rs_wA s 41 tok (Int32.ofNat a)) 42 tok 0).2.1 38 = _
    rw [wA_ne _ _ _ (by decide), wA_ne _ _ _ (by decide)]
  have G0 : rG (rk0 s tok a) n := ⟨hn, h3⟩
  have t0 : (rk0 s tok a).1 5 = Int32.ofNat tok := ht
  unfold s295_after
  rw [ht, sI_at (by omega) t41 (by omega) (by omega)]
  show (rs_sI (rs_wA s 41 tok (Int32.ofNat a)) 42 (s.1 5) 0).bind _ = _
  rw [ht, sI_at (by omega) t42 (by omega) (by omega)]
  show (rs_sJ (rs_wA (rs_wA s 41 tok (Int32.ofNat a)) 42 tok 0) 43 (s.1 5) 0).bind _ = _
  rw [ht, sJ_at (by omega) t43 (by omega) (by omega)]
  show (if mx_f2 .ne (Int32.ofNat a) (s.1 3) = true then _ else (rs_sI (rk0 s tok a) 40 (s.1 5) 0).bind _) = _
  rw [h3]
  unfold rkN rkT
  by_cases c : a = n
  · rw [if_neg (show ¬ mx_f2 .ne (Int32.ofNat a) (Int32.ofNat n) = true by rw [f2_ne]; simp [c]), if_pos c, if_pos c, ht, sI_at (by omega) t40 (by omega) (by omega)]
    have l0 : lx_ln (s.2.1 38) n a = 0 := by unfold lx_ln; rw [c]; simp [lx_sk]
    rw [l0]
    show s295_126 _ _ _ _ _ (rs_wA (rk0 s tok a) 40 tok 0) = _
    rw [r126 (s := rs_wA (rk0 s tok a) 40 tok 0) _ _ tok ht htk, of_add]
  · have hne : mx_f2 .ne (Int32.ofNat a) (Int32.ofNat n) = true := by
      rw [f2_ne]
      apply decide_eq_true
      intro z
      have z2 := congrArg Int32.toInt z
      rw [of_int (by omega), of_int (by omega)] at z2
      omega
    rw [if_pos hne, if_neg c, if_neg c]
    have ele : ∀ q : Nat, q ≤ 10000 → (mx_f1 .le (Int32.ofNat q) = true ↔ q = 0) := by
      intro q hq
      show (decide (Int32.ofNat q ≤ 0) = true ↔ q = 0)
      rw [decide_eq_true_iff, Int32.le_iff_toInt_le, of_int (by omega), i0]
      omega
    have hln : lx_ln (s.2.1 38) n a ≤ n - a := by unfold lx_ln; omega
    by_cases l : 0 < lx_ln (s.2.1 38) n a
    · rw [if_neg (fun z => by have := (ele _ (by omega)).mp z; omega), if_pos l, if_pos l]
      have := rr_of (w := w) (k := k) G0 t0 htk hw a (lx_ln (s.2.1 38) n a) (by omega) (by omega)
      rw [e0] at this
      show ((rM w (k + 2) 300 [.ref 36, .int (Int32.ofNat a), .int (Int32.ofNat (lx_ln (s.2.1 38) n a))] (rk0 s tok a)).bind rxV).bind _ = _
      rw [this]
      show s295_126 _ _ _ _ _ (rcF (rk0 s tok a) tok a _ _ _ _ _) = _
      rw [r126 _ _ tok ?_ htk, of_add]
      unfold rcF
      repeat' split
      all_goals exact ht
    · rw [if_pos ((ele _ (by omega)).mpr (by omega)), if_neg l, if_neg l]
      have := rg_of (w := w) (k := k) G0 t0 htk a (by omega)
      rw [e0] at this
      show ((rM w (k + 2) 301 [.ref 36, .int (Int32.ofNat a)] (rk0 s tok a)).bind rxI).bind _ = _
      rw [this]
      show s295_126 _ _ _ _ _ (rs_wA (rs_wA (rk0 s tok a) 40 tok _) 42 tok _) = _
      rw [r126 (s := rs_wA (rs_wA (rk0 s tok a) 40 tok (if is_sg (s.2.1 38 a) = true then 5 else 6)) 42 tok (if is_eq (s.2.1 38) n a = true then 256 else s.2.1 38 a)) _ _ tok ht htk]
      by_cases q : is_eq (s.2.1 38) n a = true
      · rw [if_pos q, if_pos q, if_pos q, show (2 : Int32) = Int32.ofNat 2 from rfl, of_add]
      · rw [if_neg q, if_neg q, if_neg q, show (1 : Int32) = Int32.ofNat 1 from rfl, of_add]
/-- all tokens -/
def rC (n : Nat) : Nat → Nat → Nat → rS → rS
  | 0, _, _, s => s
  | f + 1, a, tok, s => if rkM ((rkT s n tok (lx_bl (s.2.1 38) n (n - a) a)).2.1 40 tok) = true then rC n f (lx_bl (s.2.1 38) n (n - a) a + rkN (s.2.1 38) n (lx_bl (s.2.1 38) n (n - a) a)) (tok + 1) (rs_w (rkT s n tok (lx_bl (s.2.1 38) n (n - a) a)) 5 (Int32.ofNat (tok + 1))) else rs_w (rkT s n tok (lx_bl (s.2.1 38) n (n - a) a)) 5 (Int32.ofNat (tok + 1))
theorem rc_it {n tok : Nat} (hG : rG s n) (ht : s.1 5 = Int32.ofNat tok) (htk : tok ≤ 2000) (hw : 2001 ≤ w) (a N : Nat) (ha : a ≤ n) : s295_9 (rM w (k + 2)) w (N + 1) (Int32.ofNat a) 1 s = s295_9 (rM w (k + 2)) w N (Int32.ofNat (lx_bl (s.2.1 38) n (n - a) a + rkN (s.2.1 38) n (lx_bl (s.2.1 38) n (n - a) a))) (rd_01 (rkM ((rkT s n tok (lx_bl (s.2.1 38) n (n - a) a)).2.1 40 tok))) (rs_w (rkT s n tok (lx_bl (s.2.1 38) n (n - a) a)) 5 (Int32.ofNat (tok + 1))) := by
  have hn := hG.1
  have hb := lx_bl_le (s.2.1 38) n (n - a) a ha
  obtain ⟨w', rfl⟩ : ∃ w', w = w' + 1 := ⟨w - 1, by omega⟩
  rw [s295_9, if_neg (by decide), rb_loop hG _ _ (n - a) a w' (by omega) (by omega)]
  unfold s295_38
  rw [show (0 : Int32) = Int32.ofNat 0 from rfl, rn_loop hG _ (lx_bl (s.2.1 38) n (n - a) a) hb.2 (n - lx_bl (s.2.1 38) n (n - a) a) 0 w' (by omega) (by omega)]
  exact ra_of hG ht htk hw _ _ hb.2
end RC4
