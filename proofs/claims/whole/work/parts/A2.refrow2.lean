/-! THE REFERENCE'S READER: cutRow's loop; cutSign. -/
section RC3
variable {w k : Nat} {s : rS}
theorem rr_44 {n : Nat} (hG : rG s n) (K : Int32 → Int32 → Int32 → Int32 → Int32 → Int64 → Int32 → rS → Option rA) (at_ len i : Nat) (hi : i < n) (hlen : len ≤ 2000) (sm d : Bool) (v : Int32) (c : Int64) : s300_44 (rM w (k + 1)) w K (Int32.ofNat at_) (Int32.ofNat len) (rd_01 sm) v c (Int32.ofNat i) (rd_01 d) s = K (Int32.ofNat at_) (Int32.ofNat len) (rd_01 d) (rd_01 (sm && !(is_gr (s.2.1 38 i)))) (if decide (10 ≤ len) = true then 0 else (10 * v + s.2.1 38 i) - 48) ((c <<< ((8 : Int32).toInt64 &&& 63)) ||| (Int32.toInt64 (s.2.1 38 i))) (Int32.ofNat (i + 1)) s := by
  have hn := hG.1
  have e1 : rs_aI s 38 (Int32.ofNat i) = some (s.2.1 38 i) := aI_at (by omega) t38 (by omega) (by omega)
  have key : ∀ q : Bool, s300_68 (rM w (k + 1)) w K (Int32.ofNat at_) (Int32.ofNat len) (rd_01 d) v c (Int32.ofNat i) (rd_01 q) s = K (Int32.ofNat at_) (Int32.ofNat len) (rd_01 d) (rd_01 q) (if decide (10 ≤ len) = true then 0 else (10 * v + s.2.1 38 i) - 48) ((c <<< ((8 : Int32).toInt64 &&& 63)) ||| (Int32.toInt64 (s.2.1 38 i))) (Int32.ofNat (i + 1)) s := by
    intro q
    unfold s300_68
    by_cases c10 : 10 ≤ len
    · rw [if_pos (show mx_f2 .ge (Int32.ofNat len) 10 = true by rw [f2_ge, of_int (by omega), show (10 : Int32).toInt = 10 from by decide]; simp; omega), decide_eq_true c10, if_pos (show true = true from rfl)]
      unfold s300_96
      rw [e1, show Int32.ofNat i + 1 = Int32.ofNat (i + 1) from of_add i 1]
      rfl
    · rw [if_neg (show ¬ mx_f2 .ge (Int32.ofNat len) 10 = true by rw [f2_ge, of_int (by omega), show (10 : Int32).toInt = 10 from by decide]; simp; omega), decide_eq_false c10, if_neg (show ¬ false = true from by decide), e1]
      show s300_96 (rM w (k + 1)) w K (Int32.ofNat at_) (Int32.ofNat len) (rd_01 d) (rd_01 q) c (Int32.ofNat i) ((10 * v + s.2.1 38 i) - 48) s = _
      unfold s300_96
      rw [e1, show Int32.ofNat i + 1 = Int32.ofNat (i + 1) from of_add i 1]
      rfl
  unfold s300_44
  cases sm with
  | false =>
    rw [if_pos (show mx_f1 .eq (rd_01 false) = true from by decide), Bool.false_and]
    exact key false
  | true =>
    rw [if_neg (show ¬ mx_f1 .eq (rd_01 true) = true from by decide), Bool.true_and, e1]
    show ((rM w (k + 1) 298 [.int (s.2.1 38 i)] s).bind rxI).bind _ = _
    rw [rl_gr]
    show (if mx_f1 .ne (rd_01 (is_gr (s.2.1 38 i))) = true then _ else _) = _
    cases hg : is_gr (s.2.1 38 i) with
    | true =>
      rw [if_pos (show mx_f1 .ne (rd_01 true) = true from by decide)]
      exact key false
    | false =>
      rw [if_neg (show ¬ mx_f1 .ne (rd_01 false) = true from by decide)]
      exact key true
theorem rr_loop {n tok : Nat} (hG : rG s n) (ht : s.1 5 = Int32.ofNat tok) (htk : tok ≤ 2000) (hw : 25 ≤ w) (at_ len : Nat) (hat : at_ < n) (hlen : at_ + len ≤ n) : ∀ (f i N : Nat) (d sm : Bool) (v : Int32) (c : Int64), i + f = at_ + len → f ≤ N → s300_14 (rM w (k + 1)) w (N + 1) (Int32.ofNat at_) (Int32.ofNat len) (rd_01 d) (rd_01 sm) v c (Int32.ofNat i) s = some (none, rcF s tok at_ len (d && allD (s.2.1 38) i f) (sm && !(anyG (s.2.1 38) i f)) (rcV (s.2.1 38) (decide (10 ≤ len)) f i v) (rcC (s.2.1 38) f i c)) := by
  have hn := hG.1
  intro f
  induction f with
  | zero =>
    intro i N d sm v c hi _
    have hi : i = at_ + len := by omega
    subst hi
    rw [rr_end hG ht htk hw at_ len hat hlen d sm v c N]
    simp [allD, anyG, rcV, rcC]
  | succ f ih =>
    intro i N d sm v c hi hN
    obtain ⟨N', rfl⟩ : ∃ N', N = N' + 1 := ⟨N - 1, by omega⟩
    rw [s300_14, of_add, if_neg (show ¬ mx_f2 .ge (Int32.ofNat i) (Int32.ofNat (at_ + len)) = true by rw [f2_ge, of_int (by omega), of_int (by omega)]; simp; omega), allD_s, anyG_s, rcV, rcC]
    have key : ∀ q : Bool, s300_44 (rM w (k + 1)) w (s300_14 (rM w (k + 1)) w (N' + 1)) (Int32.ofNat at_) (Int32.ofNat len) (rd_01 sm) v c (Int32.ofNat i) (rd_01 q) s = some (none, rcF s tok at_ len (q && allD (s.2.1 38) (i + 1) f) (sm && !(is_gr (s.2.1 38 i) || anyG (s.2.1 38) (i + 1) f)) (rcV (s.2.1 38) (decide (10 ≤ len)) f (i + 1) (if decide (10 ≤ len) = true then 0 else (10 * v + s.2.1 38 i) - 48)) (rcC (s.2.1 38) f (i + 1) ((c <<< ((8 : Int32).toInt64 &&& 63)) ||| (Int32.toInt64 (s.2.1 38 i))))) := by
      intro q
      rw [rr_44 hG _ at_ len i (by omega) (by omega) sm q v c, ih (i + 1) N' q _ _ _ (by omega) (by omega), Bool.not_or, Bool.and_assoc]
    cases d with
    | false =>
      rw [if_pos (show mx_f1 .eq (rd_01 false) = true from by decide), Bool.false_and]
      have := key false
      rw [Bool.false_and] at this
      exact this
    | true =>
      rw [if_neg (show ¬ mx_f1 .eq (rd_01 true) = true from by decide), Bool.true_and, aI_at (by omega) t38 (by omega) (by omega)]
      show ((rM w (k + 1) 299 [.int (s.2.1 38 i)] s).bind rxI).bind _ = _
      rw [rl_dig]
      show (if mx_f1 .eq (rd_01 (is_dig (s.2.1 38 i))) = true then _ else _) = _
      cases hd : is_dig (s.2.1 38 i) with
      | true =>
        rw [if_neg (show ¬ mx_f1 .eq (rd_01 true) = true from by decide)]
        exact key true
      | false =>
        rw [if_pos (show mx_f1 .eq (rd_01 false) = true from by decide)]
        exact key false
theorem rr_of {n tok : Nat} (hG : rG s n) (ht : s.1 5 = Int32.ofNat tok) (htk : tok ≤ 2000) (hw : 2001 ≤ w) (at_ len : Nat) (hat : at_ < n) (hlen : at_ + len ≤ n) : rM w (k + 2) 300 [.ref 36, .int (Int32.ofNat at_), .int (Int32.ofNat len)] s = some (none, rcF s tok at_ len (allD (s.2.1 38) at_ len) (!(anyG (s.2.1 38) at_ len)) (rcV (s.2.1 38) (decide (10 ≤ len)) len at_ 0) (rcC (s.2.1 38) len at_ 0)) := by
  have hn := hG.1
  rw [y300]
  show s300_0 (rM w (k + 1)) w (Int32.ofNat at_) (Int32.ofNat len) s = _
  unfold s300_0
  obtain ⟨w', rfl⟩ : ∃ w', w = w' + 1 := ⟨w - 1, by omega⟩
  have := rr_loop (w := w' + 1) (k := k) hG ht htk (by omega) at_ len hat hlen len at_ w' true true 0 0 (by omega) (by omega)
  rw [Bool.true_and, Bool.true_and] at this
  exact this
/-- is it a sign -/
def is_sg (c : Int32) : Bool := decide (c = 123 ∨ c = 125 ∨ c = 40 ∨ c = 41 ∨ c = 59 ∨ c = 44 ∨ c = 58 ∨ c = 46 ∨ c = 33 ∨ c = 61 ∨ c = 60 ∨ c = 43 ∨ c = 45 ∨ c = 42)
/-- two = behind each other -/
def is_eq (g : Nat → Int32) (n i : Nat) : Bool := decide (g i = 61 ∧ i + 1 < n ∧ g (i + 1) = 61)
theorem rg_96 {n tok : Nat} (hG : rG s n) (ht : s.1 5 = Int32.ofNat tok) (htk : tok ≤ 2000) (i : Nat) (hi : i < n) (q : Bool) : s301_96 (rM w (k + 1)) w (Int32.ofNat i) (s.2.1 38 i) (rd_01 q) s = some (some (.int (if is_eq (s.2.1 38) n i = true then 2 else 1)), rs_wA (rs_wA s 40 tok (if q = true then 5 else 6)) 42 tok (if is_eq (s.2.1 38) n i = true then 256 else s.2.1 38 i)) := by
  have hn := hG.1
  have h3 := hG.2
  have key : ∀ e : Bool, s301_131 (rM w (k + 1)) w (s.2.1 38 i) (rd_01 q) (rd_01 e) s = some (some (.int (if e = true then 2 else 1)), rs_wA (rs_wA s 40 tok (if q = true then 5 else 6)) 42 tok (if e = true then 256 else s.2.1 38 i)) := by
    intro e
    have k2 : ∀ x : Int32, s301_151 (rM w (k + 1)) w (s.2.1 38 i) (rd_01 e) x (s.1 5) s = some (some (.int (if e = true then 2 else 1)), rs_wA (rs_wA s 40 tok x) 42 tok (if e = true then 256 else s.2.1 38 i)) := by
      intro x
      unfold s301_151
      rw [ht]
      refine bse (sI_at (by omega) t40 (by omega) (by omega)) ?_
      have k3 : ∀ y : Int32, s301_172 (rM w (k + 1)) w (rd_01 e) y (s.1 5) (rs_wA s 40 tok x) = some (some (.int (if e = true then 2 else 1)), rs_wA (rs_wA s 40 tok x) 42 tok y) := by
        intro y
        unfold s301_172
        rw [ht]
        refine bse (sI_at (by omega) t42 (by omega) (by omega)) ?_
        cases e with
        | true => exact ifn (show ¬ mx_f1 .eq (rd_01 true) = true from by decide) rfl
        | false => exact ift (show mx_f1 .eq (rd_01 false) = true from by decide) rfl
      cases e with
      | true => exact ifn (show ¬ mx_f1 .eq (rd_01 true) = true from by decide) (k3 256)
      | false => exact ift (show mx_f1 .eq (rd_01 false) = true from by decide) (k3 _)
    unfold s301_131
    cases q with
    | true => exact ifn (show ¬ mx_f1 .eq (rd_01 true) = true from by decide) (k2 5)
    | false => exact ift (show mx_f1 .eq (rd_01 false) = true from by decide) (k2 6)
  have k0 := key false
  have k1 := key true
  unfold s301_96
  by_cases c1 : s.2.1 38 i = 61
  · refine ifn (show ¬ mx_f2 .ne (s.2.1 38 i) 61 = true by rw [f2_ne]; simp [c1]) ?_
    rw [show Int32.ofNat i + 1 = Int32.ofNat (i + 1) from of_add i 1, h3]
    by_cases c2 : i + 1 < n
    · refine ifn (show ¬ mx_f2 .ge (Int32.ofNat (i + 1)) (Int32.ofNat n) = true by rw [f2_ge, of_int (by omega), of_int (by omega)]; simp; omega) ?_
      refine bse (aI_at (by omega) t38 (by omega) (by omega)) ?_
      by_cases c3 : s.2.1 38 (i + 1) = 61
      · rw [show is_eq (s.2.1 38) n i = true from decide_eq_true ⟨c1, c2, c3⟩]
        exact ifn (show ¬ mx_f2 .ne (s.2.1 38 (i + 1)) 61 = true by rw [f2_ne]; simp [c3]) k1
      · rw [show is_eq (s.2.1 38) n i = false from decide_eq_false (fun z => c3 z.2.2)]
        exact ift (show mx_f2 .ne (s.2.1 38 (i + 1)) 61 = true by rw [f2_ne]; simp [c3]) k0
    · rw [show is_eq (s.2.1 38) n i = false from decide_eq_false (fun z => c2 z.2.1)]
      exact ift (show mx_f2 .ge (Int32.ofNat (i + 1)) (Int32.ofNat n) = true by rw [f2_ge, of_int (by omega), of_int (by omega)]; simp; omega) k0
  · rw [show is_eq (s.2.1 38) n i = false from decide_eq_false (fun z => c1 z.1)]
    exact ift (show mx_f2 .ne (s.2.1 38 i) 61 = true by rw [f2_ne]; simp [c1]) k0
theorem rg_of {n tok : Nat} (hG : rG s n) (ht : s.1 5 = Int32.ofNat tok) (htk : tok ≤ 2000) (i : Nat) (hi : i < n) : rM w (k + 2) 301 [.ref 36, .int (Int32.ofNat i)] s = some (some (.int (if is_eq (s.2.1 38) n i = true then 2 else 1)), rs_wA (rs_wA s 40 tok (if is_sg (s.2.1 38 i) = true then 5 else 6)) 42 tok (if is_eq (s.2.1 38) n i = true then 256 else s.2.1 38 i)) := by
  have hn := hG.1
  rw [y301]
  show s301_0 (rM w (k + 1)) w (Int32.ofNat i) s = _
  unfold s301_0
  refine bse (aI_at (by omega) t38 (by omega) (by omega)) ?_
  have yes : is_sg (s.2.1 38 i) = true → s301_91 (rM w (k + 1)) w (Int32.ofNat i) (s.2.1 38 i) s = some (some (.int (if is_eq (s.2.1 38) n i = true then 2 else 1)), rs_wA (rs_wA s 40 tok (if is_sg (s.2.1 38 i) = true then 5 else 6)) 42 tok (if is_eq (s.2.1 38) n i = true then 256 else s.2.1 38 i)) := by
    intro e
    rw [e]
    exact rg_96 (w := w) (k := k) hG ht htk i hi true
  have fe : ∀ x y : Int32, mx_f2 .eq x y = decide (x = y) := fun _ _ => rfl
  generalize hc : s.2.1 38 i = c at yes ⊢
  have dec : ∀ d : Int32, (c = d → is_sg c = true) → ∀ (Y N R : Option rA), (is_sg c = true → Y = R) → (¬ c = d → N = R) → (if mx_f2 .eq c d = true then Y else N) = R := by
    intro d hd Y N R hY hN
    by_cases e : c = d
    · rw [if_pos (show mx_f2 .eq c d = true by rw [fe]; exact decide_eq_true e)]
      exact hY (hd e)
    · rw [if_neg (show ¬ mx_f2 .eq c d = true by rw [fe]; simp [e])]
      exact hN e
  refine dec 123 (fun e => by rw [e]; decide) _ _ _ yes (fun n1 => ?_)
  refine dec 125 (fun e => by rw [e]; decide) _ _ _ yes (fun n2 => ?_)
  refine dec 40 (fun e => by rw [e]; decide) _ _ _ yes (fun n3 => ?_)
  refine dec 41 (fun e => by rw [e]; decide) _ _ _ yes (fun n4 => ?_)
  refine dec 59 (fun e => by rw [e]; decide) _ _ _ yes (fun n5 => ?_)
  refine dec 44 (fun e => by rw [e]; decide) _ _ _ yes (fun n6 => ?_)
  refine dec 58 (fun e => by rw [e]; decide) _ _ _ yes (fun n7 => ?_)
  refine dec 46 (fun e => by rw [e]; decide) _ _ _ yes (fun n8 => ?_)
  refine dec 33 (fun e => by rw [e]; decide) _ _ _ yes (fun n9 => ?_)
  refine dec 61 (fun e => by rw [e]; decide) _ _ _ yes (fun n10 => ?_)
  refine dec 60 (fun e => by rw [e]; decide) _ _ _ yes (fun n11 => ?_)
  refine dec 43 (fun e => by rw [e]; decide) _ _ _ yes (fun n12 => ?_)
  refine dec 45 (fun e => by rw [e]; decide) _ _ _ yes (fun n13 => ?_)
  by_cases e : c = 42
  · rw [if_neg (show ¬ mx_f2 .ne c 42 = true by rw [f2_ne]; simp [e])]
    exact yes (by rw [e]; decide)
  · rw [if_pos (show mx_f2 .ne c 42 = true by rw [f2_ne]; simp [e])]
    have no : is_sg c = false := decide_eq_false (by simp [n1, n2, n3, n4, n5, n6, n7, n8, n9, n10, n11, n12, n13, e])
    rw [no]
    have := rg_96 (w := w) (k := k) hG ht htk i hi false
    rw [hc] at this
    exact this
end RC3
