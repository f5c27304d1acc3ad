/-! THE CLASS'S READER: rowToken, signToken. -/
section RW2
variable {L : Nat} {xs : Nat → Int32} {zf : Value} {w k : Nat} {h : rm_H}
theorem allD_s (g : Nat → Int32) (i f : Nat) : allD g i (f + 1) = (is_dig (g i) && allD g (i + 1) f) := by
  unfold allD
  rw [List.range_succ_eq_map, List.all_cons, List.all_map]
  congr 2
  funext j
  show is_dig (g (i + (j + 1))) = _
  rw [show i + (j + 1) = i + 1 + j from by omega]
theorem anyG_s (g : Nat → Int32) (i f : Nat) : anyG g i (f + 1) = (is_gr (g i) || anyG g (i + 1) f) := by
  unfold anyG
  rw [List.range_succ_eq_map, List.any_cons, List.any_map]
  congr 2
  funext j
  show is_gr (g (i + (j + 1))) = _
  rw [show i + (j + 1) = i + 1 + j from by omega]
theorem row_38 {r t n : Nat} {g : Nat → Int32} (hR : rD L xs h r t) (hT : sT L xs h t n g) (K : Option Nat → Int32 → Int32 → Int32 → Int32 → Int32 → rm_H → Option dR) (b e i : Nat) (hi : i < n) (u d : Bool) : b71_38 L xs zf (dM L xs zf w (k + 6)) w K (some r) (Int32.ofNat b) (Int32.ofNat e) (rd_01 u) (Int32.ofNat i) (rd_01 d) h = K (some r) (Int32.ofNat b) (Int32.ofNat e) (rd_01 d) (rd_01 (u || is_gr (g i))) (Int32.ofNat (i + 1)) h := by
  unfold b71_38
  cases u with
  | true =>
    rw [if_pos (show mx_f1 .ne (rd_01 true) = true from by decide), Bool.true_or]
    unfold b71_59 b71_64
    rw [show Int32.ofNat i + 1 = Int32.ofNat (i + 1) from of_add i 1]
    rfl
  | false =>
    rw [if_neg (show ¬ mx_f1 .ne (rd_01 false) = true from by decide), Bool.false_or, rd_t hR]
    show ((dcV L xs (dM L xs zf w (k + 6)) 63 [7, 16] (some t) [.int (Int32.ofNat i)] h).bind dxI).bind _ = _
    rw [st_c (k := k + 2) hT i hi]
    show ((dM L xs zf w (k + 6) 70 [.int (g i)] h).bind dxI).bind _ = _
    rw [cl_gr]
    show (if mx_f1 .eq (rd_01 (is_gr (g i))) = true then _ else _) = _
    cases hg : is_gr (g i) with
    | true =>
      rw [if_neg (show ¬ mx_f1 .eq (rd_01 true) = true from by decide)]
      unfold b71_59 b71_64
      rw [show Int32.ofNat i + 1 = Int32.ofNat (i + 1) from of_add i 1]
      rfl
    | false =>
      rw [if_pos (show mx_f1 .eq (rd_01 false) = true from by decide)]
      unfold b71_64
      rw [show Int32.ofNat i + 1 = Int32.ofNat (i + 1) from of_add i 1]
      rfl
theorem row_loop {r t n : Nat} {g : Nat → Int32} (hR : rD L xs h r t) (hT : sT L xs h t n g) (b e : Nat) (hbe : b < e) (he : e ≤ n) (hw : 201 ≤ w) : ∀ (f i N : Nat) (d u : Bool), i + f = e → f ≤ N → b71_8 L xs zf (dM L xs zf w (k + 6)) w (N + 1) (some r) (Int32.ofNat b) (Int32.ofNat e) (rd_01 d) (rd_01 u) (Int32.ofNat i) h = some (some (.int (Int32.ofNat (rowF g b e (d && allD g i f) (u || anyG g i f)))), h) := by
  have hn := st_n hT
  intro f
  induction f with
  | zero =>
    intro i N d u hi _
    have hi : i = e := by omega
    subst hi
    rw [row_end hR hT b i hbe he hw d u N]
    simp [allD, anyG]
  | succ f ih =>
    intro i N d u hi hN
    obtain ⟨N', rfl⟩ : ∃ N', N = N' + 1 := ⟨N - 1, by omega⟩
    rw [b71_8, if_neg (show ¬ mx_f2 .ge (Int32.ofNat i) (Int32.ofNat e) = true by rw [f2_ge, of_int (by omega), of_int (by omega)]; simp; omega), allD_s, anyG_s]
    have key : ∀ q : Bool, b71_38 L xs zf (dM L xs zf w (k + 6)) w (b71_8 L xs zf (dM L xs zf w (k + 6)) w (N' + 1)) (some r) (Int32.ofNat b) (Int32.ofNat e) (rd_01 u) (Int32.ofNat i) (rd_01 q) h = some (some (.int (Int32.ofNat (rowF g b e (q && allD g (i + 1) f) (u || (is_gr (g i) || anyG g (i + 1) f))))), h) := by
      intro q
      rw [row_38 hR hT _ b e i (by omega) u q, ih (i + 1) N' q (u || is_gr (g i)) (by omega) (by omega), Bool.or_assoc]
    cases d with
    | false =>
      rw [if_pos (show mx_f1 .eq (rd_01 false) = true from by decide), Bool.false_and]
      have := key false
      rw [Bool.false_and] at this
      exact this
    | true =>
      rw [if_neg (show ¬ mx_f1 .eq (rd_01 true) = true from by decide), Bool.true_and, rd_t hR]
      show ((dcV L xs (dM L xs zf w (k + 6)) 63 [7, 16] (some t) [.int (Int32.ofNat i)] h).bind dxI).bind _ = _
      rw [st_c (k := k + 2) hT i (by omega)]
      show ((dM L xs zf w (k + 6) 69 [.int (g i)] h).bind dxI).bind _ = _
      rw [cl_dig]
      show (if mx_f1 .eq (rd_01 (is_dig (g i))) = true then _ else _) = _
      cases hd : is_dig (g i) with
      | true =>
        rw [if_neg (show ¬ mx_f1 .eq (rd_01 true) = true from by decide)]
        exact key true
      | false =>
        rw [if_pos (show mx_f1 .eq (rd_01 false) = true from by decide)]
        exact key false
/-- the token of a row -/
def rowT (g : Nat → Int32) (b e : Nat) : Nat := rowF g b e (allD g b (e - b)) (anyG g b (e - b))
theorem row_of {r t n : Nat} {g : Nat → Int32} (hR : rD L xs h r t) (hT : sT L xs h t n g) (b e : Nat) (hbe : b < e) (he : e ≤ n) (hw : 201 ≤ w) (hw2 : n < w) : dM L xs zf w (k + 7) 71 [.ref r, .int (Int32.ofNat b), .int (Int32.ofNat e)] h = some (some (.int (Int32.ofNat (rowT g b e))), h) := by
  rw [e71]
  show b71_0 L xs zf (dM L xs zf w (k + 6)) w (some r) (Int32.ofNat b) (Int32.ofNat e) h = _
  unfold b71_0
  obtain ⟨w', rfl⟩ : ∃ w', w = w' + 1 := ⟨w - 1, by omega⟩
  have := row_loop (L := L) (xs := xs) (zf := zf) (w := w' + 1) (k := k) hR hT b e hbe he hw (e - b) b w' true false (by omega) (by omega)
  rw [Bool.true_and, Bool.false_or] at this
  exact this
/-- the signs, in one String at place 8 -/
def sgN : Nat := (ah_byt.getD 1 []).length
def sgB (i : Nat) : Int32 := (ah_byt.getD 1 []).getD i 0
theorem sg_sT : sT L xs h 8 sgN (fun i => sgB i &&& 255) := ⟨16, 15, [.ref 15, .int 0], sgB, by decide, rfl, rfl, rfl, rfl, by decide, fun _ _ => rfl⟩
/-- where a byte stands among the signs -/
def sgS (c : Int32) : Nat → Nat → Int32
  | 0, _ => -1
  | f + 1, i => if sgB i = c then Int32.ofNat i else sgS c f (i + 1)
theorem sg_loop (c : Int32) : ∀ (f i N : Nat), i + f = sgN → f ≤ N → b79_7 L xs zf (dM L xs zf w k) w (N + 1) (some 15) (Int32.ofNat sgN) c (Int32.ofNat i) h = some (some (.int (sgS c f i)), h) := by
  have hs : sgN ≤ 100 := by decide
  intro f
  induction f with
  | zero =>
    intro i N hi _
    rw [b79_7, if_pos (show mx_f2 .ge (Int32.ofNat i) (Int32.ofNat sgN) = true by rw [f2_ge, of_int (by omega), of_int (by omega)]; simp; omega)]
    rfl
  | succ f ih =>
    intro i N hi hN
    obtain ⟨N', rfl⟩ : ∃ N', N = N' + 1 := ⟨N - 1, by omega⟩
    rw [b79_7, if_neg (show ¬ mx_f2 .ge (Int32.ofNat i) (Int32.ofNat sgN) = true by rw [f2_ge, of_int (by omega), of_int (by omega)]; simp; omega), sgS]
    refine bse (aB_lk (a := 15) (n := sgN) (f := sgB) rfl (of_in (by omega) (by omega))) ?_
    rw [of_clamp (by omega)]
    by_cases e : sgB i = c
    · rw [if_pos e]
      exact ifn (show ¬ mx_f2 .ne (sgB i) c = true by rw [f2_ne]; simp [e]) rfl
    · rw [if_neg e]
      refine ift (show mx_f2 .ne (sgB i) c = true by rw [f2_ne]; simp [e]) ?_
      rw [show Int32.ofNat i + 1 = Int32.ofNat (i + 1) from of_add i 1]
      exact ih (i + 1) N' (by omega) (by omega)
theorem ix_of (c : Int32) (c0 : 0 ≤ c.toInt) (c1 : c.toInt ≤ 255) (hw : 101 ≤ w) : dM L xs zf w (k + 5) 75 [.ref 8, .int c] h = some (some (.int (sgS (Int8.toInt32 (Int32.toInt8 c)) sgN 0)), h) := by
  have hs : sgN ≤ 100 := by decide
  have hT := sg_sT (L := L) (xs := xs) (h := h)
  have hT0 := hT
  obtain ⟨ci, a, fs, f, hc, h1, h2, h3, h4, hn, hg⟩ := hT0
  have ea : a = 15 := by
    have e : rm_look 21 (ah_O L xs) h 8 = some (.inr (16, [.ref 15, .int 0])) := rfl
    rw [e] at h1
    cases h1
    have h2 : some (Value.ref 15) = some (Value.ref a) := h2
    cases h2
    rfl
  rw [e75]
  show b75_0 L xs zf (dM L xs zf w (k + 4)) w (some 8) c h = _
  unfold b75_0
  refine bse (a := (sgS (Int8.toInt32 (Int32.toInt8 c)) sgN 0, h)) ?_ rfl
  rw [dcV_lk h1 hc, e76]
  show (b76_0 L xs zf (dM L xs zf w (k + 3)) w (some 8) c 0 h).bind dxI = _
  refine bse (a := (some (.int (sgS (Int8.toInt32 (Int32.toInt8 c)) sgN 0)), h)) ?_ rfl
  unfold b76_0
  refine bse (a := ((1 : Int32), h)) ?_ ?_
  · rw [dcV_lk h1 hc, e64]
    show (b64_0 L xs zf (dM L xs zf w (k + 2)) w (some 8) h).bind dxI = _
    unfold b64_0
    rw [if_neg (by decide)]
    exact bse (a := (some (.int 1), h)) (bse (gI_lk h1 hc h3) (ifn (by decide) rfl)) rfl
  refine ifn (show ¬ mx_f1 .eq 1 = true from by decide) ?_
  refine bse (gR_lk (p := some a) h1 hc h2) ?_
  refine bse (st_l (k := k + 1) hT) ?_
  rw [ea]
  refine bse (a := (sgS (Int8.toInt32 (Int32.toInt8 c)) sgN 0, h)) ?_ rfl
  show (dM L xs zf w (k + 3) 77 [.ref 15, .int c, .int 0, .int (Int32.ofNat sgN)] h).bind dxI = _
  rw [e77]
  refine bse (a := (some (.int (sgS (Int8.toInt32 (Int32.toInt8 c)) sgN 0)), h)) ?_ rfl
  show b77_0 L xs zf (dM L xs zf w (k + 2)) w (some 15) c 0 (Int32.ofNat sgN) h = _
  unfold b77_0
  refine bse (a := ((1 : Int32), h)) ?_ ?_
  · rw [e78]
    show (b78_0 L xs zf (dM L xs zf w (k + 1)) w c h).bind dxI = _
    unfold b78_0
    rw [if_neg (show ¬ mx_f1 .lt c = true by rw [f1_lt]; simp; omega), if_neg (show ¬ mx_f2 .gt c 255 = true by rw [f2_gt, show (255 : Int32).toInt = 255 from by decide]; simp; omega)]
    rfl
  refine ift (show mx_f1 .ne 1 = true from by decide) ?_
  refine bse (a := ((0 : Int32), h)) (by rw [show (0 : Int32) = Int32.ofNat 0 from rfl, mx_max 0 0 (by omega) (by omega) h]; rfl) ?_
  refine bse (aN_lk (a := 15) (t := 1) (n := sgN) rfl (by decide)) ?_
  refine bse (a := (Int32.ofNat sgN, h)) (by show (dM L xs zf w (k + 2) 21 [.int (Int32.ofNat sgN), .int (Int32.ofNat sgN)] h).bind dxI = _; rw [mx_min sgN sgN (by omega) (by omega) h]; rfl) ?_
  refine ift (show mx_f2 .lt 0 (Int32.ofNat sgN) = true from by decide +kernel) ?_
  refine bse (a := (sgS (Int8.toInt32 (Int32.toInt8 c)) sgN 0, h)) ?_ rfl
  show (dM L xs zf w (k + 2) 79 [.ref 15, .int c, .int 0, .int (Int32.ofNat sgN)] h).bind dxI = _
  rw [e79]
  refine bse (a := (some (.int (sgS (Int8.toInt32 (Int32.toInt8 c)) sgN 0)), h)) ?_ rfl
  show b79_0 L xs zf (dM L xs zf w (k + 1)) w (some 15) c 0 (Int32.ofNat sgN) h = _
  unfold b79_0
  obtain ⟨w', rfl⟩ : ∃ w', w = w' + 1 := ⟨w - 1, by omega⟩
  exact sg_loop _ sgN 0 w' (by omega) (by omega)
end RW2
