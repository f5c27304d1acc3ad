/-! THE SORT OF A ROW OF LETTERS: keywords, names, titles, numbers. -/
def wdN : Nat := (ah_byt.getD 0 []).length
def wdC (i : Nat) : Int32 := (ah_byt.getD 0 []).getD i 0 &&& 255
def eqAt (g : Nat → Int32) (a b len : Nat) : Bool := (List.range len).all (fun j => decide (wdC (a + j) = g (b + j)))
/-- which keyword is it: its number, or 2 -/
def kwS (g : Nat → Int32) (b len : Nat) : Nat → Nat → Nat → Nat → Nat
  | 0, _, _, _ => 2
  | f + 1, num, wb, i => if wdC i = 32 then (if i - wb = len then (if eqAt g wb b len = true then num else kwS g b len f (num + 1) (i + 1) (i + 1)) else kwS g b len f (num + 1) (i + 1) (i + 1)) else kwS g b len f num wb (i + 1)
section RW
variable {L : Nat} {xs : Nat → Int32} {zf : Value} {w k : Nat} {h : rm_H}
theorem wd_sT : sT L xs h 7 wdN wdC := ⟨16, 14, [.ref 14, .int 0], fun j => (ah_byt.getD 0 []).getD j 0, by decide, rfl, rfl, rfl, rfl, by decide, fun _ _ => rfl⟩
theorem wa_of {r t n : Nat} {g : Nat → Int32} (hR : rD L xs h r t) (hT : sT L xs h t n g) (a b len : Nat) (ha : a + len ≤ wdN) (hb : b + len ≤ n) (hw : len < w) : dM L xs zf w (k + 5) 73 [.ref r, .int (Int32.ofNat a), .int (Int32.ofNat b), .int (Int32.ofNat len)] h = some (some (.int (rd_01 (eqAt g a b len))), h) := by
  rw [e73]
  show b73_0 L xs zf (dM L xs zf w (k + 4)) w (some r) (Int32.ofNat a) (Int32.ofNat b) (Int32.ofNat len) h = _
  unfold b73_0
  obtain ⟨w', rfl⟩ : ∃ w', w = w' + 1 := ⟨w - 1, by omega⟩
  rw [show (0 : Int32) = Int32.ofNat 0 from rfl, wa_loop hR hT wd_sT a b len ha hb len 0 w' (by omega) (by omega)]
  unfold eqAt
  simp only [Nat.zero_add]
theorem wdN_le : wdN ≤ 200 := by decide
theorem kw_loop {r t n : Nat} {g : Nat → Int32} (hR : rD L xs h r t) (hT : sT L xs h t n g) (b len : Nat) (hb : b + len ≤ n) (hlen : len ≤ 8) (hw : 9 ≤ w) : ∀ (f num wb i N : Nat), i + f = wdN → wb ≤ i → num ≤ 20 + i → f ≤ N → b72_9 L xs zf (dM L xs zf w (k + 5)) w (N + 1) (some r) (Int32.ofNat b) (Int32.ofNat len) (Int32.ofNat num) (Int32.ofNat wb) (Int32.ofNat i) h = some (some (.int (Int32.ofNat (kwS g b len f num wb i))), h) := by
  have hn := st_n hT
  have h200 := wdN_le
  intro f
  induction f with
  | zero =>
    intro num wb i N hi hwb hnum _
    rw [b72_9]
    refine bse (st_l (k := k + 3) wd_sT) ?_
    refine ift (show mx_f2 .ge (Int32.ofNat i) (Int32.ofNat wdN) = true by rw [f2_ge, of_int (by omega), of_int (by omega)]; simp; omega) ?_
    rfl
  | succ f ih =>
    intro num wb i N hi hwb hnum hN
    obtain ⟨N', rfl⟩ : ∃ N', N = N' + 1 := ⟨N - 1, by omega⟩
    rw [b72_9, kwS]
    refine bse (st_l (k := k + 3) wd_sT) ?_
    refine ifn (show ¬ mx_f2 .ge (Int32.ofNat i) (Int32.ofNat wdN) = true by rw [f2_ge, of_int (by omega), of_int (by omega)]; simp; omega) ?_
    refine bse (st_c (k := k + 1) wd_sT i (by omega)) ?_
    have nxt : b72_53 L xs zf (dM L xs zf w (k + 5)) w (b72_9 L xs zf (dM L xs zf w (k + 5)) w (N' + 1)) (some r) (Int32.ofNat b) (Int32.ofNat len) (Int32.ofNat num) (Int32.ofNat i) h = some (some (.int (Int32.ofNat (kwS g b len f (num + 1) (i + 1) (i + 1)))), h) := by
      unfold b72_53 b72_62
      rw [show Int32.ofNat num + 1 = Int32.ofNat (num + 1) from of_add num 1, show Int32.ofNat i + 1 = Int32.ofNat (i + 1) from of_add i 1]
      exact ih (num + 1) (i + 1) (i + 1) N' (by omega) (by omega) (by omega) (by omega)
    by_cases c : wdC i = 32
    · rw [if_pos c]
      refine ifn (show ¬ mx_f2 .ne (wdC i) 32 = true by rw [f2_ne]; simp [c]) ?_
      have esub : (Int32.ofNat i - Int32.ofNat wb) = Int32.ofNat (i - wb) := by
        apply i32_of
        rw [of_sub (by omega) (by omega), of_int (by omega)]
        omega
      rw [esub]
      by_cases d : i - wb = len
      · rw [if_pos d]
        refine ifn (show ¬ mx_f2 .ne (Int32.ofNat (i - wb)) (Int32.ofNat len) = true by rw [f2_ne]; simp [d]) ?_
        refine bse (a := (rd_01 (eqAt g wb b len), h)) ?_ ?_
        · show (dcV L xs (dM L xs zf w (k + 5)) 73 [6] (some r) [.int (Int32.ofNat wb), .int (Int32.ofNat b), .int (Int32.ofNat len)] h).bind dxI = _
          rw [rd_v hR, wa_of hR hT wb b len (by omega) hb (by omega)]
          rfl
        · cases hq : eqAt g wb b len with
          | true =>
            rw [if_pos rfl]
            exact ifn (show ¬ mx_f1 .eq (rd_01 true) = true from by decide) rfl
          | false =>
            rw [if_neg (show ¬ false = true from by decide)]
            exact ift (show mx_f1 .eq (rd_01 false) = true from by decide) nxt
      · rw [if_neg d]
        refine ift (show mx_f2 .ne (Int32.ofNat (i - wb)) (Int32.ofNat len) = true by
          rw [f2_ne]
          apply decide_eq_true
          intro z
          have z2 := congrArg Int32.toInt z
          rw [of_int (by omega), of_int (by omega)] at z2
          omega) nxt
    · rw [if_neg c]
      refine ift (show mx_f2 .ne (wdC i) 32 = true by rw [f2_ne]; simp [c]) ?_
      unfold b72_62
      rw [show Int32.ofNat i + 1 = Int32.ofNat (i + 1) from of_add i 1]
      exact ih num wb (i + 1) N' (by omega) (by omega) (by omega) (by omega)
theorem kw_of {r t n : Nat} {g : Nat → Int32} (hR : rD L xs h r t) (hT : sT L xs h t n g) (b len : Nat) (hb : b + len ≤ n) (hlen : len ≤ 8) (hw : 201 ≤ w) : dM L xs zf w (k + 6) 72 [.ref r, .int (Int32.ofNat b), .int (Int32.ofNat len)] h = some (some (.int (Int32.ofNat (kwS g b len wdN 20 0 0))), h) := by
  have h200 := wdN_le
  rw [e72]
  show b72_0 L xs zf (dM L xs zf w (k + 5)) w (some r) (Int32.ofNat b) (Int32.ofNat len) h = _
  unfold b72_0
  obtain ⟨w', rfl⟩ : ∃ w', w = w' + 1 := ⟨w - 1, by omega⟩
  exact kw_loop hR hT b len hb hlen (by omega) wdN 20 0 0 w' (by omega) (by omega) (by omega) (by omega)
/-- the token of a row of letters from b to e -/
def allD (g : Nat → Int32) (i f : Nat) : Bool := (List.range f).all (fun j => is_dig (g (i + j)))
def anyG (g : Nat → Int32) (i f : Nat) : Bool := (List.range f).any (fun j => is_gr (g (i + j)))
def rowF (g : Nat → Int32) (b e : Nat) (d u : Bool) : Nat := if d = true then (if 9 < e - b then 1 else 4) else if is_dig (g b) = true then 1 else if e - b ≤ 8 then (if is_gr (g b) = true then 3 else if u = true then 1 else kwS g b (e - b) wdN 20 0 0) else 1
theorem row_end {r t n : Nat} {g : Nat → Int32} (hR : rD L xs h r t) (hT : sT L xs h t n g) (b e : Nat) (hbe : b < e) (he : e ≤ n) (hw : 201 ≤ w) (d u : Bool) (N : Nat) : b71_8 L xs zf (dM L xs zf w (k + 6)) w (N + 1) (some r) (Int32.ofNat b) (Int32.ofNat e) (rd_01 d) (rd_01 u) (Int32.ofNat e) h = some (some (.int (Int32.ofNat (rowF g b e d u))), h) := by
  have hn := st_n hT
  rw [b71_8, if_pos (show mx_f2 .ge (Int32.ofNat e) (Int32.ofNat e) = true by rw [f2_ge]; simp)]
  have esub : (Int32.ofNat e - Int32.ofNat b) = Int32.ofNat (e - b) := by
    apply i32_of
    rw [of_sub (by omega) (by omega), of_int (by omega)]
    omega
  rw [esub]
  unfold rowF
  cases d with
  | true =>
    rw [if_neg (show ¬ mx_f1 .eq (rd_01 true) = true from by decide), if_pos (show true = true from rfl)]
    by_cases c : 9 < e - b
    · rw [if_pos c, if_pos (show mx_f2 .gt (Int32.ofNat (e - b)) 9 = true by rw [f2_gt, of_int (by omega), show (9 : Int32).toInt = 9 from by decide]; simp; omega)]
      rfl
    · rw [if_neg c, if_neg (show ¬ mx_f2 .gt (Int32.ofNat (e - b)) 9 = true by rw [f2_gt, of_int (by omega), show (9 : Int32).toInt = 9 from by decide]; simp; omega)]
      rfl
  | false =>
    rw [if_pos (show mx_f1 .eq (rd_01 false) = true from by decide), if_neg (show ¬ false = true from by decide)]
    refine bse (rd_t hR) (bse (st_c (k := k + 2) hT b (by omega)) ?_)
    refine bse (a := (rd_01 (is_dig (g b)), h)) (by show (dM L xs zf w (k + 6) 69 [.int (g b)] h).bind dxI = _; rw [cl_dig]; rfl) ?_
    cases hd : is_dig (g b) with
    | true =>
      rw [if_pos (show true = true from rfl)]
      exact ift (show mx_f1 .ne (rd_01 true) = true from by decide) rfl
    | false =>
      rw [if_neg (show ¬ false = true from by decide)]
      refine ifn (show ¬ mx_f1 .ne (rd_01 false) = true from by decide) ?_
      by_cases c : e - b ≤ 8
      · rw [if_pos c]
        refine ift (show mx_f2 .le (Int32.ofNat (e - b)) 8 = true by rw [f2_le, of_int (by omega), show (8 : Int32).toInt = 8 from by decide]; simp; omega) ?_
        refine bse (rd_t hR) (bse (st_c (k := k + 2) hT b (by omega)) ?_)
        refine bse (a := (rd_01 (is_gr (g b)), h)) (by show (dM L xs zf w (k + 6) 70 [.int (g b)] h).bind dxI = _; rw [cl_gr]; rfl) ?_
        cases hg : is_gr (g b) with
        | true =>
          rw [if_pos (show true = true from rfl)]
          exact ifn (show ¬ mx_f1 .eq (rd_01 true) = true from by decide) rfl
        | false =>
          rw [if_neg (show ¬ false = true from by decide)]
          refine ift (show mx_f1 .eq (rd_01 false) = true from by decide) ?_
          cases u with
          | true =>
            rw [if_pos (show true = true from rfl)]
            exact ifn (show ¬ mx_f1 .eq (rd_01 true) = true from by decide) rfl
          | false =>
            rw [if_neg (show ¬ false = true from by decide)]
            refine ift (show mx_f1 .eq (rd_01 false) = true from by decide) ?_
            refine bse (a := (Int32.ofNat (kwS g b (e - b) wdN 20 0 0), h)) ?_ rfl
            show (dcV L xs (dM L xs zf w (k + 6)) 72 [6] (some r) [.int (Int32.ofNat b), .int (Int32.ofNat (e - b))] h).bind dxI = _
            rw [rd_v hR, kw_of hR hT b (e - b) (by omega) c hw]
            rfl
      · rw [if_neg c]
        exact ifn (show ¬ mx_f2 .le (Int32.ofNat (e - b)) 8 = true by rw [f2_le, of_int (by omega), show (8 : Int32).toInt = 8 from by decide]; simp; omega) rfl
end RW
