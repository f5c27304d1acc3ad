/-! STRINGS OF LETTERS, SORTS OF LETTERS, WHERE A WORD OR SIGN ENDS (the class's reader, as a function). -/
/-- a String at place t: n characters, g -/
def sT (L : Nat) (xs : Nat → Int32) (h : rm_H) (t n : Nat) (g : Nat → Int32) : Prop := ∃ (ci a : Nat) (fs : List Value) (f : Nat → Int32), [7, 16].contains ci = true ∧ rm_look 21 (ah_O L xs) h t = some (.inr (ci, fs)) ∧ fs[0]? = some (.ref a) ∧ fs[1]? = some (.int 0) ∧ rm_look 21 (ah_O L xs) h a = some (.inl (1, n, .inl f)) ∧ n ≤ 10000 ∧ ∀ i, i < n → f i &&& 255 = g i
section ST
variable {L : Nat} {xs : Nat → Int32} {zf : Value} {w k : Nat} {h : rm_H} {D : dD}
theorem gF_lk {a j ci : Nat} {cis : List Nat} {fs : List Value} {v : Value} (hx : rm_look 21 (ah_O L xs) h a = some (.inr (ci, fs))) (hc : cis.contains ci = true) (hk : fs[j]? = some v) : dgF L xs h j cis (some a) = some v := by
  unfold dgF
  dsimp only
  rw [hx]
  dsimp only
  rw [if_pos hc, hk]
theorem gI_lk {a j ci : Nat} {cis : List Nat} {fs : List Value} {x : Int32} (hx : rm_look 21 (ah_O L xs) h a = some (.inr (ci, fs))) (hc : cis.contains ci = true) (hk : fs[j]? = some (.int x)) : dgI L xs h j cis (some a) = some x := by
  unfold dgI
  rw [gF_lk hx hc hk]
  rfl
theorem gR_lk {a j ci : Nat} {cis : List Nat} {fs : List Value} {p : Option Nat} (hx : rm_look 21 (ah_O L xs) h a = some (.inr (ci, fs))) (hc : cis.contains ci = true) (hk : fs[j]? = some (va_rf p)) : dgR L xs h j cis (some a) = some p := by
  unfold dgR
  rw [gF_lk hx hc hk]
  exact drf p
theorem dcV_lk {p ci mi : Nat} {cis : List Nat} {fs As : List Value} (hx : rm_look 21 (ah_O L xs) h p = some (.inr (ci, fs))) (hc : cis.contains ci = true) : dcV L xs D mi cis (some p) As h = D mi (.ref p :: As) h := by
  unfold dcV
  dsimp only
  rw [if_pos]
  unfold rm_cis
  rw [hx]
  exact hc
theorem aN_lk {a t n : Nat} {g : (Nat → Int32) ⊕ (Nat → Int64) ⊕ (Nat → UInt32) ⊕ (Nat → UInt64) ⊕ (Nat → Option Nat)} (hx : rm_look 21 (ah_O L xs) h a = some (.inl (t, n, g))) (ht : t < ah_TY.length) : daN L xs h (some a) = some (Int32.ofNat n) := by
  unfold daN
  dsimp only
  rw [hx]
  dsimp only
  rw [if_pos ht]
theorem aB_lk {a n : Nat} {f : Nat → Int32} {i : Int32} (hx : rm_look 21 (ah_O L xs) h a = some (.inl (1, n, .inl f))) (hi : rm_in i n = true) : daB L xs h (some a) i = some (f i.toNatClampNeg) := by
  unfold daB
  dsimp only
  rw [hx]
  dsimp only
  rw [if_pos ⟨Or.inl rfl, hi⟩]
theorem st_len {t n : Nat} {g : Nat → Int32} (hT : sT L xs h t n g) : dM L xs zf w (k + 2) 60 [.ref t] h = some (some (.int (Int32.ofNat n)), h) := by
  obtain ⟨ci, a, fs, f, hc, h1, h2, h3, h4, hn, hg⟩ := hT
  rw [e60]
  show b60_0 L xs zf (dM L xs zf w (k + 1)) w (some t) h = _
  unfold b60_0
  refine bse (gR_lk (p := some a) h1 hc h2) (bse (aN_lk h4 (by decide)) ?_)
  refine bse (a := ((0 : Int32), h)) ?_ ?_
  · rw [dcV_lk h1 hc, e61]
    show (b61_0 L xs zf (dM L xs zf w k) w (some t) h).bind dxI = _
    unfold b61_0
    rw [if_neg (by decide)]
    exact bse (a := (some (.int 0), h)) (bse (gI_lk h1 hc h3) rfl) rfl
  · rw [sh0]
    rfl
theorem st_chr {t n : Nat} {g : Nat → Int32} (hT : sT L xs h t n g) (i : Nat) (hi : i < n) : dM L xs zf w (k + 4) 63 [.ref t, .int (Int32.ofNat i)] h = some (some (.int (g i)), h) := by
  obtain ⟨ci, a, fs, f, hc, h1, h2, h3, h4, hn, hg⟩ := hT
  rw [e63]
  show b63_0 L xs zf (dM L xs zf w (k + 3)) w (some t) (Int32.ofNat i) h = _
  unfold b63_0
  refine bse (a := ((1 : Int32), h)) ?_ ?_
  · rw [dcV_lk h1 hc, e64]
    show (b64_0 L xs zf (dM L xs zf w (k + 2)) w (some t) h).bind dxI = _
    unfold b64_0
    rw [if_neg (by decide)]
    exact bse (a := (some (.int 1), h)) (bse (gI_lk h1 hc h3) (ifn (by decide) rfl)) rfl
  · refine ifn (show ¬ mx_f1 .eq 1 = true from by decide) ?_
    refine bse (gR_lk (p := some a) h1 hc h2) ?_
    rw [← hg i hi]
    refine bse (a := (f i &&& 255, h)) ?_ (if_pos (ch_rt _))
    show (dM L xs zf w (k + 3) 65 [.ref a, .int (Int32.ofNat i)] h).bind dxI = _
    rw [e65]
    refine bse (a := (some (.int (f i &&& 255)), h)) ?_ rfl
    show b65_0 L xs zf (dM L xs zf w (k + 2)) w (some a) (Int32.ofNat i) h = _
    unfold b65_0
    refine bse (aN_lk h4 (by decide)) ?_
    refine bse (a := h) (by rw [ck_in i n hi (by omega) h]; rfl) ?_
    refine bse (aB_lk h4 (of_in hi (by omega))) ?_
    rw [of_clamp (by omega), a255_ch]
    exact if_pos (ch_rt _)
def is_dig (x : Int32) : Bool := decide (48 ≤ x.toInt ∧ x.toInt ≤ 57)
def is_gr (x : Int32) : Bool := decide (65 ≤ x.toInt ∧ x.toInt ≤ 90)
theorem k48 : (48 : Int32).toInt = 48 := by decide
theorem k57 : (57 : Int32).toInt = 57 := by decide
theorem k65 : (65 : Int32).toInt = 65 := by decide
theorem k90 : (90 : Int32).toInt = 90 := by decide
theorem k97 : (97 : Int32).toInt = 97 := by decide
theorem k122 : (122 : Int32).toInt = 122 := by decide
theorem cl_dig (x : Int32) (h : rm_H) : dM L xs zf w (k + 1) 69 [.int x] h = some (some (.int (rd_01 (is_dig x))), h) := by
  rw [e69]
  show b69_0 L xs zf (dM L xs zf w k) w x h = _
  unfold b69_0
  by_cases a : x.toInt < 48
  · rw [show is_dig x = false from decide_eq_false (by omega)]
    exact ift (show mx_f2 .lt x 48 = true by rw [f2_lt, k48]; simp [a]) rfl
  refine ifn (show ¬ mx_f2 .lt x 48 = true by rw [f2_lt, k48]; simp; omega) ?_
  by_cases b : 57 < x.toInt
  · rw [show is_dig x = false from decide_eq_false (by omega)]
    exact ift (show mx_f2 .gt x 57 = true by rw [f2_gt, k57]; simp [b]) rfl
  · rw [show is_dig x = true from decide_eq_true (by omega)]
    exact ifn (show ¬ mx_f2 .gt x 57 = true by rw [f2_gt, k57]; simp; omega) rfl
theorem cl_gr (x : Int32) (h : rm_H) : dM L xs zf w (k + 1) 70 [.int x] h = some (some (.int (rd_01 (is_gr x))), h) := by
  rw [e70]
  show b70_0 L xs zf (dM L xs zf w k) w x h = _
  unfold b70_0
  by_cases a : x.toInt < 65
  · rw [show is_gr x = false from decide_eq_false (by omega)]
    exact ift (show mx_f2 .lt x 65 = true by rw [f2_lt, k65]; simp [a]) rfl
  refine ifn (show ¬ mx_f2 .lt x 65 = true by rw [f2_lt, k65]; simp; omega) ?_
  by_cases b : 90 < x.toInt
  · rw [show is_gr x = false from decide_eq_false (by omega)]
    exact ift (show mx_f2 .gt x 90 = true by rw [f2_gt, k90]; simp [b]) rfl
  · rw [show is_gr x = true from decide_eq_true (by omega)]
    exact ifn (show ¬ mx_f2 .gt x 90 = true by rw [f2_gt, k90]; simp; omega) rfl
theorem cl_al (x : Int32) (h : rm_H) : dM L xs zf w (k + 2) 68 [.int x] h = some (some (.int (rd_01 (rd_al x))), h) := by
  rw [e68]
  show b68_0 L xs zf (dM L xs zf w (k + 1)) w x h = _
  unfold b68_0
  refine bse (a := (rd_01 (is_dig x), h)) (by rw [cl_dig]; rfl) ?_
  by_cases d : is_dig x = true
  · have dd := of_decide_eq_true d
    rw [d, show rd_al x = true from decide_eq_true (by omega)]
    exact ift (show mx_f1 .ne (rd_01 true) = true from by decide) rfl
  · have dd : ¬ (48 ≤ x.toInt ∧ x.toInt ≤ 57) := fun z => d (decide_eq_true z)
    rw [Bool.not_eq_true] at d
    rw [d]
    refine ifn (show ¬ mx_f1 .ne (rd_01 false) = true from by decide) ?_
    refine bse (a := (rd_01 (is_gr x), h)) (by rw [cl_gr]; rfl) ?_
    by_cases u : is_gr x = true
    · have uu := of_decide_eq_true u
      rw [u, show rd_al x = true from decide_eq_true (by omega)]
      exact ift (show mx_f1 .ne (rd_01 true) = true from by decide) rfl
    · have uu : ¬ (65 ≤ x.toInt ∧ x.toInt ≤ 90) := fun z => u (decide_eq_true z)
      rw [Bool.not_eq_true] at u
      rw [u]
      refine ifn (show ¬ mx_f1 .ne (rd_01 false) = true from by decide) ?_
      by_cases a : x.toInt < 97
      · rw [show rd_al x = false from decide_eq_false (by omega)]
        exact ift (show mx_f2 .lt x 97 = true by rw [f2_lt, k97]; simp [a]) rfl
      refine ifn (show ¬ mx_f2 .lt x 97 = true by rw [f2_lt, k97]; simp; omega) ?_
      by_cases b : 122 < x.toInt
      · rw [show rd_al x = false from decide_eq_false (by omega)]
        exact ift (show mx_f2 .gt x 122 = true by rw [f2_gt, k122]; simp [b]) rfl
      · rw [show rd_al x = true from decide_eq_true (by omega)]
        exact ifn (show ¬ mx_f2 .gt x 122 = true by rw [f2_gt, k122]; simp; omega) rfl
/-- where a row of letters that begins at k ends; where a word or sign ends -/
def lx_sk (g : Nat → Int32) : Nat → Nat → Nat
  | 0, k => k
  | f + 1, k => if rd_al (g k) = true then lx_sk g f (k + 1) else k
def lx_en (g : Nat → Int32) (n k : Nat) : Nat := if k < lx_sk g (n - k) k then lx_sk g (n - k) k else if g k = 61 ∧ k + 1 < n ∧ g (k + 1) = 61 then k + 2 else k + 1
theorem lx_sk_ge (g : Nat → Int32) (f : Nat) : ∀ k : Nat, k ≤ lx_sk g f k ∧ lx_sk g f k ≤ k + f := by
  induction f with
  | zero => exact fun k => ⟨Nat.le_refl _, Nat.le_refl _⟩
  | succ f ih =>
    intro k
    rw [lx_sk]
    split
    · have := ih (k + 1)
      omega
    · omega
theorem lx_en_gt (g : Nat → Int32) (n k : Nat) (hk : k < n) : k < lx_en g n k ∧ lx_en g n k ≤ n := by
  have := lx_sk_ge g (n - k) k
  unfold lx_en
  split
  · omega
  · split <;> omega
/-- the reader at place r reads the String at t -/
def rD (L : Nat) (xs : Nat → Int32) (h : rm_H) (r t : Nat) : Prop := ∃ fs, rm_look 21 (ah_O L xs) h r = some (.inr (6, fs)) ∧ fs[0]? = some (.ref t)
theorem en_loop {r t n : Nat} {g : Nat → Int32} (hR : rD L xs h r t) (hT : sT L xs h t n g) (b : Int32) : ∀ (f i N : Nat), i + f = n → f ≤ N → b67_2 L xs zf (dM L xs zf w (k + 4)) w (N + 1) (some r) b (Int32.ofNat i) h = b67_33 L xs zf (dM L xs zf w (k + 4)) w (some r) b (Int32.ofNat (lx_sk g f i)) h := by
  obtain ⟨fs, hr, h0⟩ := hR
  have hT0 := hT
  obtain ⟨ci, a, fs2, f0, hc, h1, h2, h3, h4, hn, hg⟩ := hT0
  have e1 : dgR L xs h 0 [6] (some r) = some (some t) := gR_lk hr (by decide) h0
  have e2 : (dcV L xs (dM L xs zf w (k + 4)) 60 [7, 16] (some t) [] h).bind dxI = some (Int32.ofNat n, h) := by rw [dcV_lk h1 hc, st_len hT]; rfl
  intro f
  induction f with
  | zero =>
    intro i N hi _
    have hi : i = n := by omega
    subst hi
    rw [b67_2, e1]
    show ((dcV L xs (dM L xs zf w (k + 4)) 60 [7, 16] (some t) [] h).bind dxI).bind _ = _
    rw [e2]
    exact if_pos (show mx_f2 .ge (Int32.ofNat i) (Int32.ofNat i) = true by rw [f2_ge]; simp)
  | succ f ih =>
    intro i N hi hN
    obtain ⟨N', rfl⟩ : ∃ N', N = N' + 1 := ⟨N - 1, by omega⟩
    rw [b67_2, e1]
    show ((dcV L xs (dM L xs zf w (k + 4)) 60 [7, 16] (some t) [] h).bind dxI).bind _ = _
    rw [e2]
    show (if mx_f2 .ge (Int32.ofNat i) (Int32.ofNat n) = true then _ else _) = _
    rw [if_neg (show ¬ mx_f2 .ge (Int32.ofNat i) (Int32.ofNat n) = true by rw [f2_ge, of_int (by omega), of_int (by omega)]; simp; omega), e1]
    show ((dcV L xs (dM L xs zf w (k + 4)) 63 [7, 16] (some t) [.int (Int32.ofNat i)] h).bind dxI).bind _ = _
    rw [dcV_lk h1 hc, st_chr hT i (by omega)]
    show ((dM L xs zf w (k + 4) 68 [.int (g i)] h).bind dxI).bind _ = _
    rw [cl_al]
    show (if mx_f1 .eq (rd_01 (rd_al (g i))) = true then _ else _) = _
    rw [lx_sk]
    cases hq : rd_al (g i) with
    | false =>
      rw [if_pos (by decide), if_neg (by decide)]
    | true =>
      rw [if_neg (by decide), if_pos rfl, show Int32.ofNat i + 1 = Int32.ofNat (i + 1) from of_add i 1]
      exact ih (i + 1) N' (by omega) (by omega)
end ST
