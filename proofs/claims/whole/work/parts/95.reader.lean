/-! THE CLASS'S READER, AS FUNCTIONS: endOf, isWordAt, the sort of a row of letters. -/
section RR
variable {L : Nat} {xs : Nat → Int32} {zf : Value} {w k : Nat} {h : rm_H}
theorem rd_t {r t : Nat} (hR : rD L xs h r t) : dgR L xs h 0 [6] (some r) = some (some t) := by
  obtain ⟨fs, hr, h0⟩ := hR
  exact gR_lk hr (by decide) h0
theorem rd_v {r t mi : Nat} {As : List Value} {D : dD} (hR : rD L xs h r t) : dcV L xs D mi [6] (some r) As h = D mi (.ref r :: As) h := by
  obtain ⟨fs, hr, h0⟩ := hR
  exact dcV_lk hr (by decide)
theorem st_l {t n : Nat} {g : Nat → Int32} (hT : sT L xs h t n g) : (dcV L xs (dM L xs zf w (k + 2)) 60 [7, 16] (some t) [] h).bind dxI = some (Int32.ofNat n, h) := by
  have hT0 := hT
  obtain ⟨ci, a, fs2, f0, hc, h1, h2, h3, h4, hn, hg⟩ := hT0
  rw [dcV_lk h1 hc, st_len hT]
  rfl
theorem st_c {t n : Nat} {g : Nat → Int32} (hT : sT L xs h t n g) (i : Nat) (hi : i < n) : (dcV L xs (dM L xs zf w (k + 4)) 63 [7, 16] (some t) [.int (Int32.ofNat i)] h).bind dxI = some (g i, h) := by
  have hT0 := hT
  obtain ⟨ci, a, fs2, f0, hc, h1, h2, h3, h4, hn, hg⟩ := hT0
  rw [dcV_lk h1 hc, st_chr hT i hi]
  rfl
theorem st_n {t n : Nat} {g : Nat → Int32} (hT : sT L xs h t n g) : n ≤ 10000 := by
  obtain ⟨ci, a, fs2, f0, hc, h1, h2, h3, h4, hn, hg⟩ := hT
  exact hn
theorem en_of {r t n : Nat} {g : Nat → Int32} (hR : rD L xs h r t) (hT : sT L xs h t n g) (i : Nat) (hi : i < n) (hw : n < w) : dM L xs zf w (k + 5) 67 [.ref r, .int (Int32.ofNat i)] h = some (some (.int (Int32.ofNat (lx_en g n i))), h) := by
  have hn := st_n hT
  rw [e67]
  show b67_0 L xs zf (dM L xs zf w (k + 4)) w (some r) (Int32.ofNat i) h = _
  unfold b67_0
  obtain ⟨w', rfl⟩ : ∃ w', w = w' + 1 := ⟨w - 1, by omega⟩
  rw [en_loop hR hT (Int32.ofNat i) (n - i) i w' (by omega) (by omega)]
  have hb := lx_sk_ge g (n - i) i
  unfold b67_33
  by_cases hd : i < lx_sk g (n - i) i
  · rw [if_neg (show ¬ mx_f2 .le (Int32.ofNat (lx_sk g (n - i) i)) (Int32.ofNat i) = true by rw [f2_le, of_int (by omega), of_int (by omega)]; simp; omega)]
    unfold lx_en
    rw [if_pos hd]
    rfl
  · have he : lx_sk g (n - i) i = i := by omega
    unfold lx_en
    rw [if_neg hd, he, if_pos (show mx_f2 .le (Int32.ofNat i) (Int32.ofNat i) = true by rw [f2_le]; simp)]
    refine bse (rd_t hR) (bse (st_c hT i hi) ?_)
    by_cases c1 : g i = 61
    · refine ifn (show ¬ mx_f2 .ne (g i) 61 = true by rw [f2_ne]; simp [c1]) ?_
      refine bse (rd_t hR) (bse (st_l (k := k + 2) hT) ?_)
      rw [show Int32.ofNat i + 1 = Int32.ofNat (i + 1) from of_add i 1]
      by_cases c2 : i + 1 < n
      · refine ifn (show ¬ mx_f2 .ge (Int32.ofNat (i + 1)) (Int32.ofNat n) = true by rw [f2_ge, of_int (by omega), of_int (by omega)]; simp; omega) ?_
        refine bse (rd_t hR) (bse (st_c hT (i + 1) c2) ?_)
        by_cases c3 : g (i + 1) = 61
        · rw [if_pos (show g i = 61 ∧ i + 1 < n ∧ g (i + 1) = 61 from ⟨c1, c2, c3⟩)]
          refine ifn (show ¬ mx_f2 .ne (g (i + 1)) 61 = true by rw [f2_ne]; simp [c3]) ?_
          show b67_86 L xs zf _ (w' + 1) (Int32.ofNat i) 1 h = _
          unfold b67_86
          rw [if_neg (by decide), show Int32.ofNat i + 2 = Int32.ofNat (i + 2) from of_add i 2]
          rfl
        · rw [if_neg (show ¬ (g i = 61 ∧ i + 1 < n ∧ g (i + 1) = 61) from fun z => c3 z.2.2)]
          refine ift (show mx_f2 .ne (g (i + 1)) 61 = true by rw [f2_ne]; simp [c3]) ?_
          show b67_86 L xs zf _ (w' + 1) (Int32.ofNat i) 0 h = _
          unfold b67_86
          rw [if_pos (by decide), show Int32.ofNat i + 1 = Int32.ofNat (i + 1) from of_add i 1]
          rfl
      · rw [if_neg (show ¬ (g i = 61 ∧ i + 1 < n ∧ g (i + 1) = 61) from fun z => c2 z.2.1)]
        refine ift (show mx_f2 .ge (Int32.ofNat (i + 1)) (Int32.ofNat n) = true by rw [f2_ge, of_int (by omega), of_int (by omega)]; simp; omega) ?_
        show b67_86 L xs zf _ (w' + 1) (Int32.ofNat i) 0 h = _
        unfold b67_86
        rw [if_pos (by decide), show Int32.ofNat i + 1 = Int32.ofNat (i + 1) from of_add i 1]
        rfl
    · rw [if_neg (show ¬ (g i = 61 ∧ i + 1 < n ∧ g (i + 1) = 61) from fun z => c1 z.1)]
      refine ift (show mx_f2 .ne (g i) 61 = true by rw [f2_ne]; simp [c1]) ?_
      show b67_86 L xs zf _ (w' + 1) (Int32.ofNat i) 0 h = _
      unfold b67_86
      rw [if_pos (by decide), show Int32.ofNat i + 1 = Int32.ofNat (i + 1) from of_add i 1]
      rfl
/-- the words of the language, in one String at place 7 -/
def wdG (i : Nat) : Int32 := Int32.ofNat ((((ah_byt.getD 0 []).getD i 0).toInt).toNat)
theorem wd_T : ∃ n g, sT L xs h 7 n g ∧ n = (ah_byt.getD 0 []).length ∧ ∀ i, i < n → g i = ((ah_byt.getD 0 []).getD i 0 &&& 255) := by
  refine ⟨(ah_byt.getD 0 []).length, fun i => ((ah_byt.getD 0 []).getD i 0 &&& 255), ⟨16, 14, [.ref 14, .int 0], fun j => (ah_byt.getD 0 []).getD j 0, by decide, rfl, rfl, rfl, ?_, by decide, fun _ _ => rfl⟩, rfl, fun _ _ => rfl⟩
  rfl
theorem wa_loop {r t n n2 : Nat} {g g2 : Nat → Int32} (hR : rD L xs h r t) (hT : sT L xs h t n g) (hW : sT L xs h 7 n2 g2) (a b len : Nat) (ha : a + len ≤ n2) (hb : b + len ≤ n) : ∀ (f i N : Nat), i + f = len → f ≤ N → b73_3 L xs zf (dM L xs zf w (k + 4)) w (N + 1) (some r) (Int32.ofNat a) (Int32.ofNat b) (Int32.ofNat len) (Int32.ofNat i) h = some (some (.int (rd_01 ((List.range f).all (fun j => decide (g2 (a + (i + j)) = g (b + (i + j))))))), h) := by
  have hn := st_n hT
  have hn2 := st_n hW
  intro f
  induction f with
  | zero =>
    intro i N hi _
    rw [b73_3, if_pos (show mx_f2 .ge (Int32.ofNat i) (Int32.ofNat len) = true by rw [f2_ge, of_int (by omega), of_int (by omega)]; simp; omega)]
    rfl
  | succ f ih =>
    intro i N hi hN
    obtain ⟨N', rfl⟩ : ∃ N', N = N' + 1 := ⟨N - 1, by omega⟩
    rw [b73_3, if_neg (show ¬ mx_f2 .ge (Int32.ofNat i) (Int32.ofNat len) = true by rw [f2_ge, of_int (by omega), of_int (by omega)]; simp; omega), of_add, of_add]
    refine bse (st_c hW (a + i) (by omega)) (bse (rd_t hR) (bse (st_c hT (b + i) (by omega)) ?_))
    have e : (List.range (f + 1)).all (fun j => decide (g2 (a + (i + j)) = g (b + (i + j)))) = (decide (g2 (a + i) = g (b + i)) && (List.range f).all (fun j => decide (g2 (a + (i + 1 + j)) = g (b + (i + 1 + j))))) := by
      rw [List.range_succ_eq_map, List.all_cons, List.all_map]
      congr 2
      funext j
      show decide (g2 (a + (i + (j + 1))) = g (b + (i + (j + 1)))) = _
      rw [show i + (j + 1) = i + 1 + j from by omega]
    rw [e]
    by_cases c : g2 (a + i) = g (b + i)
    · rw [decide_eq_true c, Bool.true_and]
      refine ift (show mx_f2 .eq (g2 (a + i)) (g (b + i)) = true from decide_eq_true c) ?_
      rw [show Int32.ofNat i + 1 = Int32.ofNat (i + 1) from of_add i 1]
      exact ih (i + 1) N' (by omega) (by omega)
    · rw [decide_eq_false c, Bool.false_and]
      exact ifn (show ¬ mx_f2 .eq (g2 (a + i)) (g (b + i)) = true from fun z => c (of_decide_eq_true z)) rfl
end RR
