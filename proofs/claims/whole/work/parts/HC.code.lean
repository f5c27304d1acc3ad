/-! THE CODE IS READ. -/
/-- what the run reads of the Program: code A, operands B (beyond sz: 99), Methods es -/
def CB (h : rm_H) (Z : Nat → Prop) (P : Nat) (A B : Nat → Int32) (sz : Nat) (es : List Nat) : Prop := ∃ (vs : List Value) (ca oa ml ar cap m : Nat) (A0 B0 : Nat → Int32), hc h P = some (.inr (4, vs)) ∧ vs[9]? = some (.ref ca) ∧ vs[10]? = some (.ref oa) ∧ vs[11]? = some (.int (Int32.ofNat sz)) ∧ vs[2]? = some (.ref ml) ∧ hc h ca = some (iaA m A0) ∧ hc h oa = some (iaA m B0) ∧ sz ≤ m ∧ m ≤ 100000 ∧ sz ≤ 9000 ∧ (∀ i, i < sz → A i = A0 i ∧ B i = B0 i) ∧ (∀ i, sz ≤ i → A i = 99) ∧ aL h ml ar cap es ∧ ¬ Z P ∧ ¬ Z ca ∧ ¬ Z oa ∧ ¬ Z ml ∧ ¬ Z ar
section COD
variable {L : Nat} {xs : Nat → Int32} {zf : Value} {w k : Nat} {cd : Value} {n : Nat} {sg : cS} {Z : Nat → Prop} {hB h : rm_H} {P sz i : Nat} {A B : Nat → Int32} {es : List Nat}
theorem cb_k (cb : CB hB Z P A B sz es) (q : RH cd n sg Z hB h) : CB h Z P A B sz es := by
  obtain ⟨vs, ca, oa, ml, ar, cap, m, A0, B0, h1, h2, h3, h4, h5, h6, h7, h8, h9, h10, h11, h12, h13, z1, z2, z3, z4, z5⟩ := cb
  refine ⟨vs, ca, oa, ml, ar, cap, m, A0, B0, fr_old q.1 h1 z1, h2, h3, h4, h5, fr_old q.1 h6 z2, fr_old q.1 h7 z3, h8, h9, h10, h11, h12, ?_, z1, z2, z3, z4, z5⟩
  obtain ⟨mc, e1, e2, e3, e4⟩ := h13
  refine ⟨mc, fr_old q.1 e1 z4, e2, e3, ?_⟩
  rcases e4 with e | ⟨f, f1, f2⟩
  · exact Or.inl e
  · exact Or.inr ⟨f, fr_old q.1 f1 z5, f2⟩
theorem k_code (cb : CB h Z P A B sz es) (hi : A i ≠ 99) : dM L xs zf w (k + 1) 248 [.ref P, .int (Int32.ofNat i)] h = some (some (.int (A i)), h) := by
  obtain ⟨vs, ca, oa, ml, ar, cap, m, A0, B0, h1, h2, h3, h4, h5, h6, h7, h8, h9, h10, h11, h12, _⟩ := cb
  have his : i < sz := by
    by_cases c : i < sz
    · exact c
    · exact absurd (h12 i (by omega)) hi
  rw [e248]
  show b248_0 L xs zf (dM L xs zf w k) w (some P) (Int32.ofNat i) h = _
  unfold b248_0
  refine ifn (by rw [f1_lt, of_int (by omega)]; exact fun z => absurd (of_decide_eq_true z) (by omega)) ?_
  refine bse (hc_gI h1 h4 rfl) ?_
  refine ift (by rw [f2_lt, of_int (by omega), of_int (by omega)]; exact decide_eq_true (by omega)) ?_
  refine bse (hc_gR (p := some ca) h1 h2 rfl) ?_
  refine bse (rI_at h6 (by omega) h9) ?_
  rw [← (h11 i his).1]
  rfl
theorem k_oper (cb : CB h Z P A B sz es) (hi : A i ≠ 99) : dM L xs zf w (k + 1) 249 [.ref P, .int (Int32.ofNat i)] h = some (some (.int (B i)), h) := by
  obtain ⟨vs, ca, oa, ml, ar, cap, m, A0, B0, h1, h2, h3, h4, h5, h6, h7, h8, h9, h10, h11, h12, _⟩ := cb
  have his : i < sz := by
    by_cases c : i < sz
    · exact c
    · exact absurd (h12 i (by omega)) hi
  rw [e249]
  show b249_0 L xs zf (dM L xs zf w k) w (some P) (Int32.ofNat i) h = _
  unfold b249_0
  refine ifn (by rw [f1_lt, of_int (by omega)]; exact fun z => absurd (of_decide_eq_true z) (by omega)) ?_
  refine bse (hc_gI h1 h4 rfl) ?_
  refine ift (by rw [f2_lt, of_int (by omega), of_int (by omega)]; exact decide_eq_true (by omega)) ?_
  refine bse (hc_gR (p := some oa) h1 h3 rfl) ?_
  refine bse (rI_at h7 (by omega) h9) ?_
  rw [← (h11 i his).2]
  rfl
theorem cb_lt (cb : CB h Z P A B sz es) (hi : A i ≠ 99) : i < sz ∧ sz ≤ 9000 := by
  obtain ⟨vs, ca, oa, ml, ar, cap, m, A0, B0, h1, h2, h3, h4, h5, h6, h7, h8, h9, h10, h11, h12, _⟩ := cb
  refine ⟨?_, h10⟩
  by_cases c : i < sz
  · exact c
  · exact absurd (h12 i (by omega)) hi
theorem cb_P (cb : CB h Z P A B sz es) : ∃ vs, hc h P = some (.inr (4, vs)) ∧ vs[11]? = some (.int (Int32.ofNat sz)) := by
  obtain ⟨vs, ca, oa, ml, ar, cap, m, A0, B0, h1, h2, h3, h4, _⟩ := cb
  exact ⟨vs, h1, h4⟩
theorem k_pass1 {cnt N : Nat} (cb : CB h Z P A B sz es) (hi : A i ≠ 99) (h20 : A i ≠ 20) : b247_4 L xs zf (dM L xs zf w (k + 1)) w (N + 1) (some P) (Int32.ofNat i) (Int32.ofNat cnt) h = some (some (.int (Int32.ofNat i)), h) := by
  obtain ⟨vs, p1, p2⟩ := cb_P cb
  show (dgI L xs h 11 [4] (some P)).bind _ = _
  refine bse (hc_gI p1 p2 rfl) ?_
  by_cases c : mx_f2 .ge (Int32.ofNat cnt) (Int32.ofNat sz) = true
  · exact ift c rfl
  · refine ifn c ?_
    refine bse (a := (A i, h)) ?_ ?_
    · rw [dcV_of (hc_ge p1) (hc_at p1) rfl, k_code cb hi]
      rfl
    · exact ift (ne_t h20) rfl
theorem k_pass_l (cb : CB h Z P A B sz es) (hi : A i ≠ 99) : ∀ (m b cnt N : Nat), PJ A B m b i → cnt ≤ b → sz + 3 ≤ N + b → b247_4 L xs zf (dM L xs zf w (k + 1)) w N (some P) (Int32.ofNat b) (Int32.ofNat cnt) h = some (some (.int (Int32.ofNat i)), h) := by
  intro m
  induction m with
  | zero =>
    intro b cnt N pj hb hN
    obtain ⟨p1, p2⟩ := pj
    subst p2
    have := cb_lt cb hi
    obtain ⟨N', rfl⟩ : ∃ N', N = N' + 1 := ⟨N - 1, by omega⟩
    exact k_pass1 cb hi p1
  | succ m ih =>
    intro b cnt N pj hb hN
    rcases pj with ⟨p1, p2⟩ | ⟨p1, b2, p2, p3⟩
    · subst p2
      have := cb_lt cb hi
      obtain ⟨N', rfl⟩ : ∃ N', N = N' + 1 := ⟨N - 1, by omega⟩
      exact k_pass1 cb hi p1
    · have b99 : A b ≠ 99 := by rw [p1]; decide
      have hbl := cb_lt cb b99
      obtain ⟨N', rfl⟩ : ∃ N', N = N' + 1 := ⟨N - 1, by omega⟩
      obtain ⟨vs, v1, v2⟩ := cb_P cb
      have go : b247_4 L xs zf (dM L xs zf w (k + 1)) w N' (some P) (Int32.ofNat b2) (Int32.ofNat (cnt + 1)) h = some (some (.int (Int32.ofNat i)), h) := by
        rcases p3 with ⟨q1, q2⟩ | ⟨q1, q2⟩
        · exact ih b2 (cnt + 1) N' q2 (by omega) (by omega)
        · subst q2
          obtain ⟨N2, rfl⟩ : ∃ N2, N' = N2 + 1 := ⟨N' - 1, by omega⟩
          exact k_pass1 cb hi q1
      show (dgI L xs h 11 [4] (some P)).bind _ = _
      refine bse (hc_gI v1 v2 rfl) ?_
      refine ifn (by rw [f2_ge, of_int (by omega), of_int (by omega)]; exact fun z => absurd (of_decide_eq_true z) (by omega)) ?_
      refine bse (a := (A b, h)) ?_ ?_
      · rw [dcV_of (hc_ge v1) (hc_at v1) rfl, k_code cb b99]
        rfl
      refine ifn (ne_f p1) ?_
      refine bse (a := (B b, h)) ?_ ?_
      · show ((dcV L xs (dM L xs zf w (k + 1)) 249 [4] (some P) [.int (Int32.ofNat b)] h).bind dxI) = _
        rw [dcV_of (hc_ge v1) (hc_at v1) rfl, k_oper cb b99]
        rfl
      · show b247_4 L xs zf (dM L xs zf w (k + 1)) w N' (some P) (B b) (Int32.ofNat cnt + 1) h = _
        rw [p2, of_inc]
        exact go
theorem k_pass {m b : Nat} (cb : CB h Z P A B sz es) (hi : A i ≠ 99) (pj : PJ A B m b i) (hw : 9010 ≤ w) : dM L xs zf w (k + 2) 247 [.ref P, .int (Int32.ofNat b)] h = some (some (.int (Int32.ofNat i)), h) := by
  have := cb_lt cb hi
  rw [e247]
  exact k_pass_l cb hi m b 0 w pj (by omega) (by omega)
theorem k_meth {M : Nat} (cb : CB h Z P A B sz es) (hM : es[i]? = some M) (hf : ∃ fs, hc h M = some (.inr (11, fs))) (hi : i < 1000) : dM L xs zf w (k + 4) 240 [.ref P, .int (Int32.ofNat i)] h = some (some (.ref M), h) := by
  obtain ⟨vs, ca, oa, ml, ar, cap, m, A0, B0, h1, h2, h3, h4, h5, h6, h7, h8, h9, h10, h11, h12, h13, _⟩ := cb
  have hlt := (List.getElem?_eq_some_iff.mp hM).1
  have h13' := h13
  obtain ⟨mc, e1, e2, e3, e4⟩ := h13
  obtain ⟨fs, ef⟩ := hf
  rw [e240]
  show b240_0 L xs zf (dM L xs zf w (k + 3)) w (some P) (Int32.ofNat i) h = _
  unfold b240_0
  refine ifn (by rw [f1_lt, of_int (by omega)]; exact fun z => absurd (of_decide_eq_true z) (by omega)) ?_
  refine bse (hc_gR (p := some ml) h1 h5 rfl) ?_
  refine bse (a := (Int32.ofNat es.length, h)) ?_ ?_
  · rw [dcV_of (hc_ge e1) (hc_at e1) rfl, al_size h13']
    rfl
  refine ift (by rw [f2_lt, of_int (by omega), of_int (by omega)]; exact decide_eq_true (by omega)) ?_
  refine bse (hc_gR (p := some ml) h1 h5 rfl) ?_
  refine bse (a := (some M, h)) ?_ ?_
  · show ((dcV L xs (dM L xs zf w (k + 3)) 146 [5] (some ml) [.int (Int32.ofNat i)] h).bind dxR) = _
    rw [dcV_of (hc_ge e1) (hc_at e1) rfl, al_get h13' i hM]
    rfl
  · show (if dcK L xs h [11] (some M) = false then none else _) = _
    rw [if_neg (by unfold dcK; dsimp only; unfold rm_cis; rw [hc_look ef]; show ¬ ([11].contains 11) = false; decide)]
    rfl
end COD
