/-! WORDS OUT OF THE TEXT: a part of a String; a word's code; a number; new Nodes and Decls. -/
section WD
variable {L : Nat} {xs : Nat → Int32} {zf : Value} {w k : Nat} {h h1 : rm_H}
/-- Strings stay -/
theorem sT_fr {P : Nat → Prop} {t n : Nat} {g : Nat → Int32} (a : fr P h h1) (hT : sT L xs h t n g) : sT L xs h1 t n g := by
  obtain ⟨ci, b, fs, f, hci, e1, e2, e3, e4, e5, e6⟩ := hT
  have look : ∀ p c, rm_look 21 (ah_O L xs) h p = some c → (∀ x, hc h p = some x → x = c → hc h1 p = some c) → rm_look 21 (ah_O L xs) h1 p = some c := by
    intro p c e g
    by_cases hp : 21 ≤ p
    · rw [rs_look hp] at e
      exact hc_look (g c (hc_of hp e) rfl)
    · unfold rm_look at e ⊢
      rw [if_pos (by omega)] at e ⊢
      exact e
  refine ⟨ci, b, fs, f, hci, look t _ e1 ?_, e2, e3, look b _ e4 ?_, e5, e6⟩
  · intro x ex z
    subst z
    obtain ⟨fs2, e7, e8⟩ := a.2.2.1 t ci fs ex
    have : ci = 7 ∨ ci = 16 := by
      have := List.contains_iff_mem.mp hci
      simpa using this
    rw [e8 this] at e7
    exact e7
  · intro x ex z
    subst z
    exact fr_by a ex
/-- a String whose bytes are bytes -/
def sTb (L : Nat) (xs : Nat → Int32) (h : rm_H) (t n : Nat) (g : Nat → Int32) : Prop := ∃ (ci a : Nat) (fs : List Value) (f : Nat → Int32), [7, 16].contains ci = true ∧ rm_look 21 (ah_O L xs) h t = some (.inr (ci, fs)) ∧ fs[0]? = some (.ref a) ∧ fs[1]? = some (.int 0) ∧ rm_look 21 (ah_O L xs) h a = some (.inl (1, n, .inl f)) ∧ n ≤ 10000 ∧ (∀ i, i < n → f i &&& 255 = g i) ∧ ∀ i, i < n → fits .byte (.int (f i)) = true
theorem sTb_fr {P : Nat → Prop} {t n : Nat} {g : Nat → Int32} (a : fr P h h1) (hT : sTb L xs h t n g) : sTb L xs h1 t n g := by
  obtain ⟨ci, b, fs, f, hci, e1, e2, e3, e4, e5, e6, e7⟩ := hT
  have look : ∀ p c, rm_look 21 (ah_O L xs) h p = some c → (∀ x, hc h p = some x → x = c → hc h1 p = some c) → rm_look 21 (ah_O L xs) h1 p = some c := by
    intro p c e g
    by_cases hp : 21 ≤ p
    · rw [rs_look hp] at e
      exact hc_look (g c (hc_of hp e) rfl)
    · unfold rm_look at e ⊢
      rw [if_pos (by omega)] at e ⊢
      exact e
  refine ⟨ci, b, fs, f, hci, look t _ e1 ?_, e2, e3, look b _ e4 ?_, e5, e6, e7⟩
  · intro x ex z
    subst z
    obtain ⟨fs2, e7, e8⟩ := a.2.2.1 t ci fs ex
    have : ci = 7 ∨ ci = 16 := by
      have := List.contains_iff_mem.mp hci
      simpa using this
    rw [e8 this] at e7
    exact e7
  · intro x ex z
    subst z
    exact fr_by a ex
/-- the String at place q is a word with code c -/
def nS (L : Nat) (xs : Nat → Int32) (h : rm_H) (q : Nat) (c : Int64) : Prop := ∃ (n : Nat) (g : Nat → Int32), sTb L xs h q n g ∧ n ≤ 8 ∧ chs g 0 n ∧ c = rcC g n 0 0
theorem nS_fr {P : Nat → Prop} {q : Nat} {c : Int64} (a : fr P h h1) (hN : nS L xs h q c) : nS L xs h1 q c := by
  obtain ⟨n, g, e1, e2⟩ := hN
  exact ⟨n, g, sTb_fr a e1, e2⟩
theorem rcC_sh (g g2 : Nat → Int32) : ∀ (f i j : Nat) (c : Int64), (∀ x, x < f → g (i + x) = g2 (j + x)) → rcC g f i c = rcC g2 f j c := by
  intro f
  induction f with
  | zero => intro i j c _; rfl
  | succ f ih =>
    intro i j c e
    rw [rcC, rcC, show g i = g2 j from e 0 (by omega)]
    exact ih (i + 1) (j + 1) _ (fun x hx => by
      have := e (x + 1) (by omega)
      rw [show i + (x + 1) = i + 1 + x from by omega, show j + (x + 1) = j + 1 + x from by omega] at this
      exact this)
/-- bytes b to e of an array of n bytes, copied; not all of them -/
theorem cr_of {a n b e : Nat} {f : Nat → Int32} (ea : hc h a = some (byA n f)) (hf : ∀ i, fits .byte (.int (f i)) = true) (hbe : b ≤ e) (hen : e ≤ n) (hn : n ≤ 10000) (hne : ¬ (b = 0 ∧ e = n)) : dM L xs zf w (k + 3) 52 [.ref a, .int (Int32.ofNat b), .int (Int32.ofNat e)] h = some (some (.ref (21 + h.length)), h ++ [byA (e - b) (va_cpy f (fun _ => 0) b 0 (e - b))]) := by
  have s53 : dM L xs zf w (k + 2) 53 [.ref a, .int (Int32.ofNat b), .int (Int32.ofNat e)] h = some (some (.ref (21 + h.length)), h ++ [byA (e - b) (va_cpy f (fun _ => 0) b 0 (e - b))]) := by
    rw [e53]
    show b53_0 L xs zf (dM L xs zf w (k + 1)) w (some a) (Int32.ofNat b) (Int32.ofNat e) h = _
    unfold b53_0
    have c54 : dM L xs zf w (k + 1) 54 [.int (Int32.ofNat b), .int (Int32.ofNat e)] h = some (none, h) := by
      rw [e54]
      show b54_0 L xs zf (dM L xs zf w k) w (Int32.ofNat b) (Int32.ofNat e) h = _
      unfold b54_0
      exact ift (by rw [f2_ge, of_int (by omega), of_int (by omega)]; simp; omega) rfl
    have sub1 : Int32.ofNat e - Int32.ofNat b = Int32.ofNat (e - b) := by
      apply i32_of
      rw [of_sub (by omega) (by omega), of_int (by omega)]
      omega
    have sub2 : Int32.ofNat n - Int32.ofNat b = Int32.ofNat (n - b) := by
      apply i32_of
      rw [of_sub (by omega) (by omega), of_int (by omega)]
      omega
    refine bse (a := h) (bse c54 rfl) ?_
    rw [sub1]
    refine bse (a := h ++ [byA (e - b) (fun _ => 0)]) ?_ ?_
    · unfold dnI
      rw [of_clamp (by omega), if_pos]
      refine ⟨?_, by omega⟩
      rw [Int32.lt_iff_toInt_lt, of_int (by omega), i0]
      omega
    refine bse (hc_aN (hc_up ea) (by decide)) ?_
    rw [sub2]
    refine bse (a := (Int32.ofNat (e - b), h ++ [byA (e - b) (fun _ => 0)])) ?_ ?_
    · have mn : dM L xs zf w (k + 1) 21 [.int (Int32.ofNat (n - b)), .int (Int32.ofNat (e - b))] (h ++ [byA (e - b) (fun _ => 0)]) = some (some (.int (Int32.ofNat (e - b))), h ++ [byA (e - b) (fun _ => 0)]) := by
        by_cases q : e = n
        · subst q
          exact mx_min _ _ (Nat.le_refl _) (by omega) _
        · rw [e21]
          show b21_0 L xs zf (dM L xs zf w k) w (Int32.ofNat (n - b)) (Int32.ofNat (e - b)) _ = _
          unfold b21_0
          exact ift (by rw [f2_gt, of_int (by omega), of_int (by omega)]; simp; omega) rfl
      rw [mn]
      rfl
    refine bse (a := h ++ [byA (e - b) (va_cpy f (fun _ => 0) b 0 (e - b))]) ?_ rfl
    unfold dcpy
    dsimp only
    have c0 : ¬ (0 : Int32) < 0 := by decide
    have cb : ¬ Int32.ofNat b < 0 := by rw [Int32.lt_iff_toInt_lt, of_int (by omega), i0]; omega
    have ce : ¬ Int32.ofNat (e - b) < 0 := by rw [Int32.lt_iff_toInt_lt, of_int (by omega), i0]; omega
    rw [if_pos ⟨by omega, cb, c0, ce⟩, show 21 + h.length - 21 = h.length from by omega, cat_last, cat_old (hc_at ea)]
    dsimp only
    rw [of_clamp (by omega), of_clamp (by omega), show (0 : Int32).toNatClampNeg = 0 from by decide]
    refine (if_pos ⟨hc_ge ea, rfl, Or.inr ⟨rfl, ?_⟩, by omega, by omega⟩).trans ?_
    · rw [List.set_append_right _ _ (Nat.le_refl _), Nat.sub_self]
      rfl
    · unfold rm_fa
      rw [List.all_eq_true]
      intro i _
      exact hf _
  rw [e52]
  show b52_0 L xs zf (dM L xs zf w (k + 2)) w (some a) (Int32.ofNat b) (Int32.ofNat e) h = _
  unfold b52_0
  have fin : b52_10 L xs zf (dM L xs zf w (k + 2)) w (some a) (Int32.ofNat b) (Int32.ofNat e) h = some (some (.ref (21 + h.length)), h ++ [byA (e - b) (va_cpy f (fun _ => 0) b 0 (e - b))]) := by
    unfold b52_10
    exact bse (a := (some (21 + h.length), h ++ [byA (e - b) (va_cpy f (fun _ => 0) b 0 (e - b))])) (by
      show (dM L xs zf w (k + 2) 53 [.ref a, .int (Int32.ofNat b), .int (Int32.ofNat e)] h).bind dxR = _
      rw [s53]
      rfl) rfl
  by_cases hb : b = 0
  · subst hb
    refine ifn (by decide) ?_
    refine bse (hc_aN ea (by decide)) ?_
    refine ifn ?_ fin
    show ¬ decide (Int32.ofNat e = Int32.ofNat n) = true
    intro z
    have z2 := congrArg Int32.toInt (of_decide_eq_true z)
    rw [of_int (by omega), of_int (by omega)] at z2
    omega
  · refine ift ?_ fin
    rw [f1_ne]
    apply decide_eq_true
    intro z
    have z2 := congrArg Int32.toInt z
    rw [of_int (by omega), i0] at z2
    omega
/-- a part of a String that is not all of it, and not empty -/
theorem ss_of {t a n b e : Nat} {f : Nat → Int32} {x y : Int32} (et : hc h t = some (.inr (7, [.ref a, .int 0, .int x, .int y]))) (ea : hc h a = some (byA n f)) (hf : ∀ i, fits .byte (.int (f i)) = true) (hbe : b < e) (hen : e ≤ n) (hn : n ≤ 10000) : ∃ q h', dM L xs zf w (k + 6) 97 [.ref t, .int (Int32.ofNat b), .int (Int32.ofNat e)] h = some (some (.ref q), h') ∧ sTb L xs h' q (e - b) (fun i => f (b + i) &&& 255) ∧ fr (fun _ => False) h h' ∧ (uA h → uA h') ∧ (h'.length ≤ h.length + 2 ∧ nD h h') ∧ zh h' ≤ zh h + 4 + (e - b) := by
  have hT : sT L xs h t n (fun i => f i &&& 255) := ⟨7, a, _, f, by decide, hc_look et, rfl, rfl, hc_look ea, hn, fun _ _ => rfl⟩
  have c83 : dM L xs zf w (k + 5) 83 [.int (Int32.ofNat b), .int (Int32.ofNat e), .int (Int32.ofNat n)] h = some (none, h) := by
    rw [e83]
    show b83_0 L xs zf (dM L xs zf w (k + 4)) w (Int32.ofNat b) (Int32.ofNat e) (Int32.ofNat n) h = _
    unfold b83_0
    refine bse (a := (Int32.ofNat b, h)) ?_ rfl
    rw [e84]
    refine bse (a := (some (.int (Int32.ofNat b)), h)) ?_ rfl
    show b84_0 L xs zf (dM L xs zf w (k + 3)) w (Int32.ofNat b) (Int32.ofNat e) (Int32.ofNat n) h = _
    unfold b84_0
    refine ifn (by rw [f1_lt, of_int (by omega)]; simp) ?_
    refine ifn (by rw [f2_gt, of_int (by omega), of_int (by omega)]; simp; omega) ?_
    exact ift (by rw [f2_le, of_int (by omega), of_int (by omega)]; simp; omega) rfl
  have head : ∀ r, (if mx_f1 .ne (Int32.ofNat b) = true then b97_22 L xs zf (dM L xs zf w (k + 5)) w (some t) (Int32.ofNat b) (Int32.ofNat e) h else if mx_f2 .ne (Int32.ofNat e) (Int32.ofNat n) = true then b97_22 L xs zf (dM L xs zf w (k + 5)) w (some t) (Int32.ofNat b) (Int32.ofNat e) h else some (some (va_rf (some t)), h)) = r → dM L xs zf w (k + 6) 97 [.ref t, .int (Int32.ofNat b), .int (Int32.ofNat e)] h = r := by
    intro r hr
    rw [e97]
    show b97_0 L xs zf (dM L xs zf w (k + 5)) w (some t) (Int32.ofNat b) (Int32.ofNat e) h = _
    unfold b97_0
    rw [hc_v et (by decide), st_len (k := k + 3) hT]
    show ((dM L xs zf w (k + 5) 83 [.int (Int32.ofNat b), .int (Int32.ofNat e), .int (Int32.ofNat n)] h).bind dxV).bind _ = _
    rw [c83]
    exact hr
  by_cases hw : b = 0 ∧ e = n
  · obtain ⟨rfl, rfl⟩ := hw
    refine ⟨t, h, head _ ?_, ?_, fr_refl _ _, id, ⟨by omega, nD_0 rfl⟩, by omega⟩
    · rw [if_neg (by decide), if_neg (by rw [f2_ne]; simp)]
      rfl
    · rw [Nat.sub_zero]
      exact ⟨7, a, _, f, by decide, hc_look et, rfl, rfl, hc_look ea, hn, fun i hi => by show f i &&& 255 = f (0 + i) &&& 255; rw [Nat.zero_add], fun i _ => hf i⟩
  · have s98 : dM L xs zf w (k + 5) 98 [.ref a, .int (Int32.ofNat b), .int (Int32.ofNat (e - b))] h = some (some (.ref (21 + h.length)), (h ++ [.inr (7, [.ref (22 + h.length), .int 0, .int 0, .int 0])]) ++ [byA (e - b) (va_cpy f (fun _ => 0) b 0 (e - b))]) := by
      rw [e98]
      show b98_0 L xs zf (dM L xs zf w (k + 4)) w (some a) (Int32.ofNat b) (Int32.ofNat (e - b)) h = _
      unfold b98_0
      refine ift ?_ ?_
      · rw [f1_ne]
        apply decide_eq_true
        intro z
        have z2 := congrArg Int32.toInt z
        rw [of_int (by omega), i0] at z2
        omega
      refine bse rfl ?_
      rw [of_add, show b + (e - b) = e from by omega]
      refine bse (a := (some (22 + h.length), (h ++ [.inr (7, ah_DV 7)]) ++ [byA (e - b) (va_cpy f (fun _ => 0) b 0 (e - b))])) ?_ ?_
      · have := cr_of (L := L) (xs := xs) (zf := zf) (w := w) (k := k + 1) (h := h ++ [.inr (7, ah_DV 7)]) (hc_up ea) hf (by omega) hen hn hw
        show (dM L xs zf w (k + 4) 52 [.ref a, .int (Int32.ofNat b), .int (Int32.ofNat e)] (h ++ [.inr (7, ah_DV 7)])).bind dxR = _
        rw [this, List.length_append]
        show some (some (21 + (h.length + 1)), _) = _
        rw [show 21 + (h.length + 1) = 22 + h.length from by omega]
      · refine bse (a := (h ++ [.inr (7, [.ref (22 + h.length), .int 0, .int 0, .int 0])]) ++ [byA (e - b) (va_cpy f (fun _ => 0) b 0 (e - b))]) ?_ rfl
        show (dM L xs zf w (k + 4) 99 [.ref (21 + h.length), .ref (22 + h.length), .int 0] _).bind dxV = _
        rw [e99]
        refine bse (a := (none, _)) ?_ rfl
        show b99_0 L xs zf (dM L xs zf w (k + 3)) w (some (21 + h.length)) (some (22 + h.length)) 0 _ = _
        unfold b99_0
        refine ifn (dnl_s _) ?_
        have c1 : hc ((h ++ [.inr (7, ah_DV 7)]) ++ [byA (e - b) (va_cpy f (fun _ => 0) b 0 (e - b))]) (21 + h.length) = some (.inr (7, ah_DV 7)) := hc_up (hc_new _)
        refine bse (pF_eq c1 (u := .null) rfl (by decide) rfl) ?_
        refine bse (pF_eq (hc_set c1) (u := .int 0) rfl (by decide) rfl) ?_
        rw [List.set_set, show 21 + h.length - 21 = h.length from by omega, List.set_append_left _ _ (by simp), List.set_append_right _ _ (Nat.le_refl _), Nat.sub_self]
        rfl
    have fin : b97_22 L xs zf (dM L xs zf w (k + 5)) w (some t) (Int32.ofNat b) (Int32.ofNat e) h = some (some (.ref (21 + h.length)), (h ++ [.inr (7, [.ref (22 + h.length), .int 0, .int 0, .int 0])]) ++ [byA (e - b) (va_cpy f (fun _ => 0) b 0 (e - b))]) := by
      unfold b97_22
      refine bse (a := ((1 : Int32), h)) ?_ ?_
      · rw [hc_v et (by decide), e64]
        show (b64_0 L xs zf (dM L xs zf w (k + 4)) w (some t) h).bind dxI = _
        unfold b64_0
        rw [if_neg (by decide)]
        exact bse (a := (some (.int 1), h)) (bse (hc_gI et rfl (by decide)) (ifn (by decide) rfl)) rfl
      · refine ifn (show ¬ mx_f1 .eq 1 = true from by decide) ?_
        refine bse (hc_gR (p := some a) et rfl (by decide)) ?_
        have sub1 : Int32.ofNat e - Int32.ofNat b = Int32.ofNat (e - b) := by
          apply i32_of
          rw [of_sub (by omega) (by omega), of_int (by omega)]
          omega
        rw [sub1]
        refine bse (a := (some (21 + h.length), _)) ?_ rfl
        show (dM L xs zf w (k + 5) 98 [.ref a, .int (Int32.ofNat b), .int (Int32.ofNat (e - b))] h).bind dxR = _
        rw [s98]
        rfl
    refine ⟨21 + h.length, (h ++ [.inr (7, [.ref (22 + h.length), .int 0, .int 0, .int 0])]) ++ [byA (e - b) (va_cpy f (fun _ => 0) b 0 (e - b))], head _ ?_, ?_, ?_, fun u => uA_ap (Or.inl (fun fs z => by cases z)) (uA_ap (Or.inl (fun fs z => by cases z)) u), ⟨by simp, nD_trans (nD_ap (fun _ z => by cases z)) (fr_app (fun _ => False) _) (nD_ap (fun _ z => by cases z))⟩, ?_⟩
    · by_cases hb : b = 0
      · rw [if_neg (by rw [hb]; decide), if_pos ?_]
        · exact fin
        · rw [f2_ne]
          apply decide_eq_true
          intro z
          have z2 := congrArg Int32.toInt z
          rw [of_int (by omega), of_int (by omega)] at z2
          omega
      · rw [if_pos ?_]
        · exact fin
        · rw [f1_ne]
          apply decide_eq_true
          intro z
          have z2 := congrArg Int32.toInt z
          rw [of_int (by omega), i0] at z2
          omega
    · have c2 : hc ((h ++ [.inr (7, [.ref (22 + h.length), .int 0, .int 0, .int 0])]) ++ [byA (e - b) (va_cpy f (fun _ => 0) b 0 (e - b))]) (22 + h.length) = some (byA (e - b) (va_cpy f (fun _ => 0) b 0 (e - b))) := by
        refine (congrArg (hc _) (?_ : 22 + h.length = 21 + (h ++ [Sum.inr (7, [.ref (22 + h.length), .int 0, .int 0, .int 0])] : rm_H).length)).trans (hc_new _)
        rw [List.length_append]
        show 22 + h.length = 21 + (h.length + 1)
        omega
      refine ⟨7, 22 + h.length, _, _, by decide, hc_look (hc_up (hc_new _)), rfl, rfl, hc_look c2, by omega, fun i hi => ?_, fun i hi => ?_⟩
      · unfold va_cpy
        rw [if_pos (by omega), Nat.sub_zero]
      · unfold va_cpy
        rw [if_pos (by omega)]
        exact hf _
    · exact fr_trans (fr_app _ _) (fr_app _ _) (fun _ _ z => z)
    · rw [zh_app, zh_app]
      show zh h + 4 + (e - b) ≤ _
      omega
/-- a new Node -/
theorem nd_new (wh pl : Int32) : dM L xs zf w (k + 1) 120 [.ref (21 + h.length), .int wh, .int pl] (h ++ [.inr (12, ah_DV 12)]) = some (none, h ++ [.inr (12, [.int wh, .int pl, .ref 9, .int pl, .int 0, .null, .null, .null, .null, .null, .null, .null, .int 0])]) := by
  rw [e120]
  show b120_0 L xs zf (dM L xs zf w k) w (some (21 + h.length)) wh pl _ = _
  unfold b120_0
  refine ifn (dnl_s _) ?_
  refine bse (pF_last (u := .int 0) rfl (by decide) rfl) ?_
  refine bse (pF_last (u := .int 0) rfl (by decide) rfl) ?_
  refine bse (pF_last (u := .null) rfl (by decide) rfl) ?_
  refine bse (pF_last (u := .int 0) rfl (by decide) rfl) ?_
  refine bse (pF_last (u := .int 0) rfl (by decide) rfl) ?_
  refine bse (pF_last (u := .null) rfl (by decide) rfl) ?_
  refine bse (pF_last (u := .null) rfl (by decide) rfl) ?_
  refine bse (pF_last (u := .null) rfl (by decide) rfl) ?_
  refine bse (pF_last (u := .null) rfl (by decide) rfl) ?_
  refine bse (pF_last (u := .null) rfl (by decide) rfl) ?_
  refine bse (pF_last (u := .null) rfl (by decide) rfl) ?_
  refine bse (pF_last (u := .null) rfl (by decide) rfl) ?_
  exact bse (pF_last (u := .int 0) rfl (by decide) rfl) rfl
end WD
