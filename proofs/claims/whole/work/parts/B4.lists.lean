/-! ARRAYLISTS: at place l, the elements es (places), its array at ar with room for cap (ar 5, cap 0: the first one, that is empty for all). -/
abbrev rfA (n : Nat) (f : Nat → Option Nat) : rm_E := .inl (4, n, .inr (.inr (.inr (.inr f))))
def aL (h : rm_H) (l ar cap : Nat) (es : List Nat) : Prop := ∃ (mc : Int32), hc h l = some (.inr (5, [.ref ar, .int (Int32.ofNat es.length), .int mc])) ∧ es.length ≤ 100000 ∧ cap ≤ 2 * es.length + 10 ∧ ((ar = 5 ∧ cap = 0 ∧ es = []) ∨ ∃ f, hc h ar = some (rfA cap f) ∧ es.length ≤ cap ∧ 10 ≤ cap ∧ ∀ i, f i = es[i]?)
/-- objects that may stand in a list -/
def oK (h : rm_H) (x : Nat) : Prop := ∃ ci fs, hc h x = some (.inr (ci, fs)) ∧ (ci = 9 ∨ ci = 10 ∨ ci = 11 ∨ ci = 12)
section AL
variable {L : Nat} {xs : Nat → Int32} {zf : Value} {w k : Nat} {h h1 : rm_H}
theorem oK_fr {P : Nat → Prop} {x : Nat} (a : fr P h h1) (e : oK h x) : oK h1 x := by
  obtain ⟨ci, fs, e, hci⟩ := e
  obtain ⟨fs2, e2, _⟩ := a.2.2.1 x ci fs e
  exact ⟨ci, fs2, e2, hci⟩
theorem aL_fr {P : Nat → Prop} {l ar cap : Nat} {es : List Nat} (a : fr P h h1) (hl : ¬ P l) (har : ar ≠ 5 → ¬ P ar) (e : aL h l ar cap es) : aL h1 l ar cap es := by
  obtain ⟨mc, e1, e2, e2', e3⟩ := e
  refine ⟨mc, fr_old a e1 hl, e2, e2', ?_⟩
  rcases e3 with e3 | ⟨f, e3, e4⟩
  · exact Or.inl e3
  · exact Or.inr ⟨f, fr_old a e3 (har (by have := hc_ge e3; omega)), e4⟩
theorem aL_lt {l ar cap : Nat} {es : List Nat} (e : aL h l ar cap es) : l < 21 + h.length ∧ ar < 21 + h.length ∧ 21 ≤ l ∧ ar ≠ l := by
  obtain ⟨mc, e1, e2, e2', e3⟩ := e
  have h1 := hc_lt e1
  have h2 := hc_ge e1
  rcases e3 with ⟨e3, _⟩ | ⟨f, e3, _⟩
  · omega
  · have h3 := hc_lt e3
    refine ⟨h1, h3, h2, fun z => ?_⟩
    subst z
    rw [e1] at e3
    cases e3
theorem al_new : dM L xs zf w (k + 3) 45 [.ref (21 + h.length)] (h ++ [.inr (5, ah_DV 5)]) = some (none, h ++ [.inr (5, [.ref 5, .int 0, .int 0])]) := by
  rw [e45]
  show b45_0 L xs zf (dM L xs zf w (k + 2)) w (some (21 + h.length)) _ = _
  unfold b45_0
  have s1 : dM L xs zf w (k + 2) 46 [.ref (21 + h.length)] (h ++ [.inr (5, ah_DV 5)]) = some (none, h ++ [.inr (5, ah_DV 5)]) := by
    rw [e46]
    show b46_0 L xs zf (dM L xs zf w (k + 1)) w (some (21 + h.length)) _ = _
    unfold b46_0
    have s2 : dM L xs zf w (k + 1) 47 [.ref (21 + h.length)] (h ++ [.inr (5, ah_DV 5)]) = some (none, h ++ [.inr (5, ah_DV 5)]) := by
      rw [e47]
      show b47_0 L xs zf (dM L xs zf w k) w (some (21 + h.length)) _ = _
      unfold b47_0
      exact ifn (dnl_s _) rfl
    refine bse (a := h ++ [.inr (5, ah_DV 5)]) (bse s2 rfl) ?_
    exact bse (pF_last (u := .int 0) rfl (by decide) rfl) rfl
  refine bse (a := h ++ [.inr (5, ah_DV 5)]) (bse s1 rfl) ?_
  exact bse (pF_last (u := .null) rfl (by decide) rfl) rfl
theorem aL_nil {l : Nat} (e : hc h l = some (.inr (5, [.ref 5, .int 0, .int 0]))) : aL h l 5 0 [] := ⟨0, e, by simp, by simp, Or.inl ⟨rfl, rfl, rfl⟩⟩
theorem al_size {l ar cap : Nat} {es : List Nat} (e : aL h l ar cap es) : dM L xs zf w (k + 1) 101 [.ref l] h = some (some (.int (Int32.ofNat es.length)), h) := by
  obtain ⟨mc, e1, _⟩ := e
  rw [e101]
  show b101_0 L xs zf (dM L xs zf w k) w (some l) h = _
  unfold b101_0
  exact bse (hc_gI e1 rfl (by decide)) rfl
theorem al_v {l ar cap mi : Nat} {es : List Nat} {D : dD} {As : List Value} (e : aL h l ar cap es) : dcV L xs D mi [5] (some l) As h = D mi (.ref l :: As) h := by
  obtain ⟨mc, e1, _⟩ := e
  exact hc_v e1 (by decide)
theorem ck_ix (i n : Nat) (hi : i < n) (hn : n ≤ 1000000) (h : rm_H) : dM L xs zf w (k + 2) 147 [.int (Int32.ofNat i), .int (Int32.ofNat n)] h = some (some (.int (Int32.ofNat i)), h) := by
  rw [e147]
  show b147_0 L xs zf (dM L xs zf w (k + 1)) w (Int32.ofNat i) (Int32.ofNat n) h = _
  unfold b147_0
  refine bse (a := (Int32.ofNat i, h)) ?_ rfl
  rw [e35]
  refine bse (a := (some (.int (Int32.ofNat i)), h)) ?_ rfl
  show b35_0 L xs zf (dM L xs zf w k) w (Int32.ofNat i) (Int32.ofNat n) h = _
  unfold b35_0
  refine ifn (by rw [f1_lt, of_int (by omega)]; simp) ?_
  first
    | exact ifn (by rw [f2_ge, of_int (by omega), of_int (by omega)]; simp; omega) rfl
    | exact ift (by rw [f2_lt, of_int (by omega), of_int (by omega)]; simp; omega) rfl
theorem al_get {l ar cap : Nat} {es : List Nat} (e : aL h l ar cap es) (i : Nat) {x : Nat} (hi : es[i]? = some x) : dM L xs zf w (k + 3) 146 [.ref l, .int (Int32.ofNat i)] h = some (some (.ref x), h) := by
  have e0 := e
  obtain ⟨mc, e1, e2, e2', e3⟩ := e
  have hl : i < es.length := (List.getElem?_eq_some_iff.mp hi).1
  rw [e146]
  show b146_0 L xs zf (dM L xs zf w (k + 2)) w (some l) (Int32.ofNat i) h = _
  unfold b146_0
  refine bse (hc_gI e1 rfl (by decide)) ?_
  refine bse (a := (Int32.ofNat i, h)) (bse (ck_ix i es.length hl (by omega) h) rfl) ?_
  refine bse (a := (some x, h)) ?_ rfl
  show (dcV L xs (dM L xs zf w (k + 2)) 148 [5] (some l) [.int (Int32.ofNat i)] h).bind dxR = _
  rw [al_v e0, e148]
  refine bse (a := (some (.ref x), h)) ?_ rfl
  show b148_0 L xs zf (dM L xs zf w (k + 1)) w (some l) (Int32.ofNat i) h = _
  unfold b148_0
  rcases e3 with ⟨_, _, z⟩ | ⟨f, e3, e4, e5, e6⟩
  · rw [z] at hl
    exact absurd hl (by simp)
  · refine bse (hc_gR (p := some ar) e1 rfl (by decide)) ?_
    refine bse (aR_of e3 (by omega) (by omega)) ?_
    rw [e6 i, hi]
    rfl
theorem sR_of {a n i x ci : Nat} {f : Nat → Option Nat} {fs : List Value} (e : hc h a = some (rfA n f)) (hi : i < n) (hn : n ≤ 1000000) (ex : hc h x = some (.inr (ci, fs))) (hci : ci = 9 ∨ ci = 10 ∨ ci = 11 ∨ ci = 12) : dsR L xs h (some a) (Int32.ofNat i) (some x) = some (h.set (a - 21) (rfA n (va_up f i (some x)))) := by
  unfold dsR
  dsimp only
  rw [if_pos (hc_ge e), hc_at e, hc_look ex]
  dsimp only
  rw [if_pos ⟨by rcases hci with z | z | z | z <;> subst z <;> decide, of_in hi (by omega)⟩, of_clamp (by omega)]
theorem va_up_get (es : List Nat) (x : Nat) (f : Nat → Option Nat) (hf : ∀ i, f i = es[i]?) (i : Nat) : va_up f es.length (some x) i = (es ++ [x])[i]? := by
  unfold va_up
  by_cases hi : i = es.length
  · subst hi
    simp
  · rw [if_neg hi, hf]
    by_cases hl : i < es.length
    · rw [List.getElem?_append_left hl]
    · rw [List.getElem?_eq_none (by omega), List.getElem?_eq_none (by simp; omega)]
theorem nl_h (m : Nat) (hm : 10 ≤ m) (hm2 : m ≤ 200000) (h : rm_H) : dM L xs zf w (k + 2) 17 [.int (Int32.ofNat m), .int 1, .int (Int32.ofNat (m / 2))] h = some (some (.int (Int32.ofNat (m + m / 2))), h) := by
  rw [e17]
  show b17_0 L xs zf (dM L xs zf w (k + 1)) w (Int32.ofNat m) 1 (Int32.ofNat (m / 2)) h = _
  unfold b17_0
  rw [show (1 : Int32) = Int32.ofNat 1 from rfl]
  refine bse (a := (Int32.ofNat (m / 2), h)) (bse (mx_max 1 (m / 2) (by omega) (by omega) h) rfl) ?_
  dsimp only
  rw [of_add]
  refine ifn (by rw [f2_ge, of_int (by omega), i0]; simp; omega) ?_
  refine ifn (by rw [f2_gt, of_int (by omega), show (2147483639 : Int32).toInt = 2147483639 from by decide]; simp; omega) ?_
  rfl
theorem sh1 (m : Nat) (hm : m ≤ 1000000) : (Int32.ofNat m >>> ((1 : Int32) &&& 31)) = Int32.ofNat (m / 2) := by
  rw [show ((1 : Int32) &&& 31) = 1 from by decide]
  apply i32_of
  rw [of_int (by omega)]
  have e : (Int32.ofNat m >>> (1 : Int32)).toInt = (Int32.ofNat m).toInt >>> 1 := by
    show (BitVec.sshiftRight' (Int32.ofNat m).toBitVec ((1 : Int32).toBitVec.smod 32)).toInt = _
    rw [BitVec.toInt_sshiftRight', show ((1 : Int32).toBitVec.smod 32).toNat = 1 from by decide]
    rfl
  rw [e, of_int (by omega), Int.shiftRight_eq_div_pow]
  show (m : Int) / 2 = ((m / 2 : Nat) : Int)
  omega
theorem aN_5 (h : rm_H) : daN L xs h (some 5) = some 0 := rfl
theorem of_sub2 (m : Nat) (hm : m ≤ 1000000) : Int32.ofNat m + 1 - Int32.ofNat m = 1 := by
  rw [show Int32.ofNat m + 1 = Int32.ofNat (m + 1) from of_add m 1]
  exact of_sub1 m
theorem mx_10 (m : Nat) (hm : m = 0) (h : rm_H) : dM L xs zf w (k + 1) 18 [.int 10, .int (Int32.ofNat m + 1)] h = some (some (.int (Int32.ofNat 10)), h) := by
  subst hm
  rw [e18]
  show b18_0 L xs zf (dM L xs zf w k) w 10 (Int32.ofNat 0 + 1) h = _
  unfold b18_0
  exact ifn (by decide) rfl
theorem dnR_of {n : Nat} (hn : n ≤ 1000000) : dnR 4 (Int32.ofNat n) h = some (h ++ [rfA n (fun _ => none)]) := by
  unfold dnR
  rw [of_clamp (by omega), if_pos]
  refine ⟨?_, by omega⟩
  rw [Int32.lt_iff_toInt_lt, of_int (by omega), i0]
  omega
/-- a longer array, where there is no room for one more -/
theorem al_grow {l ar cap : Nat} {es : List Nat} {mc : Int32} (hl : hc h l = some (.inr (5, [.ref ar, .int (Int32.ofNat es.length), .int mc]))) (hn : es.length = cap) (hn2 : cap ≤ 100000) (ho : ∀ x ∈ es, oK h x) (e3 : (ar = 5 ∧ cap = 0 ∧ es = []) ∨ ∃ f, hc h ar = some (rfA cap f) ∧ es.length ≤ cap ∧ 10 ≤ cap ∧ ∀ i, f i = es[i]?) :
    ∃ h' cap' f, dM L xs zf w (k + 4) 105 [.ref l] h = some (some (.ref (21 + h.length)), h') ∧ hc h' l = some (.inr (5, [.ref (21 + h.length), .int (Int32.ofNat es.length), .int mc])) ∧ hc h' (21 + h.length) = some (rfA cap' f) ∧ (∀ i, f i = es[i]?) ∧ es.length + 1 ≤ cap' ∧ 10 ≤ cap' ∧ cap' ≤ 2 * es.length + 10 ∧ fr (fun p => p = l) h h' ∧ h'.length = h.length + 1 ∧ zh h' + 4 * cap ≤ zh h + 4 * cap' := by
  have lt := hc_lt hl
  have go : ∀ (cap' : Nat) (f : Nat → Option Nat), es.length + 1 ≤ cap' → 10 ≤ cap' → cap' ≤ 2 * es.length + 10 → cap' + 4 * cap ≤ 4 * cap' → (∀ i, f i = es[i]?) → (∀ z, dpF (h ++ [rfA cap' f]) 0 [5] (some l) (va_rf (some (21 + h.length))) = some z → b106_0 L xs zf (dM L xs zf w (k + 2)) w (some l) (Int32.ofNat es.length + 1) h = some (some (.ref (21 + h.length)), z)) →
      ∃ h' cap' f, dM L xs zf w (k + 4) 105 [.ref l] h = some (some (.ref (21 + h.length)), h') ∧ hc h' l = some (.inr (5, [.ref (21 + h.length), .int (Int32.ofNat es.length), .int mc])) ∧ hc h' (21 + h.length) = some (rfA cap' f) ∧ (∀ i, f i = es[i]?) ∧ es.length + 1 ≤ cap' ∧ 10 ≤ cap' ∧ cap' ≤ 2 * es.length + 10 ∧ fr (fun p => p = l) h h' ∧ h'.length = h.length + 1 ∧ zh h' + 4 * cap ≤ zh h + 4 * cap' := by
    intro cap' f q1 q2 q3 q4 q5 q6
    obtain ⟨h2, a1, a2, a3⟩ := pF_ex (h := h ++ [rfA cap' f]) (j := 0) (cis := [5]) (v := va_rf (some (21 + h.length))) (hc_up (c2 := rfA cap' f) hl) rfl (by decide) rfl (by decide)
    refine ⟨h2, cap', f, ?_, a2, ?_, q5, q1, q2, q3, ?_, ?_, ?_⟩
    · rw [e105]
      show b105_0 L xs zf (dM L xs zf w (k + 3)) w (some l) h = _
      unfold b105_0
      refine bse (hc_gI hl rfl (by decide)) ?_
      refine bse (a := (some (21 + h.length), h2)) ?_ rfl
      rw [hc_v hl (by decide), e106]
      show (b106_0 L xs zf (dM L xs zf w (k + 2)) w (some l) (Int32.ofNat es.length + 1) h).bind dxR = _
      rw [q6 h2 a1]
      rfl
    · exact (st1_old a3 (hc_new _) (by omega))
    · exact fr_trans (fr_app _ _) a3.1 (fun p _ z => z)
    · rw [a3.2.1]; simp
    · rw [a3.2.2, zh_app]
      show zh h + cap' + 4 * cap ≤ _
      omega
  rcases e3 with ⟨r1, r2, r3⟩ | ⟨f, r1, r2, r3, r4⟩
  · subst r1
    subst r2
    subst r3
    refine go 10 (fun _ => none) (by simp) (by omega) (by simp) (by omega) (fun i => by simp) (fun z hz => ?_)
    unfold b106_0
    refine bse (hc_gR (p := some 5) hl rfl (by decide)) ?_
    refine bse (aN_5 h) (ifn (by decide) ?_)
    refine bse (hc_gR (p := some 5) hl rfl (by decide)) (ift (by decide) (ift (by decide) ?_))
    refine bse (a := (Int32.ofNat 10, h)) (bse (mx_10 0 rfl h) rfl) ?_
    refine bse (dnR_of (by omega)) ?_
    exact bse hz rfl
  · refine go (cap + cap / 2) (va_cpy f (fun _ => none) 0 0 cap) (by omega) (by omega) (by omega) (by omega) (fun i => ?_) (fun z hz => ?_)
    · unfold va_cpy
      by_cases hi : i < cap
      · rw [if_pos (by omega), show 0 + (i - 0) = i from by omega]
        exact r4 i
      · rw [if_neg (by omega), List.getElem?_eq_none (by omega)]
    · unfold b106_0
      refine bse (hc_gR (p := some ar) hl rfl (by decide)) ?_
      refine bse (hc_aN r1 (by decide)) (ift (by
        show decide (0 < Int32.ofNat cap) = true
        apply decide_eq_true
        rw [Int32.lt_iff_toInt_lt, of_int (by omega), i0]
        omega) ?_)
      unfold b106_20
      rw [hn, of_sub2 cap (by omega), sh1 cap (by omega)]
      refine bse (a := (Int32.ofNat (cap + cap / 2), h)) (bse (nl_h cap r3 (by omega) h) rfl) ?_
      refine bse (hc_gR (p := some ar) hl rfl (by decide)) ?_
      refine bse (a := h ++ [rfA (cap + cap / 2) (va_cpy f (fun _ => none) 0 0 cap)]) ?_ (bse hz rfl)
      unfold dcpR
      dsimp only
      rw [of_clamp (by omega), if_pos, hc_at r1]
      · dsimp only
        refine (if_pos ⟨rfl, by omega, ?_⟩).trans rfl
        unfold rm_el
        rw [List.all_eq_true]
        intro i _
        rw [r4 i]
        cases hx : es[i]? with
        | none => rfl
        | some x =>
          obtain ⟨ci, fs, ex, hci⟩ := ho x (List.mem_of_getElem? hx)
          dsimp only
          rw [hc_look ex]
          dsimp only
          rcases hci with z | z | z | z <;> subst z <;> decide
      · refine ⟨hc_ge r1, ?_, by omega⟩
        rw [Int32.lt_iff_toInt_lt, of_int (by omega), i0]
        omega
/-- one more element -/
theorem al_add {l ar cap x : Nat} {es : List Nat} (e : aL h l ar cap es) (ho : ∀ y ∈ es, oK h y) (hx : oK h x) (hn : es.length ≤ 99000) : ∃ h' ar' cap', dM L xs zf w (k + 6) 103 [.ref l, .ref x] h = some (some (.int 1), h') ∧ aL h' l ar' cap' (es ++ [x]) ∧ ((ar' = ar ∧ h'.length = h.length) ∨ (ar' = 21 + h.length ∧ h'.length = h.length + 1)) ∧ fr (fun p => p = l ∨ p = ar) h h' ∧ zh h' + 4 * cap ≤ zh h + 4 * cap' := by
  have lt := aL_lt e
  obtain ⟨mc, e1, e2, e2', e3⟩ := e
  obtain ⟨h1, a1, a2, a3⟩ := pF_ex (j := 2) (cis := [5]) (v := .int (mc + 1)) e1 rfl (by decide) rfl (by decide)
  have a2 : hc h1 l = some (.inr (5, [.ref ar, .int (Int32.ofNat es.length), .int (mc + 1)])) := a2
  have e3' : (ar = 5 ∧ cap = 0 ∧ es = []) ∨ ∃ f, hc h1 ar = some (rfA cap f) ∧ es.length ≤ cap ∧ 10 ≤ cap ∧ ∀ i, f i = es[i]? := by
    rcases e3 with e3 | ⟨f, r1, r2⟩
    · exact Or.inl e3
    · exact Or.inr ⟨f, st1_old a3 r1 lt.2.2.2, r2⟩
  -- the store, into the array that there is then
  have fin : ∀ (h2 : rm_H) (ar' cap' : Nat) (f : Nat → Option Nat), hc h2 l = some (.inr (5, [.ref ar', .int (Int32.ofNat es.length), .int (mc + 1)])) → hc h2 ar' = some (rfA cap' f) → (∀ i, f i = es[i]?) → es.length + 1 ≤ cap' → 10 ≤ cap' → cap' ≤ 2 * es.length + 10 → oK h2 x → ∃ h3, b104_11 L xs zf (dM L xs zf w (k + 4)) w (some l) (some x) (some ar') (Int32.ofNat es.length) h2 = some (none, h3) ∧ aL h3 l ar' cap' (es ++ [x]) ∧ fr (fun p => p = l ∨ p = ar') h2 h3 ∧ h3.length = h2.length ∧ zh h3 = zh h2 := by
    intro h2 ar' cap' f g1 g2 g3 g4 g5 g6 g7
    obtain ⟨ci, fs, ex, hci⟩ := g7
    have hne : l ≠ ar' := by
      intro z
      rw [z, g2] at g1
      cases g1
    have s1 := sR_of (L := L) (xs := xs) g2 (i := es.length) (by omega) (by omega) ex hci
    have g1' : hc (h2.set (ar' - 21) (rfA cap' (va_up f es.length (some x)))) l = some (.inr (5, [.ref ar', .int (Int32.ofNat es.length), .int (mc + 1)])) := (hc_ne (hc_ge g2) hne).trans g1
    obtain ⟨h3, b1, b2, b3⟩ := pF_ex (j := 1) (cis := [5]) (v := .int (Int32.ofNat es.length + 1)) g1' rfl (by decide) rfl (by decide)
    have b2 : hc h3 l = some (.inr (5, [.ref ar', .int (Int32.ofNat es.length + 1), .int (mc + 1)])) := b2
    rw [show Int32.ofNat es.length + 1 = Int32.ofNat (es ++ [x]).length from by rw [List.length_append]; exact of_add es.length 1] at b2
    refine ⟨h3, ?_, ⟨mc + 1, b2, by rw [List.length_append]; simp; omega, by rw [List.length_append]; simp; omega, Or.inr ⟨_, st1_old b3 (hc_set g2) hne.symm, by rw [List.length_append]; simp; omega, g5, va_up_get es x f g3⟩⟩, ?_, ?_, ?_⟩
    · unfold b104_11
      exact bse s1 (bse b1 rfl)
    · exact fr_trans (fr_setA _ g2 (Or.inr rfl) (show (4 : Nat) ≠ 1 by decide)) b3.1 (fun p _ z => Or.inl z)
    · rw [b3.2.1]; simp
    · rw [b3.2.2]
      exact zh_set (by rfl) (hc_at g2)
  have h104 : ∀ z, b104_0 L xs zf (dM L xs zf w (k + 4)) w (some l) (some x) (some ar) (Int32.ofNat es.length) h1 = some (none, z) → dM L xs zf w (k + 6) 103 [.ref l, .ref x] h = some (some (.int 1), z) := by
    intro z hz
    rw [e103]
    show b103_0 L xs zf (dM L xs zf w (k + 5)) w (some l) (some x) h = _
    unfold b103_0
    refine bse (hc_gI e1 rfl (by decide)) (bse a1 ?_)
    refine bse (hc_gR (p := some ar) a2 rfl (by decide)) (bse (hc_gI a2 rfl (by decide)) ?_)
    refine bse (a := z) ?_ rfl
    rw [hc_v a2 (by decide), e104]
    exact bse (a := (none, z)) hz rfl
  have ho1 : ∀ y ∈ es, oK h1 y := fun y hy => oK_fr a3.1 (ho y hy)
  have hx1 : oK h1 x := oK_fr a3.1 hx
  have aN : daN L xs h1 (some ar) = some (Int32.ofNat cap) := by
    rcases e3' with ⟨r1, r2, r3⟩ | ⟨f, r1, r2⟩
    · rw [r1, r2]; exact aN_5 h1
    · exact hc_aN r1 (by decide)
  by_cases full : es.length = cap
  · obtain ⟨h2, cap', f, g1, g2, g3, g4, g5, g6, g7, g8, g9, g10⟩ := al_grow (L := L) (xs := xs) (zf := zf) (w := w) (k := k) a2 full (by omega) ho1 e3'
    obtain ⟨h3, c1, c2, c3, c4, c5⟩ := fin h2 (21 + h1.length) cap' f g2 g3 g4 g5 g6 g7 (oK_fr g8 hx1)
    refine ⟨h3, 21 + h1.length, cap', h104 h3 ?_, c2, Or.inr ⟨by rw [a3.2.1], by rw [c4, g9, a3.2.1]⟩, ?_, ?_⟩
    · unfold b104_0
      refine bse aN (ifn (by rw [f2_ne, full]; simp) ?_)
      refine bse (a := (some (21 + h1.length), h2)) ?_ c1
      rw [hc_v a2 (by decide), g1]
      rfl
    · refine fr_trans (fr_trans (fr_mono a3.1 (fun p _ z => Or.inl z)) g8 (fun p _ z => Or.inl z)) c3 (fun p hp z => ?_)
      rcases z with z | z
      · exact Or.inl z
      · have := a3.2.1; omega
    · rw [c5, ← a3.2.2]
      exact g10
  · rcases e3' with ⟨r1, r2, r3⟩ | ⟨f, r1, r2, r3, r4⟩
    · rw [r3] at full
      exact absurd (by rw [r2]; rfl) full
    · obtain ⟨h3, c1, c2, c3, c4, c5⟩ := fin h1 ar cap f a2 r1 r4 (by omega) r3 e2' hx1
      refine ⟨h3, ar, cap, h104 h3 ?_, c2, Or.inl ⟨rfl, by rw [c4, a3.2.1]⟩, ?_, ?_⟩
      · unfold b104_0
        refine bse aN (ift ?_ c1)
        rw [f2_ne]
        apply decide_eq_true
        intro z
        have z2 := congrArg Int32.toInt z
        rw [of_int (by omega), of_int (by omega)] at z2
        omega
      · exact fr_trans (fr_mono a3.1 (fun p _ z => Or.inl z)) c3 (fun p _ z => z)
      · rw [c5, a3.2.2]; omega
/-- lists don't share their arrays -/
def uA (h : rm_H) : Prop := (∀ (l ar : Nat) (fs : List Value), hc h l = some (.inr (5, .ref ar :: fs)) → ar < 21 + h.length) ∧ ∀ (l l2 ar : Nat) (fs fs2 : List Value), hc h l = some (.inr (5, .ref ar :: fs)) → hc h l2 = some (.inr (5, .ref ar :: fs2)) → ar = 5 ∨ l = l2
theorem uA_st {a ci : Nat} {fs : List Value} (e : hc h a = some (.inr (ci, fs))) (hci : ci ≠ 5) (s : st1 a h h1) (u : uA h) : uA h1 := by
  have old : ∀ p gs, hc h1 p = some (.inr (5, gs)) → hc h p = some (.inr (5, gs)) := by
    intro p gs z
    by_cases hp : p = a
    · subst hp
      obtain ⟨fs2, e2, _⟩ := s.1.2.2.1 p ci fs e
      rw [z] at e2
      cases e2
      exact absurd rfl hci
    · rw [← st1_ne s hp]; exact z
  exact ⟨fun l ar fs z => by rw [s.2.1]; exact u.1 l ar fs (old _ _ z), fun l l2 ar fs fs2 z z2 => u.2 l l2 ar fs fs2 (old _ _ z) (old _ _ z2)⟩
theorem uA_ap {c : rm_E} (hcc : (∀ fs, c ≠ .inr (5, fs)) ∨ c = .inr (5, [.ref 5, .int 0, .int 0])) (u : uA h) : uA (h ++ [c]) := by
  have old : ∀ (p ar : Nat) (gs : List Value), hc (h ++ [c]) p = some (.inr (5, .ref ar :: gs)) → hc h p = some (.inr (5, .ref ar :: gs)) ∨ ar = 5 := by
    intro p ar gs z
    have lt := hc_lt z
    rw [List.length_append] at lt
    have lt : p < 21 + (h.length + 1) := lt
    by_cases hp : p = 21 + h.length
    · subst hp
      rw [hc_new] at z
      rcases hcc with q | q
      · exact absurd (Option.some.inj z) (q _)
      · rw [q] at z
        cases z
        exact Or.inr rfl
    · left
      rw [← hc_app (c := c) (by omega)]
      exact z
  refine ⟨fun l ar fs z => ?_, fun l l2 ar fs fs2 z z2 => ?_⟩
  · rw [List.length_append]
    rcases old _ _ _ z with q | q
    · have := u.1 l ar fs q; omega
    · omega
  · rcases old _ _ _ z with q | q
    · rcases old _ _ _ z2 with q2 | q2
      · exact u.2 l l2 ar fs fs2 q q2
      · exact Or.inl q2
    · exact Or.inl q
theorem uA_add {l ar cap ar' cap' : Nat} {es es' : List Nat} (u : uA h) (e : aL h l ar cap es) (e' : aL h1 l ar' cap' es') (f : fr (fun p => p = l ∨ p = ar) h h1) (d : (ar' = ar ∧ h1.length = h.length) ∨ (ar' = 21 + h.length ∧ h1.length = h.length + 1)) : uA h1 := by
  have lt := aL_lt e
  have lt' := aL_lt e'
  obtain ⟨mc, e1, e2, e2', e3⟩ := e
  obtain ⟨mc', e1', f2, f2', e3'⟩ := e'
  have old : ∀ p gs, p ≠ l → hc h1 p = some (.inr (5, gs)) → hc h p = some (.inr (5, gs)) := by
    intro p gs hp z
    have zl := hc_lt z
    by_cases hl : p < 21 + h.length
    · by_cases ha : p = ar
      · subst ha
        rcases e3 with ⟨q, _⟩ | ⟨f0, q, _⟩
        · have := hc_ge z; omega
        · rcases d with ⟨d1, d2⟩ | ⟨d1, d2⟩
          · subst d1
            rcases e3' with ⟨q2, _⟩ | ⟨f1, q2, _⟩
            · have := hc_ge z; omega
            · rw [z] at q2; cases q2
          · obtain ⟨y, hy, _⟩ := f.2.2.2 p _ q
            rw [z] at hy
            cases hy
      · rw [← f.2.1 p hl (fun q => q.elim hp ha)]; exact z
    · rcases d with ⟨d1, d2⟩ | ⟨d1, d2⟩
      · omega
      · have : p = ar' := by omega
        subst this
        rcases e3' with ⟨q2, _⟩ | ⟨f1, q2, _⟩
        · omega
        · rw [z] at q2; cases q2
  have frh := f.1
  refine ⟨fun l0 a0 fs z => ?_, fun l0 l2 a0 fs fs2 z z2 => ?_⟩
  · by_cases hl : l0 = l
    · subst hl
      rw [e1'] at z
      cases z
      exact lt'.2.1
    · have := u.1 _ _ _ (old _ _ hl z)
      omega
  · by_cases hl : l0 = l
    · by_cases hl2 : l2 = l
      · exact Or.inr (hl.trans hl2.symm)
      · subst hl
        rw [e1'] at z
        cases z
        have q2 := old _ _ hl2 z2
        rcases d with ⟨d1, d2⟩ | ⟨d1, d2⟩
        · subst d1
          exact u.2 _ _ _ _ _ e1 q2
        · have := u.1 _ _ _ q2
          omega
    · by_cases hl2 : l2 = l
      · subst hl2
        rw [e1'] at z2
        cases z2
        have q2 := old _ _ hl z
        rcases d with ⟨d1, d2⟩ | ⟨d1, d2⟩
        · subst d1
          exact (u.2 _ _ _ _ _ q2 e1)
        · have := u.1 _ _ _ q2
          omega
      · exact u.2 _ _ _ _ _ (old _ _ hl z) (old _ _ hl2 z2)
/-- no Decl is made -/
def nD (h h1 : rm_H) : Prop := ∀ d fs, hc h1 d = some (.inr (10, fs)) → d < 21 + h.length
theorem nD_0 (l : h1.length = h.length) : nD h h1 := fun d fs e => by have := hc_lt e; omega
theorem nD_1 {c : rm_E} (l : h1.length ≤ h.length + 1) (e : hc h1 (21 + h.length) = some c) (hcc : ∀ fs, c ≠ .inr (10, fs)) : nD h h1 := by
  intro d fs ed
  have l1 := hc_lt ed
  by_cases hd : d = 21 + h.length
  · subst hd
    rw [e] at ed
    cases ed
    exact absurd rfl (hcc fs)
  · omega
theorem nD_ap {c : rm_E} (hcc : ∀ fs, c ≠ .inr (10, fs)) : nD h (h ++ [c]) := nD_1 (by simp) (hc_new c) hcc
/-- an object was one before -/
theorem fr_back {P : Nat → Prop} {d ci : Nat} {fs : List Value} (f : fr P h h1) (e : hc h1 d = some (.inr (ci, fs))) (hd : d < 21 + h.length) : ∃ fs1, hc h d = some (.inr (ci, fs1)) := by
  have ge := hc_ge e
  obtain ⟨c, hc0⟩ : ∃ c, hc h d = some c := ⟨h[d - 21], hc_of ge (List.getElem?_eq_getElem (by omega))⟩
  cases c with
  | inl x =>
    obtain ⟨y, e1, _⟩ := f.2.2.2 d x hc0
    rw [e1] at e
    cases e
  | inr x =>
    obtain ⟨cj, gs⟩ := x
    obtain ⟨fs2, e1, _⟩ := f.2.2.1 d cj gs hc0
    rw [e1] at e
    cases e
    exact ⟨gs, hc0⟩
theorem nD_trans {P : Nat → Prop} {h2 : rm_H} (a : nD h h1) (f : fr P h1 h2) (b : nD h1 h2) : nD h h2 := by
  intro d fs e
  obtain ⟨fs1, e1⟩ := fr_back f e (b d fs e)
  exact a d fs1 e1
theorem nD_st {a : Nat} {h2 : rm_H} (n : nD h h1) (s : st1 a h1 h2) : nD h h2 := nD_trans n s.1 (nD_0 s.2.1)
/-- but for d no Decl is made -/
def nE (d : Nat) (h h1 : rm_H) : Prop := ∀ x fs, hc h1 x = some (.inr (10, fs)) → x < 21 + h.length ∨ x = d
theorem nE_ap {c : rm_E} : nE (21 + h.length) h (h ++ [c]) := by
  intro x fs e
  have := hc_lt e
  rw [List.length_append] at this
  have l : [c].length = 1 := rfl
  omega
theorem nE_l {P : Nat → Prop} {h2 : rm_H} {d : Nat} (a : nD h h1) (f : fr P h1 h2) (b : nE d h1 h2) : nE d h h2 := by
  intro x fs e
  rcases b x fs e with z | z
  · obtain ⟨fs1, e1⟩ := fr_back f e z
    exact Or.inl (a x fs1 e1)
  · exact Or.inr z
theorem nE_r {P : Nat → Prop} {h2 : rm_H} {d : Nat} (a : nE d h h1) (f : fr P h1 h2) (b : nD h1 h2) : nE d h h2 := by
  intro x fs e
  obtain ⟨fs1, e1⟩ := fr_back f e (b x fs e)
  exact a x fs1 e1
theorem nE_st {a d : Nat} {h2 : rm_H} (n : nE d h h1) (s : st1 a h1 h2) : nE d h h2 := nE_r n s.1 (nD_0 s.2.1)
theorem nD_add {l ar ar' cap' x : Nat} {es : List Nat} (e : aL h1 l ar' cap' (es ++ [x])) (d : (ar' = ar ∧ h1.length = h.length) ∨ (ar' = 21 + h.length ∧ h1.length = h.length + 1)) : nD h h1 := by
  rcases d with ⟨_, d⟩ | ⟨d1, d⟩
  · exact nD_0 d
  · obtain ⟨_, _, _, _, e3⟩ := e
    rcases e3 with ⟨_, _, e3⟩ | ⟨f, e3, _⟩
    · exact absurd e3 (by simp)
    · rw [d1] at e3
      exact nD_1 (by omega) e3 (fun _ z => by cases z)
end AL
