/-! A TEXT BECOMES A STRING, by the class. -/
section SA
variable {L : Nat} {xs : Nat → Int32} {zf : Value} {w k : Nat} {h h' h1 h2 : rm_H} {p b n m a : Nat} {f : Nat → Int32} {ml : Int32}
theorem sB_app {c : rm_E} (hS : sB h p b n m ml f) : sB (h ++ [c]) p b n m ml f := by
  obtain ⟨hp, hb, hpb, hn, hm, hf, e1, e2⟩ := hS
  refine ⟨hp, hb, hpb, hn, hm, hf, ?_, ?_⟩
  · rw [List.getElem?_append_left (List.getElem?_eq_some_iff.mp e1).1]; exact e1
  · rw [List.getElem?_append_left (List.getElem?_eq_some_iff.mp e2).1]; exact e2
/-- the first n bytes, copied -/
theorem cr_any (ea : hc h a = some (byA m f)) (hf : ∀ i, fits .byte (.int (f i)) = true) (hn : n ≤ m) (hm : m ≤ 10000) : ∃ f2, dM L xs zf w (k + 3) 52 [.ref a, .int 0, .int (Int32.ofNat n)] h = some (some (.ref (21 + h.length)), h ++ [byA n f2]) ∧ (∀ i, i < n → f2 i = f i) ∧ ∀ i, fits .byte (.int (f2 i)) = true := by
  by_cases e : n = m
  · subst e
    refine ⟨f, ?_, fun _ _ => rfl, hf⟩
    have ge := hc_ge ea
    rw [e52]
    show b52_0 L xs zf (dM L xs zf w (k + 2)) w (some a) 0 (Int32.ofNat n) h = _
    unfold b52_0
    have an : daN L xs h (some a) = some (Int32.ofNat n) := aN_lk (hc_look ea) (by decide)
    have cl : dclo h (some a) = some (h ++ [byA n f]) := by
      show (if 21 ≤ a then _ else _) = _
      rw [if_pos ge, hc_at ea]
      show (if ah_TY[1]? = some .byte ∧ rm_fa f 0 n = true then _ else _) = _
      rw [if_pos]
      refine ⟨by decide, ?_⟩
      unfold rm_fa
      rw [List.all_eq_true]
      exact fun i _ => hf _
    have cb : dcB (h ++ [byA n f]) (some (21 + h.length)) = true := by
      show (if 21 ≤ 21 + h.length then _ else _) = _
      rw [if_pos (by omega), hc_at (hc_new _)]
      show decide (ah_TY[1]? = some .byte) = true
      decide
    rw [if_neg (by decide), an, Option.bind_some, if_pos (by rw [f2_eqd]; exact decide_eq_true rfl), cl, Option.bind_some, cb, if_neg (by decide)]
    rfl
  · refine ⟨va_cpy f (fun _ => 0) 0 0 n, ?_, fun i hi => va_cpy_lt hi, fun i => ?_⟩
    · have := cr_of (L := L) (xs := xs) (zf := zf) (w := w) (k := k) (b := 0) (e := n) ea hf (by omega) hn hm (fun u => e u.2)
      rw [Nat.sub_zero] at this
      exact this
    · unfold va_cpy
      split
      · exact hf _
      · show fits .byte (.int 0) = true
        decide
theorem c_48 (hS : sB h p b n m ml f) : ∃ f2, dM L xs zf w (k + 6) 48 [.ref p] h = some (some (.ref (21 + h.length)), (h ++ [.inr (7, [.ref (22 + h.length), .int 0, .int 0, .int 0])]) ++ [byA n f2]) ∧ (∀ i, i < n → f2 i = f i) ∧ ∀ i, fits .byte (.int (f2 i)) = true := by
  have hS1 := sB_app (c := .inr (7, ah_DV 7)) hS
  obtain ⟨hp, hb, hpb, hn, hm, hf, q1, q2⟩ := id hS1
  have cp := hc_of hp q1
  have cb := hc_of hb q2
  obtain ⟨f2, r1, r2, r3⟩ := cr_any (L := L) (xs := xs) (zf := zf) (w := w) (k := k) cb hf hn hm
  have len : 21 + (h ++ [(.inr (7, ah_DV 7) : rm_E)]).length = 22 + h.length := by rw [List.length_append]; show 21 + (h.length + 1) = _; omega
  rw [len] at r1
  refine ⟨f2, ?_, r2, r3⟩
  have c50 : dM L xs zf w (k + 4) 50 [.ref (21 + h.length), .ref p, .null] (h ++ [.inr (7, ah_DV 7)]) = some (none, (h ++ [.inr (7, [.ref (22 + h.length), .int 0, .int 0, .int 0])]) ++ [byA n f2]) := by
    rw [e50]
    show b50_0 L xs zf (dM L xs zf w (k + 3)) w (some (21 + h.length)) (some p) (h ++ [.inr (7, ah_DV 7)]) = _
    unfold b50_0
    have c1 : hc ((h ++ [.inr (7, ah_DV 7)]) ++ [byA n f2]) (21 + h.length) = some (.inr (7, ah_DV 7)) := hc_up (hc_new _)
    have v51 : (dcV L xs (dM L xs zf w (k + 3)) 51 [1] (some p) [] (h ++ [.inr (7, ah_DV 7)])).bind dxR = some (some b, h ++ [.inr (7, ah_DV 7)]) := by
      rw [hc_v cp (by decide), e51]
      show (b51_0 L xs zf (dM L xs zf w (k + 2)) w (some p) (h ++ [.inr (7, ah_DV 7)])).bind dxR = _
      unfold b51_0
      rw [hc_gR (p := some b) cp rfl (by decide), Option.bind_some]
      rfl
    rw [if_neg (dnl_s _), v51, Option.bind_some, show (dcV L xs (dM L xs zf w (k + 3)) 10 [1] (some p) [] (h ++ [.inr (7, ah_DV 7)])).bind dxI = some (Int32.ofNat n, h ++ [.inr (7, ah_DV 7)]) from by rw [hc_v cp (by decide), sb_len (k := k + 1) hS1]; rfl, Option.bind_some, show (dcV L xs (dM L xs zf w (k + 3)) 22 [1] (some p) [] (h ++ [.inr (7, ah_DV 7)])).bind dxI = some (1, h ++ [.inr (7, ah_DV 7)]) from by rw [hc_v cp (by decide), sb_lat (k := k + 2) hS1]; rfl, Option.bind_some, if_neg (show ¬ mx_f1 .eq (1 : Int32) = true by decide), show dpF (h ++ [.inr (7, ah_DV 7)]) 1 [7] (some (21 + h.length)) (.int 0) = some (h ++ [.inr (7, ah_DV 7)]) from pF_last (u := .int 0) rfl (by decide) rfl, Option.bind_some, va_s, r1]
    show (dpF ((h ++ [.inr (7, ah_DV 7)]) ++ [byA n f2]) 0 [7] (some (21 + h.length)) (.ref (22 + h.length))).bind _ = _
    rw [pF_eq c1 (u := .null) rfl (by decide) rfl, Option.bind_some, show 21 + h.length - 21 = h.length from by omega, List.set_append_left _ _ (by simp), List.set_append_right _ _ (Nat.le_refl _), Nat.sub_self]
    rfl
  have c49 : dM L xs zf w (k + 5) 49 [.ref (21 + h.length), .ref p] (h ++ [.inr (7, ah_DV 7)]) = some (none, (h ++ [.inr (7, [.ref (22 + h.length), .int 0, .int 0, .int 0])]) ++ [byA n f2]) := by
    rw [e49]
    refine Eq.trans (b := b49_0 L xs zf (dM L xs zf w (k + 4)) w (some (21 + h.length)) (some p) (h ++ [.inr (7, ah_DV 7)])) rfl ?_
    unfold b49_0
    have d50 : dcN (dM L xs zf w (k + 4)) 50 (some (21 + h.length)) [va_rf (some p), va_rf none] (h ++ [.inr (7, ah_DV 7)]) = dM L xs zf w (k + 4) 50 [.ref (21 + h.length), .ref p, .null] (h ++ [.inr (7, ah_DV 7)]) := rfl
    rw [d50, c50]
    rfl
  rw [e48]
  refine Eq.trans (b := b48_0 L xs zf (dM L xs zf w (k + 5)) w (some p) h) rfl ?_
  unfold b48_0
  have d49 : dcN (dM L xs zf w (k + 5)) 49 (some (21 + h.length)) [va_rf (some p)] (h ++ [.inr (7, ah_DV 7)]) = dM L xs zf w (k + 5) 49 [.ref (21 + h.length), .ref p] (h ++ [.inr (7, ah_DV 7)]) := rfl
  rw [Option.bind_some, d49, c49]
  rfl
end SA
