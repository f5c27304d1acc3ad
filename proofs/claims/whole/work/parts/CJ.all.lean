/-! STATEMENTS, EXPRESSIONS AND BLOCKS at every depth. -/
section AL2
variable {L : Nat} {xs : Nat → Int32} {zf : Value} {w : Nat} {cx : Nat → Nat} {F : Nat → Nat → Int32} {N : Nat → Int64} {q : List Value} {h : rm_H} {s : rS} {g : Nat → Nat} {ts : List Nat} {A ke kr : Nat} {i1 : Int32}
theorem STR_le {A2 : Nat} {rc : Option dR} {rr : Option rA} (e : STR L xs cx F N q A h s g ts rc rr) (hA : A ≤ A2) : STR L xs cx F N q A2 h s g ts rc rr := by
  obtain ⟨h', s', g', ts', x, n, e1, e2, e3, e4, e5⟩ := e
  exact ⟨h', s', g', ts', x, n, e1, e2, e3, by omega, e5.1, e5.2.1, e5.2.2.1, fun y => ⟨(e5.2.2.2 y).1, (e5.2.2.2 y).2.1, NR_lz (e5.2.2.2 y).2.2 (by omega)⟩⟩
theorem IHx_le {A2 a b mc mr : Nat} {i : Int32} (IH : IHx L xs zf w cx F N q A a b mc mr i) (hA : A ≤ A2) : IHx L xs zf w cx F N q A2 a b mc mr i := fun j j2 h s g ts z hg => EXR_le (IH j j2 h s g ts z hg) hA
/-- a statement -/
theorem x_stmt (hT : TF cx F N) (hA : 2 ≤ A ∧ A ≤ 1900) (hm : cx 14 ≠ 0) (IH : IHx L xs zf w cx F N q A (ke + 10) (kr + 4) 123 320 (i1 + 1)) (IB : IHx L xs zf w cx F N q A (ke + 10) (kr + 4) 119 317 (i1 + 1)) (z : SY cx F N q h s g ts) : STR L xs cx F N q (A + 20) h s g ts (dM L xs zf w (ke + 12) 121 [.ref (cx 7), .ref (cx 14), .int i1] h) (rM w (kr + 6) 318 [.ref 36, .int i1] s) := by
  have IH6 : IHx L xs zf w cx F N q A (ke + 6 + 4) (kr + 2 + 3) 123 320 (i1 + 1) := IHx_at _ _ IH (by omega) (by omega)
  have IB6 : IHx L xs zf w cx F N q A (ke + 6 + 4) (kr + 2 + 3) 119 317 (i1 + 1) := IHx_at _ _ IB (by omega) (by omega)
  by_cases t25 : ctk cx F (g 0) = 25
  · exact x_var hT ⟨hA.1, by omega⟩ hm IH z t25
  by_cases t26 : ctk cx F (g 0) = 26
  · exact STR_le (x_if (k := 0) hT (by omega) IH6 IB6 z t26) (by omega)
  by_cases t28 : ctk cx F (g 0) = 28
  · exact STR_le (x_while (k := 0) hT (by omega) IH6 IB6 z t28) (by omega)
  by_cases t29 : ctk cx F (g 0) = 29
  · exact STR_le (x_140 (k := 0) (W := 19) (T := 29) (c := 10) hT (by omega) IH6 z (Or.inl ⟨rfl, rfl, rfl⟩) t29) (by omega)
  by_cases t30 : ctk cx F (g 0) = 30
  · exact STR_le (x_140 (k := 0) (W := 18) (T := 30) (c := 9) hT (by omega) IH6 z (Or.inr (Or.inl ⟨rfl, rfl, rfl⟩)) t30) (by omega)
  by_cases t31 : ctk cx F (g 0) = 31
  · exact STR_le (x_140 (k := 0) (W := 20) (T := 31) (c := 11) hT (by omega) IH6 z (Or.inr (Or.inr ⟨rfl, rfl, rfl⟩)) t31) (by omega)
  · exact x_stm (k := 0) hT (by omega) IH6 z (fun u => by
      rcases u with u | u | u | u | u | u
      · exact t25 u
      · exact t26 u
      · exact t28 u
      · exact t29 u
      · exact t30 u
      · exact t31 u)
/-- one level more -/
theorem x_level (hT : TF cx F N) (hw : 2100 ≤ w) (hA : 2 ≤ A ∧ A ≤ 1900) (hm : cx 14 ≠ 0) (d : mx_f2 .le i1 24 = true) (IH : IHx L xs zf w cx F N q A (ke + 8) (kr + 3) 123 320 (i1 + 1)) (IB : IHx L xs zf w cx F N q A (ke + 8) (kr + 3) 119 317 (i1 + 1)) : IHx L xs zf w cx F N q (A + 40) (ke + 16) (kr + 7) 123 320 i1 ∧ IHx L xs zf w cx F N q (A + 40) (ke + 16) (kr + 7) 119 317 i1 := by
  have PR : IHx L xs zf w cx F N q (A + 20) (ke + 4 + 10) (kr + 1 + 4) 125 322 i1 := by
    refine x_prim (ke := ke + 4) (kr := kr + 1) hT (by omega) (by omega) (IHx_at _ _ IH (by omega) (by omega)) (IHx_at _ _ IB (by omega) (by omega)) (fun j j2 h s g ts z t => ?_)
    have := x_new (ke := ke + j) (kr := kr + j2) (i1 := i1) (w := w) (zf := zf) hT (by omega) ⟨hA.1, by omega⟩ (IHx_at _ _ IH (by omega) (by omega)) z t
    rw [show ke + j + 14 = ke + 4 + 10 + j from by omega, show kr + j2 + 5 = kr + 1 + 4 + j2 from by omega] at this
    exact this
  have TM : IHx L xs zf w cx F N q (A + 20) (ke + 5 + 10) (kr + 1 + 5) 124 321 i1 := x_term (ke := ke + 5) (kr := kr + 1) hT (by omega) hA (IHx_at _ _ IH (by omega) (by omega)) (IHx_at _ _ PR (by omega) (by omega))
  have EX : IHx L xs zf w cx F N q (A + 20 + 20) (ke + 12 + 4) (kr + 4 + 3) 123 320 i1 := x_expr (ke := ke + 12) (kr := kr + 4) hT ⟨by omega, by omega⟩ (by omega) d (IHx_at _ _ TM (by omega) (by omega))
  refine ⟨IHx_le EX (by omega), ?_⟩
  have BL : IHx L xs zf w cx F N q (A + 20 + 20) (ke + 13) (kr + 7) 119 317 i1 := by
    intro j j2 h s g ts z hg
    have := x_blk (ke := ke + j) (kr := kr + j2) (i1 := i1) (w := w) (zf := zf) (A := A + 20) (L := L) (xs := xs) hT hw ⟨by omega, by omega⟩ (fun h s g ts z => x_stmt (ke := ke + j) (kr := kr + j2) hT hA hm (IHx_at _ _ IH (by omega) (by omega)) (IHx_at _ _ IB (by omega) (by omega)) z) z
    rw [show ke + j + 13 = ke + 13 + j from by omega, show kr + j2 + 7 = kr + 7 + j2 from by omega] at this
    exact this
  exact IHx_le (IHx_at _ _ BL (by omega) (by omega)) (by omega)
/-- too deep: a block -/
theorem x_bdeep (hT : TF cx F N) (hw : 1 ≤ w) (d : ¬ mx_f2 .le i1 24 = true) : IHx L xs zf w cx F N q A 5 3 119 317 i1 := by
  intro j j2 h s g ts z hg
  rcases z with z | z
  · have := x_bnone (L := L) (xs := xs) (zf := zf) (w := w) (A := A) (k := j) (k2 := j2) hT hw z (fun u => d u.1)
    rw [show j + 5 = 5 + j from by omega, show j2 + 3 = 3 + j2 from by omega] at this
    exact this
  · have := x_bflt (L := L) (xs := xs) (zf := zf) (w := w) (A := A) (k := j) (k2 := j2) (i1 := i1) hT hw z
    rw [show j + 5 = 5 + j from by omega, show j2 + 3 = 3 + j2 from by omega] at this
    exact this
/-- expressions and blocks at depth 25 - e -/
theorem x_all (hT : TF cx F N) (hw : 2100 ≤ w) (hm : cx 14 ≠ 0) : ∀ e, e ≤ 25 → IHx L xs zf w cx F N q (2 + 40 * e) (8 + 8 * e) (3 + 4 * e) 123 320 (Int32.ofNat (25 - e)) ∧ IHx L xs zf w cx F N q (2 + 40 * e) (8 + 8 * e) (3 + 4 * e) 119 317 (Int32.ofNat (25 - e)) := by
  intro e
  induction e with
  | zero =>
    intro _
    exact ⟨IHx_at _ _ (x_deep (A := 2) hT (by omega) (by decide)) (by omega) (by omega), IHx_at _ _ (x_bdeep (A := 2) hT (by omega) (by decide)) (by omega) (by omega)⟩
  | succ e ih =>
    intro he
    obtain ⟨i1, i2⟩ := ih (by omega)
    have e1 : Int32.ofNat (25 - e) = Int32.ofNat (25 - (e + 1)) + 1 := by
      rw [show Int32.ofNat (25 - (e + 1)) + 1 = Int32.ofNat (25 - (e + 1) + 1) from of_add _ 1]
      congr 1
      omega
    rw [e1] at i1 i2
    have := x_level (ke := 8 * e) (kr := 4 * e) hT hw ⟨by omega, by omega⟩ hm (by
      rw [f2_le, of_int (by omega), show (24 : Int32).toInt = 24 from by decide]
      simp
      omega) (IHx_at _ _ i1 (by omega) (by omega)) (IHx_at _ _ i2 (by omega) (by omega))
    obtain ⟨j1, j2⟩ := this
    refine ⟨IHx_le (IHx_at _ _ j1 (by omega) (by omega)) (by omega), IHx_le (IHx_at _ _ j2 (by omega) (by omega)) (by omega)⟩
/-- a method's body -/
theorem x_body (hT : TF cx F N) (hw : 2100 ≤ w) (hm : cx 14 ≠ 0) : IHx L xs zf w cx F N q 962 200 99 119 317 1 := (x_all hT hw hm 24 (by omega)).2
end AL2
