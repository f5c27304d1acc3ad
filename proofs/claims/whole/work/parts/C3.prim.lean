/-! A PRIMARY, by its token; new stands as a premise. -/
section PA
variable {L : Nat} {xs : Nat → Int32} {zf : Value} {w k i : Nat} {cx : Nat → Nat} {F : Nat → Nat → Int32} {N : Nat → Int64} {q : List Value} {A ke kr : Nat} {i1 : Int32}
theorem IHx_at {a b mc mr : Nat} {i : Int32} (a' b' : Nat) (IH : IHx L xs zf w cx F N q A a b mc mr i) (h1 : a ≤ a') (h2 : b ≤ b') : IHx L xs zf w cx F N q A a' b' mc mr i := by
  have := IHx_mono (a' - a) (b' - b) IH
  rw [show a + (a' - a) = a' from by omega, show b + (b' - b) = b' from by omega] at this
  exact this
theorem x_prim (hT : TF cx F N) (hA : A ≤ 2000) (hw : 2001 ≤ w) (IH : IHx L xs zf w cx F N q A (ke + 4) (kr + 3) 123 320 (i1 + 1)) (IB : IHx L xs zf w cx F N q A (ke + 4) (kr + 3) 119 317 (i1 + 1)) (NW : ∀ (j j2 : Nat) (h : rm_H) (s : rS) (g : Nat → Nat) (ts : List Nat), SY cx F N q h s g ts → ctk cx F (g 0) = 22 → EXR 0 L xs cx F N q (A + 20) h s g ts (dM L xs zf w (ke + 10 + j) 125 [.ref (cx 7), .ref (cx 14), .int i1] h) (rM w (kr + 4 + j2) 322 [.ref 36, .int i1] s)) : IHx L xs zf w cx F N q (A + 20) (ke + 10) (kr + 4) 125 322 i1 := by
  intro j j2 h s g ts z hg
  rcases z with z | z
  · by_cases t7 : ctk cx F (g 0) = 7
    · have := x_par (k := 0) (ke := ke + 5 + j) (kr := kr + j2) hT hA (IHx_at _ _ IH (by omega) (by omega)) z t7
      rw [show ke + 5 + j + 5 + 0 = ke + 10 + j from by omega, show kr + j2 + 4 + 0 = kr + 4 + j2 from by omega] at this
      exact EXR_le this (by omega)
    by_cases t22 : ctk cx F (g 0) = 22
    · exact NW j j2 h s g ts z t22
    by_cases t32 : ctk cx F (g 0) = 32
    · have := x_w6 (k := 0) (ke := ke + 4 + j) (kr := kr + j2) hT hA (IHx_at _ _ IH (by omega) (by omega)) z t32
      rw [show ke + 4 + j + 6 + 0 = ke + 10 + j from by omega, show kr + j2 + 4 + 0 = kr + 4 + j2 from by omega] at this
      exact EXR_le this (by omega)
    by_cases t33 : ctk cx F (g 0) = 33
    · have := x_w7 (k := 0) (ke := ke + 4 + j) (kr := kr + j2) hT hA (IHx_at _ _ IH (by omega) (by omega)) z t33
      rw [show ke + 4 + j + 6 + 0 = ke + 10 + j from by omega, show kr + j2 + 4 + 0 = kr + 4 + j2 from by omega] at this
      exact EXR_le this (by omega)
    by_cases t37 : ctk cx F (g 0) = 37
    · have := x_w9 (k := 0) (ke := ke + 4 + j) (kr := kr + j2) hT hA (IHx_at _ _ IB (by omega) (by omega)) z t37
      rw [show ke + 4 + j + 6 + 0 = ke + 10 + j from by omega, show kr + j2 + 4 + 0 = kr + 4 + j2 from by omega] at this
      exact EXR_le this (by omega)
    by_cases t36 : ctk cx F (g 0) = 36
    · have := x_w5 (L := L) (xs := xs) (zf := zf) (w := w) (A := A) (i1 := i1) (k := 0) (ke := ke + j) (kr := kr + j2) hT z t36
      rw [show ke + j + 10 + 0 = ke + 10 + j from by omega, show kr + j2 + 4 + 0 = kr + 4 + j2 from by omega] at this
      exact EXR_le this (by omega)
    by_cases tl : ctk cx F (g 0) = 4 ∨ ctk cx F (g 0) = 2 ∨ ctk cx F (g 0) = 34 ∨ ctk cx F (g 0) = 35
    · have := x_leaf (L := L) (xs := xs) (zf := zf) (A := A + 20) (i1 := i1) (k := ke + j) (k2 := kr + 1 + j2) hT hw z tl
      rw [show ke + j + 10 = ke + 10 + j from by omega, show kr + 1 + j2 + 3 = kr + 4 + j2 from by omega] at this
      exact this
    · have := x_none (L := L) (xs := xs) (zf := zf) (w := w) (A := A + 20) (i1 := i1) (k := ke + 6 + j) (k2 := kr + j2) hT z t7 (fun u => by
        rcases u with u | u | u | u | u | u | u | u | u
        · exact tl (Or.inr (Or.inl u))
        · exact tl (Or.inl u)
        · exact t22 u
        · exact t32 u
        · exact t33 u
        · exact tl (Or.inr (Or.inr (Or.inl u)))
        · exact tl (Or.inr (Or.inr (Or.inr u)))
        · exact t36 u
        · exact t37 u)
      rw [show ke + 6 + j + 4 = ke + 10 + j from by omega, show kr + j2 + 4 = kr + 4 + j2 from by omega] at this
      exact this
  · have := x_flt (L := L) (xs := xs) (zf := zf) (w := w) (A := A + 20) (i1 := i1) (k := ke + 6 + j) (k2 := kr + 3 + j2) z
    rw [show ke + 6 + j + 4 = ke + 10 + j from by omega, show kr + 3 + j2 + 1 = kr + 4 + j2 from by omega] at this
    exact this
end PA
