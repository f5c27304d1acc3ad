/-! THE REFERENCE'S BUILD up to its parser's run. -/
/-- what is done once the text is parsed -/
def rR (E : rE) (w : Nat) (r : Option rA) : Option rA := (r.bind rxV).bind fun s92 => if mx_f1 .ne (s92.1 57) = true then s294_142 E w s92 else ((E 326 [.ref 36] s92).bind rxV).bind fun s98 => s294_142 E w s98
/-- what build sets at once, and what it leaves -/
def rB1 (s s1 : rS) (n : Nat) : Prop :=
  (s1.1 3 = Int32.ofNat n ∧ s1.1 2 = 0 ∧ s1.1 74 = 0 ∧ s1.1 111 = 0 ∧ s1.1 72 = 1 ∧ s1.1 73 = 0 ∧ s1.1 56 = 0 ∧ s1.1 57 = 0 ∧ s1.1 58 = -1 ∧ s1.1 10 = 1 ∧ s1.1 24 = 0 ∧ s1.1 25 = 0 ∧ s1.1 26 = 0 ∧ s1.1 32 = 0 ∧ s1.1 38 = 0 ∧ s1.1 42 = 0 ∧ s1.1 52 = 0)
  ∧ (∀ j, j ≠ 3 → j ≠ 2 → j ≠ 74 → j ≠ 111 → j ≠ 72 → j ≠ 73 → j ≠ 56 → j ≠ 57 → j ≠ 58 → j ≠ 10 → j ≠ 24 → j ≠ 25 → j ≠ 26 → j ≠ 32 → j ≠ 38 → j ≠ 42 → j ≠ 52 → j ≠ 5 → s1.1 j = s.1 j)
  ∧ (∀ p, p ≠ 38 → p ≠ 40 → p ≠ 41 → p ≠ 42 → p ≠ 77 → s1.2.1 p = s.2.1 p) ∧ s1.2.1 77 0 = 0 ∧ (∀ i, i < n → s1.2.1 38 i = s.2.1 37 i) ∧ ∀ p, p ≠ 43 → s1.2.2 p = s.2.2 p
section RJ
variable {w k n M : Nat} {s : rS}
theorem rsS_ne {j : Nat} (a1 : j ≠ 2) (a2 : j ≠ 74) (a3 : j ≠ 111) (a4 : j ≠ 72) (a5 : j ≠ 73) (a6 : j ≠ 56) (a7 : j ≠ 57) (a8 : j ≠ 58) (a9 : j ≠ 10) (a10 : j ≠ 24) (a11 : j ≠ 25) (a12 : j ≠ 26) (a13 : j ≠ 32) (a14 : j ≠ 38) (a15 : j ≠ 42) (a16 : j ≠ 52) : (rsS s).1 j = s.1 j := by
  unfold rsS
  show (rs_w (rs_w (rs_w (rs_w (rs_w (rs_w (rs_w (rs_w (rs_w (rs_w (rs_w (rs_w (rs_w (rs_w (rs_w (rs_w s 2 0) 74 0) 111 0) 72 1) 73 0) 56 0) 57 0) 58 (-1)) 10 1) 24 0) 25 0) 26 0) 32 0) 38 0) 42 0) 52 0).1 j = _
  rw [w_ne _ _ a16, w_ne _ _ a15, w_ne _ _ a14, w_ne _ _ a13, w_ne _ _ a12, w_ne _ _ a11, w_ne _ _ a10, w_ne _ _ a9, w_ne _ _ a8, w_ne _ _ a7, w_ne _ _ a6, w_ne _ _ a5, w_ne _ _ a4, w_ne _ _ a3, w_ne _ _ a2, w_ne _ _ a1]
theorem r_head (h2 : s.1 2 = Int32.ofNat n) (hn : n ≤ 2000) (hw : 2100 ≤ w) (hc : ∀ i, i < n → 0 ≤ (s.2.1 37 i).toInt ∧ (s.2.1 37 i).toInt ≤ 255) (hwd : wdR (s.2.2 39)) : ∃ s1 g, s294_0 (rM w (k + 3)) w s = rR (rM w (k + 3)) w (rM w (k + 3) 302 [.ref 36] s1) ∧ rB1 s s1 n ∧ (∀ i, i < n → g i = s.2.1 37 i) ∧ rRows g n 0 (tb g n (n + 1) 0) s1 := by
  obtain ⟨M, rfl⟩ : ∃ M, w = n + M + 1 := ⟨w - n - 1, by omega⟩
  obtain ⟨s', e1, e2, e3, e4, e5⟩ := r_copy (E := rM (n + M + 1) (k + 3)) (w := n + M + 1) (n := n) (by decide) hn n 0 (rs_w s 3 (Int32.ofNat n)) M (by omega) (w_eq _ _ _)
  have hG : rG s' n := ⟨hn, by rw [e2]; exact w_eq _ _ _⟩
  have rr := r_reset (w := n + M + 1) (k := k) (M := M) hG (by omega)
  have fT := fT_rC n (n + 1) 0 0 (rs_w (rsS s') 5 0)
  obtain ⟨f1, f2, f3⟩ := fT
  have row : ∀ p, p ≠ 40 → p ≠ 41 → p ≠ 42 → (rC n (n + 1) 0 0 (rs_w (rsS s') 5 0)).2.1 p = (rs_w (rsS s') 5 0).2.1 p := fun p h1 h2 h3 => by
    funext j
    exact f2 p j (Or.inl ⟨h1, h2, h3⟩)
  have rs : ∀ p, p ≠ 77 → (rs_w (rsS s') 5 0).2.1 p = s'.2.1 p := fun p hp => wA_ne _ _ _ hp
  have sc : ∀ j, j ≠ 5 → (rC n (n + 1) 0 0 (rs_w (rsS s') 5 0)).1 j = (rsS s').1 j := fun j hj => (f1 j hj).trans (w_ne _ _ hj)
  refine ⟨rC n (n + 1) 0 0 (rs_w (rsS s') 5 0), s'.2.1 38, ?_, ⟨⟨?_, ?_, ?_, ?_, ?_, ?_, ?_, ?_, ?_, ?_, ?_, ?_, ?_, ?_, ?_, ?_, ?_⟩, fun j a1 a2 a3 a4 a5 a6 a7 a8 a9 a10 a11 a12 a13 a14 a15 a16 a17 a18 => ?_, fun p p1 p2 p3 p4 p5 => ?_, ?_, fun i hi => ?_, fun p hp => ?_⟩, fun i hi => ?_, ?_⟩
  · unfold s294_0
    rw [show rs_pI s 3 (s.1 2) = some (rs_w s 3 (Int32.ofNat n)) from by rw [h2]; rfl, Option.bind_some]
    exact e1.trans rr
  · rw [sc 3 (by decide), rsS_ne (by decide) (by decide) (by decide) (by decide) (by decide) (by decide) (by decide) (by decide) (by decide) (by decide) (by decide) (by decide) (by decide) (by decide) (by decide) (by decide)]
    exact hG.2
  · rw [sc 2 (by decide)]; rfl
  · rw [sc 74 (by decide)]; rfl
  · rw [sc 111 (by decide)]; rfl
  · rw [sc 72 (by decide)]; rfl
  · rw [sc 73 (by decide)]; rfl
  · rw [sc 56 (by decide)]; rfl
  · rw [sc 57 (by decide)]; rfl
  · rw [sc 58 (by decide)]; rfl
  · rw [sc 10 (by decide)]; rfl
  · rw [sc 24 (by decide)]; rfl
  · rw [sc 25 (by decide)]; rfl
  · rw [sc 26 (by decide)]; rfl
  · rw [sc 32 (by decide)]; rfl
  · rw [sc 38 (by decide)]; rfl
  · rw [sc 42 (by decide)]; rfl
  · rw [sc 52 (by decide)]; rfl
  · rw [sc j a18, rsS_ne a2 a3 a4 a5 a6 a7 a8 a9 a10 a11 a12 a13 a14 a15 a16 a17, e2]
    exact w_ne _ _ a1
  · rw [row p p2 p3 p4, rs p p5, e4 p p1]
    rfl
  · rw [row 77 (by decide) (by decide) (by decide)]
    show (rsS s').2.1 77 0 = 0
    unfold rsS
    rw [wA_get, if_pos ⟨rfl, rfl⟩]
  · rw [row 38 (by decide) (by decide) (by decide), rs 38 (by decide), e5 i, if_pos ⟨by omega, hi⟩]
    rfl
  · funext j
    rw [f3 p j (Or.inl hp)]
    show s'.2.2 p j = _
    rw [e3]
    rfl
  · rw [e5 i, if_pos ⟨by omega, hi⟩]
    rfl
  · refine rC_tb n (s'.2.1 38) (fun i hi => ?_) (n + 1) 0 0 (rs_w (rsS s') 5 0) (by omega) (by omega) (rs 38 (by decide)) ?_
    · rw [e5 i, if_pos ⟨by omega, hi⟩]
      exact hc i hi
    · show wdR (s'.2.2 39)
      rw [e3]
      exact hwd
end RJ
