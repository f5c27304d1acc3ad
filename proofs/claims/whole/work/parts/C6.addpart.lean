/-! A PART IS ADDED to the list behind an open node, without a fault or behind one. -/
section AP
variable {L : Nat} {xs : Nat → Int32} {zf : Value} {w k : Nat} {cx : Nat → Nat} {F : Nat → Nat → Int32} {N : Nat → Int64} {q : List Value} {hb h h2 : rm_H} {sb s s2 : rS} {gb g : Nat → Nat} {tb ts : List Nat} {p lb x cap : Nat} {es : List Nat}
theorem op_ap (z : SY cx F N q h s g ts ∨ FLT cx F N q h s g ts) (hp : nW h p) (e : pW h lb p es cap) (ho : ∀ y ∈ es, oK h y) (hx : oK h x) (hn : es.length ≤ 99000) (hlb : cx 11 < lb ∧ lb ≤ 21 + h.length ∧ p < lb + 1) : ∃ h2 l ar cap', dM L xs zf w (k + 7) 135 [.ref p, .ref x] h = some (none, h2) ∧ pW h2 lb p (es ++ [x]) cap' ∧ (∀ y ∈ es ++ [x], oK h2 y) ∧ nW h2 p ∧ (∀ j, j ≠ 11 → fd h2 12 p j = fd h 12 p j) ∧ fr (fun y => y = p ∨ y = l ∨ y = ar) h h2 ∧ ((∃ fs, hc h l = some (.inr (5, .ref ar :: fs)) ∧ ∀ ci fs, hc h ar ≠ some (.inr (ci, fs))) ∨ (21 + h.length ≤ l ∧ ar = 5)) ∧ (fd h 12 p 11 = some (.ref l) ∨ 21 + h.length ≤ l) ∧ (ar = 5 ∨ lb ≤ ar) ∧ lb ≤ l ∧ h2.length ≤ h.length + 2 ∧ zh h2 + 4 * cap ≤ zh h + 4 * cap' + 3 ∧ fd h2 12 p 11 = some (.ref l) ∧ (SY cx F N q h s g ts → SY cx F N q h2 s g ts) ∧ (FLT cx F N q h s g ts → FLT cx F N q h2 s g ts) ∧ uA h := by
  have arr : ∀ l ar : Nat, fd h 12 p 11 = some (.ref l) → (∃ fs, hc h l = some (.inr (5, .ref ar :: fs))) → ∀ ci fs, hc h ar ≠ some (.inr (ci, fs)) := by
    intro l ar f1 f2 ci fs f3
    obtain ⟨fs2, f2⟩ := f2
    rcases e with ⟨e1, _, _⟩ | ⟨l0, ar0, e1, e2, _⟩
    · rw [f1] at e1; cases e1
    · rw [f1] at e1
      cases e1
      obtain ⟨mc, r1, _, _, r3⟩ := e2
      rw [f2] at r1
      cases r1
      rcases r3 with ⟨r3, _⟩ | ⟨f0, r3, _⟩
      · have := hc_ge f3
        omega
      · rw [f3] at r3; cases r3
  have arl : ∀ l ar : Nat, fd h 12 p 11 = some (.ref l) → (∃ fs, hc h l = some (.inr (5, .ref ar :: fs))) → ar = 5 ∨ lb ≤ ar := by
    intro l ar f1 f2
    obtain ⟨fs2, f2⟩ := f2
    rcases e with ⟨e1, _, _⟩ | ⟨l0, ar0, e1, e2, e3, e4⟩
    · rw [f1] at e1; cases e1
    · rw [f1] at e1
      cases e1
      obtain ⟨mc, r1, _, _, r3⟩ := e2
      rw [f2] at r1
      cases r1
      exact e4
  rcases z with z | z
  · obtain ⟨⟨p1, t1, rt, ch, cs, b⟩, g6⟩ := id z
    obtain ⟨h2, l, ar, cap', a1, a2, a3, a4, a5, a6, a7, a8, a9, a10, a11, a12, a13, a14⟩ := ap_of (L := L) (xs := xs) (zf := zf) (w := w) (k := k) p1 ch hp e ho hx hn hlb
    have hPd : ∀ d fs, hc h d = some (.inr (10, fs)) → ¬ (d = p ∨ d = l ∨ d = ar) := by
      intro d fs ed u
      rcases u with u | u | u
      · obtain ⟨gs, ex, _⟩ := id hp
        rw [u, ex] at ed; cases ed
      · rcases a14 with ⟨_, gs, w1⟩ | ⟨w1, _⟩
        · rw [u, w1] at ed; cases ed
        · have := hc_lt ed
          omega
      · rcases a14 with ⟨w0, gs, w1⟩ | ⟨_, w1⟩
        · exact arr l ar w0 ⟨gs, w1⟩ _ _ (u ▸ ed)
        · have := hc_ge ed
          omega
    refine ⟨h2, l, ar, cap', a1, a2, a3, a6, a7, a8, ?_, ?_, ?_, a10, a11.1, a12, a13, fun _ => ⟨⟨a4, t1, rt, a5, cs, b⟩, g6.1, TSI_0 g6.2 a8 hPd a11.2 rfl rfl rfl rfl⟩, fun y => (sy_no z y).elim, ch.2.2.2.1⟩
    · rcases a14 with ⟨v, fs, u⟩ | ⟨u1, u2⟩
      · exact Or.inl ⟨fs, u, arr l ar v ⟨fs, u⟩⟩
      · exact Or.inr ⟨by omega, u2⟩
    · rcases a14 with ⟨v, _⟩ | ⟨u1, u2⟩
      · exact Or.inl v
      · exact Or.inr (by omega)
    · rcases a14 with ⟨v, fs, u⟩ | ⟨u1, u2⟩
      · exact arl l ar v ⟨fs, u⟩
      · exact Or.inl u2
  · obtain ⟨⟨v, p1, r⟩, t1, rt, ⟨pt, vr, ch⟩, cs, b⟩ := id z
    obtain ⟨h2, l, ar, cap', a1, a2, a3, a4, a5, a6, a7, a8, a9, a10, a11, a12, a13, a14⟩ := ap_of (L := L) (xs := xs) (zf := zf) (w := w) (k := k) p1 ch hp e ho hx hn hlb
    refine ⟨h2, l, ar, cap', a1, a2, a3, a6, a7, a8, ?_, ?_, ?_, a10, a11.1, a12, a13, fun y => (sy_no y z).elim, fun _ => ⟨⟨v, a4, r⟩, t1, rt, ⟨pt, vr, a5⟩, cs, b⟩, ch.2.2.2.1⟩
    · rcases a14 with ⟨v, fs, u⟩ | ⟨u1, u2⟩
      · exact Or.inl ⟨fs, u, arr l ar v ⟨fs, u⟩⟩
      · exact Or.inr ⟨by omega, u2⟩
    · rcases a14 with ⟨v, _⟩ | ⟨u1, u2⟩
      · exact Or.inl v
      · exact Or.inr (by omega)
    · rcases a14 with ⟨v, fs, u⟩ | ⟨u1, u2⟩
      · exact arl l ar v ⟨fs, u⟩
      · exact Or.inl u2
end AP
