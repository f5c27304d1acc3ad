/-! A LIST BEHIND AN OPEN NODE STAYS while its parts are read. -/
section KP
variable {cx : Nat → Nat} {F : Nat → Nat → Int32} {N : Nat → Int64} {q : List Value} {h h' : rm_H} {s s' : rS} {g g' : Nat → Nat} {ts ts' : List Nat} {p lb cap : Nat} {es : List Nat} {fs : List Value}
theorem pW_keep (z : SY cx F N q h s g ts ∨ FLT cx F N q h s g ts) (b : OPR cx F N q h s g ts h' s' g' ts') (hp : hc h p = some (.inr (12, fs))) (hlb : bl cx lb) (e : pW h lb p es cap) : pW h' lb p es cap := by
  have hp' := on_keep z b hp
  have fdp : ∀ j, fd h' 12 p j = fd h 12 p j := fun j => by rw [fd_of hp', fd_of hp]
  rcases e with ⟨e1, e2, e3⟩ | ⟨l, ar, e1, e2, e3⟩
  · exact Or.inl ⟨(fdp 11).trans e1, e2, e3⟩
  · refine Or.inr ⟨l, ar, (fdp 11).trans e1, ?_, e3⟩
    have main : ∀ (v : Nat → Int32) (pt vr : Int32), pC h cx F v → CH cx q h g ts pt vr → aL h' l ar cap es := by
      intro v pt vr p1 ch
      obtain ⟨mc, r1, _, _, r3⟩ := id e2
      obtain ⟨mc2, k1, _, _, k3⟩ := id ch.2.1
      obtain ⟨b0, b8, b11, b14⟩ := hlb
      refine aL_fr b.2.2.1 (fun u => ?_) (fun h5 u => ?_) e2
      · rcases u with u | u | u | u | u
        · omega
        · omega
        · omega
        · omega
        · rcases k3 with ⟨k3, _⟩ | ⟨f0, k3, _⟩
          · have := hc_ge r1
            omega
          · rw [← u, r1] at k3; cases k3
      · rcases r3 with ⟨r3, _⟩ | ⟨f0, r3, _⟩
        · exact h5 r3
        · rcases u with u | u | u | u | u
          · rw [u, pC_r p1] at r3; cases r3
          · rw [u, ch.1] at r3; cases r3
          · rw [u, k1] at r3; cases r3
          · rcases ch.2.2.2.2 with c | ⟨_, c⟩
            · have := hc_ge r3
              omega
            · rw [u, c] at r3; cases r3
          · rw [u] at r1
            rcases ch.2.2.2.1.2 _ _ _ _ _ r1 k1 with w | w
            · exact h5 (u.trans w)
            · omega
    rcases z with z | z
    · exact main _ _ _ z.1.1 z.1.2.2.2.1
    · obtain ⟨⟨v, p1, _⟩, _, _, ⟨pt, vr, ch⟩, _⟩ := z
      exact main _ _ _ p1 ch
theorem oK_keep (b : OPR cx F N q h s g ts h' s' g' ts') (e : ∀ y ∈ es, oK h y) : ∀ y ∈ es, oK h' y := fun y hy => oK_fr b.2.2.1 (e y hy)
/-- room of the list: none before the first part, ten at least behind it -/
theorem pW_cap (e : pW h lb p es cap) : (es = [] ∧ cap = 0) ∨ (10 ≤ cap ∧ cap ≤ 2 * es.length + 10) ∨ (es = [] ∧ cap ≤ 10) := by
  rcases e with ⟨_, e2, e3⟩ | ⟨l, ar, _, e2, _⟩
  · exact Or.inl ⟨e2, e3⟩
  · obtain ⟨mc, _, _, e4, e5⟩ := e2
    rcases e5 with ⟨_, e5, e6⟩ | ⟨f, _, _, e6, _⟩
    · exact Or.inl ⟨e6, e5⟩
    · exact Or.inr (Or.inl ⟨e6, e4⟩)
end KP
