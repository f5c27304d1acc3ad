/-! HOW HIGH A STACK GROWS: from a point to the body around it. -/
def bEn (s : rS) (N n l : Nat) : Prop := (∃ k, upA s (k + 1) n) ∧ 2 * l + WT s N n ≤ tTl s N
def bSn (s : rS) (N n l : Nat) : Prop := l = 0 ∨ bEn s N n l
/-- what a point takes off the stack -/
def cPt (s : rS) (p K c : Nat) : Prop := (K = 13 ∧ c ≤ 2) ∨ ((K = 7 ∨ K = 26) ∧ ∃ x : Nat, s.2.1 45 p = Int32.ofNat x ∧ x < 4400 ∧ ((s.2.1 44 x = 4 ∧ c ≤ 1) ∨ (s.2.1 44 x = 10 ∧ c ≤ 2))) ∨ (K = 8 ∧ c ≤ 6 ∧ s.2.1 52 p = Int32.ofNat c) ∨ ((K = 11 ∨ K = 12) ∧ ∃ l : Nat, c = l + 1 ∧ l ≤ 6 ∧ s.2.1 52 p = Int32.ofNat l) ∨ ((K ≠ 13 ∧ K ≠ 7 ∧ K ≠ 26 ∧ K ≠ 8 ∧ K ≠ 11 ∧ K ≠ 12) ∧ c ≤ 1)
section HGB
variable {s : rS} {A B : Nat → Int32} {m F lo hi N : Nat}
theorem cP_o {p K c : Nat} (h : K ≠ 13 ∧ K ≠ 7 ∧ K ≠ 26 ∧ K ≠ 8 ∧ K ≠ 11 ∧ K ≠ 12) (hc : c ≤ 1) : cPt s p K c := Or.inr (Or.inr (Or.inr (Or.inr ⟨h, hc⟩)))
theorem bE_0 {n : Nat} (u : ∃ k, upA s (k + 1) n) : bEn s N n 0 := ⟨u, by have := W_le (s := s) (N := N) (x := n); omega⟩
theorem bS_E {n l : Nat} (u : ∃ k, upA s (k + 1) n) (h : bSn s N n l) : bEn s N n l := by
  rcases h with rfl | h
  · exact bE_0 u
  · exact h
theorem bE_up {n p l : Nat} (e49 : s.2.1 49 n = Int32.ofNat p) (p1 : 1 ≤ p) (p4 : p < 4400) (n31 : s.2.1 44 n ≠ 31) (h : bEn s N p l) : bEn s N n l := by
  obtain ⟨⟨k, u⟩, h⟩ := h
  have := W_up (N := N) e49 p1 p4 n31
  exact ⟨⟨k + 1, n31, p, p1, p4, e49, u⟩, by omega⟩
theorem bS_up {n p l : Nat} (e49 : s.2.1 49 n = Int32.ofNat p) (p1 : 1 ≤ p) (p4 : p < 4400) (n31 : s.2.1 44 n ≠ 31) (h : bSn s N p l) : bSn s N n l := h.elim Or.inl (fun h => Or.inr (bE_up e49 p1 p4 n31 h))
theorem bE_fin {n p l l0 d : Nat} (e49 : s.2.1 49 n = Int32.ofNat p) (p1 : 1 ≤ p) (p4 : p < 4400) (n31 : s.2.1 44 n ≠ 31) (h : bEn s N p l0) (hl : l ≤ l0 + d) (w : WT s N n + 2 * d ≤ WT s N p) : bEn s N n l := by
  obtain ⟨⟨k, u⟩, h⟩ := h
  exact ⟨⟨k + 1, n31, p, p1, p4, e49, u⟩, by omega⟩
theorem bS_2 {n l : Nat} (h : bSn s N n l) : 2 * l ≤ tTl s N := by
  rcases h with h | h
  · omega
  · have := h.2
    omega
theorem k31 {q K : Nat} (eK : s.2.1 44 q = Int32.ofNat K) (hK : K ≤ 30) : s.2.1 44 q ≠ 31 := by
  rw [eK]
  have : ∀ K, K ≤ 30 → Int32.ofNat K ≠ 31 := by decide
  exact this K hK
theorem pts_b {sw : Bool} {Nx : Int32 → Nat → List stE → Prop} {i q lv : Nat} {G : List scN} {g : Int32} {St : List stE} (x : PTs s A B sw Nx i q lv G g St) : ∃ (p c : Nat) (g' : Int32) (t : Nat) (St0 : List stE), s.2.1 45 q = Int32.ofNat p ∧ p < 4400 ∧ St.length = c + St0.length ∧ ((s.2.1 44 p = 4 ∧ c ≤ 1) ∨ (s.2.1 44 p = 10 ∧ c ≤ 2)) ∧ Nx g' t St0 := by
  obtain ⟨p, e45, _, hp, ⟨e4, tv, j, y, St0, eS, _, _, _, _, _, _, _, n⟩ | ⟨e10, tv, ta, pl, k, f0, f, tf, t, St0, eS, _, _, _, _, _, _, _, _, _, _, n⟩⟩ := x
  · exact ⟨p, 1, _, _, St0, e45, hp, by rw [eS]; show St0.length + 1 = _; omega, Or.inl ⟨e4, Nat.le_refl _⟩, n⟩
  · exact ⟨p, 2, _, _, St0, e45, hp, by rw [eS]; show St0.length + 1 + 1 = _; omega, Or.inr ⟨e10, Nat.le_refl _⟩, n⟩
/-- what a point takes off, and what was there before it -/
theorem pt_b {f i q lv K : Nat} {G : List scN} {g : Int32} {St : List stE} (h4 : hi ≤ 4400) (iE : ∀ n b lv G g t St, (CT s A B m F lo hi f).1 n b lv G g t St → s.2.1 44 n ≠ 31 → bEn s N n St.length) (iS : ∀ u n b lv G g St, (CT s A B m F lo hi f).2.1 u n b lv G g St → s.2.1 44 n ≠ 31 → bSn s N n St.length) (eK : s.2.1 44 q = Int32.ofNat K) (hK : K ≤ 31) (h : PTb s A B m F lo hi (CT s A B m F lo hi f).1 (CT s A B m F lo hi f).2.1 i q lv G g St) : ∃ c l0, St.length = c + l0 ∧ 2 * l0 ≤ tTl s N ∧ ((∃ k, upT s hi (k + 1) q) → bEn s N q l0) ∧ cPt s q K c := by
  obtain ⟨_, K', eK', hK', x⟩ := h
  have ek : K' = K := ofn_inj (by omega) (by omega) (eK'.symm.trans eK)
  subst ek
  clear eK'
  have ua : (∃ k, upT s hi (k + 1) q) → ∃ k, upA s (k + 1) q := fun ⟨k, u⟩ => ⟨k, up_A h4 _ _ u⟩
  have fE : ∀ {b lv G g t St0}, K' ≤ 30 → (CT s A B m F lo hi f).1 q b lv G g t St0 → 2 * St0.length ≤ tTl s N ∧ ((∃ k, upT s hi (k + 1) q) → bEn s N q St0.length) := by
    intro b lv G g t St0 k e
    have := iE _ _ _ _ _ _ _ e (k31 eK k)
    exact ⟨bS_2 (Or.inr this), fun _ => this⟩
  have fS : ∀ {u b lv G g St0}, K' ≤ 30 → (CT s A B m F lo hi f).2.1 u q b lv G g St0 → 2 * St0.length ≤ tTl s N ∧ ((∃ k, upT s hi (k + 1) q) → bEn s N q St0.length) := by
    intro u b lv G g St0 k e
    have := iS _ _ _ _ _ _ _ e (k31 eK k)
    exact ⟨bS_2 this, fun u => bS_E (ua u) this⟩
  have one : ∀ {St0 : List stE} {y : stE}, St = y :: St0 → St.length = 1 + St0.length := by
    intro St0 y e
    rw [e]
    show St0.length + 1 = _
    omega
  have hk : K' = 0 ∨ K' = 1 ∨ K' = 2 ∨ K' = 3 ∨ K' = 4 ∨ K' = 5 ∨ K' = 6 ∨ K' = 7 ∨ K' = 8 ∨ K' = 9 ∨ K' = 10 ∨ K' = 11 ∨ K' = 12 ∨ K' = 13 ∨ K' = 14 ∨ K' = 15 ∨ K' = 16 ∨ K' = 17 ∨ K' = 18 ∨ K' = 19 ∨ K' = 20 ∨ K' = 21 ∨ K' = 22 ∨ K' = 23 ∨ K' = 24 ∨ K' = 25 ∨ K' = 26 ∨ K' = 27 ∨ K' = 28 ∨ K' = 29 ∨ K' = 30 ∨ K' = 31 := by omega
  rcases hk with rfl | rfl | rfl | rfl | rfl | rfl | rfl | rfl | rfl | rfl | rfl | rfl | rfl | rfl | rfl | rfl | rfl | rfl | rfl | rfl | rfl | rfl | rfl | rfl | rfl | rfl | rfl | rfl | rfl | rfl | rfl | rfl
  · exact absurd x id
  · obtain ⟨a, b⟩ := fE (by decide) x.2.2
    exact ⟨0, _, (Nat.zero_add _).symm, a, b, cP_o (by decide) (by decide)⟩
  · obtain ⟨a, b⟩ := fE (by decide) x.2.2
    exact ⟨0, _, (Nat.zero_add _).symm, a, b, cP_o (by decide) (by decide)⟩
  · obtain ⟨t, _, _, _, e⟩ := x
    obtain ⟨a, b⟩ := fE (by decide) e
    exact ⟨0, _, (Nat.zero_add _).symm, a, b, cP_o (by decide) (by decide)⟩
  · obtain ⟨j, y, _, _, _, _, _, _, e⟩ := x
    obtain ⟨a, b⟩ := fE (by decide) e
    exact ⟨0, _, (Nat.zero_add _).symm, a, b, cP_o (by decide) (by decide)⟩
  · obtain ⟨j, y, _, _, _, _, _, _, e⟩ := x
    obtain ⟨a, b⟩ := fE (by decide) e
    exact ⟨0, _, (Nat.zero_add _).symm, a, b, cP_o (by decide) (by decide)⟩
  · obtain ⟨t, pl, St0, eS, _, _, _, e⟩ := x
    obtain ⟨a, b⟩ := fE (by decide) e
    exact ⟨1, _, one eS, a, b, cP_o (by decide) (by decide)⟩
  · obtain ⟨p, c, g', t, St0, e45, hp, el, ec, e⟩ := pts_b x
    obtain ⟨a, b⟩ := fE (by decide) e
    exact ⟨c, _, el, a, b, Or.inr (Or.inl ⟨Or.inl rfl, p, e45, hp, ec⟩)⟩
  · obtain ⟨k, m', ts, St0, eS, _, _, _, _, ⟨_, t6⟩, h52, _, alt⟩ := x
    have el : St.length = ts.length + St0.length := by rw [eS, List.length_append, vE_len]
    rcases alt with ⟨_, _, e⟩ | ⟨_, _, cp, _, _, e⟩
    · obtain ⟨a, b⟩ := fE (by decide) e
      exact ⟨_, _, el, a, b, Or.inr (Or.inr (Or.inl ⟨rfl, t6, h52⟩))⟩
    · obtain ⟨a, b⟩ := fE (by decide) e
      exact ⟨_, _, el, a, b, Or.inr (Or.inr (Or.inl ⟨rfl, t6, h52⟩))⟩
  · exact absurd x id
  · obtain ⟨tl, k, f0, f, tf, t, pl, St0, eS, _, _, _, _, _, _, e⟩ := x
    obtain ⟨a, b⟩ := fE (by decide) e
    exact ⟨1, _, one eS, a, b, cP_o (by decide) (by decide)⟩
  · obtain ⟨tl, k, m', t, pl, ts, St0, eS, _, _, ⟨_, t6⟩, _, _, ⟨_, h52⟩, _, _, e⟩ := x
    obtain ⟨a, b⟩ := fE (by decide) e
    have el : St.length = (ts.length + 1) + St0.length := by
      rw [one eS, List.length_append, vE_len]
      omega
    exact ⟨_, _, el, a, b, Or.inr (Or.inr (Or.inr (Or.inl ⟨Or.inl rfl, _, rfl, t6, h52⟩)))⟩
  · obtain ⟨tl, m', pl, ts, St0, eS, _, _, _, ⟨_, t6⟩, h52, _, _, _, e⟩ := x
    obtain ⟨a, b⟩ := fE (by decide) e
    have el : St.length = (ts.length + 1) + St0.length := by
      rw [one eS, List.length_append, vE_len]
      omega
    exact ⟨_, _, el, a, b, Or.inr (Or.inr (Or.inr (Or.inl ⟨Or.inr rfl, _, rfl, t6, h52⟩)))⟩
  · obtain ⟨pl, St0, eS, _, _, e⟩ := x
    obtain ⟨a, b⟩ := fE (by decide) e
    exact ⟨2, St0.length, by rw [eS]; show St0.length + 1 + 1 = _; omega, a, b, Or.inl ⟨rfl, Nat.le_refl _⟩⟩
  · exact absurd x id
  · exact absurd x id
  · exact absurd x id
  · exact absurd x id
  · exact absurd x id
  · exact absurd x id
  · obtain ⟨tv, td, sl, St0, eS, _, _, _, _, _, _, _, u, e⟩ := x
    obtain ⟨a, b⟩ := fS (by decide) e
    exact ⟨1, _, one eS, a, b, cP_o (by decide) (by decide)⟩
  · obtain ⟨u, dd, r, d, y, g2, pl, St0, _, _, _, eS, _, _, _, _, _, ⟨_, _, e⟩ | ⟨e', y', b, g3, _, _, _, _, _, _, _, e⟩⟩ := x
    · obtain ⟨a, b⟩ := fS (by decide) e
      exact ⟨1, _, one eS, a, b, cP_o (by decide) (by decide)⟩
    · obtain ⟨a, b⟩ := fS (by decide) e
      exact ⟨1, _, one eS, a, b, cP_o (by decide) (by decide)⟩
  · obtain ⟨u, dd, l, r, a, d, y, g0, g2, pl, St0, _, _, _, eS, _, _, _, _, _, _, _, _, _, _, _, _, _, e⟩ := x
    obtain ⟨a, b⟩ := fS (by decide) e
    exact ⟨1, _, one eS, a, b, cP_o (by decide) (by decide)⟩
  · obtain ⟨pl, St0, eS, _, _, u, e⟩ := x
    obtain ⟨a, b⟩ := fS (by decide) e
    exact ⟨1, _, one eS, a, b, cP_o (by decide) (by decide)⟩
  · obtain ⟨tv, tr, eS, el, _⟩ := x
    exact ⟨1, 0, congrArg List.length eS, Nat.zero_le _, fun u => bE_0 (ua u), cP_o (by decide) (by decide)⟩
  · obtain ⟨tg, c, R, lv0, Go, gx, St0, eS, _, _, c49, c1, c4, R49, R1, R4, ⟨_, _, R9⟩, _, e⟩ := x
    have bR := iE _ _ _ _ _ _ _ e (by rw [R9]; decide)
    refine ⟨1, _, one eS, bS_2 (Or.inr bR), fun ⟨k, u⟩ => ?_, cP_o (by decide) (by decide)⟩
    obtain ⟨⟨_, u30⟩, p, p1, p2, p3, p4⟩ := u
    have ep : p = c := ofn_inj (by omega) c4 (p3.symm.trans c49)
    subst ep
    cases k with
    | zero =>
      have := u30 rfl
      rw [eK] at this
      exact absurd this (by decide)
    | succ k => exact bE_up c49 c1 c4 (k31 eK (by decide)) (bE_up R49 R1 R4 p4.1.1 bR)
  · obtain ⟨p, c, g', t, St0, e45, hp, el, ec, u, e⟩ := pts_b x
    obtain ⟨a, b⟩ := fS (by decide) e
    exact ⟨c, _, el, a, b, Or.inr (Or.inl ⟨Or.inr rfl, p, e45, hp, ec⟩)⟩
  · obtain ⟨t, pl, St0, eS, _, _, u, e⟩ := x
    obtain ⟨a, b⟩ := fS (by decide) e
    exact ⟨1, _, one eS, a, b, cP_o (by decide) (by decide)⟩
  · exact absurd x id
  · exact absurd x id
  · exact absurd x id
  · exact ⟨0, 0, congrArg List.length x.2.1, Nat.zero_le _, fun u => bE_0 (ua u), cP_o (by decide) (by decide)⟩
end HGB
