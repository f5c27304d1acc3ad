/-! THE CLASS'S CHECKER: where it stands; its small methods. -/
def ckC (P Sc M sn : Nat) (gn : Int32) (ou : Nat) (rc : Int32) : rm_E := .inr (13, [.ref P, .ref Sc, .ref M, .int (Int32.ofNat sn), .int gn, .int (Int32.ofNat ou), .int rc])
abbrev scA (f : Nat → Option Nat) : rm_E := .inl (6, 16, .inr (.inr (.inr (.inr f))))
/-- a Decl that can be seen: its name's code, slot and type -/
def dSn (L : Nat) (xs : Nat → Int32) (h : rm_H) (d : Nat) (c : Int64) (sl x : Int32) : Prop := (∃ nq, fd h 10 d 0 = some (.ref nq) ∧ nS L xs h nq c) ∧ fd h 10 d 8 = some (.int sl) ∧ fd h 10 d 7 = some (.int x)
/-- the numbers of a walk: u 0 outside, 1 rows' room, 2 code's size, 3 and 4 the code rows' places -/
def KH (L : Nat) (xs : Nat → Int32) (cx : Nat → Nat) (C Sc M : Nat) (pt vr : Int32) (mv : Value) (h : rm_H) (ds : List Nat) (f : Nat → Int64) (sl ty : Nat → Int32) (gn rc a b : Int32) (u : Nat → Nat) (A B : Nat → Int32) : Prop :=
  hc h C = some (ckC (cx 8) Sc M ds.length gn (u 0) rc) ∧ hc h (cx 8) = some (pgK cx pt vr mv a b (u 3) (u 4) (u 2)) ∧ (∃ g, hc h Sc = some (scA g) ∧ ∀ i, i < ds.length → g i = ds[i]?) ∧ (ds.length ≤ 16 ∧ (a = 0 → b = -1)) ∧ (∀ i d, ds[i]? = some d → dSn L xs h d (f i) (sl i) (ty i)) ∧ cdR h (u 3) (u 4) (u 1) A B ∧ u 2 ≤ u 1 ∧ 64 ≤ u 1 ∧ (u 1 = 64 ∨ u 1 ≤ 2 * u 2) ∧ u 0 ≤ ds.length
/-- what a walk may change -/
def wF (cx : Nat → Nat) (C Sc pl ph : Nat) (u : Nat → Nat) (h h' : rm_H) : Prop := fr (fun q => q = C ∨ q = cx 8 ∨ q = Sc ∨ q = u 3 ∨ q = u 4 ∨ (pl ≤ q ∧ q < ph ∧ ∃ fs, hc h q = some (.inr (12, fs)))) h h' ∧ ∀ p fs, hc h p = some (.inr (12, fs)) → hc h' p = some (.inr (12, fs)) ∨ ∃ x, hc h' p = some (.inr (12, fs.set 12 (.int x)))
/-- what a walk costs, and where the code rows lie then -/
def wK2 (u u' : Nat → Nat) (h h' : rm_H) : Prop := (u' 3 = u 3 ∨ 21 + h.length ≤ u' 3) ∧ (u' 4 = u 4 ∨ 21 + h.length ≤ u' 4) ∧ zh h' + 4 * u 1 = zh h + 4 * u' 1 ∧ 32 * h'.length + u 1 ≤ 32 * h.length + u' 1 ∧ u 2 ≤ u' 2 ∧ u 1 ≤ u' 1
section KH
variable {L : Nat} {xs : Nat → Int32} {zf : Value} {w k C Sc M pl ph : Nat} {cx : Nat → Nat} {h h1 h2 : rm_H} {pt vr gn rc a b x y : Int32} {mv : Value} {ds : List Nat} {f : Nat → Int64} {sl ty : Nat → Int32} {u u1 u2 : Nat → Nat} {A B : Nat → Int32}
theorem wF_refl : wF cx C Sc pl ph u h h := ⟨fr_refl _ _, fun _ _ e => Or.inl e⟩
theorem wK2_refl : wK2 u u h h := ⟨Or.inl rfl, Or.inl rfl, rfl, Nat.le_refl _, Nat.le_refl _, Nat.le_refl _⟩
theorem wF_trans (a : wF cx C Sc pl ph u h h1) (k : wK2 u u1 h h1) (b : wF cx C Sc pl ph u1 h1 h2) : wF cx C Sc pl ph u h h2 := by
  obtain ⟨a1, a2⟩ := a
  obtain ⟨b1, b2⟩ := b
  refine ⟨fr_trans a1 b1 (fun q hq z => ?_), fun p fs e => ?_⟩
  · rcases z with z | z | z | z | z | ⟨z1, z2, fs, z⟩
    · exact Or.inl z
    · exact Or.inr (Or.inl z)
    · exact Or.inr (Or.inr (Or.inl z))
    · rcases k.1 with e | e
      · exact Or.inr (Or.inr (Or.inr (Or.inl (z.trans e))))
      · omega
    · rcases k.2.1 with e | e
      · exact Or.inr (Or.inr (Or.inr (Or.inr (Or.inl (z.trans e)))))
      · omega
    · obtain ⟨fs0, e0⟩ := fr_back a1 z hq
      exact Or.inr (Or.inr (Or.inr (Or.inr (Or.inr ⟨z1, z2, fs0, e0⟩))))
  · rcases a2 p fs e with e1 | ⟨v, e1⟩
    · exact b2 p fs e1
    · rcases b2 p _ e1 with e2 | ⟨v2, e2⟩
      · exact Or.inr ⟨v, e2⟩
      · rw [List.set_set] at e2
        exact Or.inr ⟨v2, e2⟩
theorem wK2_trans (a : wK2 u u1 h h1) (b : wK2 u1 u2 h1 h2) (hl : h.length ≤ h1.length) : wK2 u u2 h h2 := by
  obtain ⟨a1, a2, a3, a4, a5, a6⟩ := a
  obtain ⟨b1, b2, b3, b4, b5, b6⟩ := b
  refine ⟨by omega, by omega, by omega, by omega, by omega, by omega⟩
/-- a Node's fields but its type stay -/
theorem wF_12 {p j : Nat} (e : wF cx C Sc pl ph u h h1) (hj : j ≠ 12) {v : Value} (ev : fd h 12 p j = some v) : fd h1 12 p j = some v := by
  obtain ⟨fs, e1, e2⟩ := fd_c ev
  rcases e.2 p fs e1 with e3 | ⟨v2, e3⟩
  · rw [fd_of e3]
    exact e2
  · rw [fd_of e3, List.getElem?_set_ne (fun z => hj z.symm)]
    exact e2
theorem wF_t {p : Nat} {x : Int32} (e : wF cx C Sc pl ph u h h1) (ev : fd h 12 p 12 = some (.int x)) : ∃ y, fd h1 12 p 12 = some (.int y) := by
  obtain ⟨fs, e1, e2⟩ := fd_c ev
  rcases e.2 p fs e1 with e3 | ⟨v2, e3⟩
  · exact ⟨x, by rw [fd_of e3]; exact e2⟩
  · exact ⟨v2, by rw [fd_of e3, List.getElem?_set_self (List.getElem?_eq_some_iff.mp e2).1]⟩
theorem wF_mono {pl' ph' : Nat} (e : wF cx C Sc pl' ph' u h h1) (q1 : pl ≤ pl') (q2 : ph' ≤ ph) : wF cx C Sc pl ph u h h1 := ⟨fr_mono e.1 (fun q _ z => by
  rcases z with z | z | z | z | z | ⟨z1, z2, z3⟩
  · exact Or.inl z
  · exact Or.inr (Or.inl z)
  · exact Or.inr (Or.inr (Or.inl z))
  · exact Or.inr (Or.inr (Or.inr (Or.inl z)))
  · exact Or.inr (Or.inr (Or.inr (Or.inr (Or.inl z))))
  · exact Or.inr (Or.inr (Or.inr (Or.inr (Or.inr ⟨by omega, by omega, z3⟩))))), e.2⟩
/-- objects of other classes stay -/
theorem wF_o {p ci : Nat} {fs : List Value} (kh : KH L xs cx C Sc M pt vr mv h ds f sl ty gn rc a b u A B) (e : wF cx C Sc pl ph u h h1) (ev : hc h p = some (.inr (ci, fs))) (hci : ci ≠ 12 ∧ ci ≠ 4 ∧ ci ≠ 13) : hc h1 p = some (.inr (ci, fs)) := by
  obtain ⟨k1, k2, ⟨g, k3, _⟩, _, _, ⟨k6, k7, _⟩, _⟩ := kh
  refine fr_old e.1 ev (fun z => ?_)
  rcases z with z | z | z | z | z | ⟨_, _, fs2, z⟩
  · rw [z, k1] at ev; cases ev; exact hci.2.2 rfl
  · rw [z, k2] at ev; cases ev; exact hci.2.1 rfl
  · rw [z, k3] at ev; cases ev
  · rw [z, k6] at ev; cases ev
  · rw [z, k7] at ev; cases ev
  · rw [z] at ev; cases ev; exact hci.1 rfl
theorem wF_aL {l ar cap : Nat} {es : List Nat} (kh : KH L xs cx C Sc M pt vr mv h ds f sl ty gn rc a b u A B) (e : wF cx C Sc pl ph u h h1) (ev : aL h l ar cap es) : aL h1 l ar cap es := by
  obtain ⟨mc, e1, e2, e2', e3⟩ := id ev
  obtain ⟨k1, k2, ⟨g, k3, _⟩, _, _, ⟨k6, k7, _⟩, _⟩ := kh
  refine aL_fr e.1 (fun z => ?_) (fun h5 z => ?_) ev
  · rcases z with z | z | z | z | z | ⟨_, _, fs2, z⟩
    · rw [z, k1] at e1; cases e1
    · rw [z, k2] at e1; cases e1
    · rw [z, k3] at e1; cases e1
    · rw [z, k6] at e1; cases e1
    · rw [z, k7] at e1; cases e1
    · rw [z] at e1; cases e1
  · rcases e3 with ⟨q, _⟩ | ⟨f0, q, _⟩
    · exact h5 q
    · rcases z with z | z | z | z | z | ⟨_, _, fs2, z⟩
      · rw [z, k1] at q; cases q
      · rw [z, k2] at q; cases q
      · rw [z, k3] at q; cases q
      · rw [z, k6] at q; cases q
      · rw [z, k7] at q; cases q
      · rw [z] at q; cases q
theorem dSn_o {d : Nat} {c : Int64} {s0 x0 : Int32} {P : Nat → Prop} (hf : fr P h h1) (hd : ∀ fs, hc h d = some (.inr (10, fs)) → hc h1 d = some (.inr (10, fs))) (e : dSn L xs h d c s0 x0) : dSn L xs h1 d c s0 x0 := by
  obtain ⟨⟨nq, e1, e2⟩, e3, e4⟩ := e
  obtain ⟨fs, q1, q2⟩ := fd_c e1
  have q3 := hd fs q1
  rw [fd_of q1] at e1 e3 e4
  exact ⟨⟨nq, by rw [fd_of q3]; exact e1, nS_fr hf e2⟩, by rw [fd_of q3]; exact e3, by rw [fd_of q3]; exact e4⟩
end KH
