/-! THE REFERENCE'S PARSER: nodes and arguments are paid for by tokens: the rules. -/
def sm2 (f : Nat → Int32) : Nat → Nat
  | 0 => 0
  | n + 1 => sm2 f n + (if n = 0 then 0 else (f n).toNatClampNeg)
def tB (b : Bool) (c : Int) (s : rS) : Prop := s.1 57 ≠ 0 ∨ (0 ≤ (s.1 10).toInt ∧ 0 ≤ (s.1 56).toInt ∧ (s.1 56).toInt ≤ (if b = true then 2000 else 2001) ∧ c + (s.1 10).toInt + (sm2 (s.2.1 52) (s.1 10).toInt.toNat : Int) ≤ (s.1 56).toInt)
def oTk (c : Int) (X : Option rA) : Prop := ∀ r s', X = some (r, s') → tB false c s'
def t0m (m : Nat) : Bool := [302, 306, 309, 312, 314, 315, 317, 318, 319, 320, 321, 322, 323, 324].contains m
def t1m (m : Nat) : Bool := [307, 308].contains m
def tpm (m : Nat) : Bool := [303, 310, 313, 325].contains m
def tE (E : rE) : Prop := (∀ m, t0m m = true → ∀ As s c r s', tB false c s → E m As s = some (r, s') → tB false c s') ∧ (∀ m, t1m m = true → ∀ As s c r s', tB false c s → E m As s = some (r, s') → tB false (c + 1) s') ∧ (∀ As b c s r s', tB b c s → E 316 As s = some (r, s') → tB b (c - 1) s') ∧ (∀ As s r s', E 304 As s = some (r, s') → s'.1 57 ≠ 0) ∧ (∀ x s r s', E 305 [.ref 36, .int 1, .int x] s = some (r, s') → s'.1 57 ≠ 0) ∧ (∀ m, tpm m = true → ∀ As s r s', E m As s = some (r, s') → s' = s ∧ (s.1 57 = 0 → (s.1 56).toInt ≤ 2000)) ∧ (∀ As s c r s', tB true c s → E 311 As s = some (r, s') → tB false c s') ∧ ∀ As s c v s', tB false c s → E 309 As s = some (some (.int v), s') → v ≠ 0 → tB false (c + 1) s'
section TKS
theorem tk_upd {g : Nat → Int32} {i j : Nat} {v : Int32} (hj : j ≠ i) : upd g i v j = g j := if_neg hj
variable {s : rS} {E : rE} {α : Type} {b : Bool} {c c' : Int}
theorem tB_le (z : tB b c' s) (h : c ≤ c') : tB false c s := by
  rcases z with z | ⟨z1, z2, z3, z4⟩
  · exact Or.inl z
  · refine Or.inr ⟨z1, z2, ?_, by omega⟩
    rw [if_neg (by decide)]
    split at z3 <;> omega
theorem tB_lt (z : tB true c' s) (h : c ≤ c') : tB true c s := by
  rcases z with z | ⟨z1, z2, z3, z4⟩
  · exact Or.inl z
  · exact Or.inr ⟨z1, z2, z3, by omega⟩
theorem tB_rd (z : tB b c s) (h : s.1 57 = 0 → (s.1 56).toInt ≤ 2000) : tB true c s := by
  rcases z with z | ⟨z1, z2, z3, z4⟩
  · exact Or.inl z
  · by_cases q : s.1 57 = 0
    · exact Or.inr ⟨z1, z2, by rw [if_pos rfl]; exact h q, z4⟩
    · exact Or.inl q
theorem tB_eq {s1 : rS} (h57 : s1.1 57 = s.1 57) (h10 : s1.1 10 = s.1 10) (h56 : s1.1 56 = s.1 56) (h52 : s1.2.1 52 = s.2.1 52) (z : tB b c s) : tB b c s1 := by
  unfold tB
  rw [h57, h10, h56, h52]
  exact z
theorem oTk_none : oTk c none := fun r s' e => by cases e
theorem oTk_rI {t : Option FieldType} {x : Int32} (z : tB false c s) : oTk c (rrI t x s) := fun r s' e => by
  unfold rrI at e
  split at e
  · cases e; exact z
  · cases e
theorem oTk_so {r : Option Value} (z : tB false c s) : oTk c (some (r, s)) := fun r s' e => by cases e; exact z
theorem oTk_if {p : Prop} [Decidable p] {A B : Option rA} (a : oTk c A) (b : oTk c B) : oTk c (if p then A else B) := by
  split
  · exact a
  · exact b
theorem oTk_rd {f : Option α} {g : α → Option rA} (a : ∀ x, oTk c (g x)) : oTk c (f.bind g) := by
  cases f with
  | none => exact oTk_none
  | some x => exact a x
theorem oTk_bi {f : Option α} {g : α → Option rA} (a : ∀ x, f = some x → oTk c (g x)) : oTk c (f.bind g) := by
  cases f with
  | none => exact oTk_none
  | some x => exact a x rfl
theorem rd56 {p : Nat} {x : Int32} (hp : (p == 40 || p == 41 || p == 42) = true) (e : rs_aI s p (s.1 56) = some x) : (s.1 56).toInt ≤ 2000 := by
  have t : (rs_t p).2.1 = 2001 := by
    simp only [Bool.or_eq_true, beq_iff_eq] at hp
    rcases hp with (h | h) | h <;> subst h <;> rfl
  unfold rs_aI at e
  split at e
  · rename_i h
    rw [t] at h
    simp only [Bool.and_eq_true] at h
    have := h.2
    unfold rm_in at this
    simp at this
    have q : (s.1 56).toNatClampNeg = (s.1 56).toInt.toNat := rfl
    omega
  · cases e
theorem oTk_r56 {p : Nat} {g : Int32 → Option rA} (hp : (p == 40 || p == 41 || p == 42) = true) (z : tB b c' s) (a : ∀ x, tB true c' s → oTk c (g x)) : oTk c ((rs_aI s p (s.1 56)).bind g) := oTk_bi fun x e => a x (tB_rd z (fun _ => rd56 hp e))
theorem oTk_56 {g : rS → Option rA} (z : tB true c' s) (a : ∀ s1, tB false (c' + 1) s1 → oTk c (g s1)) : oTk c ((rs_pI s 56 ((s.1 56) + 1)).bind g) := oTk_bi fun s1 e => a s1 (by
  unfold rs_pI at e
  split at e
  · cases e
    rcases z with z | ⟨z1, z2, z3, z4⟩
    · exact Or.inl z
    · rw [if_pos rfl] at z3
      have q : (s.1 56 + 1).toInt = (s.1 56).toInt + 1 := by
        rw [Int32.toInt_add, show (1 : Int32).toInt = 1 from by decide, Int.bmod_def]
        split <;> omega
      have e56 : (rs_w s 56 (s.1 56 + 1)).1 56 = s.1 56 + 1 := by
        show upd s.1 56 (s.1 56 + 1) 56 = _
        exact if_pos rfl
      refine Or.inr ⟨z1, by rw [e56, q]; omega, by rw [e56, q, if_neg (by decide)]; omega, ?_⟩
      rw [e56, q]
      show c' + 1 + (s.1 10).toInt + (sm2 (s.2.1 52) (s.1 10).toInt.toNat : Int) ≤ _
      omega
  · cases e)
theorem oTk_pI {p : Nat} {v : Int32} {g : rS → Option rA} (hp : (p != 10 && p != 56 && p != 57) = true) (z : tB b c' s) (a : ∀ s1, tB b c' s1 → oTk c (g s1)) : oTk c ((rs_pI s p v).bind g) := oTk_bi fun s1 e => a s1 (by
  simp only [Bool.and_eq_true, bne_iff_ne, ne_eq] at hp
  unfold rs_pI at e
  split at e
  · cases e
    exact tB_eq (tk_upd (by omega)) (tk_upd (by omega)) (tk_upd (by omega)) rfl z
  · cases e)
theorem oTk_sI {p : Nat} {i v : Int32} {g : rS → Option rA} (hp : (p != 52) = true) (z : tB b c' s) (a : ∀ s1, tB b c' s1 → oTk c (g s1)) : oTk c ((rs_sI s p i v).bind g) := oTk_bi fun s1 e => a s1 (by
  simp only [bne_iff_ne, ne_eq] at hp
  unfold rs_sI at e
  split at e
  · cases e
    exact tB_eq (s := s) rfl rfl rfl (if_neg (by omega)) z
  · cases e)
theorem oTk_sB {p : Nat} {i v : Int32} {g : rS → Option rA} (hp : (p != 52) = true) (z : tB b c' s) (a : ∀ s1, tB b c' s1 → oTk c (g s1)) : oTk c ((rs_sB s p i v).bind g) := oTk_bi fun s1 e => a s1 (by
  simp only [bne_iff_ne, ne_eq] at hp
  unfold rs_sB at e
  split at e
  · cases e
    exact tB_eq (s := s) rfl rfl rfl (if_neg (by omega)) z
  · cases e)
theorem oTk_sJ {p : Nat} {i : Int32} {v : Int64} {g : rS → Option rA} (z : tB b c' s) (a : ∀ s1, tB b c' s1 → oTk c (g s1)) : oTk c ((rs_sJ s p i v).bind g) := oTk_bi fun s1 e => a s1 (by
  unfold rs_sJ at e
  split at e
  · cases e
    exact tB_eq (s := s) rfl rfl rfl rfl z
  · cases e)
theorem oTk_I0 (hE : tE E) {m : Nat} {As : List Value} {g : Int32 × rS → Option rA} (hm : t0m m = true) (z : tB b c' s) (a : ∀ x : Int32 × rS, tB false c' x.2 → oTk c (g x)) : oTk c (((E m As s).bind rxI).bind g) := oTk_bi fun x e => a x (by
  cases e1 : E m As s with
  | none => rw [e1] at e; cases e
  | some y =>
    obtain ⟨r, s1⟩ := y
    rw [e1] at e
    have k : tB false c' s1 := hE.1 m hm As s c' r s1 (tB_le z (Int.le_refl _)) e1
    have e : rxI (r, s1) = some x := e
    unfold rxI at e
    split at e
    · cases e; exact k
    · cases e)
theorem oTk_V0 (hE : tE E) {m : Nat} {As : List Value} {g : rS → Option rA} (hm : t0m m = true) (z : tB b c' s) (a : ∀ x : rS, tB false c' x → oTk c (g x)) : oTk c (((E m As s).bind rxV).bind g) := oTk_bi fun x e => a x (by
  cases e1 : E m As s with
  | none => rw [e1] at e; cases e
  | some y =>
    obtain ⟨r, s1⟩ := y
    rw [e1] at e
    have k : tB false c' s1 := hE.1 m hm As s c' r s1 (tB_le z (Int.le_refl _)) e1
    have e : rxV (r, s1) = some x := e
    unfold rxV at e
    split at e
    · cases e; exact k
    · cases e)
theorem oTk_I1 (hE : tE E) {m : Nat} {As : List Value} {g : Int32 × rS → Option rA} (hm : t1m m = true) (z : tB b c' s) (a : ∀ x : Int32 × rS, tB false (c' + 1) x.2 → oTk c (g x)) : oTk c (((E m As s).bind rxI).bind g) := oTk_bi fun x e => a x (by
  cases e1 : E m As s with
  | none => rw [e1] at e; cases e
  | some y =>
    obtain ⟨r, s1⟩ := y
    rw [e1] at e
    have k : tB false (c' + 1) s1 := hE.2.1 m hm As s c' r s1 (tB_le z (Int.le_refl _)) e1
    have e : rxI (r, s1) = some x := e
    unfold rxI at e
    split at e
    · cases e; exact k
    · cases e)
theorem oTk_V1 (hE : tE E) {m : Nat} {As : List Value} {g : rS → Option rA} (hm : t1m m = true) (z : tB b c' s) (a : ∀ x : rS, tB false (c' + 1) x → oTk c (g x)) : oTk c (((E m As s).bind rxV).bind g) := oTk_bi fun x e => a x (by
  cases e1 : E m As s with
  | none => rw [e1] at e; cases e
  | some y =>
    obtain ⟨r, s1⟩ := y
    rw [e1] at e
    have k : tB false (c' + 1) s1 := hE.2.1 m hm As s c' r s1 (tB_le z (Int.le_refl _)) e1
    have e : rxV (r, s1) = some x := e
    unfold rxV at e
    split at e
    · cases e; exact k
    · cases e)
theorem oTk_316 (hE : tE E) {As : List Value} {g : Int32 × rS → Option rA} (z : tB b c' s) (a : ∀ x : Int32 × rS, tB b (c' - 1) x.2 → oTk c (g x)) : oTk c (((E 316 As s).bind rxI).bind g) := oTk_bi fun x e => a x (by
  cases e1 : E 316 As s with
  | none => rw [e1] at e; cases e
  | some y =>
    obtain ⟨r, s1⟩ := y
    rw [e1] at e
    have k : tB b (c' - 1) s1 := hE.2.2.1 As b c' s r s1 z e1
    have e : rxI (r, s1) = some x := e
    unfold rxI at e
    split at e
    · cases e; exact k
    · cases e)
theorem oTk_304 (hE : tE E) {As : List Value} {g : rS → Option rA}  (a : ∀ x : rS, tB true (c + 100) x → oTk c (g x)) : oTk c (((E 304 As s).bind rxV).bind g) := oTk_bi fun x e => a x (by
  cases e1 : E 304 As s with
  | none => rw [e1] at e; cases e
  | some y =>
    obtain ⟨r, s1⟩ := y
    rw [e1] at e
    have k : tB true (c + 100) s1 := Or.inl (hE.2.2.2.1 As s r s1 e1)
    have e : rxV (r, s1) = some x := e
    unfold rxV at e
    split at e
    · cases e; exact k
    · cases e)
theorem oTk_311 (hE : tE E) {As : List Value} {g : rS → Option rA} (z : tB true c' s) (a : ∀ x : rS, tB false c' x → oTk c (g x)) : oTk c (((E 311 As s).bind rxV).bind g) := oTk_bi fun x e => a x (by
  cases e1 : E 311 As s with
  | none => rw [e1] at e; cases e
  | some y =>
    obtain ⟨r, s1⟩ := y
    rw [e1] at e
    have k : tB false c' s1 := hE.2.2.2.2.2.2.1 As s c' r s1 z e1
    have e : rxV (r, s1) = some x := e
    unfold rxV at e
    split at e
    · cases e; exact k
    · cases e)
theorem oTk_pk (hE : tE E) {m : Nat} {As : List Value} {g : Int32 × rS → Option rA} (hm : tpm m = true) (z : tB b c' s) (a : ∀ x : Int32 × rS, tB true c' x.2 → oTk c (g x)) : oTk c (((E m As s).bind rxI).bind g) := oTk_bi fun x e => a x (by
  cases e1 : E m As s with
  | none => rw [e1] at e; cases e
  | some y =>
    obtain ⟨r, s1⟩ := y
    rw [e1] at e
    have k : tB true c' s1 := by
      obtain ⟨q1, q2⟩ := hE.2.2.2.2.2.1 m hm As s r s1 e1
      rw [q1]
      exact tB_rd z q2
    have e : rxI (r, s1) = some x := e
    unfold rxI at e
    split at e
    · cases e; exact k
    · cases e)
end TKS
