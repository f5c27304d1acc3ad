/-! REGIONS: why objects that messages bring may be shared. Places (numbers) hold objects (0: none): place l lies in region hr l (0: frozen), has the right cp l (0 iso, 1 trn, 2 ref, 3 val, 4 box) and holds tg l; object o lies in region rho o; a region that is entered by an iso (tk 1) or a trn (tk 2) has the region pr of the place that enters it; ow: whose a region is. -/
def rg_T (pr tk : Nat → Nat) : Nat → Nat → Nat → Prop
  | 0, x, y => x = y
  | n + 1, x, y => tk x = 2 ∧ rg_T pr tk n (pr x) y
def rg_Tr (pr tk : Nat → Nat) (x y : Nat) : Prop := ∃ n, rg_T pr tk n x y
def rg_S (pr tk : Nat → Nat) (T : Nat) : Nat → Nat → Prop
  | 0, x => x = T
  | n + 1, x => tk x ≠ 0 ∧ rg_S pr tk T n (pr x)
def rg_In (pr tk : Nat → Nat) (T x : Nat) : Prop := ∃ n, rg_S pr tk T n x
def rg_ok (rho pr tk : Nat → Nat) (h c t : Nat) : Prop := t = 0 ∨ (h = 0 ∧ rho t = 0) ∨ (h ≠ 0 ∧ ((c = 3 ∧ rho t = 0) ∨ (c = 2 ∧ rho t = h) ∨ (c = 4 ∧ (rho t = 0 ∨ rg_Tr pr tk (rho t) h)) ∨ (c = 1 ∧ rho t ≠ 0 ∧ tk (rho t) = 2 ∧ pr (rho t) = h) ∨ (c = 0 ∧ rho t ≠ 0 ∧ tk (rho t) = 1 ∧ pr (rho t) = h)))
/-- no place enters region T -/
def rg_free (hr cp tg rho : Nat → Nat) (T : Nat) : Prop := ∀ l, tg l ≠ 0 → hr l ≠ 0 → cp l ≤ 1 → rho (tg l) ≠ T
def rg_Inv (ob hr cp tg rho pr tk ow : Nat → Nat) : Prop :=
  (∀ l, rg_ok rho pr tk (hr l) (cp l) (tg l)) ∧
  (∀ l k, tg l ≠ 0 → tg k ≠ 0 → hr l ≠ 0 → hr k ≠ 0 → cp l ≤ 1 → cp k ≤ 1 → rho (tg l) = rho (tg k) → l = k) ∧
  (∃ ht : Nat → Nat, ∀ r, tk r ≠ 0 → r ≠ 0 ∧ pr r ≠ 0 ∧ ht (pr r) < ht r ∧ ow (pr r) = ow r) ∧
  (∀ l, ob l ≠ 0 → hr l = rho (ob l))
section RG
variable {ob hr cp tg rho pr tk ow : Nat → Nat} {T q r l1 : Nat}
theorem rg_In_self : rg_In pr tk T T := ⟨0, rfl⟩
theorem rg_In_up {x : Nat} (h : rg_In pr tk T x) (hx : x ≠ T) : tk x ≠ 0 ∧ rg_In pr tk T (pr x) := by
  obtain ⟨n, hn⟩ := h
  cases n with
  | zero => exact absurd hn hx
  | succ n => exact ⟨hn.1, n, hn.2⟩
theorem rg_In_dn {x : Nat} (hx : tk x ≠ 0) (h : rg_In pr tk T (pr x)) : rg_In pr tk T x := by
  obtain ⟨n, hn⟩ := h
  exact ⟨n + 1, hx, hn⟩
theorem rg_T_In (n : Nat) : ∀ {x y : Nat}, rg_T pr tk n x y → rg_In pr tk T y → rg_In pr tk T x := by
  induction n with
  | zero => intro x y h hy; have h : x = y := h; rw [h]; exact hy
  | succ n ih => intro x y h hy; exact rg_In_dn (by rw [h.1]; decide) (ih h.2 hy)
theorem rg_Tr_refl {x : Nat} : rg_Tr pr tk x x := ⟨0, rfl⟩
theorem rg_Tr_trans {x y z : Nat} (h : rg_Tr pr tk x y) (h2 : rg_Tr pr tk y z) : rg_Tr pr tk x z := by
  obtain ⟨n, hn⟩ := h
  induction n generalizing x with
  | zero => have hn : x = y := hn; rw [hn]; exact h2
  | succ n ih => obtain ⟨m, hm⟩ := ih hn.2; exact ⟨m + 1, hn.1, hm⟩
theorem rg_Tr_In {x y : Nat} (h : rg_Tr pr tk x y) (hy : rg_In pr tk T y) : rg_In pr tk T x := by
  obtain ⟨n, hn⟩ := h
  exact rg_T_In n hn hy
/-- WHOSE IS WHAT A PLACE LEADS TO: frozen, or its own -/
theorem rg_own (hI : rg_Inv ob hr cp tg rho pr tk ow) (l : Nat) (ht : tg l ≠ 0) (hh : hr l ≠ 0) : rho (tg l) = 0 ∨ ow (rho (tg l)) = ow (hr l) := by
  obtain ⟨h1, _, ⟨g, hg⟩, _⟩ := hI
  rcases h1 l with h | h | ⟨_, h | h | h | h | h⟩
  · exact absurd h ht
  · exact absurd h.1 hh
  · exact Or.inl h.2
  · exact Or.inr (by rw [h.2])
  · rcases h.2 with h0 | ⟨n, hn⟩
    · exact Or.inl h0
    · right
      have key : ∀ (n x y : Nat), rg_T pr tk n x y → ow x = ow y := by
        intro n
        induction n with
        | zero => intro x y h; have h : x = y := h; rw [h]
        | succ n ih => intro x y h; rw [← ih _ _ h.2, (hg x (by rw [h.1]; decide)).2.2.2]
      exact key _ _ _ hn
  · right
    rw [← h.2.2.2, (hg _ (by rw [h.2.2.1]; decide)).2.2.2]
  · right
    rw [← h.2.2.2, (hg _ (by rw [h.2.2.1]; decide)).2.2.2]
/-- a region that is entered from h lies in no other T than h does, but for T itself -/
theorem rg_not_In {x : Nat} (hx : x ≠ T) (hp : ¬ rg_In pr tk T (pr x)) : ¬ rg_In pr tk T x := fun h => hp (rg_In_up h hx).2
/-- the region around T does not lie in T -/
theorem rg_not_above (hI : rg_Inv ob hr cp tg rho pr tk ow) (hT : tk T ≠ 0) : ¬ rg_In pr tk T (pr T) := by
  obtain ⟨_, _, ⟨g, hg⟩, _⟩ := hI
  have key : ∀ (n x : Nat), rg_S pr tk T n x → g T ≤ g x := by
    intro n
    induction n with
    | zero => intro x h; have h : x = T := h; rw [h]; exact Nat.le_refl _
    | succ n ih => intro x h; exact Nat.le_trans (ih _ h.2) (Nat.le_of_lt (hg x h.1).2.2.1)
  intro ⟨n, hn⟩
  exact absurd (hg T hT).2.2.1 (Nat.not_lt.mpr (key _ _ hn))
end RG
