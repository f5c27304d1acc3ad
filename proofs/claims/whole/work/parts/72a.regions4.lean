/-! REGIONS WITH OWNERS: what stays when a value comes to rest. g: hr, rho, pr, tk, ow. -/
abbrev rGt : Type := (Nat → Nat) × (Nat → Nat) × (Nat → Nat) × (Nat → Nat) × (Nat → Nat)
def rgI (ob cp tg : Nat → Nat) (g : rGt) : Prop := rg_Inv ob g.1 cp tg g.2.1 g.2.2.1 g.2.2.2.1 g.2.2.2.2
/-- x lies in T -/
def inR (g : rGt) (T x : Nat) : Prop := rg_In g.2.2.1 g.2.2.2.1 T x
/-- only what lies in T has changed; q: the region where the value lies now -/
def rCh (T q : Nat) (g g' : rGt) : Prop := ∃ phi : Nat → Nat, phi 0 = 0 ∧ (∀ x, ¬ inR g T x → phi x = x ∧ g'.2.2.2.2 x = g.2.2.2.2 x ∧ g'.2.2.2.1 x = g.2.2.2.1 x ∧ (g.2.2.2.1 x ≠ 0 → g'.2.2.1 x = g.2.2.1 x)) ∧ (∀ x, inR g T x → phi x = 0 ∨ g'.2.2.2.2 (phi x) = g.2.2.2.2 q) ∧ (∀ x, phi x = x ∨ phi x = 0 ∨ phi x = q) ∧ (∀ x, g'.2.2.2.1 x ≠ 0 → (g.2.2.2.1 x ≠ 0 ∧ (g'.2.2.1 x = g.2.2.1 x ∨ g'.2.2.1 x = q)) ∨ (x = T ∧ g'.2.2.1 x = q)) ∧ (∀ l, g'.1 l = phi (g.1 l)) ∧ ∀ o, g'.2.1 o = phi (g.2.1 o)
/-- what stays: the regions of E, what lies in them; a's things are a's, or a1's, or frozen -/
def rSt (a a1 : Nat) (E P : Nat → Prop) (g g' : rGt) : Prop := (∀ x, E x → g'.2.2.2.1 x = g.2.2.2.1 x ∧ g'.2.2.2.2 x = g.2.2.2.2 x ∧ (g.2.2.2.1 x ≠ 0 → g'.2.2.1 x = g.2.2.1 x) ∧ ∀ X, inR g' X x ↔ inR g X x) ∧ (∀ l, ¬ P l → E (g.1 l) → g'.1 l = g.1 l) ∧ (∀ o, E (g.2.1 o) → g'.2.1 o = g.2.1 o) ∧ ∀ o, g.2.2.2.2 (g.2.1 o) = a → g'.2.1 o = 0 ∨ g'.2.2.2.2 (g'.2.1 o) = a ∨ g'.2.2.2.2 (g'.2.1 o) = a1
/-- numbers of regions are below N -/
def rBd (N : Nat) (tg : Nat → Nat) (g : rGt) : Prop := (∀ l, tg l ≠ 0 → g.1 l < N) ∧ (∀ o, g.2.1 o < N) ∧ ∀ r, g.2.2.2.1 r ≠ 0 → r < N ∧ g.2.2.1 r < N
section RG4
variable {ob cp tg : Nat → Nat} {g g' g1 g2 : rGt} {T q r a a1 N : Nat} {E P : Nat → Prop}
theorem inR_r : inR g T T := ⟨0, rfl⟩
theorem inR_t {A B C : Nat} (h : inR g A B) (h2 : inR g B C) : inR g A C := by
  obtain ⟨n, hn⟩ := h2
  induction n generalizing C with
  | zero => have hn : C = B := hn; rw [hn]; exact h
  | succ n ih => exact rg_In_dn hn.1 (ih hn.2)
theorem inR_up {x : Nat} (hx : g.2.2.2.1 x ≠ 0) : inR g (g.2.2.1 x) x := ⟨1, hx, rfl⟩
theorem inR_c {A B x : Nat} (h : inR g A x) (h2 : inR g B x) : inR g A B ∨ inR g B A := by
  obtain ⟨n, hn⟩ := h
  induction n generalizing x with
  | zero => have hn : x = A := hn; rw [hn] at h2; exact Or.inr h2
  | succ n ih =>
    by_cases c : x = B
    · rw [← c]; exact Or.inl ⟨n + 1, hn⟩
    · exact ih (rg_In_up h2 c).2 hn.2
theorem inR_ow (hI : rgI ob cp tg g) {A x : Nat} (h : inR g A x) : g.2.2.2.2 x = g.2.2.2.2 A := by
  obtain ⟨_, _, ⟨ht, hg⟩, _⟩ := hI
  obtain ⟨n, hn⟩ := h
  induction n generalizing x with
  | zero => have hn : x = A := hn; rw [hn]
  | succ n ih => rw [← ih hn.2]; exact (hg x hn.1).2.2.2.symm
theorem inR_h (hI : rgI ob cp tg g) : ∃ ht : Nat → Nat, ∀ A x, inR g A x → x = A ∨ ht A < ht x := by
  obtain ⟨_, _, ⟨ht, hg⟩, _⟩ := hI
  refine ⟨ht, fun A x h => ?_⟩
  obtain ⟨n, hn⟩ := h
  induction n generalizing x with
  | zero => exact Or.inl hn
  | succ n ih =>
    have h1 := (hg x hn.1).2.2.1
    rcases ih _ hn.2 with e | e
    · rw [e] at h1; exact Or.inr h1
    · exact Or.inr (by omega)
theorem inR_as (hI : rgI ob cp tg g) {A B : Nat} (h : inR g A B) (h2 : inR g B A) : A = B := by
  obtain ⟨ht, e⟩ := inR_h hI
  rcases e _ _ h with z | z
  · exact z.symm
  · rcases e _ _ h2 with y | y
    · exact y
    · omega
theorem inR_0 (hI : rgI ob cp tg g) {A : Nat} (h : inR g A 0) : A = 0 := by
  obtain ⟨_, _, ⟨ht, hg⟩, _⟩ := hI
  obtain ⟨n, hn⟩ := h
  cases n with
  | zero => exact Eq.symm hn
  | succ n => exact absurd rfl (hg 0 hn.1).1
/-- what is entered from r lies in r, and r not in it -/
theorem inR_e (hI : rgI ob cp tg g) {l : Nat} (ht : tg l ≠ 0) (hh : g.1 l ≠ 0) (hc : cp l ≤ 1) : inR g (g.1 l) (g.2.1 (tg l)) ∧ ¬ inR g (g.2.1 (tg l)) (g.1 l) := by
  obtain ⟨e1, e2, e3⟩ := rg_ent hI l ht hh hc
  have e2' : g.2.2.2.1 (g.2.1 (tg l)) ≠ 0 := by rw [e2]; exact Nat.succ_ne_zero _
  have n := rg_not_above hI e2'
  rw [e3] at n
  have u := inR_up e2'
  rw [e3] at u
  exact ⟨u, n⟩
theorem inR_k (hc : rCh T q g g') {x : Nat} (hx : ¬ inR g T x) (X : Nat) : inR g' X x ↔ inR g X x := by
  obtain ⟨phi, _, h2, _⟩ := hc
  have key : ∀ (n x : Nat), ¬ inR g T x → (rg_S g'.2.2.1 g'.2.2.2.1 X n x ↔ rg_S g.2.2.1 g.2.2.2.1 X n x) := by
    intro n
    induction n with
    | zero => exact fun x _ => Iff.rfl
    | succ n ih =>
      intro x hx
      obtain ⟨_, _, z1, z2⟩ := h2 x hx
      show (g'.2.2.2.1 x ≠ 0 ∧ rg_S g'.2.2.1 g'.2.2.2.1 X n (g'.2.2.1 x)) ↔ (g.2.2.2.1 x ≠ 0 ∧ rg_S g.2.2.1 g.2.2.2.1 X n (g.2.2.1 x))
      rw [z1]
      constructor
      · intro ⟨u, v⟩
        have np : ¬ inR g T (g.2.2.1 x) := fun z => hx (rg_In_dn u z)
        rw [z2 u] at v
        exact ⟨u, (ih _ np).mp v⟩
      · intro ⟨u, v⟩
        have np : ¬ inR g T (g.2.2.1 x) := fun z => hx (rg_In_dn u z)
        rw [z2 u]
        exact ⟨u, (ih _ np).mpr v⟩
  exact ⟨fun ⟨n, hn⟩ => ⟨n, (key n x hx).mp hn⟩, fun ⟨n, hn⟩ => ⟨n, (key n x hx).mpr hn⟩⟩
theorem rCh_st (hc : rCh T q g g') (hE : ∀ x, E x → ¬ inR g T x) : rSt a (g.2.2.2.2 q) E P g g' := by
  have ik := fun x (hx : ¬ inR g T x) X => inR_k hc hx X
  obtain ⟨phi, h1, h2, h3, h4, h5, h6, h7⟩ := hc
  refine ⟨fun x hx => ?_, fun l _ hx => ?_, fun o hx => ?_, fun o ho => ?_⟩
  · obtain ⟨z0, z1, z2, z3⟩ := h2 x (hE x hx)
    exact ⟨z2, z1, z3, ik x (hE x hx)⟩
  · rw [h6]; exact (h2 _ (hE _ hx)).1
  · rw [h7]; exact (h2 _ (hE _ hx)).1
  · rw [h7]
    by_cases c : inR g T (g.2.1 o)
    · rcases h3 _ c with z | z
      · exact Or.inl z
      · exact Or.inr (Or.inr z)
    · obtain ⟨z0, z1, _⟩ := h2 _ c
      rw [z0, z1]
      exact Or.inr (Or.inl ho)
theorem rCh_bd {tg' : Nat → Nat} (hc : rCh T q g g') (hb : rBd N tg g) (hq : q < N) (hT : T < N) (ht : ∀ l, tg' l ≠ 0 → tg l ≠ 0 ∨ g.1 l < N) : rBd N tg' g' := by
  obtain ⟨phi, h1, h2, h3, h4, h5, h6, h7⟩ := hc
  obtain ⟨b1, b2, b3⟩ := hb
  refine ⟨fun l hl => ?_, fun o => ?_, fun r hr => ?_⟩
  · have h0 : g.1 l < N := by
      rcases ht l hl with z | z
      · exact b1 l z
      · exact z
    rw [h6]
    rcases h4 (g.1 l) with z | z | z
    · rw [z]; exact h0
    · rw [z]; omega
    · rw [z]; exact hq
  · have h0 := b2 o
    rw [h7]
    rcases h4 (g.2.1 o) with z | z | z
    · rw [z]; exact h0
    · rw [z]; omega
    · rw [z]; exact hq
  · rcases h5 r hr with ⟨z1, z2 | z2⟩ | ⟨z1, z2⟩
    · rw [z2]; exact b3 r z1
    · rw [z2]; exact ⟨(b3 r z1).1, hq⟩
    · rw [z2, z1]; exact ⟨hT, hq⟩
theorem rSt_t (E0 : E 0) (h : rSt a a1 E P g g1) (h2 : rSt a a1 E P g1 g2) (e1 : ∀ o, g1.2.2.2.2 (g1.2.1 o) = a1 → g2.2.1 o = 0 ∨ g2.2.2.2.2 (g2.2.1 o) = a ∨ g2.2.2.2.2 (g2.2.1 o) = a1) : rSt a a1 E P g g2 := by
  obtain ⟨p1, p2, p3, p4⟩ := h
  obtain ⟨q1, q2, q3, q4⟩ := h2
  refine ⟨fun x hx => ?_, fun l hp hx => ?_, fun o hx => ?_, fun o ho => ?_⟩
  · obtain ⟨x1, x2, x3, x4⟩ := p1 x hx
    obtain ⟨y1, y2, y3, y4⟩ := q1 x hx
    exact ⟨y1.trans x1, y2.trans x2, fun z => (y3 (by rw [x1]; exact z)).trans (x3 z), fun X => (y4 X).trans (x4 X)⟩
  · have z := p2 l hp hx
    rw [q2 l hp (by rw [z]; exact hx), z]
  · have z := p3 o hx
    rw [q3 o (by rw [z]; exact hx), z]
  · rcases p4 o ho with z | z | z
    · left
      rw [q3 o (by rw [z]; exact E0), z]
    · exact q4 o z
    · exact e1 o z
/-- a value that no other place enters is laid down with right d: iso or trn, or what a region that is closed gives -/
theorem rl_lay (hI : rgI ob cp tg g) (l1 d t : Nat) (h0 : g.2.1 t ≠ 0) (hf : rg_free g.1 cp tg g.2.1 (g.2.1 t)) (hq0 : g.1 l1 ≠ 0) (hq : ¬ inR g (g.2.1 t) (g.1 l1)) (hd : g.2.2.2.1 (g.2.1 t) = 2 → d = 3 ∨ (d ≠ 0 ∧ rg_Tr g.2.2.1 g.2.2.2.1 (g.1 l1) (g.2.2.1 (g.2.1 t)))) (hd4 : d ≤ 4) :
    ∃ g' : rGt, rgI ob (rg_up cp l1 d) (rg_up tg l1 t) g' ∧ rCh (g.2.1 t) (g.1 l1) g g' ∧ g'.1 l1 = g.1 l1 := by
  obtain ⟨hr, rho, pr, tk, ow⟩ := g
  have hI : rg_Inv ob hr cp tg rho pr tk ow := hI
  have h0 : rho t ≠ 0 := h0
  have hf : rg_free hr cp tg rho (rho t) := hf
  have hq0 : hr l1 ≠ 0 := hq0
  have hq : ¬ rg_In pr tk (rho t) (hr l1) := hq
  have hd : tk (rho t) = 2 → d = 3 ∨ (d ≠ 0 ∧ rg_Tr pr tk (hr l1) (pr (rho t))) := hd
  have hf1 : rg_free hr cp (rg_up tg l1 0) rho (rho t) := by
    intro l
    by_cases hl : l = l1
    · rw [hl, rg_up_eq]; intro z; exact absurd rfl z
    · rw [rg_up_ne _ hl]; exact hf l
  have hne : hr l1 ≠ rho t := fun z => hq (z ▸ rg_In_self)
  by_cases d3 : d = 3
  · have hI2 := rg_freeze (rg_drop hI l1) h0 hf1
    have hnq : rg_fz pr tk (rho t) (hr l1) = hr l1 := rg_fz_out hq
    have hI3 := rg_set (l1 := l1) hI2 3 t (Or.inr (by decide)) (Or.inr (Or.inr ⟨by show rg_fz pr tk (rho t) (hr l1) ≠ 0; rw [hnq]; exact hq0, Or.inl ⟨rfl, rg_fz_in rg_In_self⟩⟩))
    rw [rg_up_up] at hI3
    subst d3
    refine ⟨(fun l => rg_fz pr tk (rho t) (hr l), fun o => rg_fz pr tk (rho t) (rho o), pr, tk, ow), hI3, ⟨rg_fz pr tk (rho t), rg_fz_0, fun x hx => ⟨rg_fz_out hx, rfl, rfl, fun _ => rfl⟩, fun x hx => Or.inl (rg_fz_in hx), fun x => ?_, fun x hx => Or.inl ⟨hx, Or.inl rfl⟩, fun _ => rfl, fun _ => rfl⟩, hnq⟩
    by_cases c : rg_In pr tk (rho t) x
    · exact Or.inr (Or.inl (rg_fz_in c))
    · exact Or.inl (rg_fz_out c)
  · have hd2 : tk (rho t) = 2 → d ≠ 0 ∧ rg_Tr pr tk (hr l1) (pr (rho t)) := by
      intro z
      rcases hd z with y | y
      · exact absurd y d3
      · exact y
    by_cases d01 : d ≤ 1
    · refine ⟨(hr, rho, rg_up pr (rho t) (hr l1), rg_up tk (rho t) (d + 1), rg_sh pr tk (rho t) ow (fun _ => ow (hr l1))), rg_move hI t d h0 hf1 hq0 hq d01 (fun z => ⟨?_, (hd2 z).2⟩), ⟨id, rfl, fun x hx => ?_, fun x hx => Or.inr (show rg_sh pr tk (rho t) ow (fun _ => ow (hr l1)) x = ow (hr l1) from rg_sh_in hx), fun x => Or.inl rfl, fun x hx => ?_, fun _ => rfl, fun _ => rfl⟩, rfl⟩
      · have := (hd2 z).1; omega
      · have hx : ¬ rg_In pr tk (rho t) x := hx
        have hxT : x ≠ rho t := fun z => hx (z ▸ rg_In_self)
        exact ⟨rfl, (show rg_sh pr tk (rho t) ow (fun _ => ow (hr l1)) x = ow x from rg_sh_out hx), rg_up_ne _ hxT, fun _ => rg_up_ne _ hxT⟩
      · by_cases hxT : x = rho t
        · exact Or.inr ⟨hxT, by rw [hxT]; exact rg_up_eq _ _ _⟩
        · have hx : rg_up tk (rho t) (d + 1) x ≠ 0 := hx
          rw [rg_up_ne _ hxT] at hx
          exact Or.inl ⟨hx, Or.inl (rg_up_ne _ hxT)⟩
    · have ok1 : tk (rho t) = 2 → (1 : Nat) = 1 ∧ rg_Tr pr tk (hr l1) (pr (rho t)) := fun z => ⟨rfl, (hd2 z).2⟩
      have hI1 := rg_move hI t 1 h0 hf1 hq0 hq (by decide) ok1
      have hI2 := rg_drop hI1 l1
      rw [rg_up_up] at hI2
      have hf2 : rg_free hr (rg_up cp l1 1) (rg_up tg l1 0) rho (rho t) := by
        intro l
        by_cases hl : l = l1
        · rw [hl, rg_up_eq]; intro z; exact absurd rfl z
        · rw [rg_up_ne _ hl, rg_up_ne _ hl]
          exact hf l
      have hI3 := rg_merge (T := rho t) (r := hr l1) hI2 (by rw [rg_up_eq]; decide) (rg_up_eq _ _ _) hf2
      have e1 : rg_mg (rho t) (hr l1) (hr l1) = hr l1 := rg_mg_ne hne
      have okd : rg_ok (fun o => rg_mg (rho t) (hr l1) (rho o)) (fun z => rg_mg (rho t) (hr l1) (rg_up pr (rho t) (hr l1) z)) (rg_up tk (rho t) (1 + 1)) (rg_mg (rho t) (hr l1) (hr l1)) d t := by
        right; right
        rw [e1]
        refine ⟨hq0, ?_⟩
        have e2 : rg_mg (rho t) (hr l1) (rho t) = hr l1 := rg_mg_eq
        by_cases d2 : d = 2
        · right; left; exact ⟨d2, e2⟩
        · right; right; left
          refine ⟨by omega, Or.inr ?_⟩
          show rg_Tr _ _ (rg_mg (rho t) (hr l1) (rho t)) (hr l1)
          rw [e2]
          exact rg_Tr_refl
      have hI4 := rg_set (l1 := l1) hI3 d t (Or.inr (by omega)) okd
      rw [rg_up_up, rg_up_up] at hI4
      refine ⟨(fun l => rg_mg (rho t) (hr l1) (hr l), fun o => rg_mg (rho t) (hr l1) (rho o), fun z => rg_mg (rho t) (hr l1) (rg_up pr (rho t) (hr l1) z), rg_up tk (rho t) (1 + 1), rg_sh pr tk (rho t) ow (fun _ => ow (hr l1))), hI4, ⟨rg_mg (rho t) (hr l1), rg_mg_0 h0, fun x hx => ?_, fun x hx => ?_, fun x => ?_, fun x hx => ?_, fun _ => rfl, fun _ => rfl⟩, e1⟩
      · have hx : ¬ rg_In pr tk (rho t) x := hx
        have hxT : x ≠ rho t := fun z => hx (z ▸ rg_In_self)
        refine ⟨rg_mg_ne hxT, (show rg_sh pr tk (rho t) ow (fun _ => ow (hr l1)) x = ow x from rg_sh_out hx), rg_up_ne _ hxT, fun (k0 : tk x ≠ 0) => ?_⟩
        show rg_mg (rho t) (hr l1) (rg_up pr (rho t) (hr l1) x) = pr x
        rw [rg_up_ne _ hxT]
        exact rg_mg_ne (fun z => hx (rg_In_dn k0 (z ▸ rg_In_self)))
      · right
        by_cases hxT : x = rho t
        · rw [hxT, rg_mg_eq]; exact (show rg_sh pr tk (rho t) ow (fun _ => ow (hr l1)) (hr l1) = ow (hr l1) from rg_sh_out hq)
        · rw [rg_mg_ne hxT]; exact (show rg_sh pr tk (rho t) ow (fun _ => ow (hr l1)) x = ow (hr l1) from rg_sh_in hx)
      · by_cases hxT : x = rho t
        · rw [hxT]; exact Or.inr (Or.inr rg_mg_eq)
        · exact Or.inl (rg_mg_ne hxT)
      · by_cases hxT : x = rho t
        · refine Or.inr ⟨hxT, ?_⟩
          show rg_mg (rho t) (hr l1) (rg_up pr (rho t) (hr l1) x) = hr l1
          rw [hxT, rg_up_eq]; exact e1
        · have hx : rg_up tk (rho t) (1 + 1) x ≠ 0 := hx
          rw [rg_up_ne _ hxT] at hx
          refine Or.inl ⟨hx, ?_⟩
          show rg_mg (rho t) (hr l1) (rg_up pr (rho t) (hr l1) x) = pr x ∨ rg_mg (rho t) (hr l1) (rg_up pr (rho t) (hr l1) x) = hr l1
          rw [rg_up_ne _ hxT]
          by_cases c : pr x = rho t
          · rw [c]; exact Or.inr rg_mg_eq
          · exact Or.inl (rg_mg_ne c)
/-- region T is frozen -/
theorem rl_fz (hI : rgI ob cp tg g) (hT : T ≠ 0) (hf : rg_free g.1 cp tg g.2.1 T) : ∃ g' : rGt, rgI ob cp tg g' ∧ rCh T T g g' ∧ (∀ x, inR g T x → ∀ o, g.2.1 o = x → g'.2.1 o = 0) := by
  obtain ⟨hr, rho, pr, tk, ow⟩ := g
  have hI : rg_Inv ob hr cp tg rho pr tk ow := hI
  refine ⟨(fun l => rg_fz pr tk T (hr l), fun o => rg_fz pr tk T (rho o), pr, tk, ow), rg_freeze hI hT hf, ⟨rg_fz pr tk T, rg_fz_0, fun x hx => ⟨rg_fz_out hx, rfl, rfl, fun _ => rfl⟩, fun x hx => Or.inl (rg_fz_in hx), fun x => ?_, fun x hx => Or.inl ⟨hx, Or.inl rfl⟩, fun _ => rfl, fun _ => rfl⟩, fun x hx o e => ?_⟩
  · by_cases c : rg_In pr tk T x
    · exact Or.inr (Or.inl (rg_fz_in c))
    · exact Or.inl (rg_fz_out c)
  · have e : rho o = x := e
    show rg_fz pr tk T (rho o) = 0
    rw [e]
    exact rg_fz_in hx
/-- a root is reckoned to region r and holds t with right c -/
def rRo (g : rGt) (l r : Nat) : rGt := (rg_up g.1 l r, g.2)
theorem rl_root (hI : rgI ob cp tg g) (l1 r1 : Nat) (ho : ob l1 = 0) : rgI ob cp (rg_up tg l1 0) (rRo g l1 r1) := rg_root (rg_drop hI l1) l1 r1 ho (rg_up_eq _ _ _)
theorem rl_set (hI : rgI ob cp tg g) (l1 r1 c t : Nat) (ho : ob l1 = 0) (hc : t = 0 ∨ 2 ≤ c) (ok : rg_ok g.2.1 g.2.2.1 g.2.2.2.1 r1 c t) : rgI ob (rg_up cp l1 c) (rg_up tg l1 t) (rRo g l1 r1) := by
  have h := rg_set (l1 := l1) (rl_root hI l1 r1 ho) c t hc (by
    show rg_ok g.2.1 g.2.2.1 g.2.2.2.1 (rg_up g.1 l1 r1 l1) c t
    rw [rg_up_eq]
    exact ok)
  rw [rg_up_up] at h
  exact h
theorem rRo_st {l r : Nat} : rSt a a1 E (fun x => x = l) g (rRo g l r) := ⟨fun x _ => ⟨rfl, rfl, fun _ => rfl, fun _ => Iff.rfl⟩, fun k hk _ => rg_up_ne _ hk, fun _ _ => rfl, fun o ho => Or.inr (Or.inl ho)⟩
theorem rSt_P {P2 : Nat → Prop} (h : rSt a a1 E P g g') (hp : ∀ l, P l → P2 l) : rSt a a1 E P2 g g' := ⟨h.1, fun l hl => h.2.1 l (fun z => hl (hp l z)), h.2.2⟩
theorem rSt_E {E2 : Nat → Prop} (h : rSt a a1 E P g g') (he : ∀ x, E2 x → E x) : rSt a a1 E2 P g g' := ⟨fun x hx => h.1 x (he x hx), fun l hl hx => h.2.1 l hl (he _ hx), fun o hx => h.2.2.1 o (he _ hx), h.2.2.2⟩
theorem rSt_a (h : rSt a a E P g g') : rSt a a1 E P g g' := ⟨h.1, h.2.1, h.2.2.1, fun o ho => by rcases h.2.2.2 o ho with z | z | z; exact Or.inl z; exact Or.inr (Or.inl z); exact Or.inr (Or.inl z)⟩
theorem rSt_r : rSt a a1 E P g g := ⟨fun x _ => ⟨rfl, rfl, fun _ => rfl, fun _ => Iff.rfl⟩, fun _ _ _ => rfl, fun _ _ => rfl, fun _ h => Or.inr (Or.inl h)⟩
theorem rSt_u (E0 : E 0) (h : rSt a a E P g g1) (h2 : rSt a a E P g1 g2) : rSt a a E P g g2 := rSt_t E0 h h2 (fun o z => h2.2.2.2 o z)
/-- entries are unique: a region is entered by none when its place is emptied -/
theorem rl_free (hI : rgI ob cp tg g) {l0 : Nat} (ht : tg l0 ≠ 0) (hh : g.1 l0 ≠ 0) (hc : cp l0 ≤ 1) : rg_free g.1 cp (rg_up tg l0 0) g.2.1 (g.2.1 (tg l0)) := rg_take hI l0 ht hh hc
/-- a region that nobody may enter is entered by none -/
theorem rl_free0 (hI : rgI ob cp tg g) (hT : g.2.2.2.1 T = 0) : rg_free g.1 cp tg g.2.1 T := by
  intro l a b c e
  have := (rg_ent hI l a b c).2.1
  rw [e, hT] at this
  omega
end RG4
