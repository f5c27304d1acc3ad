/-! A VALUE COMES TO REST: what is taken out of place l0 is laid into place l1 with a right that is as good; a new object; a recover that gives. -/
def rg_good (c d : Nat) : Prop := c = 0 ∨ (c = 1 ∧ d ≠ 0) ∨ (c = 2 ∧ (d = 2 ∨ d = 4)) ∨ (c = 3 ∧ (d = 3 ∨ d = 4)) ∨ (c = 4 ∧ d = 4)
section RG3
variable {ob hr cp tg rho pr tk ow : Nat → Nat}
theorem rg_drop (hI : rg_Inv ob hr cp tg rho pr tk ow) (l0 : Nat) : rg_Inv ob hr cp (rg_up tg l0 0) rho pr tk ow := by
  have h := rg_set (l1 := l0) hI (cp l0) 0 (Or.inl rfl) (Or.inl rfl)
  have e : rg_up cp l0 (cp l0) = cp := by
    funext j
    unfold rg_up
    split
    · next z => rw [z]
    · rfl
  rw [e] at h
  exact h
theorem rg_ent (hI : rg_Inv ob hr cp tg rho pr tk ow) (l : Nat) (ht : tg l ≠ 0) (hh : hr l ≠ 0) (hc : cp l ≤ 1) : rho (tg l) ≠ 0 ∧ tk (rho (tg l)) = cp l + 1 ∧ pr (rho (tg l)) = hr l := by
  rcases hI.1 l with h | h | ⟨_, h | h | h | h | h⟩
  · exact absurd h ht
  · exact absurd h.1 hh
  · omega
  · omega
  · omega
  · exact ⟨h.2.1, by rw [h.2.2.1, h.1], h.2.2.2⟩
  · exact ⟨h.2.1, by rw [h.2.2.1, h.1], h.2.2.2⟩
theorem rg_up_up (f : Nat → Nat) (k v w : Nat) : rg_up (rg_up f k v) k w = rg_up f k w := by
  funext j
  unfold rg_up
  split <;> rfl
/-- what changes when a value is laid down: only what lies in the region that it entered -/
def rg_Ch (hr cp tg rho pr tk ow : Nat → Nat) (l1 d t T : Nat) (hr' cp' tg' rho' pr' tk' ow' : Nat → Nat) : Prop :=
  (∃ phi : Nat → Nat, phi 0 = 0 ∧ (∀ x, ¬ rg_In pr tk T x → phi x = x) ∧ (∀ l, hr' l = phi (hr l)) ∧ (∀ o, rho' o = phi (rho o))) ∧ cp' = rg_up cp l1 d ∧ tg' = rg_up tg l1 t ∧ (∀ x, ¬ rg_In pr tk T x → ow' x = ow x ∧ tk' x = tk x)
/-- an entry is laid down: iso or trn (c) becomes d -/
theorem rg_lay1 (hI : rg_Inv ob hr cp tg rho pr tk ow) (l1 d t : Nat) (hT : tk (rho t) ≠ 0) (h0 : rho t ≠ 0) (hf : rg_free hr cp tg rho (rho t)) (hq0 : hr l1 ≠ 0) (hq : ¬ rg_In pr tk (rho t) (hr l1)) (hd : tk (rho t) = 2 → d ≠ 0 ∧ rg_Tr pr tk (hr l1) (pr (rho t))) (hd4 : d ≤ 4) :
    ∃ hr' cp' tg' rho' pr' tk' ow' : Nat → Nat, rg_Inv ob hr' cp' tg' rho' pr' tk' ow' ∧ rg_Ch hr cp tg rho pr tk ow l1 d t (rho t) hr' cp' tg' rho' pr' tk' ow' := by
  have hf1 : rg_free hr cp (rg_up tg l1 0) rho (rho t) := by
    intro l
    by_cases hl : l = l1
    · rw [hl, rg_up_eq]; intro z; exact absurd rfl z
    · rw [rg_up_ne _ hl]; exact hf l
  by_cases d01 : d ≤ 1
  · -- it stays an entry
    refine ⟨hr, rg_up cp l1 d, rg_up tg l1 t, rho, _, _, _, rg_move hI t d h0 hf1 hq0 hq d01 (fun z => ⟨?_, (hd z).2⟩), ⟨id, rfl, fun _ _ => rfl, fun _ => rfl, fun _ => rfl⟩, rfl, rfl, ?_⟩
    · have := (hd z).1; omega
    · intro x hx
      exact ⟨rg_sh_out hx, rg_up_ne _ (fun z => hx (z ▸ rg_In_self))⟩
  · by_cases d3 : d = 3
    · -- frozen
      have hI2 := rg_freeze (rg_drop hI l1) h0 hf1
      have hnq : rg_fz pr tk (rho t) (hr l1) = hr l1 := rg_fz_out hq
      have hI3 := rg_set (l1 := l1) hI2 3 t (Or.inr (by decide)) (Or.inr (Or.inr ⟨by show rg_fz pr tk (rho t) (hr l1) ≠ 0; rw [hnq]; exact hq0, Or.inl ⟨rfl, rg_fz_in rg_In_self⟩⟩))
      rw [rg_up_up] at hI3
      subst d3
      exact ⟨_, _, _, _, _, _, _, hI3, ⟨rg_fz pr tk (rho t), rg_fz_0, fun x hx => rg_fz_out hx, fun _ => rfl, fun _ => rfl⟩, rfl, rfl, fun _ _ => ⟨rfl, rfl⟩⟩
    · -- merged with the region of l1: first the entry is moved there, then it is opened
      have ok1 : tk (rho t) = 2 → (1 : Nat) = 1 ∧ rg_Tr pr tk (hr l1) (pr (rho t)) := fun z => ⟨rfl, (hd z).2⟩
      have hI1 := rg_move hI t 1 h0 hf1 hq0 hq (by decide) ok1
      have hI2 := rg_drop hI1 l1
      rw [rg_up_up] at hI2
      have hf2 : rg_free hr (rg_up cp l1 1) (rg_up tg l1 0) rho (rho t) := by
        intro l
        by_cases hl : l = l1
        · rw [hl, rg_up_eq]; intro z; exact absurd rfl z
        · rw [rg_up_ne _ hl, rg_up_ne _ hl]
          exact hf l
      have hI3 := rg_merge (T := rho t) (r := hr l1) hI2 (by rw [rg_up_eq]; decide) (rg_up_eq _ _ _) hf2
      have hne : hr l1 ≠ rho t := fun z => hq (z ▸ rg_In_self)
      have e1 : rg_mg (rho t) (hr l1) (hr l1) = hr l1 := rg_mg_ne hne
      have okd : rg_ok (fun o => rg_mg (rho t) (hr l1) (rho o)) (fun z => rg_mg (rho t) (hr l1) (rg_up pr (rho t) (hr l1) z)) (rg_up tk (rho t) (1 + 1)) (rg_mg (rho t) (hr l1) (hr l1)) d t := by
        right; right
        rw [e1]
        refine ⟨hq0, ?_⟩
        have e2 : rg_mg (rho t) (hr l1) (rho t) = hr l1 := rg_mg_eq
        by_cases d2 : d = 2
        · right; left; exact ⟨d2, e2⟩
        · right; right; left
          refine ⟨by omega, Or.inr ?_⟩
          show rg_Tr _ _ (rg_mg (rho t) (hr l1) (rho t)) (hr l1)
          rw [e2]
          exact rg_Tr_refl
      have hI4 := rg_set (l1 := l1) hI3 d t (Or.inr (by omega)) okd
      rw [rg_up_up, rg_up_up] at hI4
      refine ⟨_, _, _, _, _, _, _, hI4, ⟨rg_mg (rho t) (hr l1), rg_mg_0 h0, fun x hx => rg_mg_ne (fun z => hx (z ▸ rg_In_self)), fun _ => rfl, fun _ => rfl⟩, rfl, rfl, fun x hx => ⟨rg_sh_out hx, rg_up_ne _ (fun z => hx (z ▸ rg_In_self))⟩⟩
/-- a place without an object in it may be reckoned to any region -/
theorem rg_root (hI : rg_Inv ob hr cp tg rho pr tk ow) (l r : Nat) (ho : ob l = 0) (ht : tg l = 0) : rg_Inv ob (rg_up hr l r) cp tg rho pr tk ow := by
  obtain ⟨h1, h2, h3, h4⟩ := hI
  refine ⟨?_, ?_, h3, ?_⟩
  · intro k
    by_cases hk : k = l
    · rw [hk]; exact Or.inl ht
    · rw [rg_up_ne _ hk]; exact h1 k
  · intro j k a b
    have hj : j ≠ l := fun z => a (z ▸ ht)
    have hk : k ≠ l := fun z => b (z ▸ ht)
    rw [rg_up_ne _ hj, rg_up_ne _ hk]
    exact h2 j k a b
  · intro k hk
    have hkl : k ≠ l := fun z => hk (z ▸ ho)
    rw [rg_up_ne _ hkl]
    exact h4 k hk
/-- a new object in region r: nothing leads to it yet, its fields hold none -/
theorem rg_new (hI : rg_Inv ob hr cp tg rho pr tk ow) (o r : Nat) (hn : ∀ l, tg l ≠ o) (hb : ∀ l, ob l = o → tg l = 0) (hr' : Nat → Nat) (h1' : ∀ l, ob l = o → hr' l = r) (h2' : ∀ l, ob l ≠ o → hr' l = hr l) : rg_Inv ob hr' cp tg (rg_up rho o r) pr tk ow := by
  obtain ⟨h1, h2, h3, h4⟩ := hI
  refine ⟨?_, ?_, h3, ?_⟩
  · intro l
    by_cases hl : ob l = o
    · exact Or.inl (hb l hl)
    · rw [h2' l hl]
      have e : rg_up rho o r (tg l) = rho (tg l) := rg_up_ne _ (hn l)
      unfold rg_ok
      rw [e]
      exact h1 l
  · intro l k a b
    have hl : ob l ≠ o := fun z => a (hb l z)
    have hk : ob k ≠ o := fun z => b (hb k z)
    rw [h2' l hl, h2' k hk, rg_up_ne _ (hn l), rg_up_ne _ (hn k)]
    exact h2 l k a b
  · intro l hl
    by_cases hlo : ob l = o
    · rw [h1' l hlo, hlo, rg_up_eq]
    · rw [h2' l hlo, rg_up_ne _ hlo]
      exact h4 l hl
/-- WHAT IS SEEN THROUGH A RIGHT: place l (right c, in region r) leads to an object t, of which k is a field; what k holds, seen as e, may be laid into any place of region r -/
def rg_thr (c d e : Nat) : Prop := (c = 2 ∧ d ≠ 0 ∧ (e = d ∨ e = 4) ∧ (d = 1 → e = 4)) ∨ (c = 3 ∧ e = 3) ∨ ((c = 1 ∨ c = 4) ∧ d ≠ 0 ∧ ((d = 3 ∧ e = 3) ∨ e = 4)) ∨ (c = 0 ∧ d = 3 ∧ e = 3)
theorem rg_see (hI : rg_Inv ob hr cp tg rho pr tk ow) (r c t k e : Nat) (hr0 : r ≠ 0) (ht : t ≠ 0) (hl : rg_ok rho pr tk r c t ∨ (c = 0 ∧ rho t ≠ 0)) (hk : ob k = t) (he : rg_thr c (cp k) e) (he3 : e = 3 ∨ 2 ≤ e) : rg_ok rho pr tk r e (tg k) := by
  by_cases h0 : tg k = 0
  · exact Or.inl h0
  obtain ⟨h1, h2, h3, h4⟩ := hI
  have hkr : hr k = rho t := by rw [h4 k (by rw [hk]; exact ht), hk]
  have hok := h1 k
  rw [hkr] at hok
  right; right
  refine ⟨hr0, ?_⟩
  -- whoever lies in a frozen object is frozen
  have froz : rho t = 0 → rho (tg k) = 0 := by
    intro z
    rcases hok with h | h | h
    · exact absurd h h0
    · exact h.2
    · exact absurd z h.1
  -- what lies in an object of a trn's region below r lies there too, or is frozen, but for iso
  have below : rho t ≠ 0 → rg_Tr pr tk (rho t) r → cp k ≠ 0 → rho (tg k) = 0 ∨ rg_Tr pr tk (rho (tg k)) r := by
    intro z w c0
    rcases hok with h | h | ⟨_, h | h | h | h | h⟩
    · exact absurd h h0
    · exact absurd h.1 z
    · exact Or.inl h.2
    · right; rw [h.2]; exact w
    · rcases h.2 with u | u
      · exact Or.inl u
      · exact Or.inr (rg_Tr_trans u w)
    · right
      obtain ⟨n, hn⟩ := w
      exact ⟨n + 1, h.2.2.1, h.2.2.2 ▸ hn⟩
    · exact absurd h.1 c0
  have val3 : cp k = 3 → rho (tg k) = 0 := by
    intro z
    rcases hok with h | h | ⟨_, h | h | h | h | h⟩
    · exact absurd h h0
    · exact h.2
    · exact h.2
    · omega
    · omega
    · omega
    · omega
  rcases he with ⟨hc, hd, he, he1⟩ | ⟨hc, he⟩ | ⟨hc, hd, he⟩ | ⟨hc, hd, he⟩
  · have hrt : rho t = r := by
      rcases hl with h | h
      · rcases h with h | h | ⟨_, h | h | h | h | h⟩
        · exact absurd h ht
        · exact absurd h.1 hr0
        · omega
        · exact h.2
        · omega
        · omega
        · omega
      · omega
    by_cases e4 : e = 4
    · right; right; left
      exact ⟨e4, below (by rw [hrt]; exact hr0) (by rw [hrt]; exact rg_Tr_refl) hd⟩
    · have hed : e = cp k := by omega
      rcases hok with h | h | ⟨_, h | h | h | h | h⟩
      · exact absurd h h0
      · exact absurd (hrt ▸ h.1) hr0
      · exact Or.inl ⟨by omega, h.2⟩
      · right; left; exact ⟨by omega, by rw [h.2, hrt]⟩
      · omega
      · omega
      · omega
  · have hrt : rho t = 0 := by
      rcases hl with h | h
      · rcases h with h | h | ⟨_, h | h | h | h | h⟩
        · exact absurd h ht
        · exact absurd h.1 hr0
        · exact h.2
        · omega
        · omega
        · omega
        · omega
      · omega
    exact Or.inl ⟨he, froz hrt⟩
  · rcases he with he | he
    · exact Or.inl ⟨he.2, val3 he.1⟩
    · right; right; left
      refine ⟨he, ?_⟩
      rcases hl with h | h
      · rcases h with h | h | ⟨_, h | h | h | h | h⟩
        · exact absurd h ht
        · exact absurd h.1 hr0
        · omega
        · omega
        · rcases h.2 with z | z
          · exact Or.inl (froz z)
          · by_cases z0 : rho t = 0
            · exact Or.inl (froz z0)
            · exact below z0 z hd
        · exact below h.2.1 ⟨1, h.2.2.1, h.2.2.2⟩ hd
        · omega
      · omega
  · exact Or.inl ⟨he, val3 hd⟩
end RG3
