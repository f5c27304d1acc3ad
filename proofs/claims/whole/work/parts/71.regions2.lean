/-! WHAT MAY BE DONE IN REGIONS: laying a right that may be had often, freezing, merging, moving an entry. -/
def rg_up (f : Nat → Nat) (k v : Nat) : Nat → Nat := fun j => if j = k then v else f j
theorem rg_up_eq (f : Nat → Nat) (k v : Nat) : rg_up f k v k = v := if_pos rfl
theorem rg_up_ne (f : Nat → Nat) {k v j : Nat} (h : j ≠ k) : rg_up f k v j = f j := if_neg h
noncomputable def rg_fz (pr tk : Nat → Nat) (T x : Nat) : Nat := @ite Nat (rg_In pr tk T x) (Classical.propDecidable _) 0 x
def rg_mg (T r x : Nat) : Nat := if x = T then r else x
section RG2
variable {ob hr cp tg rho pr tk ow : Nat → Nat} {T q r l1 : Nat}
theorem rg_fz_in {x : Nat} (h : rg_In pr tk T x) : rg_fz pr tk T x = 0 := if_pos h
theorem rg_fz_out {x : Nat} (h : ¬ rg_In pr tk T x) : rg_fz pr tk T x = x := if_neg h
theorem rg_fz_0 : rg_fz pr tk T 0 = 0 := by
  unfold rg_fz
  split <;> rfl
/-- a place gets something that may be had more than once (ref, val, box, none) -/
theorem rg_set (hI : rg_Inv ob hr cp tg rho pr tk ow) (c t : Nat) (hc : t = 0 ∨ 2 ≤ c) (ho : rg_ok rho pr tk (hr l1) c t) : rg_Inv ob hr (rg_up cp l1 c) (rg_up tg l1 t) rho pr tk ow := by
  obtain ⟨h1, h2, h3, h4⟩ := hI
  refine ⟨?_, ?_, h3, h4⟩
  · intro l
    by_cases hl : l = l1
    · rw [hl, rg_up_eq, rg_up_eq]; exact ho
    · rw [rg_up_ne _ hl, rg_up_ne _ hl]; exact h1 l
  · intro l k
    by_cases hl : l = l1
    · rw [hl, rg_up_eq, rg_up_eq]
      intro a _ _ _ b
      rcases hc with hc | hc
      · exact absurd hc a
      · omega
    · by_cases hk : k = l1
      · rw [hk, rg_up_eq, rg_up_eq]
        intro _ a _ _ _ b
        rcases hc with hc | hc
        · exact absurd hc a
        · omega
      · rw [rg_up_ne _ hl, rg_up_ne _ hl, rg_up_ne _ hk, rg_up_ne _ hk]; exact h2 l k
/-- a place that entered T is emptied: T is entered by none -/
theorem rg_take (hI : rg_Inv ob hr cp tg rho pr tk ow) (l0 : Nat) (ht : tg l0 ≠ 0) (hh : hr l0 ≠ 0) (hc : cp l0 ≤ 1) : rg_free hr cp (rg_up tg l0 0) rho (rho (tg l0)) := by
  intro l
  by_cases hl : l = l0
  · rw [hl, rg_up_eq]; intro z; exact absurd rfl z
  · rw [rg_up_ne _ hl]
    intro a b c d
    exact hl (hI.2.1 l l0 a ht b hh c hc d)
theorem rg_freeze (hI : rg_Inv ob hr cp tg rho pr tk ow) (hT : T ≠ 0) (hf : rg_free hr cp tg rho T) :
    rg_Inv ob (fun l => rg_fz pr tk T (hr l)) cp tg (fun o => rg_fz pr tk T (rho o)) pr tk ow := by
  obtain ⟨h1, h2, h3, h4⟩ := hI
  have ent : ∀ l, tg l ≠ 0 → hr l ≠ 0 → cp l ≤ 1 → ¬ rg_In pr tk T (hr l) → tk (rho (tg l)) ≠ 0 → pr (rho (tg l)) = hr l → ¬ rg_In pr tk T (rho (tg l)) := by
    intro l a b c d _ g z
    exact d (g ▸ (rg_In_up z (hf l a b c)).2)
  have ok1 : ∀ l, tg l ≠ 0 → hr l ≠ 0 → cp l ≤ 1 → rho (tg l) ≠ 0 ∧ tk (rho (tg l)) ≠ 0 ∧ pr (rho (tg l)) = hr l := by
    intro l a b c
    rcases h1 l with h | h | ⟨_, h | h | h | h | h⟩
    · exact absurd h a
    · exact absurd h.1 b
    · omega
    · omega
    · omega
    · exact ⟨h.2.1, by rw [h.2.2.1]; decide, h.2.2.2⟩
    · exact ⟨h.2.1, by rw [h.2.2.1]; decide, h.2.2.2⟩
  refine ⟨?_, ?_, h3, ?_⟩
  · intro l
    rcases h1 l with h | h | ⟨hh, h⟩
    · exact Or.inl h
    · right; left
      show rg_fz pr tk T (hr l) = 0 ∧ rg_fz pr tk T (rho (tg l)) = 0
      rw [h.1, h.2]
      exact ⟨rg_fz_0, rg_fz_0⟩
    · by_cases ht : tg l = 0
      · exact Or.inl ht
      · right
        show (rg_fz pr tk T (hr l) = 0 ∧ rg_fz pr tk T (rho (tg l)) = 0) ∨ (rg_fz pr tk T (hr l) ≠ 0 ∧ ((cp l = 3 ∧ rg_fz pr tk T (rho (tg l)) = 0) ∨ (cp l = 2 ∧ rg_fz pr tk T (rho (tg l)) = rg_fz pr tk T (hr l)) ∨ (cp l = 4 ∧ (rg_fz pr tk T (rho (tg l)) = 0 ∨ rg_Tr pr tk (rg_fz pr tk T (rho (tg l))) (rg_fz pr tk T (hr l)))) ∨ (cp l = 1 ∧ rg_fz pr tk T (rho (tg l)) ≠ 0 ∧ tk (rg_fz pr tk T (rho (tg l))) = 2 ∧ pr (rg_fz pr tk T (rho (tg l))) = rg_fz pr tk T (hr l)) ∨ (cp l = 0 ∧ rg_fz pr tk T (rho (tg l)) ≠ 0 ∧ tk (rg_fz pr tk T (rho (tg l))) = 1 ∧ pr (rg_fz pr tk T (rho (tg l))) = rg_fz pr tk T (hr l))))
        by_cases hin : rg_In pr tk T (hr l)
        · left
          refine ⟨rg_fz_in hin, ?_⟩
          rcases h with h | h | h | h | h
          · rw [h.2]; exact rg_fz_0
          · rw [h.2]; exact rg_fz_in hin
          · rcases h.2 with z | z
            · rw [z]; exact rg_fz_0
            · exact rg_fz_in (rg_Tr_In z hin)
          · exact rg_fz_in (rg_In_dn (by rw [h.2.2.1]; decide) (h.2.2.2 ▸ hin))
          · exact rg_fz_in (rg_In_dn (by rw [h.2.2.1]; decide) (h.2.2.2 ▸ hin))
        · right
          rw [rg_fz_out hin]
          refine ⟨hh, ?_⟩
          rcases h with h | h | h | h | h
          · left; rw [h.2]; exact ⟨h.1, rg_fz_0⟩
          · right; left; rw [h.2]; exact ⟨h.1, rg_fz_out hin⟩
          · right; right; left
            refine ⟨h.1, ?_⟩
            rcases h.2 with z | z
            · left; rw [z]; exact rg_fz_0
            · by_cases ti : rg_In pr tk T (rho (tg l))
              · exact Or.inl (rg_fz_in ti)
              · rw [rg_fz_out ti]; exact Or.inr z
          · right; right; right; left
            rw [rg_fz_out (ent l ht hh (by omega) hin (by rw [h.2.2.1]; decide) h.2.2.2)]
            exact h
          · right; right; right; right
            rw [rg_fz_out (ent l ht hh (by omega) hin (by rw [h.2.2.1]; decide) h.2.2.2)]
            exact h
  · intro l k a b hl hk c d e
    have hl : rg_fz pr tk T (hr l) ≠ 0 := hl
    have hk : rg_fz pr tk T (hr k) ≠ 0 := hk
    have e : rg_fz pr tk T (rho (tg l)) = rg_fz pr tk T (rho (tg k)) := e
    have il : ¬ rg_In pr tk T (hr l) := fun z => hl (rg_fz_in z)
    have ik : ¬ rg_In pr tk T (hr k) := fun z => hk (rg_fz_in z)
    rw [rg_fz_out il] at hl
    rw [rg_fz_out ik] at hk
    have ol := ok1 l a hl c
    have okk := ok1 k b hk d
    rw [rg_fz_out (ent l a hl c il ol.2.1 ol.2.2), rg_fz_out (ent k b hk d ik okk.2.1 okk.2.2)] at e
    exact h2 l k a b hl hk c d e
  · intro l hl
    show rg_fz pr tk T (hr l) = rg_fz pr tk T (rho (ob l))
    rw [h4 l hl]
theorem rg_mg_eq : rg_mg T r T = r := if_pos rfl
theorem rg_mg_ne {x : Nat} (h : x ≠ T) : rg_mg T r x = x := if_neg h
theorem rg_mg_0 (hT : T ≠ 0) : rg_mg T r 0 = 0 := if_neg (fun z => hT z.symm)
theorem rg_mg_Tr (hp : pr T = r) (n : Nat) : ∀ {x y : Nat}, rg_T pr tk n x y → rg_Tr (fun z => rg_mg T r (pr z)) tk (rg_mg T r x) (rg_mg T r y) := by
  induction n with
  | zero => intro x y h; have h : x = y := h; rw [h]; exact rg_Tr_refl
  | succ n ih =>
    intro x y h
    by_cases hx : x = T
    · have := ih h.2
      rw [hx, hp] at this
      rw [hx, rg_mg_eq]
      by_cases hr0 : r = T
      · rw [hr0, rg_mg_eq] at this
        rw [hr0]
        exact this
      · rw [rg_mg_ne hr0] at this
        exact this
    · obtain ⟨m, hm⟩ := ih h.2
      rw [rg_mg_ne hx]
      exact ⟨m + 1, h.1, hm⟩
/-- what is in T comes to the region around it -/
theorem rg_merge (hI : rg_Inv ob hr cp tg rho pr tk ow) (hk0 : tk T ≠ 0) (hp : pr T = r) (hf : rg_free hr cp tg rho T) :
    rg_Inv ob (fun l => rg_mg T r (hr l)) cp tg (fun o => rg_mg T r (rho o)) (fun z => rg_mg T r (pr z)) tk ow := by
  obtain ⟨h1, h2, ⟨g, hg⟩, h4⟩ := hI
  have hT := (hg T hk0).1
  have hr0 : r ≠ 0 := hp ▸ (hg T hk0).2.1
  have hrT : r ≠ T := by
    intro z
    have := (hg T hk0).2.2.1
    rw [hp, z] at this
    omega
  have nz : ∀ x, x ≠ 0 → rg_mg T r x ≠ 0 := by
    intro x hx
    unfold rg_mg
    split
    · exact hr0
    · exact hx
  have zn : ∀ x, rg_mg T r x ≠ 0 → x ≠ 0 := by
    intro x hx z
    exact hx (by rw [z]; exact rg_mg_0 hT)
  refine ⟨?_, ?_, ⟨g, ?_⟩, ?_⟩
  · intro l
    rcases h1 l with h | h | ⟨hh, h⟩
    · exact Or.inl h
    · right; left
      show rg_mg T r (hr l) = 0 ∧ rg_mg T r (rho (tg l)) = 0
      rw [h.1, h.2]
      exact ⟨rg_mg_0 hT, rg_mg_0 hT⟩
    · by_cases ht : tg l = 0
      · exact Or.inl ht
      · right; right
        refine ⟨nz _ hh, ?_⟩
        rcases h with h | h | h | h | h
        · left
          refine ⟨h.1, ?_⟩
          show rg_mg T r (rho (tg l)) = 0
          rw [h.2]; exact rg_mg_0 hT
        · right; left
          refine ⟨h.1, ?_⟩
          show rg_mg T r (rho (tg l)) = rg_mg T r (hr l)
          rw [h.2]
        · right; right; left
          refine ⟨h.1, ?_⟩
          rcases h.2 with z | ⟨n, hn⟩
          · left
            show rg_mg T r (rho (tg l)) = 0
            rw [z]; exact rg_mg_0 hT
          · exact Or.inr (rg_mg_Tr hp n hn)
        · right; right; right; left
          have hne := hf l ht hh (by omega)
          show cp l = 1 ∧ rg_mg T r (rho (tg l)) ≠ 0 ∧ tk (rg_mg T r (rho (tg l))) = 2 ∧ rg_mg T r (pr (rg_mg T r (rho (tg l)))) = rg_mg T r (hr l)
          rw [rg_mg_ne hne, h.2.2.2]
          exact ⟨h.1, h.2.1, h.2.2.1, rfl⟩
        · right; right; right; right
          have hne := hf l ht hh (by omega)
          show cp l = 0 ∧ rg_mg T r (rho (tg l)) ≠ 0 ∧ tk (rg_mg T r (rho (tg l))) = 1 ∧ rg_mg T r (pr (rg_mg T r (rho (tg l)))) = rg_mg T r (hr l)
          rw [rg_mg_ne hne, h.2.2.2]
          exact ⟨h.1, h.2.1, h.2.2.1, rfl⟩
  · intro l k a b hl hk c d e
    have e : rg_mg T r (rho (tg l)) = rg_mg T r (rho (tg k)) := e
    rw [rg_mg_ne (hf l a (zn _ hl) c), rg_mg_ne (hf k b (zn _ hk) d)] at e
    exact h2 l k a b (zn _ hl) (zn _ hk) c d e
  · intro x hx
    have hgx := hg x hx
    show x ≠ 0 ∧ rg_mg T r (pr x) ≠ 0 ∧ g (rg_mg T r (pr x)) < g x ∧ ow (rg_mg T r (pr x)) = ow x
    by_cases hpx : pr x = T
    · rw [hpx, rg_mg_eq]
      have hgT := hg T hk0
      rw [hp] at hgT
      rw [hpx] at hgx
      exact ⟨hgx.1, hr0, by omega, by rw [hgT.2.2.2, hgx.2.2.2]⟩
    · rw [rg_mg_ne hpx]
      exact hgx
  · intro l hl
    show rg_mg T r (hr l) = rg_mg T r (rho (ob l))
    rw [h4 l hl]
noncomputable def rg_sh (pr tk : Nat → Nat) (T : Nat) (f : Nat → Nat) (v : Nat → Nat) (x : Nat) : Nat := @ite Nat (rg_In pr tk T x) (Classical.propDecidable _) (v x) (f x)
theorem rg_sh_in {f v : Nat → Nat} {x : Nat} (h : rg_In pr tk T x) : rg_sh pr tk T f v x = v x := if_pos h
theorem rg_sh_out {f v : Nat → Nat} {x : Nat} (h : ¬ rg_In pr tk T x) : rg_sh pr tk T f v x = f x := if_neg h
theorem rg_keep {c : Nat} (n : Nat) : ∀ {x y : Nat}, rg_T pr tk n x y → ¬ rg_In pr tk T x → rg_T (rg_up pr T q) (rg_up tk T c) n x y := by
  induction n with
  | zero => exact fun h _ => h
  | succ n ih =>
    intro x y h hx
    have hxT : x ≠ T := fun z => hx (z ▸ rg_In_self)
    refine ⟨by rw [rg_up_ne _ hxT]; exact h.1, ?_⟩
    rw [rg_up_ne _ hxT]
    exact ih h.2 (fun z => hx (rg_In_dn (by rw [h.1]; decide) z))
theorem rg_keep2 {c : Nat} (hq : ¬ rg_In pr tk T q) (hc : tk T = 2 → c = 2 ∧ rg_Tr pr tk q (pr T)) (n : Nat) : ∀ {x y : Nat}, rg_T pr tk n x y → rg_Tr (rg_up pr T q) (rg_up tk T c) x y := by
  induction n with
  | zero => intro x y h; have h : x = y := h; rw [h]; exact rg_Tr_refl
  | succ n ih =>
    intro x y h
    by_cases hx : x = T
    · rw [hx] at h
      obtain ⟨hc2, m, hm⟩ := hc h.1
      have h3 : rg_Tr (rg_up pr T q) (rg_up tk T c) q y := rg_Tr_trans ⟨m, rg_keep m hm hq⟩ (ih h.2)
      obtain ⟨m2, hm2⟩ := h3
      rw [hx]
      refine ⟨m2 + 1, by rw [rg_up_eq]; exact hc2, ?_⟩
      rw [rg_up_eq]
      exact hm2
    · obtain ⟨m, hm⟩ := ih h.2
      refine ⟨m + 1, by rw [rg_up_ne _ hx]; exact h.1, ?_⟩
      rw [rg_up_ne _ hx]
      exact hm
/-- the one way into T is laid into place l1 (c 0: iso, c 1: trn) -/
theorem rg_move (hI : rg_Inv ob hr cp tg rho pr tk ow) (t c : Nat) (hT : rho t ≠ 0) (hf : rg_free hr cp (rg_up tg l1 0) rho (rho t)) (hq0 : hr l1 ≠ 0) (hq : ¬ rg_In pr tk (rho t) (hr l1)) (hc1 : c ≤ 1) (hc : tk (rho t) = 2 → c = 1 ∧ rg_Tr pr tk (hr l1) (pr (rho t))) :
    rg_Inv ob hr (rg_up cp l1 c) (rg_up tg l1 t) rho (rg_up pr (rho t) (hr l1)) (rg_up tk (rho t) (c + 1)) (rg_sh pr tk (rho t) ow (fun _ => ow (hr l1))) := by
  obtain ⟨h1, h2, ⟨g, hg⟩, h4⟩ := hI
  have keep : ∀ n {x y : Nat}, rg_T pr tk n x y → rg_Tr (rg_up pr (rho t) (hr l1)) (rg_up tk (rho t) (c + 1)) x y := fun n x y h => rg_keep2 hq (fun z => ⟨by rw [(hc z).1], (hc z).2⟩) n h
  have free : ∀ l, l ≠ l1 → tg l ≠ 0 → hr l ≠ 0 → cp l ≤ 1 → rho (tg l) ≠ rho t := by
    intro l hl a b d
    have := hf l
    rw [rg_up_ne _ hl] at this
    exact this a b d
  refine ⟨?_, ?_, ⟨rg_sh pr tk (rho t) g (fun x => g x + g (hr l1) + 1), ?_⟩, h4⟩
  · intro l
    by_cases hl : l = l1
    · rw [hl, rg_up_eq, rg_up_eq]
      right; right
      refine ⟨hq0, ?_⟩
      rw [rg_up_eq, rg_up_eq]
      by_cases c0 : c = 0
      · right; right; right; right
        exact ⟨c0, hT, by omega, rfl⟩
      · right; right; right; left
        exact ⟨by omega, hT, by omega, rfl⟩
    · rw [rg_up_ne _ hl, rg_up_ne _ hl]
      rcases h1 l with h | h | ⟨hh, h⟩
      · exact Or.inl h
      · exact Or.inr (Or.inl h)
      · by_cases ht : tg l = 0
        · exact Or.inl ht
        · right; right
          refine ⟨hh, ?_⟩
          rcases h with h | h | h | h | h
          · exact Or.inl h
          · exact Or.inr (Or.inl h)
          · right; right; left
            refine ⟨h.1, ?_⟩
            rcases h.2 with z | ⟨n, hn⟩
            · exact Or.inl z
            · exact Or.inr (keep n hn)
          · right; right; right; left
            have hne := free l hl ht hh (by omega)
            rw [rg_up_ne _ hne, rg_up_ne _ hne]
            exact h
          · right; right; right; right
            have hne := free l hl ht hh (by omega)
            rw [rg_up_ne _ hne, rg_up_ne _ hne]
            exact h
  · intro l k
    by_cases hl : l = l1
    · by_cases hk : k = l1
      · intro _ _ _ _ _ _ _; rw [hl, hk]
      · rw [hl, rg_up_eq, rg_up_eq, rg_up_ne _ hk, rg_up_ne _ hk]
        intro _ b _ d _ f e
        exact absurd e.symm (free k hk b d f)
    · by_cases hk : k = l1
      · rw [hk, rg_up_eq, rg_up_eq, rg_up_ne _ hl, rg_up_ne _ hl]
        intro a _ b _ d _ e
        exact absurd e (free l hl a b d)
      · rw [rg_up_ne _ hl, rg_up_ne _ hl, rg_up_ne _ hk, rg_up_ne _ hk]
        exact h2 l k
  · intro x hx
    by_cases hxT : x = rho t
    · rw [hxT, rg_up_eq, rg_sh_out hq, rg_sh_in rg_In_self, rg_sh_out hq, rg_sh_in rg_In_self]
      exact ⟨hT, hq0, by omega, rfl⟩
    · rw [rg_up_ne _ hxT] at hx
      rw [rg_up_ne _ hxT]
      have hgx := hg x hx
      refine ⟨hgx.1, hgx.2.1, ?_⟩
      by_cases hin : rg_In pr tk (rho t) (pr x)
      · rw [rg_sh_in hin, rg_sh_in (rg_In_dn hx hin), rg_sh_in hin, rg_sh_in (rg_In_dn hx hin)]
        exact ⟨by omega, rfl⟩
      · rw [rg_sh_out hin, rg_sh_out (rg_not_In hxT hin), rg_sh_out hin, rg_sh_out (rg_not_In hxT hin)]
        exact hgx.2.2
end RG2
