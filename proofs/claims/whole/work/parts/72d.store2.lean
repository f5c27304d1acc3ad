/-! WHAT MAY BE DONE WITH THE STORE. -/
section ST2
variable {W W' : Nat → Int64} {T T' : Nat → Nat} {g g' g1 : rGt} {ob N a a1 l l0 l1 t1 r1 o f R : Nat} {v : Int64} {E P : Nat → Prop}
theorem rSt_ro {r : Nat} (h : rSt a a1 E P (rRo g l r) g') (hp : P l) : rSt a a1 E P g g' := by
  obtain ⟨h1, h2, h3, h4⟩ := h
  refine ⟨h1, fun k hk hx => ?_, h3, h4⟩
  have hne : k ≠ l := fun z => hk (z ▸ hp)
  have e : (rRo g l r).1 k = g.1 k := rg_up_ne _ hne
  rw [h2 k hk (by rw [e]; exact hx), e]
theorem wU_wU : wU (wU W l v) l (wU W l v l0) = wU W l (wU W l v l0) := by
  funext j
  unfold wU
  split <;> rfl
theorem tgF_eq (h : T l ≠ 0) : tgF T W l = oV (W l) := if_neg h
theorem tgF_n (h : tgF T W l ≠ 0) : T l ≠ 0 := fun z => h (if_pos z)
/-- a value comes from l0 to the root l1 -/
theorem GI_lay (gi : GI ob N W T g) (hl : l1 ≠ l0) (ho : obP l1 = 0) (t0 : T l0 ≠ 0) (t1n : t1 ≠ 0) (hh : g.1 l0 ≠ 0) (q0 : r1 ≠ 0) (qN : r1 < N) (fit : oV (W l0) = 0 ∨ (rg_good (T l0 % 8) (t1 % 8) ∧ t1 % 8 ≤ 4 ∧ T l0 % 8 ≤ 4))
    (cd : oV (W l0) ≠ 0 → (T l0 % 8 ≤ 1 → ¬ inR g (g.2.1 (oV (W l0))) r1 ∧ (T l0 % 8 = 1 → t1 % 8 = 3 ∨ rg_Tr g.2.2.1 g.2.2.2.1 r1 (g.1 l0)) ∧ ∀ x, E x → ¬ inR g (g.2.1 (oV (W l0))) x) ∧ ((T l0 % 8 = 2 ∨ T l0 % 8 = 4) → r1 = g.1 l0)) :
    ∃ g' : rGt, GI ob N (wU W l1 (W l0)) (rg_up (rg_up T l0 0) l1 t1) g' ∧ g'.1 l1 = r1 ∧ rSt a (g.2.2.2.2 r1) E (fun x => x = l1) g g' := by
  have hl' : l0 ≠ l1 := fun z => hl z.symm
  by_cases en : oV (W l0) ≠ 0 ∧ T l0 % 8 ≤ 1
  · obtain ⟨o0, c1⟩ := en
    have gd : rg_good (T l0 % 8) (t1 % 8) ∧ t1 % 8 ≤ 4 ∧ T l0 % 8 ≤ 4 := by
      rcases fit with z | z
      · exact absurd z o0
      · exact z
    obtain ⟨d1, d2, d3⟩ := (cd o0).1 c1
    have gi1 : GI ob N (wU W l1 (W l0)) (rg_up T l1 0) (rRo g l1 r1) := GI_put gi l1 0 r1 (W l0) ho qN (Or.inl rfl) (Or.inl rfl)
    have eT : rg_up T l1 0 l0 = T l0 := rg_up_ne _ hl'
    have eW : wU W l1 (W l0) l0 = W l0 := wU_ne hl'
    have etg : tgF (rg_up T l1 0) (wU W l1 (W l0)) l0 = oV (W l0) := by
      rw [tgF_eq (by rw [eT]; exact t0), eW]
    have e1 : (rRo g l1 r1).1 l1 = r1 := rg_up_eq _ _ _
    have e0 : (rRo g l1 r1).1 l0 = g.1 l0 := rg_up_ne _ hl'
    obtain ⟨g', i1, i2, i3⟩ := GI_ent (a := a) (E := E) (P := fun x => x = l1) gi1 hl (by rw [etg]; exact o0) (by rw [e0]; exact hh) (by rw [eT]; exact c1) t1n (by rw [e1]; exact q0) (by rw [e1]; exact qN) (by rw [etg, e1]; exact d1) (by rw [eT]; exact gd.1) (by rw [eT, e1, e0]; exact d2) gd.2.1 (by rw [ho]; exact Nat.zero_le _) (by rw [etg]; exact d3)
    refine ⟨g', ?_, by rw [i2, e1], ?_⟩
    · have e2 : rg_up (rg_up (rg_up T l1 0) l0 0) l1 t1 = rg_up (rg_up T l0 0) l1 t1 := by
        funext j
        by_cases c : j = l1
        · rw [c, rg_up_eq, rg_up_eq]
        · rw [rg_up_ne _ c, rg_up_ne _ c]
          by_cases c2 : j = l0
          · rw [c2, rg_up_eq, rg_up_eq]
          · rw [rg_up_ne _ c2, rg_up_ne _ c2, rg_up_ne _ c]
      have e3 : wU (wU W l1 (W l0)) l1 (wU W l1 (W l0) l0) = wU W l1 (W l0) := by
        rw [eW]
        funext j
        unfold wU
        split <;> rfl
      rw [e2, e3] at i1
      exact i1
    · have e4 : (rRo g l1 r1).2.2.2.2 ((rRo g l1 r1).1 l1) = g.2.2.2.2 r1 := by rw [e1]; rfl
      rw [e4] at i3
      exact rSt_ro i3 rfl
  · have ok := gi.1.1 l0
    have hob := gi.2.2.1 l0
    rw [tgF_eq t0] at ok hob
    have put : GI ob N (wU W l1 (W l0)) (rg_up T l1 t1) (rRo g l1 r1) := by
      refine GI_put gi l1 t1 r1 (W l0) ho qN (Or.inr hob) ?_
      by_cases o0 : oV (W l0) = 0
      · exact Or.inr (Or.inl o0)
      · right; right
        have gd : rg_good (T l0 % 8) (t1 % 8) ∧ t1 % 8 ≤ 4 ∧ T l0 % 8 ≤ 4 := by
          rcases fit with z | z
          · exact absurd z o0
          · exact z
        have c2 : 2 ≤ T l0 % 8 := by
          by_cases c : T l0 % 8 ≤ 1
          · exact absurd ⟨o0, c⟩ en
          · omega
        have gdd := gd.1
        refine ⟨by rcases gdd with w | w | w | w | w <;> omega, ?_⟩
        by_cases c3 : T l0 % 8 = 3
        · have fz : g.2.1 (oV (W l0)) = 0 := by
            have ok : rg_ok g.2.1 g.2.2.1 g.2.2.2.1 (g.1 l0) (T l0 % 8) (oV (W l0)) := ok
            rcases ok with z | z | ⟨z, y | y | y | y | y⟩
            · exact absurd z o0
            · exact z.2
            · exact y.2
            · omega
            · omega
            · omega
            · omega
          refine Or.inr (Or.inr ⟨q0, ?_⟩)
          have : t1 % 8 = 3 ∨ t1 % 8 = 4 := by rcases gdd with w | w | w | w | w <;> omega
          rcases this with e | e
          · exact Or.inl ⟨e, fz⟩
          · exact Or.inr (Or.inr (Or.inl ⟨e, Or.inl fz⟩))
        · have er := (cd o0).2 (by omega)
          rw [er]
          exact ok_cp ok hh gdd (Or.inl c2)
    refine ⟨rRo g l1 r1, ?_, rg_up_eq _ _ _, rRo_st⟩
    have := GI_drop put l0
    have e2 : rg_up (rg_up T l1 t1) l0 0 = rg_up (rg_up T l0 0) l1 t1 := by
      funext j
      by_cases c : j = l1
      · rw [c, rg_up_ne _ hl, rg_up_eq, rg_up_eq]
      · rw [rg_up_ne _ c]
        by_cases c2 : j = l0
        · rw [c2, rg_up_eq, rg_up_eq]
        · rw [rg_up_ne _ c2, rg_up_ne _ c, rg_up_ne _ c2]
    rw [e2] at this
    exact this
/-- a region that is closed gives what lies in it by ref: as iso, trn or val -/
theorem GI_cl2 (gi : GI ob N W T g) (hl : l1 ≠ l0) (ho : obP l1 = 0) (t0 : T l0 ≠ 0) (t1n : t1 ≠ 0) (o0 : oV (W l0) ≠ 0) (hR : g.2.1 (oV (W l0)) = R) (R0 : R ≠ 0) (kR : g.2.2.2.1 R = 0) (q0 : r1 ≠ 0) (qN : r1 < N) (hq : ¬ inR g R r1) (d : t1 % 8 = 0 ∨ t1 % 8 = 1 ∨ t1 % 8 = 3) (hE : ∀ x, E x → ¬ inR g R x) :
    ∃ g' : rGt, GI ob N (wU W l1 (W l0)) (rg_up (rg_up T l0 0) l1 t1) g' ∧ g'.1 l1 = r1 ∧ rSt a (g.2.2.2.2 r1) E (fun x => x = l1) g g' := by
  have hl' : l0 ≠ l1 := fun z => hl z.symm
  have gi0 := GI_drop gi l0
  have gi1 : GI ob N (wU W l1 (W l0)) (rg_up (rg_up T l0 0) l1 0) (rRo g l1 r1) := GI_put gi0 l1 0 r1 (W l0) ho qN (Or.inl rfl) (Or.inl rfl)
  have hob := gi.2.2.1 l0
  rw [tgF_eq t0] at hob
  obtain ⟨h1, h2, h3, h4, h5⟩ := gi1
  have e1 : (rRo g l1 r1).1 l1 = r1 := rg_up_eq _ _ _
  obtain ⟨g', i1, i2, i3⟩ := rl_lay h1 l1 (t1 % 8) (oV (W l0)) (by show g.2.1 _ ≠ 0; rw [hR]; exact R0) (by show rg_free _ _ _ _ (g.2.1 _); rw [hR]; exact rl_free0 h1 kR) (by rw [e1]; exact q0) (by show ¬ inR g (g.2.1 _) _; rw [hR, e1]; exact hq) (fun z => by
    have z : g.2.2.2.1 (g.2.1 (oV (W l0))) = 2 := z
    rw [hR, kR] at z
    exact absurd z (by decide)) (by omega)
  have et : tgF (rg_up (rg_up T l0 0) l1 t1) (wU W l1 (W l0)) = rg_up (tgF (rg_up (rg_up T l0 0) l1 0) (wU W l1 (W l0))) l1 (oV (W l0)) := by
    rw [tg_up, tg_up, rg_up_up, if_neg t1n]
  have e4 : (rRo g l1 r1).2.2.2.2 ((rRo g l1 r1).1 l1) = g.2.2.2.2 r1 := by rw [e1]; rfl
  refine ⟨g', ⟨?_, ?_, ?_, ?_, h5⟩, by rw [i3, e1], ?_⟩
  · rw [et]
    refine rgI_x i1 (fun _ => rfl) (fun k hk => ?_)
    rw [cp_up, cp_up, cp_up]
    by_cases c : k = l1
    · rw [c, rg_up_eq, rg_up_eq]
    · rw [rg_up_ne _ c, rg_up_ne _ c, rg_up_ne _ c]
      exact (congrFun cp_up k).symm
  · rw [et]
    refine rCh_bd i2 h2 (by rw [e1]; exact qN) (h2.2.1 _) (fun k hk => ?_)
    by_cases c : k = l1
    · rw [c, e1]; exact Or.inr qN
    · rw [rg_up_ne _ c] at hk; exact Or.inl hk
  · intro k
    rw [et]
    by_cases c : k = l1
    · rw [c, rg_up_eq]; exact hob
    · rw [rg_up_ne _ c]; exact h3 k
  · intro k hk
    by_cases c : k = l1
    · rw [c, ho] at hk; omega
    · rw [rg_up_ne _ c]
      have := h4 k hk
      rw [rg_up_ne _ c] at this
      exact this
  · have := rCh_st (a := a) (P := fun x => x = l1) (E := E) i2 (fun x hx => by
      show ¬ inR g (g.2.1 (oV (W l0))) x
      rw [hR]
      exact hE x hx)
    rw [e4] at this
    exact rSt_ro this rfl
/-- a region is frozen as it is closed -/
theorem GI_fz (gi : GI ob N W T g) (R0 : R ≠ 0) (kR : g.2.2.2.1 R = 0) (RN : R < N) (hE : ∀ x, E x → ¬ inR g R x) : ∃ g' : rGt, GI ob N W T g' ∧ rSt a (g.2.2.2.2 R) E P g g' ∧ (∀ o, inR g R (g.2.1 o) → g'.2.1 o = 0) ∧ ∀ o, g.2.1 o = 0 → g'.2.1 o = 0 := by
  obtain ⟨h1, h2, h3, h4, h5⟩ := gi
  obtain ⟨g', i1, i2, i3⟩ := rl_fz h1 R0 (rl_free0 h1 kR)
  refine ⟨g', ⟨i1, rCh_bd i2 h2 RN RN (fun _ h => Or.inl h), h3, h4, h5⟩, rCh_st i2 hE, fun o ho => i3 _ ho o rfl, fun o ho => ?_⟩
  obtain ⟨phi, p0, _, _, _, _, _, p7⟩ := i2
  rw [p7, ho, p0]
/-- a new object in region r -/
def nwW (W : Nat → Int64) (o : Nat) (em : Nat → Int64) : Nat → Int64 := fun l => if obP l = o then em (l % 48 / 6) else W l
def nwTy (T : Nat → Nat) (o nf : Nat) (ft : Nat → Nat) : Nat → Nat := fun l => if obP l = o then (if l % 48 / 6 < nf then ft (l % 48 / 6) else 0) else T l
def nwG (g : rGt) (o r : Nat) : rGt := (fun l => if obP l = o then r else g.1 l, rg_up g.2.1 o r, g.2.2)
theorem GI_new {nf r : Nat} {em : Nat → Int64} {ft : Nat → Nat} (gi : GI ob N W T g) (hr : r < N) (he : ∀ f, f < nf → oV (em f) = 0) : GI (ob + 1) N (nwW W (ob + 1) em) (nwTy T (ob + 1) nf ft) (nwG g (ob + 1) r) := by
  obtain ⟨h1, h2, h3, h4, h5⟩ := gi
  have et : tgF (nwTy T (ob + 1) nf ft) (nwW W (ob + 1) em) = tgF T W := by
    funext l
    unfold tgF nwTy nwW
    by_cases c : obP l = ob + 1
    · rw [if_pos c, if_pos c, h4 l (by omega), if_pos rfl]
      by_cases c2 : l % 48 / 6 < nf
      · rw [if_pos c2, he _ c2]; split <;> rfl
      · rw [if_neg c2, if_pos rfl]
    · rw [if_neg c, if_neg c]
  have t0 : ∀ l, obP l = ob + 1 → tgF T W l = 0 := fun l hl => if_pos (h4 l (by omega))
  refine ⟨?_, ?_, fun l => by rw [et]; exact Nat.le_succ_of_le (h3 l), fun l hl => ?_, h5⟩
  · rw [et]
    have := rg_new h1 (ob + 1) r (fun l z => by have := h3 l; omega) t0 (fun l => if obP l = ob + 1 then r else g.1 l) (fun l hl => if_pos hl) (fun l hl => if_neg hl)
    refine rgI_x (g := nwG g (ob + 1) r) this (fun _ => rfl) (fun l hl => ?_)
    have c : obP l ≠ ob + 1 := fun z => hl (t0 l z)
    unfold cpF nwTy
    rw [if_neg c]
  · rw [et]
    refine ⟨fun l hl => ?_, fun o => ?_, h2.2.2⟩
    · show (if obP l = ob + 1 then r else g.1 l) < N
      split
      · exact hr
      · exact h2.1 l hl
    · show rg_up g.2.1 (ob + 1) r o < N
      by_cases c : o = ob + 1
      · rw [c, rg_up_eq]; exact hr
      · rw [rg_up_ne _ c]; exact h2.2.1 o
  · unfold nwTy
    rw [if_neg (by omega)]
    exact h4 l (by omega)
/-- regions that are fresh -/
def fsG (g : rGt) (N a : Nat) : rGt := (g.1, g.2.1, g.2.2.1, g.2.2.2.1, fun x => if N ≤ x then a else g.2.2.2.2 x)
theorem GI_fs {k : Nat} (gi : GI ob N W T g) (hk : N ≤ k) : GI ob k W T (fsG g N a) := by
  obtain ⟨h1, h2, h3, h4, h5⟩ := gi
  obtain ⟨i1, i2, ⟨ht, i3⟩, i4⟩ := h1
  refine ⟨⟨i1, i2, ⟨ht, fun r hr => ?_⟩, i4⟩, ⟨fun l hl => Nat.lt_of_lt_of_le (h2.1 l hl) hk, fun o => Nat.lt_of_lt_of_le (h2.2.1 o) hk, fun r hr => ⟨Nat.lt_of_lt_of_le (h2.2.2 r hr).1 hk, Nat.lt_of_lt_of_le (h2.2.2 r hr).2 hk⟩⟩, h3, h4, Nat.le_trans h5 hk⟩
  obtain ⟨z1, z2, z3, z4⟩ := i3 r hr
  obtain ⟨b1, b2⟩ := h2.2.2 r hr
  refine ⟨z1, z2, z3, ?_⟩
  show (if N ≤ g.2.2.1 r then a else g.2.2.2.2 (g.2.2.1 r)) = (if N ≤ r then a else g.2.2.2.2 r)
  rw [if_neg (by omega), if_neg (by omega)]
  exact z4
theorem fsG_st (gi : GI ob N W T g) (hE : ∀ x, E x → x < N) : rSt a1 a1 E P g (fsG g N a) := by
  refine ⟨fun x hx => ⟨rfl, ?_, fun _ => rfl, fun _ => Iff.rfl⟩, fun _ _ _ => rfl, fun _ _ => rfl, fun o ho => ?_⟩
  · have := hE x hx
    show (if N ≤ x then a else g.2.2.2.2 x) = g.2.2.2.2 x
    rw [if_neg (by omega)]
  · have := gi.2.1.2.1 o
    right; left
    show (if N ≤ g.2.1 o then a else g.2.2.2.2 (g.2.1 o)) = a1
    rw [if_neg (by omega)]
    exact ho
/-- nothing lies in a fresh region but itself -/
theorem in_fs {x : Nat} (gi : GI ob N W T g) (hx : N ≤ x) (X : Nat) (h : inR g X x) : X = x := by
  obtain ⟨n, hn⟩ := h
  cases n with
  | zero => exact Eq.symm hn
  | succ n =>
    have := (gi.2.1.2.2 x hn.1).1
    omega
theorem in_fs2 {x : Nat} (gi : GI ob N W T g) (hX : N ≤ x) {y : Nat} (h : inR g x y) : y = x := by
  obtain ⟨n, hn⟩ := h
  induction n generalizing y with
  | zero => exact hn
  | succ n ih =>
    have b := (gi.2.1.2.2 y hn.1).2
    have := ih hn.2
    omega
end ST2
