/-! THE STORE OF A RUN: places with values W, types T (0: not in use), regions g. -/
/-- the object in a value -/
def oV (v : Int64) : Nat := if srt v = 2 then (Int64.toInt32 v).toInt.toNat else 0
def pO (o f : Nat) : Nat := 6 * (8 * o + f)
def pF (a f : Nat) : Nat := 6 * (8 * a + f) + 1
def pN (i sl : Nat) : Nat := 6 * (16 * i + sl) + 2
def pS (a k : Nat) : Nat := 6 * (10100 * a + k) + 3
def pH (i : Nat) : Nat := 6 * i + 4
def pM (s0 k : Nat) : Nat := 6 * (6 * s0 + k) + 5
def obP (l : Nat) : Nat := if l % 6 = 0 then l / 48 else 0
def tgF (T : Nat → Nat) (W : Nat → Int64) (l : Nat) : Nat := if T l = 0 then 0 else oV (W l)
def cpF (T : Nat → Nat) (l : Nat) : Nat := T l % 8
def wU (W : Nat → Int64) (l : Nat) (v : Int64) : Nat → Int64 := fun j => if j = l then v else W j
def GI (ob N : Nat) (W : Nat → Int64) (T : Nat → Nat) (g : rGt) : Prop := rgI obP (cpF T) (tgF T W) g ∧ rBd N (tgF T W) g ∧ (∀ l, tgF T W l ≤ ob) ∧ (∀ l, ob < obP l → T l = 0) ∧ 1 ≤ N
section STO
variable {W W' : Nat → Int64} {T T' : Nat → Nat} {g g' g1 : rGt} {ob N a a1 l l0 l1 t1 r1 o f : Nat} {v : Int64} {E P : Nat → Prop}
theorem oV_0 : oV 0 = 0 := by decide
theorem oV_1 (x : Int32) : oV (mdV 1 x) = 0 := by
  unfold oV
  rw [md_hi 1 x (by decide), if_neg (by decide)]
theorem oV_3 (x : Int32) : oV (mdV 3 x) = 0 := by
  unfold oV
  rw [md_hi 3 x (by decide), if_neg (by decide)]
theorem oV_2 (h : o ≤ 400) : oV (mdV 2 (Int32.ofNat o)) = o := by
  unfold oV
  rw [md_hi 2 _ (by decide), if_pos (by decide), md_lo, rd_int (by omega)]
  rfl
theorem wU_eq : wU W l v l = v := if_pos rfl
theorem wU_ne {j : Nat} (h : j ≠ l) : wU W l v j = W j := if_neg h
theorem ob_O (hf : f < 8) : obP (pO o f) = o := by
  unfold obP pO
  rw [if_pos (by omega)]
  omega
theorem ob_n (h : l % 6 ≠ 0) : obP l = 0 := if_neg h
theorem tg_up : tgF (rg_up T l t1) (wU W l v) = rg_up (tgF T W) l (if t1 = 0 then 0 else oV v) := by
  funext j
  unfold tgF
  by_cases c : j = l
  · rw [c, rg_up_eq, rg_up_eq, wU_eq]
  · rw [rg_up_ne _ c, rg_up_ne _ c, wU_ne c]
theorem tg_dr : tgF (rg_up T l 0) W = rg_up (tgF T W) l 0 := by
  funext j
  unfold tgF
  by_cases c : j = l
  · rw [c, rg_up_eq, rg_up_eq, if_pos rfl]
  · rw [rg_up_ne _ c, rg_up_ne _ c]
theorem cp_up : cpF (rg_up T l t1) = rg_up (cpF T) l (t1 % 8) := by
  funext j
  unfold cpF
  by_cases c : j = l
  · rw [c, rg_up_eq, rg_up_eq]
  · rw [rg_up_ne _ c, rg_up_ne _ c]
/-- the right of a place that holds nothing is nobody's business -/
theorem rgI_x {ob cp cp' tg tg' : Nat → Nat} (h : rgI ob cp tg g) (e : ∀ l, tg' l = tg l) (e2 : ∀ l, tg l ≠ 0 → cp' l = cp l) : rgI ob cp' tg' g := by
  obtain ⟨h1, h2, h3, h4⟩ := h
  refine ⟨fun l => ?_, fun l k a b c d e5 e6 e7 => ?_, h3, h4⟩
  · rw [e l]
    by_cases c : tg l = 0
    · exact Or.inl c
    · rw [e2 l c]; exact h1 l
  · rw [e l] at a e7
    rw [e k] at b e7
    rw [e2 l a] at e5
    rw [e2 k b] at e6
    exact h2 l k a b c d e5 e6 e7
theorem GI_drop (gi : GI ob N W T g) (l : Nat) : GI ob N W (rg_up T l 0) g := by
  obtain ⟨h1, h2, h3, h4, h5⟩ := gi
  refine ⟨?_, ?_, ?_, ?_, h5⟩
  · rw [tg_dr]
    exact rgI_x (rg_drop h1 l) (fun _ => rfl) (fun k hk => by
      by_cases c : k = l
      · rw [c, rg_up_eq] at hk; exact absurd rfl hk
      · rw [cp_up, rg_up_ne _ c])
  · rw [tg_dr]
    refine ⟨fun k hk => ?_, h2.2⟩
    by_cases c : k = l
    · rw [c, rg_up_eq] at hk; exact absurd rfl hk
    · rw [rg_up_ne _ c] at hk; exact h2.1 k hk
  · intro k
    rw [tg_dr]
    by_cases c : k = l
    · rw [c, rg_up_eq]; exact Nat.zero_le _
    · rw [rg_up_ne _ c]; exact h3 k
  · intro k hk
    by_cases c : k = l
    · rw [c]; exact rg_up_eq _ _ _
    · rw [rg_up_ne _ c]; exact h4 k hk
/-- the value of a place that is not in use is nobody's business -/
theorem GI_w (gi : GI ob N W T g) (e : ∀ l, T l ≠ 0 → W' l = W l) : GI ob N W' T g := by
  have et : tgF T W' = tgF T W := by
    funext l
    unfold tgF
    by_cases c : T l = 0
    · rw [if_pos c, if_pos c]
    · rw [if_neg c, if_neg c, e l c]
  unfold GI
  rw [et]
  exact gi
/-- a root gets what may be had often -/
theorem GI_put (gi : GI ob N W T g) (l1 t1 r1 : Nat) (v : Int64) (ho : obP l1 = 0) (hr : r1 < N) (hv : t1 = 0 ∨ oV v ≤ ob) (ok : t1 = 0 ∨ oV v = 0 ∨ (2 ≤ t1 % 8 ∧ rg_ok g.2.1 g.2.2.1 g.2.2.2.1 r1 (t1 % 8) (oV v))) : GI ob N (wU W l1 v) (rg_up T l1 t1) (rRo g l1 r1) := by
  obtain ⟨h1, h2, h3, h4, h5⟩ := gi
  have hh : (if t1 = 0 then 0 else oV v) = 0 ∨ 2 ≤ t1 % 8 := by
    rcases ok with z | z | z
    · exact Or.inl (if_pos z)
    · left; rw [z]; split <;> rfl
    · exact Or.inr z.1
  have hk : rg_ok g.2.1 g.2.2.1 g.2.2.2.1 r1 (t1 % 8) (if t1 = 0 then 0 else oV v) := by
    rcases ok with z | z | z
    · exact Or.inl (if_pos z)
    · left; rw [z]; split <;> rfl
    · by_cases c : t1 = 0
      · exact Or.inl (if_pos c)
      · rw [if_neg c]; exact z.2
  refine ⟨?_, ?_, ?_, ?_, h5⟩
  · rw [tg_up, cp_up]
    exact rl_set h1 l1 r1 _ _ ho hh hk
  · rw [tg_up]
    refine ⟨fun k hk => ?_, h2.2⟩
    show rg_up g.1 l1 r1 k < N
    by_cases c : k = l1
    · rw [c, rg_up_eq]; exact hr
    · rw [rg_up_ne _ c] at hk ⊢; exact h2.1 k hk
  · intro k
    rw [tg_up]
    by_cases c : k = l1
    · rw [c, rg_up_eq]
      split
      · exact Nat.zero_le _
      · next z =>
        rcases hv with y | y
        · exact absurd y z
        · exact y
    · rw [rg_up_ne _ c]; exact h3 k
  · intro k hk
    by_cases c : k = l1
    · rw [c, ho] at hk; omega
    · rw [rg_up_ne _ c]; exact h4 k hk
/-- what a value in a place may do elsewhere -/
theorem ok_cp {rho pr tk : Nat → Nat} {h c d t : Nat} (ok : rg_ok rho pr tk h c t) (h0 : h ≠ 0) (gd : rg_good c d) (hc : 2 ≤ c ∨ d = 4 ∧ c ≠ 0) : rg_ok rho pr tk h d t := by
  rcases ok with z | z | ⟨z, y | y | y | y | y⟩
  · exact Or.inl z
  · exact absurd z.1 h0
  · refine Or.inr (Or.inr ⟨z, ?_⟩)
    have : d = 3 ∨ d = 4 := by rcases gd with w | w | w | w | w <;> omega
    rcases this with e | e
    · exact Or.inl ⟨e, y.2⟩
    · exact Or.inr (Or.inr (Or.inl ⟨e, Or.inl y.2⟩))
  · refine Or.inr (Or.inr ⟨z, ?_⟩)
    have : d = 2 ∨ d = 4 := by rcases gd with w | w | w | w | w <;> omega
    rcases this with e | e
    · exact Or.inr (Or.inl ⟨e, y.2⟩)
    · exact Or.inr (Or.inr (Or.inl ⟨e, Or.inr (by rw [y.2]; exact rg_Tr_refl)⟩))
  · refine Or.inr (Or.inr ⟨z, ?_⟩)
    have : d = 4 := by rcases gd with w | w | w | w | w <;> omega
    exact Or.inr (Or.inr (Or.inl ⟨this, y.2⟩))
  · refine Or.inr (Or.inr ⟨z, ?_⟩)
    have : d = 4 := by omega
    exact Or.inr (Or.inr (Or.inl ⟨this, Or.inr ⟨1, y.2.2.1, y.2.2.2⟩⟩))
  · exfalso
    omega
/-- iso or trn is laid from l0 to l1 (whose region is r1 already) -/
theorem GI_ent (gi : GI ob N W T g) (hl : l1 ≠ l0) (h0 : tgF T W l0 ≠ 0) (hh : g.1 l0 ≠ 0) (hc : T l0 % 8 ≤ 1) (t0 : t1 ≠ 0) (q0 : g.1 l1 ≠ 0) (qN : g.1 l1 < N) (hq : ¬ inR g (g.2.1 (tgF T W l0)) (g.1 l1)) (gd : rg_good (T l0 % 8) (t1 % 8)) (hd : T l0 % 8 = 1 → t1 % 8 = 3 ∨ rg_Tr g.2.2.1 g.2.2.2.1 (g.1 l1) (g.1 l0)) (d4 : t1 % 8 ≤ 4) (hb : obP l1 ≤ ob) (hE : ∀ x, E x → ¬ inR g (g.2.1 (tgF T W l0)) x) :
    ∃ g' : rGt, GI ob N (wU W l1 (W l0)) (rg_up (rg_up T l0 0) l1 t1) g' ∧ g'.1 l1 = g.1 l1 ∧ rSt a (g.2.2.2.2 (g.1 l1)) E P g g' := by
  obtain ⟨h1, h2, h3, h4, h5⟩ := gi
  obtain ⟨e1, e2, e3⟩ := rg_ent h1 l0 h0 hh hc
  have hI1 : rgI obP (cpF T) (rg_up (tgF T W) l0 0) g := rg_drop h1 l0
  obtain ⟨g', i1, i2, i3⟩ := rl_lay hI1 l1 (t1 % 8) (tgF T W l0) e1 (rl_free h1 h0 hh hc) q0 hq (fun z => by
    have c1 : T l0 % 8 = 1 := by
      rw [e2] at z
      have : cpF T l0 = T l0 % 8 := rfl
      omega
    rcases hd c1 with y | y
    · exact Or.inl y
    · right
      rw [e3]
      refine ⟨?_, y⟩
      rcases gd with w | w | w | w | w <;> omega) d4
  have hov : tgF T W l0 = oV (W l0) := by
    unfold tgF at h0 ⊢
    by_cases c : T l0 = 0
    · rw [if_pos c] at h0; exact absurd rfl h0
    · rw [if_neg c]
  have et : tgF (rg_up (rg_up T l0 0) l1 t1) (wU W l1 (W l0)) = rg_up (rg_up (tgF T W) l0 0) l1 (tgF T W l0) := by
    rw [tg_up, tg_dr, if_neg t0, hov]
  refine ⟨g', ⟨?_, ?_, ?_, ?_, h5⟩, i3, rCh_st i2 hE⟩
  · rw [et]
    refine rgI_x i1 (fun _ => rfl) (fun k hk => ?_)
    rw [cp_up, cp_up]
    by_cases c : k = l1
    · rw [c, rg_up_eq, rg_up_eq]
    · rw [rg_up_ne _ c] at hk
      rw [rg_up_ne _ c, rg_up_ne _ c]
      by_cases c2 : k = l0
      · rw [c2, rg_up_eq] at hk; exact absurd rfl hk
      · rw [rg_up_ne _ c2]
  · rw [et]
    refine rCh_bd i2 h2 qN (h2.2.1 _) (fun k hk => ?_)
    by_cases c : k = l1
    · rw [c]; exact Or.inr qN
    · rw [rg_up_ne _ c] at hk
      left
      intro z
      by_cases c2 : k = l0
      · rw [c2, rg_up_eq] at hk; exact hk rfl
      · rw [rg_up_ne _ c2] at hk; exact hk z
  · intro k
    rw [et]
    by_cases c : k = l1
    · rw [c, rg_up_eq]; exact h3 l0
    · rw [rg_up_ne _ c]
      by_cases c2 : k = l0
      · rw [c2, rg_up_eq]; exact Nat.zero_le _
      · rw [rg_up_ne _ c2]; exact h3 k
  · intro k hk
    by_cases c : k = l1
    · rw [c] at hk; omega
    · rw [rg_up_ne _ c]
      by_cases c2 : k = l0
      · rw [c2, rg_up_eq]
      · rw [rg_up_ne _ c2]; exact h4 k hk
end STO
