/-! A VALUE IS LAID INTO A FIELD: the store. -/
def sfB (c e : Nat) : Bool := decide (c = 2) || (decide (c = 0) && (decide (e = 0) || decide (e = 3))) || (decide (c = 1) && (decide (e = 0) || decide (e = 1) || decide (e = 3)))
theorem sf_b : ∀ c, c < 5 → ∀ e, e < 5 → lkV 2 (Int32.ofNat c) (Int32.ofNat e) = 1 → sfB c e = true := by decide +kernel
section JSF
variable {sB : rS} {A B : Nat → Int32} {mi : Nat → Nat × Nat × Nat × Nat × Nat} {kc : kCi} {om om' : oMg} {ka ka' : kAp} {la : lAy} {ms : mSg} {N N' cn : Nat} {sg sg' sg2 : cS} {s s' s2 S1 : rS} {a b d e lo q0 J l t r i n p q k k2 f0 w P L sz lv : Nat} {xs : Nat → Int32} {zf : Value} {Z : Nat → Prop} {hB h h' : rm_H} {es : List Nat} {x : Nat → Nat → fDs} {D : Nat → Nat} {S S0 X : List stE} {v : Int64} {y : Int32}
variable {E Pq : Nat → Prop} {c o f tf tv l0 u : Nat}
theorem sf_c (hc : c < 5) (he : e < 5) (h : lkV 2 (Int32.ofNat c) (Int32.ofNat e) = 1) : c = 2 ∨ (c = 0 ∧ (e = 0 ∨ e = 3)) ∨ (c = 1 ∧ (e = 0 ∨ e = 1 ∨ e = 3)) := by
  have h1 := sf_b c hc e he h
  unfold sfB at h1
  simp at h1
  omega
/-- nothing of what another place enters lies where u is seen -/
theorem no_in {ob : Nat} (gi : GI ob N om.1 om.2.1 om.2.2.1) (hd : hLd om a c u r) (u1 : u ≠ 0) (c2 : c ≤ 2) (r0 : r ≠ 0) (t0 : om.2.1 l0 ≠ 0) (h0 : oV (om.1 l0) ≠ 0) (hr : om.2.2.1.1 l0 = r) (hc : om.2.1 l0 % 8 ≤ 1) (nl : ¬ lOf a l0) : ¬ inR om.2.2.1 (om.2.2.1.2.1 (oV (om.1 l0))) (om.2.2.1.2.1 u) := by
  have et : tgF om.2.1 om.1 l0 = oV (om.1 l0) := tgF_eq t0
  have tn : tgF om.2.1 om.1 l0 ≠ 0 := by rw [et]; exact h0
  have ie := inR_e gi.1 (l := l0) tn (by rw [hr]; exact r0) hc
  obtain ⟨e1, e2, e3⟩ := rg_ent gi.1 l0 tn (by rw [hr]; exact r0) hc
  rw [et] at ie e1 e2 e3
  rw [hr] at ie e3
  have k0 : om.2.2.1.2.2.2.1 (om.2.2.1.2.1 (oV (om.1 l0))) ≠ 0 := by rw [e2]; exact Nat.succ_ne_zero _
  by_cases c22 : c = 2
  · have : om.2.2.1.2.1 u = r := by
      rcases hd.1 with z | z
      · rcases z with z | z | ⟨_, z | z | z | z | z⟩
        · exact absurd z u1
        · exact absurd z.1 r0
        · omega
        · exact z.2
        · omega
        · omega
        · omega
      · omega
    rw [this]
    exact ie.2
  · obtain ⟨_, lx, l1, l2, l3, l4, l5⟩ := hd.2 (by omega)
    intro hin
    have hh : om.2.2.1.1 lx ≠ 0 := by rw [l4]; exact r0
    have ix := inR_e gi.1 (l := lx) l2 hh l3
    obtain ⟨x1, x2, x3⟩ := rg_ent gi.1 lx l2 hh l3
    rw [l4] at ix x3
    have kx : om.2.2.1.2.2.2.1 (om.2.2.1.2.1 (tgF om.2.1 om.1 lx)) ≠ 0 := by rw [x2]; exact Nat.succ_ne_zero _
    by_cases same : om.2.2.1.2.1 (oV (om.1 l0)) = om.2.2.1.2.1 (tgF om.2.1 om.1 lx)
    · have := gi.1.2.1 l0 lx tn l2 (by rw [hr]; exact r0) hh hc l3 (by rw [et]; exact same)
      rw [this] at nl
      exact nl l1
    · rcases inR_c hin l5 with z | z
      · have := (rg_In_up z (fun w => same w.symm)).2
        rw [x3] at this
        exact ie.2 this
      · have := (rg_In_up z (fun w => same w)).2
        rw [e3] at this
        exact ix.2 this
/-- a value goes from the root l0 into field f of u -/
theorem GI_fld {ob : Nat} (gi : GI ob N om.1 om.2.1 om.2.2.1) (top : tOp om.2.2.1 E r) (hd : hLd om a c u r) (u1 : u ≠ 0) (uo : u ≤ ob) (c2 : c ≤ 2) (f8 : f < 8) (r0 : r ≠ 0) (rN : r < N) (ro : om.2.2.1.2.2.2.2 r = a) (t0 : om.2.1 l0 ≠ 0) (tf0 : tf ≠ 0) (hr : om.2.2.1.1 l0 = r) (nl : ¬ lOf a l0) (l6 : l0 % 6 ≠ 0) (fit : oV (om.1 l0) = 0 ∨ (rg_good (om.2.1 l0 % 8) (tf % 8) ∧ tf % 8 ≤ 4 ∧ om.2.1 l0 % 8 ≤ 4)) (safe : oV (om.1 l0) ≠ 0 → c = 2 ∨ (c = 0 ∧ (om.2.1 l0 % 8 = 0 ∨ om.2.1 l0 % 8 = 3)) ∨ (c = 1 ∧ (om.2.1 l0 % 8 = 0 ∨ om.2.1 l0 % 8 = 1 ∨ om.2.1 l0 % 8 = 3))) :
    (om.2.2.1.2.1 u ≠ 0 ∧ om.2.2.1.2.2.2.2 (om.2.2.1.2.1 u) = a) ∧ ∃ g' : rGt, GI ob N (wU om.1 (pO u f) (om.1 l0)) (rg_up (rg_up om.2.1 l0 0) (pO u f) tf) g' ∧ rSt a a E (fun _ => False) om.2.2.1 g' := by
  have hob : obP (pO u f) = u := ob_O f8
  have hrk : om.2.2.1.1 (pO u f) = om.2.2.1.2.1 u := by
    have := gi.1.2.2.2 (pO u f) (by rw [hob]; exact u1)
    rw [hob] at this
    exact this
  have lne : pO u f ≠ l0 := by
    intro z
    rw [← z] at l6
    unfold pO at l6
    omega
  -- u is no frozen object, and a's
  have ru : om.2.2.1.2.1 u ≠ 0 ∧ inR om.2.2.1 r (om.2.2.1.2.1 u) ∧ (c = 2 → om.2.2.1.2.1 u = r) := by
    by_cases c22 : c = 2
    · have : om.2.2.1.2.1 u = r := by
        rcases hd.1 with z | z
        · rcases z with z | z | ⟨_, z | z | z | z | z⟩
          · exact absurd z u1
          · exact absurd z.1 r0
          · omega
          · exact z.2
          · omega
          · omega
          · omega
        · omega
      rw [this]
      exact ⟨r0, inR_r, fun _ => rfl⟩
    · obtain ⟨h1, lx, l1, l2, l3, l4, l5⟩ := hd.2 (by omega)
      have ix := inR_e gi.1 (l := lx) l2 (by rw [l4]; exact r0) l3
      rw [l4] at ix
      exact ⟨h1, inR_t ix.1 l5, fun z => absurd z c22⟩
  have ow : om.2.2.1.2.2.2.2 (om.2.2.1.2.1 u) = a := by rw [inR_ow gi.1 ru.2.1]; exact ro
  refine ⟨⟨ru.1, ow⟩, ?_⟩
  have et : tgF om.2.1 om.1 l0 = oV (om.1 l0) := tgF_eq t0
  have hob0 := gi.2.2.1 l0
  rw [et] at hob0
  by_cases en : oV (om.1 l0) ≠ 0 ∧ om.2.1 l0 % 8 ≤ 1
  · obtain ⟨o0, c1⟩ := en
    obtain ⟨gd, f4, v4⟩ : rg_good (om.2.1 l0 % 8) (tf % 8) ∧ tf % 8 ≤ 4 ∧ om.2.1 l0 % 8 ≤ 4 := by
      rcases fit with z | z
      · exact absurd z o0
      · exact z
    have tn : tgF om.2.1 om.1 l0 ≠ 0 := by rw [et]; exact o0
    have ie := inR_e gi.1 (l := l0) tn (by rw [hr]; exact r0) c1
    rw [et, hr] at ie
    obtain ⟨g', i1, i2, i3⟩ := GI_ent (a := a) (E := E) (P := fun _ => False) (l1 := pO u f) (t1 := tf) gi lne tn (by rw [hr]; exact r0) c1 tf0 (by rw [hrk]; exact ru.1) (by rw [hrk]; exact gi.2.1.2.1 u) (by rw [et, hrk]; exact no_in gi hd u1 c2 r0 t0 o0 hr c1 nl) gd (fun z1 => by
      right
      rw [hrk, hr]
      rcases safe o0 with z | z | z
      · rw [ru.2.2 z]; exact rg_Tr_refl
      · omega
      · rcases hd.1 with y | y
        · rcases y with y | y | ⟨_, y | y | y | y | y⟩
          · exact absurd y u1
          · exact absurd y.1 r0
          · omega
          · omega
          · omega
          · exact ⟨1, y.2.2.1, y.2.2.2⟩
          · omega
        · omega) f4 (by rw [hob]; exact uo) (fun y hy => by
      rw [et]
      intro hin
      by_cases cy : y = r
      · rw [cy] at hin; exact ie.2 hin
      · exact top y hy cy (inR_t ie.1 hin))
    rw [hrk, ow] at i3
    exact ⟨g', i1, i3⟩
  · have ok := gi.1.1 l0
    rw [et, hr] at ok
    have okf : rg_ok om.2.2.1.2.1 om.2.2.1.2.2.1 om.2.2.1.2.2.2.1 (om.2.2.1.1 (pO u f)) (tf % 8) (oV (om.1 l0)) ∧ (oV (om.1 l0) = 0 ∨ 2 ≤ tf % 8) := by
      by_cases o0 : oV (om.1 l0) = 0
      · exact ⟨Or.inl o0, Or.inl o0⟩
      · obtain ⟨gd, f4, v4⟩ : rg_good (om.2.1 l0 % 8) (tf % 8) ∧ tf % 8 ≤ 4 ∧ om.2.1 l0 % 8 ≤ 4 := by
          rcases fit with z | z
          · exact absurd z o0
          · exact z
        have c22 : 2 ≤ om.2.1 l0 % 8 := by
          by_cases z : om.2.1 l0 % 8 ≤ 1
          · exact absurd ⟨o0, z⟩ en
          · omega
        have ecp : cpF om.2.1 l0 = om.2.1 l0 % 8 := rfl
        rw [ecp] at ok
        refine ⟨?_, Or.inr (by rcases gd with z | z | z | z | z <;> omega)⟩
        rw [hrk]
        by_cases c3 : om.2.1 l0 % 8 = 3
        · rw [c3] at ok gd
          have fz : om.2.2.1.2.1 (oV (om.1 l0)) = 0 := by
            rcases ok with z | z | ⟨_, z | z | z | z | z⟩
            · exact absurd z o0
            · exact z.2
            · exact z.2
            · exact absurd z.1 (by decide)
            · exact absurd z.1 (by decide)
            · exact absurd z.1 (by decide)
            · exact absurd z.1 (by decide)
          refine Or.inr (Or.inr ⟨ru.1, ?_⟩)
          have : tf % 8 = 3 ∨ tf % 8 = 4 := by rcases gd with z | z | z | z | z <;> omega
          rcases this with z | z
          · exact Or.inl ⟨z, fz⟩
          · exact Or.inr (Or.inr (Or.inl ⟨z, Or.inl fz⟩))
        · have c22' : c = 2 := by
            rcases safe o0 with z | z | z
            · exact z
            · omega
            · omega
          rw [ru.2.2 c22']
          exact ok_cp ok r0 gd (Or.inl c22)
    refine ⟨om.2.2.1, ?_, rSt_r⟩
    obtain ⟨h1, h2, h3, h4, h5⟩ := gi
    have et2 : tgF (rg_up (rg_up om.2.1 l0 0) (pO u f) tf) (wU om.1 (pO u f) (om.1 l0)) = rg_up (rg_up (tgF om.2.1 om.1) l0 0) (pO u f) (oV (om.1 l0)) := by
      rw [tg_up, tg_dr, if_neg tf0]
    have hI := rg_set (l1 := pO u f) (rg_drop h1 l0) (tf % 8) (oV (om.1 l0)) okf.2 okf.1
    refine ⟨?_, ?_, ?_, ?_, h5⟩
    · rw [et2]
      refine rgI_x (cp := rg_up (cpF om.2.1) (pO u f) (tf % 8)) hI (fun _ => rfl) (fun k hk => ?_)
      rw [cp_up, cp_up]
      by_cases ck : k = pO u f
      · rw [ck, rg_up_eq, rg_up_eq]
      · rw [rg_up_ne _ ck] at hk
        rw [rg_up_ne _ ck, rg_up_ne _ ck]
        by_cases ck2 : k = l0
        · rw [ck2, rg_up_eq] at hk; exact absurd rfl hk
        · rw [rg_up_ne _ ck2]
    · rw [et2]
      refine ⟨fun k hk => ?_, h2.2⟩
      by_cases ck : k = pO u f
      · rw [ck, hrk]; exact h2.2.1 u
      · rw [rg_up_ne _ ck] at hk
        by_cases ck2 : k = l0
        · rw [ck2, rg_up_eq] at hk; exact absurd rfl hk
        · rw [rg_up_ne _ ck2] at hk; exact h2.1 k hk
    · intro k
      rw [et2]
      by_cases ck : k = pO u f
      · rw [ck, rg_up_eq]; exact hob0
      · rw [rg_up_ne _ ck]
        by_cases ck2 : k = l0
        · rw [ck2, rg_up_eq]; exact Nat.zero_le _
        · rw [rg_up_ne _ ck2]; exact h3 k
    · intro k hk
      by_cases ck : k = pO u f
      · rw [ck, hob] at hk; omega
      · rw [rg_up_ne _ ck]
        by_cases ck2 : k = l0
        · rw [ck2]; exact rg_up_eq _ _ _
        · rw [rg_up_ne _ ck2]; exact h4 k hk
end JSF
