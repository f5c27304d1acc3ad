/-! ARGUMENTS ARE LAID DOWN. -/
/-- what the places A (of region r) enter holds nothing of E -/
def nOe (om : oMg) (E : Nat → Prop) (r : Nat) (A : Nat → Prop) : Prop := ∀ l, A l → om.2.2.1.1 l = r ∧ (om.2.1 l ≠ 0 → oV (om.1 l) ≠ 0 → om.2.1 l % 8 ≤ 1 → ∀ y, E y → ¬ inR om.2.2.1 (om.2.2.1.2.1 (oV (om.1 l))) y)
section JAR
variable {sB : rS} {A B : Nat → Int32} {mi : Nat → Nat × Nat × Nat × Nat × Nat} {kc : kCi} {om om' : oMg} {ka ka' : kAp} {la : lAy} {ms : mSg} {N N' cn : Nat} {sg sg' sg2 : cS} {s s' s2 S1 : rS} {a b d e lo q0 J l t r i n p q k k2 f0 w P L sz lv : Nat} {xs : Nat → Int32} {zf : Value} {Z : Nat → Prop} {hB h h' : rm_H} {es : List Nat} {x : Nat → Nat → fDs} {D : Nat → Nat} {S S0 X : List stE} {v : Int64} {y : Int32}
variable {E Ap : Nat → Prop} {l0 l1 t1 r1 ob b1 : Nat}
theorem nOe_of {lv0 : Nat} (it : iTm sB A B mi kc om ka la ms N cn sg s D x a d) (hj : lv0 ≤ fL (x a d)) (hA : ∀ l, Ap l → om.2.2.1.1 l = fRe (x a d) lv0) : nOe om (eLr om N a d (fL (x a d)) (x a)) (fRe (x a d) lv0) Ap := by
  have gi := (it_f it).2.2.2.2.2.2.1
  have it0 := it
  obtain ⟨_, _, _, _, _, rg, _⟩ := it0
  intro l hl
  refine ⟨hA l hl, fun t0 o0 c1 y hy hin => ?_⟩
  have et : tgF om.2.1 om.1 l = oV (om.1 l) := tgF_eq t0
  have ie := inR_e gi.1 (l := l) (by rw [et]; exact o0) (by rw [hA l hl]; exact (rg.1 _ hj).1) c1
  rw [et, hA l hl] at ie
  by_cases c : y = fRe (x a d) lv0
  · rw [c] at hin; exact ie.2 hin
  · exact tOp_of it hj y hy c (inR_t ie.1 hin)
/-- one argument -/
theorem lay_1 (gi : GI ob N om.1 om.2.1 om.2.2.1) (no : nOe om E r Ap) (A0 : Ap l0) (A1 : ¬ Ap l1) (Er : E r) (Er1 : E r1) (r0 : r ≠ 0) (q0 : r1 ≠ 0) (qN : r1 < N) (ow1 : om.2.2.1.2.2.2.2 r1 = b1) (ho : obP l1 = 0) (t0 : om.2.1 l0 ≠ 0) (t1n : t1 ≠ 0) (fit : oV (om.1 l0) = 0 ∨ (rg_good (om.2.1 l0 % 8) (t1 % 8) ∧ t1 % 8 ≤ 4 ∧ om.2.1 l0 % 8 ≤ 4)) (hx : r1 = r ∨ oV (om.1 l0) = 0 ∨ t1 % 8 = 0 ∨ t1 % 8 = 3) :
    ∃ g' : rGt, GI ob N (wU om.1 l1 (om.1 l0)) (rg_up (rg_up om.2.1 l0 0) l1 t1) g' ∧ g'.1 l1 = r1 ∧ rSt a b1 E (fun y => y = l1) om.2.2.1 g' ∧ nOe (wU om.1 l1 (om.1 l0), rg_up (rg_up om.2.1 l0 0) l1 t1, g', om.2.2.2) E r (fun l => Ap l ∧ l ≠ l0) := by
  have hl : l1 ≠ l0 := fun z => A1 (z ▸ A0)
  obtain ⟨hr, no0⟩ := no l0 A0
  -- the regions of the others
  have cd : oV (om.1 l0) ≠ 0 → (om.2.1 l0 % 8 ≤ 1 → ¬ inR om.2.2.1 (om.2.2.1.2.1 (oV (om.1 l0))) r1 ∧ (om.2.1 l0 % 8 = 1 → t1 % 8 = 3 ∨ rg_Tr om.2.2.1.2.2.1 om.2.2.1.2.2.2.1 r1 (om.2.2.1.1 l0)) ∧ ∀ y, (E y ∨ ∃ l, l ≠ l0 ∧ Ap l ∧ om.2.1 l ≠ 0 ∧ oV (om.1 l) ≠ 0 ∧ om.2.1 l % 8 ≤ 1 ∧ y = om.2.2.1.2.1 (oV (om.1 l))) → ¬ inR om.2.2.1 (om.2.2.1.2.1 (oV (om.1 l0))) y) ∧ ((om.2.1 l0 % 8 = 2 ∨ om.2.1 l0 % 8 = 4) → r1 = om.2.2.1.1 l0) := by
    intro o0
    have gd : rg_good (om.2.1 l0 % 8) (t1 % 8) ∧ t1 % 8 ≤ 4 ∧ om.2.1 l0 % 8 ≤ 4 := by
      rcases fit with z | z
      · exact absurd z o0
      · exact z
    refine ⟨fun c1 => ⟨no0 t0 o0 c1 r1 Er1, fun z => ?_, fun y hy => ?_⟩, fun z => ?_⟩
    · rcases hx with w | w | w | w
      · right; rw [w, hr]; exact rg_Tr_refl
      · exact absurd w o0
      · rcases gd.1 with v | v | v | v | v <;> omega
      · exact Or.inl w
    · rcases hy with z | ⟨l, n1, n2, n3, n4, n5, n6⟩
      · exact no0 t0 o0 c1 y z
      · rw [n6]
        intro hin
        have et : tgF om.2.1 om.1 l0 = oV (om.1 l0) := tgF_eq t0
        have el : tgF om.2.1 om.1 l = oV (om.1 l) := tgF_eq n3
        have hrl := (no l n2).1
        have i0 := inR_e gi.1 (l := l0) (by rw [et]; exact o0) (by rw [hr]; exact r0) c1
        obtain ⟨x1, x2, x3⟩ := rg_ent gi.1 l (by rw [el]; exact n4) (by rw [hrl]; exact r0) n5
        rw [et, hr] at i0
        rw [el] at x1 x2 x3
        by_cases same : om.2.2.1.2.1 (oV (om.1 l)) = om.2.2.1.2.1 (oV (om.1 l0))
        · exact n1 (gi.1.2.1 l l0 (by rw [el]; exact n4) (by rw [et]; exact o0) (by rw [hrl]; exact r0) (by rw [hr]; exact r0) n5 c1 (by rw [el, et]; exact same))
        · have := (rg_In_up hin same).2
          rw [x3, hrl] at this
          exact i0.2 this
    · rw [hr]
      rcases hx with w | w | w | w
      · exact w
      · exact absurd w o0
      · rcases gd.1 with v | v | v | v | v <;> omega
      · rcases gd.1 with v | v | v | v | v <;> omega
  obtain ⟨g', i1, i2, i3⟩ := GI_lay (a := a) (E := fun y => E y ∨ ∃ l, l ≠ l0 ∧ Ap l ∧ om.2.1 l ≠ 0 ∧ oV (om.1 l) ≠ 0 ∧ om.2.1 l % 8 ≤ 1 ∧ y = om.2.2.1.2.1 (oV (om.1 l))) (r1 := r1) gi hl ho t0 t1n (by rw [hr]; exact r0) q0 qN fit cd
  rw [ow1] at i3
  refine ⟨g', i1, i2, rSt_E i3 (fun y hy => Or.inl hy), fun l hA => ?_⟩
  obtain ⟨hA, hne⟩ := hA
  have hne1 : l ≠ l1 := fun z => A1 (z ▸ hA)
  obtain ⟨hrl, nol⟩ := no l hA
  have eW : wU om.1 l1 (om.1 l0) l = om.1 l := wU_ne hne1
  have eT : rg_up (rg_up om.2.1 l0 0) l1 t1 l = om.2.1 l := by rw [rg_up_ne _ hne1, rg_up_ne _ hne]
  refine ⟨?_, fun (t0' : rg_up (rg_up om.2.1 l0 0) l1 t1 l ≠ 0) (o0' : oV (wU om.1 l1 (om.1 l0) l) ≠ 0) (c1' : rg_up (rg_up om.2.1 l0 0) l1 t1 l % 8 ≤ 1) y hy hin => ?_⟩
  · show g'.1 l = r
    rw [i3.2.1 l hne1 (by rw [hrl]; exact Or.inl Er)]
    exact hrl
  · rw [eT] at t0' c1'
    rw [eW] at o0'
    have hin : inR g' (g'.2.1 (oV (wU om.1 l1 (om.1 l0) l))) y := hin
    rw [eW] at hin
    have er : g'.2.1 (oV (om.1 l)) = om.2.2.1.2.1 (oV (om.1 l)) := i3.2.2.1 _ (Or.inr ⟨l, hne, hA, t0', o0', c1', rfl⟩)
    rw [er] at hin
    exact nol t0' o0' c1' y hy (((i3.1 y (Or.inl hy)).2.2.2 _).mp hin)
/-- all arguments: from the stack (from qb on) to the names of body i, of types ps -/
theorem lay_L {qb i0 np : Nat} {ps : Nat → Nat} (gi : GI ob N om.1 om.2.1 om.2.2.1) (no : nOe om E r (fun l => ∃ j, j < np ∧ l = pS a (qb + j))) (Er : E r) (Er1 : E r1) (r0 : r ≠ 0) (q0 : r1 ≠ 0) (qN : r1 < N) (ow1 : om.2.2.1.2.2.2.2 r1 = a) (E0 : E 0) (t0 : ∀ j, j < np → om.2.1 (pS a (qb + j)) ≠ 0) (t1n : ∀ j, j < np → ps j ≠ 0) (fit : ∀ j, j < np → oV (om.1 (pS a (qb + j))) = 0 ∨ (rg_good (om.2.1 (pS a (qb + j)) % 8) (ps j % 8) ∧ ps j % 8 ≤ 4 ∧ om.2.1 (pS a (qb + j)) % 8 ≤ 4)) (hx : r1 = r ∨ ∀ j, j < np → oV (om.1 (pS a (qb + j))) = 0 ∨ ps j % 8 = 0 ∨ ps j % 8 = 3) :
    ∀ m, m ≤ np → ∃ om1 : oMg, GI ob N om1.1 om1.2.1 om1.2.2.1 ∧ om1.2.2.2 = om.2.2.2 ∧ rSt a a E (fun l => ∃ j, j < m ∧ l = pN i0 j) om.2.2.1 om1.2.2.1 ∧ (∀ j, j < m → om1.1 (pN i0 j) = om.1 (pS a (qb + j)) ∧ om1.2.1 (pN i0 j) = ps j ∧ om1.2.2.1.1 (pN i0 j) = r1) ∧ (∀ l, (∀ j, j < m → l ≠ pN i0 j) → om1.1 l = om.1 l) ∧ (∀ l, (∀ j, j < m → l ≠ pN i0 j) → (∀ j, j < m → l ≠ pS a (qb + j)) → om1.2.1 l = om.2.1 l) ∧ nOe om1 E r (fun l => ∃ j, m ≤ j ∧ j < np ∧ l = pS a (qb + j))
  | 0, _ => ⟨om, gi, rfl, rSt_r, fun _ h => absurd h (Nat.not_lt_zero _), fun _ _ => rfl, fun _ _ _ => rfl, fun l ⟨j, _, h1, h2⟩ => no l ⟨j, h1, h2⟩⟩
  | m + 1, hm => by
    obtain ⟨om1, i1, i2, i3, i4, i5, i6, i7⟩ := lay_L (i0 := i0) gi no Er Er1 r0 q0 qN ow1 E0 t0 t1n fit hx m (by omega)
    have eW : om1.1 (pS a (qb + m)) = om.1 (pS a (qb + m)) := i5 _ (fun j _ => nS_ne.symm)
    have eT : om1.2.1 (pS a (qb + m)) = om.2.1 (pS a (qb + m)) := i6 _ (fun j _ => nS_ne.symm) (fun j hj => sS_ne (by omega))
    obtain ⟨g', k1, k2, k3, k4⟩ := lay_1 (a := a) (b1 := a) (l0 := pS a (qb + m)) (l1 := pN i0 m) (t1 := ps m) i1 i7 ⟨m, Nat.le_refl _, by omega, rfl⟩ (fun ⟨j, _, _, z⟩ => nS_ne z) Er Er1 r0 q0 qN (by rw [(i3.1 _ Er1).2.1]; exact ow1) ob_N (by rw [eT]; exact t0 m (by omega)) (t1n m (by omega)) (by rw [eT, eW]; exact fit m (by omega)) (by
      rw [eW]
      rcases hx with z | z
      · exact Or.inl z
      · exact Or.inr (z m (by omega)))
    refine ⟨(wU om1.1 (pN i0 m) (om1.1 (pS a (qb + m))), rg_up (rg_up om1.2.1 (pS a (qb + m)) 0) (pN i0 m) (ps m), g', om1.2.2.2), k1, i2, rSt_u E0 (rSt_P i3 (fun l ⟨j, h1, h2⟩ => ⟨j, by omega, h2⟩)) (rSt_P k3 (fun l z => ⟨m, by omega, z⟩)), fun j hj => ?_, fun l hl => ?_, fun l h1 h2 => ?_, fun l ⟨j, h1, h2, h3⟩ => k4 l ⟨⟨j, by omega, h2, h3⟩, by rw [h3]; exact sS_ne (by omega)⟩⟩
    · show wU om1.1 (pN i0 m) (om1.1 (pS a (qb + m))) (pN i0 j) = _ ∧ rg_up (rg_up om1.2.1 (pS a (qb + m)) 0) (pN i0 m) (ps m) (pN i0 j) = _ ∧ g'.1 (pN i0 j) = _
      by_cases c : j = m
      · rw [c, wU_eq, rg_up_eq, k2, eW]
        exact ⟨rfl, rfl, rfl⟩
      · obtain ⟨z1, z2, z3⟩ := i4 j (by omega)
        have ne : pN i0 j ≠ pN i0 m := nN_ne c
        rw [wU_ne ne, rg_up_ne _ ne, rg_up_ne _ nS_ne, k3.2.1 _ ne (by rw [z3]; exact Er1)]
        exact ⟨z1, z2, z3⟩
    · show wU om1.1 (pN i0 m) _ l = _
      rw [wU_ne (hl m (by omega))]
      exact i5 l (fun j hj => hl j (by omega))
    · show rg_up (rg_up om1.2.1 (pS a (qb + m)) 0) (pN i0 m) (ps m) l = _
      rw [rg_up_ne _ (h1 m (by omega)), rg_up_ne _ (h2 m (by omega))]
      exact i6 l (fun j hj => h1 j (by omega)) (fun j hj => h2 j (by omega))
end JAR
