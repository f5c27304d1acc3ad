/-! A MESSAGE IS TAKEN: the store. -/
/-- what was c's is a's -/
def rlb (g : rGt) (c a : Nat) : rGt := (g.1, g.2.1, g.2.2.1, g.2.2.2.1, fun y => if g.2.2.2.2 y = c then a else g.2.2.2.2 y)
section JTA
variable {sB : rS} {A B : Nat → Int32} {mi : Nat → Nat × Nat × Nat × Nat × Nat} {kc : kCi} {om om' : oMg} {ka ka' : kAp} {la : lAy} {ms : mSg} {N N' cn : Nat} {sg sg' sg2 : cS} {s s' s2 S1 : rS} {a b d e lo q0 J l t r i n p q k k2 f0 w P L sz lv : Nat} {xs : Nat → Int32} {zf : Value} {Z : Nat → Prop} {hB h h' : rm_H} {es : List Nat} {x : Nat → Nat → fDs} {D : Nat → Nat} {S S0 X : List stE} {v : Int64} {y : Int32}
variable {E Ap : Nat → Prop} {l0 l1 t1 r1 ob b1 s0 c M : Nat} {W : Nat → Int64} {T : Nat → Nat} {g : rGt} {ts : List Nat}
theorem GI_rlb (gi : GI ob N W T g) : GI ob N W T (rlb g c a) := by
  obtain ⟨⟨i1, i2, ⟨ht, i3⟩, i4⟩, h2, h3⟩ := gi
  refine ⟨⟨i1, i2, ⟨ht, fun r hr => ?_⟩, i4⟩, h2, h3⟩
  obtain ⟨z1, z2, z3, z4⟩ := i3 r hr
  refine ⟨z1, z2, z3, ?_⟩
  show (if g.2.2.2.2 (g.2.2.1 r) = c then a else g.2.2.2.2 (g.2.2.1 r)) = (if g.2.2.2.2 r = c then a else g.2.2.2.2 r)
  rw [z4]
/-- values go from src to dst -/
theorem lay_G {src dst : Nat → Nat} {np : Nat} {ps : Nat → Nat} (si : ∀ i j, i ≠ j → src i ≠ src j) (di : ∀ i j, i ≠ j → dst i ≠ dst j) (sd : ∀ i j, dst i ≠ src j) (od : ∀ j, obP (dst j) = 0) (gi : GI ob N om.1 om.2.1 om.2.2.1) (no : nOe om E r (fun l => ∃ j, j < np ∧ l = src j)) (Er : E r) (Er1 : E r1) (r0 : r ≠ 0) (q0 : r1 ≠ 0) (qN : r1 < N) (ow1 : om.2.2.1.2.2.2.2 r1 = a) (E0 : E 0) (t0 : ∀ j, j < np → om.2.1 (src j) ≠ 0) (t1n : ∀ j, j < np → ps j ≠ 0) (fit : ∀ j, j < np → oV (om.1 (src j)) = 0 ∨ (rg_good (om.2.1 (src j) % 8) (ps j % 8) ∧ ps j % 8 ≤ 4 ∧ om.2.1 (src j) % 8 ≤ 4)) (hx : r1 = r ∨ ∀ j, j < np → oV (om.1 (src j)) = 0 ∨ ps j % 8 = 0 ∨ ps j % 8 = 3) :
    ∀ m, m ≤ np → ∃ om1 : oMg, GI ob N om1.1 om1.2.1 om1.2.2.1 ∧ om1.2.2.2 = om.2.2.2 ∧ rSt a a E (fun l => ∃ j, j < m ∧ l = dst j) om.2.2.1 om1.2.2.1 ∧ (∀ j, j < m → om1.1 (dst j) = om.1 (src j) ∧ om1.2.1 (dst j) = ps j ∧ om1.2.2.1.1 (dst j) = r1) ∧ (∀ l, (∀ j, j < m → l ≠ dst j) → om1.1 l = om.1 l) ∧ (∀ l, (∀ j, j < m → l ≠ dst j) → (∀ j, j < m → l ≠ src j) → om1.2.1 l = om.2.1 l) ∧ nOe om1 E r (fun l => ∃ j, m ≤ j ∧ j < np ∧ l = src j)
  | 0, _ => ⟨om, gi, rfl, rSt_r, fun _ h => absurd h (Nat.not_lt_zero _), fun _ _ => rfl, fun _ _ _ => rfl, fun l ⟨j, _, h1, h2⟩ => no l ⟨j, h1, h2⟩⟩
  | m + 1, hm => by
    obtain ⟨om1, i1, i2, i3, i4, i5, i6, i7⟩ := lay_G si di sd od gi no Er Er1 r0 q0 qN ow1 E0 t0 t1n fit hx m (by omega)
    have eW : om1.1 (src m) = om.1 (src m) := i5 _ (fun j _ => (sd j m).symm)
    have eT : om1.2.1 (src m) = om.2.1 (src m) := i6 _ (fun j _ => (sd j m).symm) (fun j hj => si m j (by omega))
    obtain ⟨g', k1, k2, k3, k4⟩ := lay_1 (a := a) (b1 := a) (l0 := src m) (l1 := dst m) (t1 := ps m) i1 i7 ⟨m, Nat.le_refl _, by omega, rfl⟩ (fun ⟨j, _, _, z⟩ => sd m j z) Er Er1 r0 q0 qN (by rw [(i3.1 _ Er1).2.1]; exact ow1) (od m) (by rw [eT]; exact t0 m (by omega)) (t1n m (by omega)) (by rw [eT, eW]; exact fit m (by omega)) (by
      rw [eW]
      rcases hx with z | z
      · exact Or.inl z
      · exact Or.inr (z m (by omega)))
    refine ⟨(wU om1.1 (dst m) (om1.1 (src m)), rg_up (rg_up om1.2.1 (src m) 0) (dst m) (ps m), g', om1.2.2.2), k1, i2, rSt_u E0 (rSt_P i3 (fun l ⟨j, h1, h2⟩ => ⟨j, by omega, h2⟩)) (rSt_P k3 (fun l z => ⟨m, by omega, z⟩)), fun j hj => ?_, fun l hl => ?_, fun l h1 h2 => ?_, fun l ⟨j, h1, h2, h3⟩ => k4 l ⟨⟨j, by omega, h2, h3⟩, by rw [h3]; exact si j m (by omega)⟩⟩
    · show wU om1.1 (dst m) (om1.1 (src m)) (dst j) = _ ∧ rg_up (rg_up om1.2.1 (src m) 0) (dst m) (ps m) (dst j) = _ ∧ g'.1 (dst j) = _
      by_cases c : j = m
      · rw [c, wU_eq, rg_up_eq, k2, eW]
        exact ⟨rfl, rfl, rfl⟩
      · obtain ⟨z1, z2, z3⟩ := i4 j (by omega)
        have ne : dst j ≠ dst m := di j m c
        rw [wU_ne ne, rg_up_ne _ ne, rg_up_ne _ (sd j m), k3.2.1 _ ne (by rw [z3]; exact Er1)]
        exact ⟨z1, z2, z3⟩
    · show wU om1.1 (dst m) _ l = _
      rw [wU_ne (hl m (by omega))]
      exact i5 l (fun j hj => hl j (by omega))
    · show rg_up (rg_up om1.2.1 (src m) 0) (dst m) (ps m) l = _
      rw [rg_up_ne _ (h1 m (by omega)), rg_up_ne _ (h2 m (by omega))]
      exact i6 l (fun j hj => h1 j (by omega)) (fun j hj => h2 j (by omega))
/-- live regions while a message of region M is taken -/
def eTk (om : oMg) (N a s0 M : Nat) (y : Nat) : Prop := y = 0 ∨ (y < N ∧ om.2.2.1.2.2.2.2 y ≠ a ∧ om.2.2.1.2.2.2.2 y ≠ 12 + s0) ∨ y = om.2.2.2.2 a ∨ y = M
theorem tak_st (gi : GI ob N om.1 om.2.1 om.2.2.1) (Rm : om.2.2.2.2 a ≠ 0 ∧ om.2.2.2.2 a < N ∧ om.2.2.1.2.2.2.2 (om.2.2.2.2 a) = a) (hM : M ≠ 0 ∧ M < N ∧ om.2.2.1.2.2.2.2 M = 12 + s0) (a12 : a < 12) (arg : ∀ i t, ts[i]? = some t → t ≠ 0 ∧ om.2.1 (pM s0 i) = t ∧ om.2.2.1.1 (pM s0 i) = M ∧ (oV (om.1 (pM s0 i)) = 0 ∨ t % 8 = 0 ∨ t % 8 = 3)) : ∃ om1 : oMg, GI ob N om1.1 om1.2.1 om1.2.2.1 ∧ om1.2.2.2 = om.2.2.2 ∧ rSt a a (eTk om N a s0 M) (fun l => ∃ j, j < ts.length ∧ l = pN (10 * a) j) (rlb om.2.2.1 (12 + s0) a) om1.2.2.1 ∧ (∀ i t, ts[i]? = some t → om1.1 (pN (10 * a) i) = om.1 (pM s0 i) ∧ om1.2.1 (pN (10 * a) i) = t ∧ om1.2.2.1.1 (pN (10 * a) i) = om.2.2.2.2 a) ∧ (∀ l, (∀ j, j < ts.length → l ≠ pN (10 * a) j) → om1.1 l = om.1 l) ∧ (∀ l, (∀ j, j < ts.length → l ≠ pN (10 * a) j) → (∀ j, j < ts.length → l ≠ pM s0 j) → om1.2.1 l = om.2.1 l) := by
  have gi0 : GI ob N om.1 om.2.1 (rlb om.2.2.1 (12 + s0) a) := GI_rlb gi
  have aM : a ≠ 12 + s0 := by omega
  have gt : ∀ j, j < ts.length → ∃ t, ts[j]? = some t ∧ ts.getD j 1 = t := by
    intro j hj
    have h1 : ts[j]? = some ts[j] := List.getElem?_eq_getElem hj
    exact ⟨_, h1, by rw [List.getD_eq_getElem?_getD, h1]; rfl⟩
  have no : nOe (om.1, om.2.1, rlb om.2.2.1 (12 + s0) a, om.2.2.2) (eTk om N a s0 M) M (fun l => ∃ j, j < ts.length ∧ l = pM s0 j) := by
    intro l ⟨j, hj, hl⟩
    obtain ⟨t, h1, _⟩ := gt j hj
    obtain ⟨a0, a1, a2, a3⟩ := arg j t h1
    rw [← hl] at a1 a2 a3
    refine ⟨a2, fun z1 z2 z3 y hy hin => ?_⟩
    have z1 : om.2.1 l ≠ 0 := z1
    have z2 : oV (om.1 l) ≠ 0 := z2
    have z3 : om.2.1 l % 8 ≤ 1 := z3
    have hin : inR om.2.2.1 (om.2.2.1.2.1 (oV (om.1 l))) y := hin
    have et : tgF om.2.1 om.1 l = oV (om.1 l) := tgF_eq z1
    have ie := inR_e gi.1 (l := l) (by rw [et]; exact z2) (by rw [a2]; exact hM.1) z3
    have en := rg_ent gi.1 l (by rw [et]; exact z2) (by rw [a2]; exact hM.1) z3
    rw [et, a2] at ie
    rw [et] at en
    have ow := inR_ow gi.1 hin
    rw [inR_ow gi.1 ie.1, hM.2.2] at ow
    rcases hy with hy | hy | hy | hy
    · rw [hy] at hin
      exact en.1 (inR_0 gi.1 hin)
    · exact hy.2.2 ow
    · rw [hy, Rm.2.2] at ow
      exact aM ow
    · rw [hy] at hin
      exact ie.2 hin
  obtain ⟨om1, i1, i2, i3, i4, i5, i6, _⟩ := lay_G (om := (om.1, om.2.1, rlb om.2.2.1 (12 + s0) a, om.2.2.2)) (E := eTk om N a s0 M) (a := a) (r := M) (r1 := om.2.2.2.2 a) (src := fun j => pM s0 j) (dst := fun j => pN (10 * a) j) (np := ts.length) (ps := fun j => ts.getD j 1) (fun i j h => mM_ne h) (fun i j h => nN_ne h) (fun i j => by show pN (10 * a) i ≠ pM s0 j; unfold pN pM; omega) (fun j => ob_N) gi0 no (Or.inr (Or.inr (Or.inr rfl))) (Or.inr (Or.inr (Or.inl rfl))) hM.1 Rm.1 Rm.2.1 (by
    show (if om.2.2.1.2.2.2.2 (om.2.2.2.2 a) = 12 + s0 then a else om.2.2.1.2.2.2.2 (om.2.2.2.2 a)) = a
    rw [Rm.2.2]
    split <;> rfl) (Or.inl rfl) (fun j hj => by
    obtain ⟨t, h1, h2⟩ := gt j hj
    obtain ⟨a0, a1, a2, a3⟩ := arg j t h1
    show om.2.1 (pM s0 j) ≠ 0
    rw [a1]
    exact a0) (fun j hj => by
    obtain ⟨t, h1, h2⟩ := gt j hj
    obtain ⟨a0, a1, a2, a3⟩ := arg j t h1
    show ts.getD j 1 ≠ 0
    rw [h2]
    exact a0) (fun j hj => by
    obtain ⟨t, h1, h2⟩ := gt j hj
    obtain ⟨a0, a1, a2, a3⟩ := arg j t h1
    show oV (om.1 (pM s0 j)) = 0 ∨ (rg_good (om.2.1 (pM s0 j) % 8) (ts.getD j 1 % 8) ∧ ts.getD j 1 % 8 ≤ 4 ∧ om.2.1 (pM s0 j) % 8 ≤ 4)
    rw [h2, a1]
    rcases a3 with z | z
    · exact Or.inl z
    · right
      unfold rg_good
      omega) (Or.inr (fun j hj => by
    obtain ⟨t, h1, h2⟩ := gt j hj
    obtain ⟨a0, a1, a2, a3⟩ := arg j t h1
    show oV (om.1 (pM s0 j)) = 0 ∨ ts.getD j 1 % 8 = 0 ∨ ts.getD j 1 % 8 = 3
    rw [h2]
    exact a3)) ts.length (Nat.le_refl _)
  refine ⟨om1, i1, i2, i3, fun i t ht => ?_, i5, i6⟩
  have hi : i < ts.length := by
    obtain ⟨z, _⟩ := List.getElem?_eq_some_iff.mp ht
    exact z
  obtain ⟨z1, z2, z3⟩ := i4 i hi
  have z2 : om1.2.1 (pN (10 * a) i) = ts.getD i 1 := z2
  rw [List.getD_eq_getElem?_getD, ht] at z2
  exact ⟨z1, z2, z3⟩
end JTA
