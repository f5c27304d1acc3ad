/-! A MESSAGE IS SENT: the store. -/
section JSS
variable {sB : rS} {A B : Nat → Int32} {mi : Nat → Nat × Nat × Nat × Nat × Nat} {kc : kCi} {om om' : oMg} {ka ka' : kAp} {la : lAy} {ms : mSg} {N N' cn : Nat} {sg sg' sg2 : cS} {s s' s2 S1 : rS} {a b d e lo q0 J l t r i n p q k k2 f0 w P L sz lv : Nat} {xs : Nat → Int32} {zf : Value} {Z : Nat → Prop} {hB h h' : rm_H} {es : List Nat} {x : Nat → Nat → fDs} {D : Nat → Nat} {S S0 X : List stE} {v : Int64} {y : Int32}
variable {E Ap : Nat → Prop} {l0 l1 t1 r1 ob b1 s0 : Nat} {ts ps : List Nat}
theorem ob_M {k : Nat} : obP (pM s0 k) = 0 := ob_n (by unfold pM; omega)
theorem mS_ne {k j : Nat} : pM s0 k ≠ pS a j := by unfold pM pS; omega
theorem mM_ne {k j : Nat} (h : k ≠ j) : pM s0 k ≠ pM s0 j := by unfold pM; omega
/-- all arguments go to a message, of region r1, that is b1's -/
theorem lay_M {qb np : Nat} {ps : Nat → Nat} (gi : GI ob N om.1 om.2.1 om.2.2.1) (no : nOe om E r (fun l => ∃ j, j < np ∧ l = pS a (qb + j))) (Er : E r) (Er1 : E r1) (r0 : r ≠ 0) (q0 : r1 ≠ 0) (qN : r1 < N) (ora : om.2.2.1.2.2.2.2 r = a) (ow1 : om.2.2.1.2.2.2.2 r1 = b1) (ab : b1 ≠ a) (E0 : E 0) (t0 : ∀ j, j < np → om.2.1 (pS a (qb + j)) ≠ 0) (t1n : ∀ j, j < np → ps j ≠ 0) (fit : ∀ j, j < np → oV (om.1 (pS a (qb + j))) = 0 ∨ (rg_good (om.2.1 (pS a (qb + j)) % 8) (ps j % 8) ∧ ps j % 8 ≤ 4 ∧ om.2.1 (pS a (qb + j)) % 8 ≤ 4)) (hx : ∀ j, j < np → oV (om.1 (pS a (qb + j))) = 0 ∨ ps j % 8 = 0 ∨ ps j % 8 = 3) :
    ∀ m, m ≤ np → ∃ om1 : oMg, GI ob N om1.1 om1.2.1 om1.2.2.1 ∧ om1.2.2.2 = om.2.2.2 ∧ rSt a b1 E (fun l => ∃ j, j < m ∧ l = pM s0 j) om.2.2.1 om1.2.2.1 ∧ (∀ j, j < m → om1.1 (pM s0 j) = om.1 (pS a (qb + j)) ∧ om1.2.1 (pM s0 j) = ps j ∧ om1.2.2.1.1 (pM s0 j) = r1) ∧ (∀ l, (∀ j, j < m → l ≠ pM s0 j) → om1.1 l = om.1 l) ∧ (∀ l, (∀ j, j < m → l ≠ pM s0 j) → (∀ j, j < m → l ≠ pS a (qb + j)) → om1.2.1 l = om.2.1 l) ∧ nOe om1 E r (fun l => ∃ j, m ≤ j ∧ j < np ∧ l = pS a (qb + j))
  | 0, _ => ⟨om, gi, rfl, rSt_r, fun _ h => absurd h (Nat.not_lt_zero _), fun _ _ => rfl, fun _ _ _ => rfl, fun l ⟨j, _, h1, h2⟩ => no l ⟨j, h1, h2⟩⟩
  | m + 1, hm => by
    obtain ⟨om1, i1, i2, i3, i4, i5, i6, i7⟩ := lay_M gi no Er Er1 r0 q0 qN ora ow1 ab E0 t0 t1n fit hx m (by omega)
    have eW : om1.1 (pS a (qb + m)) = om.1 (pS a (qb + m)) := i5 _ (fun j _ => mS_ne.symm)
    have eT : om1.2.1 (pS a (qb + m)) = om.2.1 (pS a (qb + m)) := i6 _ (fun j _ => mS_ne.symm) (fun j hj => sS_ne (by omega))
    have ora1 : om1.2.2.1.2.2.2.2 r = a := by rw [(i3.1 _ Er).2.1]; exact ora
    have no2 : nOe om1 (fun y => E y ∨ om1.2.2.1.2.2.2.2 y = b1) r (fun l => ∃ j, m ≤ j ∧ j < np ∧ l = pS a (qb + j)) := by
      intro l hl
      obtain ⟨h1, h2⟩ := i7 l hl
      refine ⟨h1, fun z1 z2 z3 y hy => ?_⟩
      rcases hy with hy | hy
      · exact h2 z1 z2 z3 y hy
      · intro hin
        have et : tgF om1.2.1 om1.1 l = oV (om1.1 l) := tgF_eq z1
        have ie := inR_e i1.1 (l := l) (by rw [et]; exact z2) (by rw [h1]; exact r0) z3
        rw [et, h1] at ie
        have o1 := inR_ow i1.1 hin
        rw [inR_ow i1.1 ie.1, ora1, hy] at o1
        exact ab o1
    obtain ⟨g', k1, k2, k3, k4⟩ := lay_1 (a := a) (b1 := b1) (l0 := pS a (qb + m)) (l1 := pM s0 m) (t1 := ps m) i1 no2 ⟨m, Nat.le_refl _, by omega, rfl⟩ (fun ⟨j, _, _, z⟩ => mS_ne z) (Or.inl Er) (Or.inl Er1) r0 q0 qN (by rw [(i3.1 _ Er1).2.1]; exact ow1) ob_M (by rw [eT]; exact t0 m (by omega)) (t1n m (by omega)) (by rw [eT, eW]; exact fit m (by omega)) (by
      rw [eW]
      exact Or.inr (hx m (by omega)))
    have k3' := rSt_E k3 (fun y hy => (Or.inl hy : E y ∨ om1.2.2.1.2.2.2.2 y = b1))
    refine ⟨(wU om1.1 (pM s0 m) (om1.1 (pS a (qb + m))), rg_up (rg_up om1.2.1 (pS a (qb + m)) 0) (pM s0 m) (ps m), g', om1.2.2.2), k1, i2, rSt_t E0 (rSt_P i3 (fun l ⟨j, h1, h2⟩ => ⟨j, by omega, h2⟩)) (rSt_P k3' (fun l z => ⟨m, by omega, z⟩)) (fun o ho => ?_), fun j hj => ?_, fun l hl => ?_, fun l h1 h2 => ?_, fun l ⟨j, h1, h2, h3⟩ => ?_⟩
    · right; right
      rw [k3.2.2.1 o (Or.inr ho), (k3.1 _ (Or.inr ho)).2.1]
      exact ho
    · show wU om1.1 (pM s0 m) (om1.1 (pS a (qb + m))) (pM s0 j) = _ ∧ rg_up (rg_up om1.2.1 (pS a (qb + m)) 0) (pM s0 m) (ps m) (pM s0 j) = _ ∧ g'.1 (pM s0 j) = _
      by_cases c : j = m
      · rw [c, wU_eq, rg_up_eq, k2, eW]
        exact ⟨rfl, rfl, rfl⟩
      · obtain ⟨z1, z2, z3⟩ := i4 j (by omega)
        have ne : pM s0 j ≠ pM s0 m := mM_ne c
        rw [wU_ne ne, rg_up_ne _ ne, rg_up_ne _ mS_ne, k3.2.1 _ ne (by rw [z3]; exact Or.inl Er1)]
        exact ⟨z1, z2, z3⟩
    · show wU om1.1 (pM s0 m) _ l = _
      rw [wU_ne (hl m (by omega))]
      exact i5 l (fun j hj => hl j (by omega))
    · show rg_up (rg_up om1.2.1 (pS a (qb + m)) 0) (pM s0 m) (ps m) l = _
      rw [rg_up_ne _ (h1 m (by omega)), rg_up_ne _ (h2 m (by omega))]
      exact i6 l (fun j hj => h1 j (by omega)) (fun j hj => h2 j (by omega))
    · obtain ⟨z1, z2⟩ := k4 l ⟨⟨j, by omega, h2, h3⟩, by rw [h3]; exact sS_ne (by omega)⟩
      exact ⟨z1, fun y1 y2 y3 y hy => z2 y1 y2 y3 y (Or.inl hy)⟩
/-- the store behind a message that was sent -/
def sNt (om om1 : oMg) (ob N a s0 qb : Nat) (ps : List Nat) (E : Nat → Prop) : Prop := GI ob (N + 1) om1.1 om1.2.1 om1.2.2.1 ∧ om1.2.2.2 = om.2.2.2 ∧ rSt a (12 + s0) E (fun l => ∃ j, j < ps.length ∧ l = pM s0 j) om.2.2.1 om1.2.2.1 ∧ (∀ j q', ps[j]? = some q' → om1.1 (pM s0 j) = om.1 (pS a (qb + j)) ∧ om1.2.1 (pM s0 j) = q' ∧ om1.2.2.1.1 (pM s0 j) = N) ∧ (∀ l, (∀ j, j < ps.length → l ≠ pM s0 j) → om1.1 l = om.1 l) ∧ (∀ l, (∀ j, j < ps.length → l ≠ pM s0 j) → (∀ j, j < ps.length → l ≠ pS a (qb + j)) → om1.2.1 l = om.2.1 l) ∧ om1.2.2.1.2.2.2.2 N = 12 + s0
theorem snd_st (it : iTm sB A B mi kc om ka la ms N cn sg s D x a d) (eS : fSt (x a d) = vE (fL (x a d)) ts ++ S0) (lps : ps.length = ts.length) (fit : ∀ (j t' q' : Nat), ts[j]? = some t' → ps[j]? = some q' → fitC (cT t') (cT q') = 0) (dps : ∀ q' ∈ ps, dTy q' = true) (sd : ∀ q' ∈ ps, sdT q' = true) : ∃ om1 : oMg, sNt om om1 ka.2.2.1 N a s0 (fQ (x a d) + S0.length) ps (eLr om N a d (fL (x a d)) (x a)) := by
  obtain ⟨⟨a12, d10, u1, u2, u3, u4⟩, rq, fx, b3, r92, b8, gi, rl, ob4⟩ := it_f it
  have it0 := it
  obtain ⟨wl, _, _, ⟨_, ac, _⟩, vl, rg, nm, _, _, so, r93, _⟩ := it0
  have sv := vl.2.2.2
  rw [eS] at sv
  obtain ⟨r0, rN, ro⟩ := rg.1 (fL (x a d)) (Nat.le_refl _)
  have args : ∀ j t', ts[j]? = some t' → vAl om ka a t' (om.1 (pS a ((fQ (x a d) + S0.length) + j))) ∧ om.2.1 (pS a ((fQ (x a d) + S0.length) + j)) = t' ∧ (t' ≠ 0 → om.2.2.1.1 (pS a ((fQ (x a d) + S0.length) + j)) = fRe (x a d) (fL (x a d))) ∧ gTy t' = true := by
    intro j t' h1
    obtain ⟨z1, z2, z3, z4, z5, _⟩ := arg_at sv h1
    have z4 : (om.2.1 (pS a (fQ (x a d) + (S0.length + j))) = t' ∧ (t' ≠ 0 → om.2.2.1.1 (pS a (fQ (x a d) + (S0.length + j))) = fRe (x a d) (fL (x a d)))) ∨ (false = true ∧ _) := z4
    have z1 : vAl om ka a t' (om.1 (pS a (fQ (x a d) + (S0.length + j)))) := z1
    rw [← Nat.add_assoc] at z4 z1
    rcases z4 with y | y
    · exact ⟨z1, y.1, y.2, z5⟩
    · exact absurd y.1 (by decide)
  have gt : ∀ j, j < ps.length → ∃ t' q', ts[j]? = some t' ∧ ps[j]? = some q' ∧ ps.getD j 1 = q' := by
    intro j hj
    have h1 : ts[j]? = some ts[j] := List.getElem?_eq_getElem (by omega)
    have h2 : ps[j]? = some ps[j] := List.getElem?_eq_getElem (by omega)
    exact ⟨_, _, h1, h2, by rw [List.getD_eq_getElem?_getD, h2]; rfl⟩
  have tyn : ∀ t' q', gTy t' = true → dTy q' = true → fitC (cT t') (cT q') = 0 → t' ≠ 0 ∧ q' ≠ 0 := by
    intro t' q' h1 h2 h3
    have := fit_c h1 h2 h3
    have := dTy_c h2
    omega
  have gi0 : GI ka.2.2.1 (N + 1) om.1 om.2.1 (fsG om.2.2.1 N (12 + s0)) := GI_fs gi (Nat.le_succ N)
  have N0 : N ≠ 0 := by have := gi.2.2.2.2; omega
  have aN : a ≠ 12 + s0 := by omega
  have hrA : ∀ j, j < ps.length → om.2.2.1.1 (pS a ((fQ (x a d) + S0.length) + j)) = fRe (x a d) (fL (x a d)) := by
    intro j hj
    obtain ⟨t', q', h1, h2, h3⟩ := gt j hj
    obtain ⟨a1, a2, a3, a4⟩ := args j t' h1
    exact a3 (tyn t' q' a4 (dps _ (List.mem_iff_getElem?.mpr ⟨j, h2⟩)) (fit j t' q' h1 h2)).1
  have no := nOe_of (Ap := fun l => ∃ j, j < ps.length ∧ l = pS a ((fQ (x a d) + S0.length) + j)) it (Nat.le_refl (fL (x a d))) (fun l ⟨j, hj, hl⟩ => by rw [hl]; exact hrA j hj)
  have no0 : nOe (om.1, om.2.1, fsG om.2.2.1 N (12 + s0), om.2.2.2) (fun y => eLr om N a d (fL (x a d)) (x a) y ∨ y = N) (fRe (x a d) (fL (x a d))) (fun l => ∃ j, j < ps.length ∧ l = pS a ((fQ (x a d) + S0.length) + j)) := by
    intro l hl
    obtain ⟨h1, h2⟩ := no l hl
    refine ⟨h1, fun z1 z2 z3 y hy => ?_⟩
    rcases hy with hy | hy
    · exact h2 z1 z2 z3 y hy
    · intro hin
      have hin : inR om.2.2.1 (om.2.2.1.2.1 (oV (om.1 l))) y := hin
      have := in_fs gi (by omega : N ≤ y) _ hin
      have := gi.2.1.2.1 (oV (om.1 l))
      omega
  have ER := eL_R (om := om) (N := N) (x := x) (a := a) (d := d) (Nat.le_refl (fL (x a d)))
  obtain ⟨om1, i1, i2, i3, i4, i5, i6, _⟩ := lay_M (om := (om.1, om.2.1, fsG om.2.2.1 N (12 + s0), om.2.2.2)) (E := fun y => eLr om N a d (fL (x a d)) (x a) y ∨ y = N) (a := a) (s0 := s0) (b1 := 12 + s0) (r := fRe (x a d) (fL (x a d))) (r1 := N) (qb := (fQ (x a d) + S0.length)) (np := ps.length) (ps := fun j => ps.getD j 1) gi0 no0 (Or.inl ER) (Or.inr rfl) r0 N0 (Nat.lt_succ_self N) (by
    show (if N ≤ fRe (x a d) (fL (x a d)) then 12 + s0 else om.2.2.1.2.2.2.2 (fRe (x a d) (fL (x a d)))) = a
    rw [if_neg (by omega)]; exact ro) (by
    show (if N ≤ N then 12 + s0 else om.2.2.1.2.2.2.2 N) = 12 + s0
    exact if_pos (Nat.le_refl N)) (fun z => aN z.symm) (Or.inl (Or.inl rfl)) (fun j hj => by
    obtain ⟨t', q', h1, h2, h3⟩ := gt j hj
    obtain ⟨a1, a2, a3, a4⟩ := args j t' h1
    show om.2.1 (pS a ((fQ (x a d) + S0.length) + j)) ≠ 0
    rw [a2]
    exact (tyn t' q' a4 (dps _ (List.mem_iff_getElem?.mpr ⟨j, h2⟩)) (fit j t' q' h1 h2)).1) (fun j hj => by
    obtain ⟨t', q', h1, h2, h3⟩ := gt j hj
    obtain ⟨a1, a2, a3, a4⟩ := args j t' h1
    show ps.getD j 1 ≠ 0
    rw [h3]
    exact (tyn t' q' a4 (dps _ (List.mem_iff_getElem?.mpr ⟨j, h2⟩)) (fit j t' q' h1 h2)).2) (fun j hj => by
    obtain ⟨t', q', h1, h2, h3⟩ := gt j hj
    obtain ⟨a1, a2, a3, a4⟩ := args j t' h1
    show oV (om.1 (pS a ((fQ (x a d) + S0.length) + j))) = 0 ∨ (rg_good (om.2.1 (pS a ((fQ (x a d) + S0.length) + j)) % 8) (ps.getD j 1 % 8) ∧ ps.getD j 1 % 8 ≤ 4 ∧ om.2.1 (pS a ((fQ (x a d) + S0.length) + j)) % 8 ≤ 4)
    rw [h3, a2]
    exact fit_r a4 (dps _ (List.mem_iff_getElem?.mpr ⟨j, h2⟩)) (fit j t' q' h1 h2) a1.1) (fun j hj => by
    obtain ⟨t', q', h1, h2, h3⟩ := gt j hj
    obtain ⟨a1, a2, a3, a4⟩ := args j t' h1
    have m2 := List.mem_iff_getElem?.mpr ⟨j, h2⟩
    show oV (om.1 (pS a ((fQ (x a d) + S0.length) + j))) = 0 ∨ ps.getD j 1 % 8 = 0 ∨ ps.getD j 1 % 8 = 3
    rw [h3]
    by_cases o0 : oV (om.1 (pS a ((fQ (x a d) + S0.length) + j))) = 0
    · exact Or.inl o0
    · right
      have f := fit_r a4 (dps _ m2) (fit j t' q' h1 h2) a1.1
      have dc := dTy_c (dps _ m2)
      have f4 : q' % 8 ≤ 4 := by
        rcases f with z | z
        · exact absurd z o0
        · exact z.2.1
      have h := sd _ m2
      unfold sdT at h
      simp at h
      have fv := fit_v a4 (dps _ m2) (fit j t' q' h1 h2) a1.1
      have := (isO_c (vTy_o fv o0).1)
      omega) ps.length (Nat.le_refl _)
  have E0 : eLr om N a d (fL (x a d)) (x a) 0 := Or.inl rfl
  have st0 : rSt a (12 + s0) (eLr om N a d (fL (x a d)) (x a)) (fun l => ∃ j, j < ps.length ∧ l = pM s0 j) om.2.2.1 (fsG om.2.2.1 N (12 + s0)) := by
    have := fsG_st (a1 := a) (a := 12 + s0) (E := eLr om N a d (fL (x a d)) (x a)) (P := fun l => ∃ j, j < ps.length ∧ l = pM s0 j) gi (fun y hy => eL_lt it (Nat.le_refl _) hy)
    exact ⟨this.1, this.2.1, this.2.2.1, fun o ho => by
      rcases this.2.2.2 o ho with z | z | z
      · exact Or.inl z
      · exact Or.inr (Or.inl z)
      · exact Or.inr (Or.inl z)⟩
  have i3e := rSt_E i3 (fun y hy => (Or.inl hy : eLr om N a d (fL (x a d)) (x a) y ∨ y = N))
  have i3e : rSt a (12 + s0) (eLr om N a d (fL (x a d)) (x a)) (fun l => ∃ j, j < ps.length ∧ l = pM s0 j) (fsG om.2.2.1 N (12 + s0)) om1.2.2.1 := i3e
  refine ⟨om1, i1, i2, rSt_t E0 st0 i3e (fun o ho => ?_), fun j q' hq => ?_, i5, i6, ?_⟩
  · have lt := gi.2.1.2.1 o
    have ho : (if N ≤ om.2.2.1.2.1 o then 12 + s0 else om.2.2.1.2.2.2.2 (om.2.2.1.2.1 o)) = 12 + s0 := ho
    rw [if_neg (by omega)] at ho
    have Eo : eLr om N a d (fL (x a d)) (x a) (om.2.2.1.2.1 o) := Or.inr (Or.inl ⟨lt, by rw [ho]; exact fun z => aN z.symm⟩)
    right; right
    have e1 : om1.2.2.1.2.1 o = om.2.2.1.2.1 o := i3e.2.2.1 o Eo
    have e2 : om1.2.2.1.2.2.2.2 (om.2.2.1.2.1 o) = (if N ≤ om.2.2.1.2.1 o then 12 + s0 else om.2.2.1.2.2.2.2 (om.2.2.1.2.1 o)) := (i3e.1 _ Eo).2.1
    rw [e1, e2, if_neg (by omega)]
    exact ho
  · have hj : j < ps.length := by
      obtain ⟨z, _⟩ := List.getElem?_eq_some_iff.mp hq
      exact z
    obtain ⟨z1, z2, z3⟩ := i4 j hj
    have z2 : om1.2.1 (pM s0 j) = ps.getD j 1 := z2
    rw [List.getD_eq_getElem?_getD, hq] at z2
    exact ⟨z1, z2, z3⟩
  · have e2 : om1.2.2.1.2.2.2.2 N = (if N ≤ N then 12 + s0 else om.2.2.1.2.2.2.2 N) := (i3.1 N (Or.inr rfl)).2.1
    rw [e2, if_pos (Nat.le_refl N)]
end JSS
