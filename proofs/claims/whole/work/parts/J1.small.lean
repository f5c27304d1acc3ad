/-! A BODY IS ENTERED: small things. -/
/-- this has been laid at lH, of type tt, in region R0; the arguments wait at Ap -/
def tLd (om omT : oMg) (ob N a : Nat) (E : Nat → Prop) (lH lT : Nat) (v : Int64) (tt R0 r : Nat) (Ap : Nat → Prop) : Prop := GI ob N omT.1 omT.2.1 omT.2.2.1 ∧ omT.2.2.2 = om.2.2.2 ∧ rSt a a E (fun y => y = lH) om.2.2.1 omT.2.2.1 ∧ (omT.1 lH = v ∧ omT.2.1 lH = tt ∧ omT.2.2.1.1 lH = R0) ∧ (∀ l, l ≠ lH → omT.1 l = om.1 l) ∧ (∀ l, l ≠ lH → l ≠ lT → omT.2.1 l = om.2.1 l) ∧ nOe omT E r Ap
section EN1
variable {sB : rS} {A B : Nat → Int32} {mi : Nat → Nat × Nat × Nat × Nat × Nat} {kc : kCi} {om om' : oMg} {ka ka' : kAp} {la : lAy} {ms : mSg} {N N' cn : Nat} {sg sg' sg2 : cS} {s s' s2 S1 : rS} {a b d e lo q0 J l t r i n p q k k2 f0 w P L sz lv : Nat} {xs : Nat → Int32} {zf : Value} {Z : Nat → Prop} {hB h h' : rm_H} {es : List Nat} {x : Nat → Nat → fDs} {D : Nat → Nat} {S S0 X : List stE} {v : Int64} {y : Int32}
variable {E Ap : Nat → Prop} {Pe : stE → Nat → Prop} {X1 : cS} {en bs self : Int32} {m : Nat} {j : Nat} {ts ps : List Nat} {l0 l1 t1 ob R0 : Nat}
theorem sVl_at : ∀ (Y S : List stE), sVl Pe (Y ++ S) → ∀ (i : Nat) (y : stE), Y[i]? = some y → Pe y (S.length + (Y.length - 1 - i))
  | [], _, _, i, y, h => by simp at h
  | z :: Y, S, hs, 0, y, h => by
    have e : z = y := by simpa using h
    have h1 : Pe z (Y ++ S).length := hs.1
    rw [List.length_append, e] at h1
    have e2 : S.length + ((z :: Y).length - 1 - 0) = Y.length + S.length := by simp; omega
    rw [e2]
    exact h1
  | z :: Y, S, hs, i + 1, y, h => by
    have h' : Y[i]? = some y := by simpa using h
    have hi : i < Y.length := by
      obtain ⟨z, _⟩ := List.getElem?_eq_some_iff.mp h'
      exact z
    have := sVl_at Y S hs.2 i y h'
    have e2 : (z :: Y).length - 1 - (i + 1) = Y.length - 1 - i := by simp; omega
    rw [e2]
    exact this
theorem vE_len : (vE lv ts).length = ts.length := by unfold vE; simp
theorem vE_at (h : ts[j]? = some t) : (vE lv ts)[ts.length - 1 - j]? = some (t, false, lv) := by
  obtain ⟨hj, _⟩ := List.getElem?_eq_some_iff.mp h
  unfold vE
  rw [List.getElem?_map, List.getElem?_reverse (by omega)]
  have : ts.length - 1 - (ts.length - 1 - j) = j := by omega
  rw [this, h]
  rfl
theorem arg_at (sv : sVl Pe (vE lv ts ++ S0)) (h : ts[j]? = some t) : Pe (t, false, lv) (S0.length + j) := by
  obtain ⟨hj, _⟩ := List.getElem?_eq_some_iff.mp h
  have := sVl_at _ _ sv _ _ (vE_at (lv := lv) h)
  rw [vE_len] at this
  have e : ts.length - 1 - (ts.length - 1 - j) = j := by omega
  rw [e] at this
  exact this
theorem rTp_i : ∀ t, t < 72 → dTy t = true → ∀ u, u < 72 → dTy u = true → rTp t = rTp u → t = u := by decide +kernel
theorem tyc_u {yy : Int32} {u : Nat} (h : tyc sB yy t) (h2 : tyc sB yy u) : t = u := by
  obtain ⟨k, k1, k2, k3, k4⟩ := h
  obtain ⟨k', l1, l2, l3, l4⟩ := h2
  have e : k = k' := ofn_inj (by omega) (by omega) (k2.symm.trans l2)
  subst e
  have a1 := dTy_c k4
  have a2 := dTy_c l4
  exact rTp_i t (by omega) k4 u (by omega) l4 (k3.symm.trans l3)
theorem pm_u (h : pmT sB m ts) (h2 : pmT sB m ps) : ts = ps := by
  obtain ⟨p0, a1, a2, a3, a4⟩ := h
  obtain ⟨p1, b1, b2, b3, b4⟩ := h2
  have e : p0 = p1 := ofn_inj (by omega) (by omega) (a1.symm.trans b1)
  subst e
  have e2 : p0 + ts.length = p0 + ps.length := ofn_inj (by omega) (by omega) (a2.symm.trans b2)
  refine List.ext_getElem? (fun i => ?_)
  by_cases c : i < ts.length
  · have h1 : ts[i]? = some ts[i] := List.getElem?_eq_getElem c
    have c' : i < ps.length := by omega
    have h2 : ps[i]? = some ps[i] := List.getElem?_eq_getElem c'
    rw [h1, h2, tyc_u (a4 i _ h1) (b4 i _ h2)]
  · rw [List.getElem?_eq_none (by omega), List.getElem?_eq_none (by omega)]
theorem pm_d (h : pmT sB m ts) : ∀ t ∈ ts, dTy t = true := by
  obtain ⟨p0, _, _, _, a4⟩ := h
  intro t ht
  obtain ⟨i, hi⟩ := List.mem_iff_getElem?.mp ht
  obtain ⟨_, _, _, _, z⟩ := a4 i t hi
  exact z
-- the class's body
theorem sE_3 {b' j' : Nat} (h : b' ≠ a ∨ j' ≠ 3) : (sE X1 a b en bs self).2.2.1 b' j' = X1.2.2.1 b' j' := sA_ne (by rcases h with z | z; exact Or.inr z; exact Or.inl z)
theorem sE_3a : (sE X1 a b en bs self).2.2.1 a 3 = Int32.ofNat (b + 1) := sA_at
theorem sE_o {b' j' : Nat} (h : b' ≠ a ∨ (j' ≠ 7 ∧ j' ≠ 8 ∧ j' ≠ 9)) : (sE X1 a b en bs self).2.2.2.1 b' j' = X1.2.2.2.1 b' j' := by
  have n7 : ¬ (b' = a ∧ j' = 7) := by omega
  have n8 : ¬ (b' = a ∧ j' = 8) := by omega
  have n9 : ¬ (b' = a ∧ j' = 9) := by omega
  exact (if_neg n9).trans ((if_neg n8).trans (if_neg n7))
theorem sE_7 : (sE X1 a b en bs self).2.2.2.1 a 7 = upd (X1.2.2.2.1 a 7) b en := (if_neg (fun z => absurd z.2 (by decide))).trans ((if_neg (fun z => absurd z.2 (by decide))).trans (if_pos ⟨rfl, rfl⟩))
theorem sE_8 : (sE X1 a b en bs self).2.2.2.1 a 8 = upd (X1.2.2.2.1 a 8) b bs := by
  refine (if_neg (fun z => absurd z.2 (by decide))).trans ((if_pos ⟨rfl, rfl⟩).trans ?_)
  exact congrArg (fun z => upd z b bs) (if_neg (fun z => absurd z.2 (by decide)))
theorem sE_9 : (sE X1 a b en bs self).2.2.2.1 a 9 = upd (X1.2.2.2.1 a 9) b self := by
  refine (if_pos ⟨rfl, rfl⟩).trans ?_
  exact congrArg (fun z => upd z b self) ((if_neg (fun z => absurd z.2 (by decide))).trans (if_neg (fun z => absurd z.2 (by decide))))
-- the reference's
theorem bg_I {p' i' : Nat} : (sBg s a d m q v).2.1 p' i' = if p' = 99 ∧ i' = 10 * a + d then Int32.ofNat q else if p' = 98 ∧ i' = 10 * a + d then Int32.ofNat m else if p' = 92 ∧ i' = a then Int32.ofNat (d + 1) else s.2.1 p' i' := by
  unfold sBg
  rw [wA_get]
  show (if _ then _ else (rs_wA (rs_wA s 92 a (Int32.ofNat (d + 1))) 98 (10 * a + d) (Int32.ofNat m)).2.1 p' i') = _
  rw [wA_get, wA_get]
theorem bg_L {p' i' : Nat} : (sBg s a d m q v).2.2 p' i' = if p' = 100 ∧ i' = 10 * a + d then v else s.2.2 p' i' := by
  unfold sBg
  show (rs_wB (rs_wA (rs_wA s 92 a (Int32.ofNat (d + 1))) 98 (10 * a + d) (Int32.ofNat m)) 100 (10 * a + d) v).2.2 p' i' = _
  rw [wB_get]
  rfl
-- this is laid
theorem tLd_m (gi : GI ob N om.1 om.2.1 om.2.2.1) (no : nOe om E r (fun l => Ap l ∨ l = l0)) (A0 : ¬ Ap l0) (A1 : ¬ Ap l1) (hl : l1 ≠ l0) (Er : E r) (r0 : r ≠ 0) (qN : r < N) (ow1 : om.2.2.1.2.2.2.2 r = a) (ho : obP l1 = 0) (t0 : om.2.1 l0 ≠ 0) (t1n : t1 ≠ 0) (fit : oV (om.1 l0) = 0 ∨ (rg_good (om.2.1 l0 % 8) (t1 % 8) ∧ t1 % 8 ≤ 4 ∧ om.2.1 l0 % 8 ≤ 4)) : ∃ omT : oMg, tLd om omT ob N a E l1 l0 (om.1 l0) t1 r r Ap := by
  obtain ⟨g', i1, i2, i3, i4⟩ := lay_1 (a := a) (b1 := a) (Ap := fun l => Ap l ∨ l = l0) (t1 := t1) (r1 := r) gi no (Or.inr rfl) (fun z => by rcases z with z | z; exact A1 z; exact hl z) Er Er r0 r0 qN ow1 ho t0 t1n fit (Or.inl rfl)
  refine ⟨(wU om.1 l1 (om.1 l0), rg_up (rg_up om.2.1 l0 0) l1 t1, g', om.2.2.2), i1, rfl, i3, ⟨wU_eq, rg_up_eq _ _ _, i2⟩, fun l h => wU_ne h, fun l h1 h2 => ?_, fun l hl => i4 l ⟨Or.inl hl, fun z => A0 (z ▸ hl)⟩⟩
  show rg_up (rg_up om.2.1 l0 0) l1 t1 l = _
  rw [rg_up_ne _ h1, rg_up_ne _ h2]
theorem tLd_p (gi : GI ob N om.1 om.2.1 om.2.2.1) (no : nOe om E r Ap) (A1 : ¬ Ap l1) (qN : R0 < N) (ho : obP l1 = 0) (hv : oV v ≤ ob) (ok : oV v = 0 ∨ (2 ≤ t1 % 8 ∧ rg_ok om.2.2.1.2.1 om.2.2.1.2.2.1 om.2.2.1.2.2.2.1 R0 (t1 % 8) (oV v))) : ∃ omT : oMg, tLd om omT ob N a E l1 l0 v t1 R0 r Ap := by
  have g1 := GI_put gi l1 t1 R0 v ho qN (Or.inr hv) (Or.inr ok)
  refine ⟨(wU om.1 l1 v, rg_up om.2.1 l1 t1, rRo om.2.2.1 l1 R0, om.2.2.2), g1, rfl, ?_, ⟨wU_eq, rg_up_eq _ _ _, rg_up_eq _ _ _⟩, fun l h => wU_ne h, fun l h1 _ => rg_up_ne _ h1, fun l hA => ?_⟩
  · refine ⟨fun y _ => ⟨rfl, rfl, fun _ => rfl, fun _ => Iff.rfl⟩, fun l hl _ => rg_up_ne _ hl, fun _ _ => rfl, fun o ho => Or.inr (Or.inl ho)⟩
  · have ne : l ≠ l1 := fun z => A1 (z ▸ hA)
    obtain ⟨h1, h2⟩ := no l hA
    have eW : wU om.1 l1 v l = om.1 l := wU_ne ne
    have eT : rg_up om.2.1 l1 t1 l = om.2.1 l := rg_up_ne _ ne
    refine ⟨(rg_up_ne _ ne).trans h1, fun (t0 : rg_up om.2.1 l1 t1 l ≠ 0) (o0 : oV (wU om.1 l1 v l) ≠ 0) (c1 : rg_up om.2.1 l1 t1 l % 8 ≤ 1) y hy hin => ?_⟩
    rw [eT] at t0 c1
    rw [eW] at o0
    have hin : inR om.2.2.1 (om.2.2.1.2.1 (oV (wU om.1 l1 v l))) y := hin
    rw [eW] at hin
    exact h2 t0 o0 c1 y hy hin
end EN1
