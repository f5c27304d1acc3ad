/-! A BODY IS LEFT. -/
section LEV
variable {sB : rS} {A B : Nat → Int32} {mi : Nat → Nat × Nat × Nat × Nat × Nat} {kc : kCi} {om om' : oMg} {ka ka' : kAp} {la : lAy} {ms : mSg} {N N' cn : Nat} {sg sg' sg2 : cS} {s s' s2 S1 : rS} {a b d e lo q0 J l t r i n p q k k2 f0 w P L sz lv : Nat} {xs : Nat → Int32} {zf : Value} {Z : Nat → Prop} {hB h h' : rm_H} {es : List Nat} {x : Nat → Nat → fDs} {D : Nat → Nat} {S S0 X : List stE} {v : Int64} {y : Int32}
variable {E Pl : Nat → Prop} {xb : Nat → fDs}
theorem fOk_a {y0 : stE} (h : fOk sB A B mi om ka N sg s a xb d S0) (hp : pEn om ka sg s a (fBs (xb d) + (mi (fMe (xb d))).2.2.2.2) (fQ (xb d)) (fRe (xb d)) y0 S0.length) : fOk sB A B mi om ka N sg s a xb d (y0 :: S0) := by
  obtain ⟨h1, ⟨v1, v2, v3, v4⟩, h3⟩ := h
  exact ⟨h1, ⟨v1, v2, v3, hp, v4⟩, h3⟩
/-- no body is left -/
theorem lE0 (it : iTm sB A B mi kc om ka la ms N cn sg s D x a 0) (cl : kCm a sg sg') (rf : kRm a s s') (g3 : sg'.2.2.1 a 3 = 0) (r92 : s'.2.1 92 a = 0) (so : SOK sg' a 0) (r93 : s'.2.1 93 a = 0) : rUn sB A B mi kc om ka la ms N cn sg' s' (fun b => if b = a then 0 else D b) x := by
  obtain ⟨w, bo, su, ⟨hD, ac, d10⟩, vl, rg, nm, od, lk, _⟩ := it
  have ac12 : ka.2.2.2 ≤ 12 := by obtain ⟨_, _, ⟨_, _, _, _, _, ⟨_, _, z⟩, _⟩, _⟩ := w; exact z
  refine ⟨wAl_g (E := fun _ => True) (Pl := fun _ => False) w cl rf (fun _ h => h.elim) (fun _ _ => ⟨rfl, rfl⟩) rSt_r (fun _ _ => trivial) trivial (by omega) w.2.1 (Nat.le_refl _) rfl (fun b hb => if_neg hb) (by rw [if_pos rfl]; exact g3) (by rw [if_pos rfl]; exact r92), fun b hb => ?_⟩
  by_cases c : b = a
  · have eD : (fun b_1 => if b_1 = a then 0 else D b_1) b = 0 := if_pos c
    rw [eD, c]
    exact Or.inl ⟨rfl, so, r93⟩
  · have eD : (fun b_1 => if b_1 = a then 0 else D b_1) b = D b := if_neg c
    rw [eD]
    exact aBd_g (E := fun _ => True) (Pl := fun _ => False) w.2.1 (bo b hb c) c (by omega) (by omega) hb cl rf (fun _ h => h.elim) (fun _ _ => ⟨rfl, rfl⟩) rSt_r (fun _ _ => trivial) (Nat.le_refl _) rfl
/-- the caller goes on -/
theorem lEv {le : Nat} (it : iTm sB A B mi kc om ka la ms N cn sg s D x a (d + 1)) (eS : fSt (x a d) = (t, false, le) :: S0) (eB : fBs (x a (d + 1)) = fBs (x a d) + (mi (fMe (x a d))).2.2.2.2 + S0.length) (eQ : fQ (x a (d + 1)) = fQ (x a d) + S0.length) (hE : ∀ y, eSu om N a (d + 1) (x a) y → E y)
    (cl : kCm a sg sg') (rf : kRm a s s') (c7 : ∀ e, e < d + 1 → sg'.2.2.2.1 a 7 e = sg.2.2.2.1 a 7 e ∧ sg'.2.2.2.1 a 8 e = sg.2.2.2.1 a 8 e ∧ sg'.2.2.2.1 a 9 e = sg.2.2.2.1 a 9 e) (c12 : ∀ i, i < fBs (x a (d + 1)) → sg'.2.2.2.1 a 12 i = sg.2.2.2.1 a 12 i) (r99e : ∀ e, e < d + 1 → s'.2.1 99 (10 * a + e) = s.2.1 99 (10 * a + e) ∧ s'.2.2 100 (10 * a + e) = s.2.2 100 (10 * a + e) ∧ ∀ sl, sl < 16 → s'.2.2 101 (16 * (10 * a + e) + sl) = s.2.2 101 (16 * (10 * a + e) + sl)) (r97 : ∀ k, k < fQ (x a (d + 1)) → s'.2.2 97 (10100 * a + k) = s.2.2 97 (10100 * a + k))
    (hP : ∀ l, Pl l → aPl a l) (hPe : ∀ e, e < d + 1 → ¬ Pl (pH (10 * a + e)) ∧ ∀ sl, sl < 16 → ¬ Pl (pN (10 * a + e) sl)) (hPs : ∀ k, k < fQ (x a (d + 1)) → k < 10100 → ¬ Pl (pS a k)) (ch : ∀ l, ¬ Pl l → om'.1 l = om.1 l ∧ om'.2.1 l = om.2.1 l) (st : rSt a a E Pl om.2.2.1 om'.2.2.1) (gi' : GI ka.2.2.1 N om'.1 om'.2.1 om'.2.2.1) (eK : om'.2.2.2 = om.2.2.2)
    (pe : pEn om' ka sg' s' a (fBs (x a d) + (mi (fMe (x a d))).2.2.2.2) (fQ (x a d)) (fRe (x a d)) (t, false, le) S0.length) (so : SOK sg' a (fBs (x a (d + 1)) + 1)) (r93 : s'.2.1 93 a = Int32.ofNat (fQ (x a (d + 1)) + 1)) (g3 : sg'.2.2.1 a 3 = Int32.ofNat (d + 1)) (r92 : s'.2.1 92 a = Int32.ofNat (d + 1)) :
    rUn sB A B mi kc om' ka la ms N cn sg' s' (fun b => if b = a then d + 1 else D b) x := by
  have it0 := it
  obtain ⟨w, bo, su, ⟨hD, ac, d10⟩, vl, rg, nm, od, lk, _⟩ := it0
  have ac12 : ka.2.2.2 ≤ 12 := by obtain ⟨_, _, ⟨_, _, _, _, _, ⟨_, _, z⟩, _⟩, _⟩ := w; exact z
  have a12 : a < 12 := by omega
  have E0 : E 0 := hE 0 (Or.inl rfl)
  have Es : ∀ e j, e < d + 1 → j ≤ fL (x a e) → E (fRe (x a e) j) := fun e j h1 h2 => hE _ (Or.inr (Or.inr ⟨e, j, h1, h2, rfl⟩))
  have hEo : ∀ y, y = 0 ∨ (y < N ∧ om.2.2.1.2.2.2.2 y ≠ a) → E y := fun y hy => by
    rcases hy with z | z
    · exact hE y (Or.inl z)
    · exact hE y (Or.inr (Or.inl z))
  have Em : E (om.2.2.2.2 a) := by
    obtain ⟨S1, t1, _, ok⟩ := su 0 (by omega)
    rcases ok.2.2.2.2.2 with ⟨_, _, _, z, _⟩ | ⟨d', z, _⟩
    · rw [← z]; exact Es 0 0 (by omega) (Nat.zero_le _)
    · omega
  have lkd : ∃ d', d + 1 = d' + 1 ∧ fLk sB mi om.2.2.1 (x a) d' := by
    rcases lk with z | z
    · omega
    · exact z
  refine ⟨wAl_g (E := E) (Pl := Pl) w cl rf hP ch st hEo Em ⟨a12, ac⟩ gi' (Nat.le_refl _) eK (fun b hb => if_neg hb) (by rw [if_pos rfl]; exact g3) (by rw [if_pos rfl]; exact r92), fun b hb => ?_⟩
  by_cases c : b = a
  · have eD : (fun b_1 => if b_1 = a then d + 1 else D b_1) b = d + 1 := if_pos c
    rw [eD, c]
    have su' := fSu_g (om' := om') (N' := N) su a12 ac (by omega) (fun e he S1 t1 h1 => fr_lay su e he lkd S1 t1 h1) c7 c12 r99e r97 hPe hPs ch st Es (Nat.le_refl _) (knK_of (fun o ho => by rw [eK]; exact ho)) (by rw [eK])
    obtain ⟨S1, t1, hS1, ok⟩ := su' d (by omega)
    have eS1 : S1 = S0 := by rw [eS] at hS1; injection hS1 with _ z; exact z.symm
    subst eS1
    refine Or.inr ⟨d, rfl, by omega, fun e he => su' e (by omega), ?_, ?_, ?_⟩
    · rw [eS]; exact fOk_a ok pe
    · rw [eS, List.length_cons, ← Nat.add_assoc, ← eB]; exact so
    · rw [eS, List.length_cons, ← Nat.add_assoc, ← eQ]; exact r93
  · have eD : (fun b_1 => if b_1 = a then d + 1 else D b_1) b = D b := if_neg c
    rw [eD]
    exact aBd_g (E := E) (Pl := Pl) w.2.1 (bo b hb c) c (by omega) a12 hb cl rf hP ch st hEo (Nat.le_refl _) eK
/-- what waits is on top of what it is in -/
theorem tOp_su {le : Nat} (it : iTm sB A B mi kc om ka la ms N cn sg s D x a (d + 1)) (hl : le ≤ fL (x a d)) : tOp om.2.2.1 (eSu om N a (d + 1) (x a)) (fRe (x a d) le) := by
  obtain ⟨w, bo, su, ⟨hD, ac, d10⟩, _⟩ := it
  obtain ⟨S1, t1, _, ok⟩ := su d (by omega)
  obtain ⟨_, _, rg, _, od, _⟩ := ok
  obtain ⟨r0, rN, ro⟩ := rg.1 le hl
  intro y hy hne hin
  rcases hy with z | z | ⟨e, j, h1, h2, h3⟩
  · rw [z] at hin
    exact r0 (inR_0 w.2.1.1 hin)
  · have := inR_ow w.2.1.1 hin
    rw [ro] at this
    exact z.2 this
  · rw [h3] at hin hne
    by_cases c : e = d
    · subst c
      by_cases c2 : j < le
      · exact (od e j le (Or.inr ⟨rfl, c2⟩) hl).1 (fun z => hne z.symm) hin
      · have c3 : j ≠ le := fun z => hne (by rw [z])
        have tk0 := rg.2 j (by omega) h2
        obtain ⟨n, hn⟩ := hin
        cases n with
        | zero => exact hne hn
        | succ n => exact hn.1 tk0
    · exact (od e j le (Or.inl ⟨by omega, h2⟩) hl).1 (fun z => hne z.symm) hin
end LEV
