/-! A BODY IS ENTERED: arguments and this go over. -/
section CA2
variable {sB : rS} {A B : Nat → Int32} {mi : Nat → Nat × Nat × Nat × Nat × Nat} {kc : kCi} {om om' : oMg} {ka ka' : kAp} {la : lAy} {ms : mSg} {N N' cn : Nat} {sg sg' sg2 : cS} {s s' s2 S1 : rS} {a b d e lo q0 J l t r i n p q k k2 f0 w P L sz lv : Nat} {xs : Nat → Int32} {zf : Value} {Z : Nat → Prop} {hB h h' : rm_H} {es : List Nat} {x : Nat → Nat → fDs} {D : Nat → Nat} {S S0 X : List stE} {v : Int64} {y : Int32}
variable {E : Nat → Prop} {omT : oMg}
theorem cal_2 {R0 le np pe qe lve m z c tt : Nat} {Gc : List scN} {ts ps : List Nat} {f : Nat → Int32} {g2 : Nat → Int64} (wl : wAl sB kc om ka la ms N cn sg s D) (bo : ∀ b, b < ka.2.2.2 → b ≠ a → aBd sB A B mi om ka N sg s b (x b) (D b)) (su : fSu sB A B mi om ka N sg s a (x a) (d + 1)) (ac : a < ka.2.2.2) (d9 : d + 1 < 10) (eS : fSt (x a d) = (t, false, le) :: S0) (le1 : le ≤ fL (x a d))
    (hE : ∀ y, eSu om N a (d + 1) (x a) y → E y) (ER : E R0) (Em : E (om.2.2.2.2 a)) (Elt : ∀ y, E y → y < N) (R1 : R0 ≠ 0) (Ro : om.2.2.1.2.2.2.2 R0 = a) (top : ∀ e j, e < d + 1 → j ≤ fL (x a e) → R0 ≠ fRe (x a e) j → ¬ inR om.2.2.1 R0 (fRe (x a e) j)) (Er : E r) (r0 : r ≠ 0)
    (td : tLd om omT ka.2.2.1 N a E (pH (10 * a + (d + 1))) (pS a ((fQ (x a d) + S0.length) + np)) v tt R0 r (fun l => ∃ j, j < np ∧ l = pS a ((fQ (x a d) + S0.length) + j))) (th : thT sB m 0 tt) (vt : vAl om ka a tt v) (v0 : v ≠ 0) (t6 : tt % 8 = 6 → R0 = om.2.2.2.2 a)
    (lts : ts.length = np) (lps : ps.length = np) (args : ∀ (j t' : Nat), ts[j]? = some t' → vAl om ka a t' (om.1 (pS a ((fQ (x a d) + S0.length) + j))) ∧ sg.2.2.2.1 a 12 ((fBs (x a d) + (mi (fMe (x a d))).2.2.2.2 + S0.length) + j) = cvl (om.1 (pS a ((fQ (x a d) + S0.length) + j))) ∧ s.2.2 97 (10100 * a + ((fQ (x a d) + S0.length) + j)) = om.1 (pS a ((fQ (x a d) + S0.length) + j)) ∧ om.2.1 (pS a ((fQ (x a d) + S0.length) + j)) = t' ∧ gTy t' = true) (fit : ∀ (j t' q' : Nat), ts[j]? = some t' → ps[j]? = some q' → fitC (cT t') (cT q') = 0) (hx : R0 = r ∨ ∀ q' ∈ ps, sdT q' = true)
    (mo : mtOk sB A B mi m) (n6 : np ≤ 6) (npl : np ≤ (mi m).2.2.2.2) (dps : ∀ q' ∈ ps, dTy q' = true) (gG : ∀ (j : Nat) (X : scN), Gc[j]? = some X → X.2.1 = j ∧ ps[j]? = some X.2.2.1) (go : GO sB (mi m).2.1 (mi m).2.2.1 (mi m).2.2.2.1 0 Gc) (pt : PT sB A B m (mi m).1 (mi m).2.1 (mi m).2.2.1 pe qe lve Gc 0 []) (q4 : qe < 4400)
    (l5 : (sB.2.1 70 m = 1 ∧ rsT sB m t ∧ (R0 = fRe (x a d) le ∨ hmT sB m)) ∨ (sB.2.1 70 m = 0 ∧ sB.2.1 75 m = -1 ∧ ∃ k cp : Nat, k < 8 ∧ cp < 5 ∧ sB.2.1 71 m = Int32.ofNat k ∧ sB.2.1 66 k = 0 ∧ t = 8 * (k + 1) + cp ∧ (((cp = 2 ∨ cp = 4) ∧ R0 = fRe (x a d) le) ∨ (om.2.2.1.2.2.2.1 R0 = 0 ∧ (cp = 0 ∨ cp = 1 ∨ cp = 3) ∧ ∀ d' j : Nat, d' ≤ d → j ≤ fL (x a d') → fRe (x a d') j ≠ R0))))
    (hf : ∀ i, i < (fBs (x a d) + (mi (fMe (x a d))).2.2.2.2 + S0.length) + np → f i = sg.2.2.2.1 a 12 i) (c1 : (fBs (x a d) + (mi (fMe (x a d))).2.2.2.2 + S0.length) + (mi m).2.2.2.2 ≤ c) (c2 : 64 ≤ c) (c3 : c ≤ 40000) (hg : ∀ i, i < np → g2 (16 * (10 * a + (d + 1)) + i) = s.2.2 97 (10100 * a + (fQ (x a d) + S0.length) + i)) (hg' : ∀ i, i < 16 * (10 * a + (d + 1)) ∨ 16 * (10 * a + (d + 1)) + np ≤ i → g2 i = s.2.2 101 i) :
    ∃ (om' : oMg) (N' : Nat) (D' : Nat → Nat) (x' : Nat → Nat → fDs), rUn sB A B mi kc om' ka la ms N' cn (sE (sQ sg a z c f ((fBs (x a d) + (mi (fMe (x a d))).2.2.2.2 + S0.length) + (mi m).2.2.2.2)) a (d + 1) (Int32.ofNat pe) (Int32.ofNat (fBs (x a d) + (mi (fMe (x a d))).2.2.2.2 + S0.length)) (cvl v)) (sBg (rs_wA (rsL s 101 g2) 93 a (Int32.ofNat (fQ (x a d) + S0.length))) a (d + 1) m qe v) D' x' := by
  have ac12 : ka.2.2.2 ≤ 12 := by obtain ⟨_, _, ⟨_, _, _, _, _, ⟨_, _, z⟩, _⟩, _⟩ := wl; exact z
  have a12 : a < 12 := by omega
  obtain ⟨T1, T2, T3, ⟨T4, T5, T6⟩, T7, T8, T9⟩ := td
  have E0 : E 0 := hE 0 (Or.inl rfl)
  -- the caller
  obtain ⟨S1, t1, hS1, ok⟩ := su d (by omega)
  have eS1 : S1 = S0 := by rw [eS] at hS1; injection hS1 with _ z; exact z.symm
  subst eS1
  obtain ⟨⟨_, _, _, _, _, _, _, _, _, b1, b2, b3⟩, _, _, nm, _, lkd⟩ := ok
  rw [eS] at b3
  have b3' : S1.length + 1 ≤ 1010 := b3
  have loc16 : (mi (fMe (x a d))).2.2.2.2 ≤ 16 := nm.2.2.2.2.2.2.1.1
  have bq1 : fQ (x a d) ≤ 1010 * 9 := Nat.le_trans b1 (Nat.mul_le_mul_left _ (by omega))
  -- the arguments
  have eWt : ∀ j, omT.1 (pS a ((fQ (x a d) + S1.length) + j)) = om.1 (pS a ((fQ (x a d) + S1.length) + j)) := fun j => T7 _ (hS_ne).symm
  have eTt : ∀ j, j < np → omT.2.1 (pS a ((fQ (x a d) + S1.length) + j)) = om.2.1 (pS a ((fQ (x a d) + S1.length) + j)) := fun j hj => T8 _ (hS_ne).symm (sS_ne (by omega))
  have gt : ∀ j, j < np → ∃ t' q', ts[j]? = some t' ∧ ps[j]? = some q' ∧ ps.getD j 1 = q' := by
    intro j hj
    have h1 : ts[j]? = some ts[j] := List.getElem?_eq_getElem (by omega)
    have h2 : ps[j]? = some ps[j] := List.getElem?_eq_getElem (by omega)
    exact ⟨_, _, h1, h2, by rw [List.getD_eq_getElem?_getD, h2]; rfl⟩
  have tyn : ∀ t' q', gTy t' = true → dTy q' = true → fitC (cT t') (cT q') = 0 → t' ≠ 0 ∧ q' ≠ 0 := by
    intro t' q' h1 h2 h3
    have := fit_c h1 h2 h3
    have := dTy_c h2
    omega
  obtain ⟨om2, i1, i2, i3, i4, i5, i6, _⟩ := lay_L (om := omT) (a := a) (E := E) (r := r) (r1 := R0) (qb := (fQ (x a d) + S1.length)) (i0 := 10 * a + (d + 1)) (np := np) (ps := fun j => ps.getD j 1) T1 T9 Er ER r0 R1 (Elt _ ER) (by rw [(T3.1 _ ER).2.1]; exact Ro) E0 (fun j hj => by
    obtain ⟨t', q', h1, h2, h3⟩ := gt j hj
    obtain ⟨a1, a2, a3, a4, a5⟩ := args j t' h1
    rw [eTt j hj, a4]
    exact (tyn t' q' a5 (dps _ (List.mem_iff_getElem?.mpr ⟨j, h2⟩)) (fit j t' q' h1 h2)).1) (fun j hj => by
    obtain ⟨t', q', h1, h2, h3⟩ := gt j hj
    obtain ⟨a1, a2, a3, a4, a5⟩ := args j t' h1
    show ps.getD j 1 ≠ 0
    rw [h3]
    exact (tyn t' q' a5 (dps _ (List.mem_iff_getElem?.mpr ⟨j, h2⟩)) (fit j t' q' h1 h2)).2) (fun j hj => by
    obtain ⟨t', q', h1, h2, h3⟩ := gt j hj
    obtain ⟨a1, a2, a3, a4, a5⟩ := args j t' h1
    show oV (omT.1 (pS a ((fQ (x a d) + S1.length) + j))) = 0 ∨ (rg_good (omT.2.1 (pS a ((fQ (x a d) + S1.length) + j)) % 8) (ps.getD j 1 % 8) ∧ ps.getD j 1 % 8 ≤ 4 ∧ omT.2.1 (pS a ((fQ (x a d) + S1.length) + j)) % 8 ≤ 4)
    rw [eTt j hj, eWt j, h3, a4]
    exact fit_r a5 (dps _ (List.mem_iff_getElem?.mpr ⟨j, h2⟩)) (fit j t' q' h1 h2) a1.1) (by
    rcases hx with z | z
    · exact Or.inl z
    · refine Or.inr (fun j hj => ?_)
      obtain ⟨t', q', h1, h2, h3⟩ := gt j hj
      obtain ⟨a1, a2, a3, a4, a5⟩ := args j t' h1
      have m2 := List.mem_iff_getElem?.mpr ⟨j, h2⟩
      show oV (omT.1 (pS a ((fQ (x a d) + S1.length) + j))) = 0 ∨ ps.getD j 1 % 8 = 0 ∨ ps.getD j 1 % 8 = 3
      rw [eWt j, h3]
      by_cases o0 : oV (om.1 (pS a ((fQ (x a d) + S1.length) + j))) = 0
      · exact Or.inl o0
      · right
        have ot := (vTy_o (fit_v a5 (dps _ m2) (fit j t' q' h1 h2) a1.1) o0).1
        have tc := isO_c ot
        have sd := z q' m2
        unfold sdT at sd
        simp at sd
        omega) np (Nat.le_refl _)
  -- what is where
  have kn2 : om2.2.2.2 = om.2.2.2 := i2.trans T2
  have W2 : ∀ l, (∀ j, j < np → l ≠ pN (10 * a + (d + 1)) j) → l ≠ pH (10 * a + (d + 1)) → om2.1 l = om.1 l := fun l h1 h2 => (i5 l h1).trans (T7 l h2)
  have ch : ∀ l, ¬ ((∃ sl, sl < 16 ∧ l = pN (10 * a + (d + 1)) sl) ∨ l = pH (10 * a + (d + 1)) ∨ ∃ k, (fQ (x a d) + S1.length) ≤ k ∧ k < 10100 ∧ l = pS a k) → om2.1 l = om.1 l ∧ om2.2.1 l = om.2.1 l := by
    intro l hl
    have h1 : ∀ j, j < np → l ≠ pN (10 * a + (d + 1)) j := fun j hj z => hl (Or.inl ⟨j, by omega, z⟩)
    have h2 : l ≠ pH (10 * a + (d + 1)) := fun z => hl (Or.inr (Or.inl z))
    have h3 : ∀ j, j ≤ np → l ≠ pS a ((fQ (x a d) + S1.length) + j) := fun j hj z => hl (Or.inr (Or.inr ⟨_, by omega, by omega, z⟩))
    exact ⟨W2 l h1 h2, (i6 l h1 (fun j hj => h3 j (by omega))).trans (T8 l h2 (h3 np (Nat.le_refl _)))⟩
  have st : rSt a a E (fun l => (∃ sl, sl < 16 ∧ l = pN (10 * a + (d + 1)) sl) ∨ l = pH (10 * a + (d + 1)) ∨ ∃ k, (fQ (x a d) + S1.length) ≤ k ∧ k < 10100 ∧ l = pS a k) om.2.2.1 om2.2.2.1 := rSt_u E0 (rSt_P T3 (fun l z => Or.inr (Or.inl z))) (rSt_P i3 (fun l ⟨j, h1, h2⟩ => Or.inl ⟨j, by omega, h2⟩))
  have lH1 : om2.1 (pH (10 * a + (d + 1))) = v := (i5 _ (fun j _ => (nH_ne).symm)).trans T4
  have lH2 : om2.2.1 (pH (10 * a + (d + 1))) = tt := (i6 _ (fun j _ => (nH_ne).symm) (fun j _ => hS_ne)).trans T5
  have lH3 : om2.2.2.1.1 (pH (10 * a + (d + 1))) = R0 := by
    rw [i3.2.1 _ (fun ⟨j, _, z⟩ => nH_ne z.symm) (by rw [T6]; exact ER), T6]
  refine ⟨_, _, _, _, eNt (om' := om2) (Pl := fun l => (∃ sl, sl < 16 ∧ l = pN (10 * a + (d + 1)) sl) ∨ l = pH (10 * a + (d + 1)) ∨ ∃ k, (fQ (x a d) + S1.length) ≤ k ∧ k < 10100 ∧ l = pS a k) (bs := (fBs (x a d) + (mi (fMe (x a d))).2.2.2.2 + S1.length)) (qs := (fQ (x a d) + S1.length)) wl bo su ac d9 hE ER Em Elt R1 Ro top ?lay ?cl ?rf ?c7 ?c12 ?r99 ?r97 ?hP ?hPe ?hPs ch st i1 kn2 pt go ?gd ?gs mo ?n7 ?r99b q4 ?n8 ?nms ?ths ?lk ?bq ?bb ?so ?r93 ?g3 ?r92⟩
  case lay =>
    intro e he S2 t2 h2
    by_cases ce : e = d
    · subst ce
      rw [eS] at h2
      injection h2 with _ h2
      rw [← h2]
      exact ⟨Nat.le_refl _, Nat.le_refl _⟩
    · rcases lkd with ⟨z, _⟩ | lkd
      · omega
      · have := fr_lay (d := d) (fun e' h' => su e' (by omega)) e (by omega) lkd S2 t2 h2
        omega
  case cl =>
    refine ⟨rfl, rfl, fun b' j' h => ?_, fun b' j' h => ?_, fun b' j' h => ?_⟩
    · rw [sE_3 (by omega), sQ_A (by omega)]
    · rw [sE_o (by omega), sQ_R (by omega)]
    · show (sQ sg a z c f ((fBs (x a d) + (mi (fMe (x a d))).2.2.2.2 + S1.length) + (mi m).2.2.2.2)).2.2.2.2 b' j' = _
      rw [sQ_P (by rcases h with y | y; exact Or.inr y; exact Or.inl y)]
  case rf =>
    refine ⟨rfl, fun p' i' h1 h2 => ?_, fun p' i' h1 h2 h3 => ?_⟩
    · rw [bg_I, if_neg (by omega), if_neg (by omega), if_neg (by omega), wA_get, if_neg (by omega)]
      rfl
    · rw [bg_L, if_neg (by omega)]
      show (if p' = 101 then g2 else s.2.2 p') i' = _
      by_cases c : p' = 101
      · rw [if_pos c, c]
        exact hg' i' (by omega)
      · rw [if_neg c]
  case c7 =>
    intro e he
    rw [sE_7, sE_8, sE_9, upd_ne' (by omega), upd_ne' (by omega), upd_ne' (by omega), sQ_R (Or.inl (by decide)), sQ_R (Or.inl (by decide)), sQ_R (Or.inl (by decide))]
    exact ⟨rfl, rfl, rfl⟩
  case c12 =>
    intro i hi
    rw [sE_o (Or.inr (by decide)), sQ_f]
    exact hf i (by omega)
  case r99 =>
    intro e he
    refine ⟨?_, ?_, fun sl hsl => ?_⟩
    · rw [bg_I, if_neg (by omega), if_neg (by omega), if_neg (by omega), wA_get, if_neg (by omega)]
      rfl
    · rw [bg_L, if_neg (by omega)]
      rfl
    · rw [bg_L, if_neg (by omega)]
      exact hg' _ (by omega)
  case r97 =>
    intro k hk
    rw [bg_L, if_neg (by omega)]
    rfl
  case hP =>
    intro l hl
    rcases hl with ⟨sl, h1, h2⟩ | h2 | ⟨k, h1, h2, h3⟩
    · left; unfold pN at h2; omega
    · right; right; unfold pH at h2; exact ⟨by omega, Or.inl (by omega)⟩
    · right; left; unfold pS at h3; omega
  case hPe =>
    intro e he
    refine ⟨fun z => ?_, fun sl hsl z => ?_⟩
    · rcases z with ⟨sl, h1, h2⟩ | h2 | ⟨k, h1, h2, h3⟩
      · unfold pH pN at h2; omega
      · unfold pH at h2; omega
      · unfold pH pS at h3; omega
    · rcases z with ⟨sl', h1, h2⟩ | h2 | ⟨k, h1, h2, h3⟩
      · unfold pN at h2; omega
      · unfold pN pH at h2; omega
      · unfold pN pS at h3; omega
  case hPs =>
    intro k h1 h2 z
    rcases z with ⟨sl', h1', h2'⟩ | h2' | ⟨k', h1', h2', h3⟩
    · unfold pS pN at h2'; omega
    · unfold pS pH at h2'; omega
    · unfold pS at h3; omega
  case gd =>
    intro i j X Y h1 h2 h3
    rw [(gG i X h1).1, (gG j Y h2).1] at h3
    exact h3
  case gs =>
    intro y hy
    obtain ⟨j, hj⟩ := List.mem_iff_getElem?.mp hy
    obtain ⟨g1, g2'⟩ := gG j y hj
    obtain ⟨hl, _⟩ := List.getElem?_eq_some_iff.mp g2'
    exact ⟨by omega, dps _ (List.mem_iff_getElem?.mpr ⟨j, g2'⟩)⟩
  case n7 => rw [sE_7, upd_eq']
  case r99b => rw [bg_I, if_pos ⟨rfl, rfl⟩]
  case n8 => rw [sE_8, upd_eq']
  case nms =>
    intro y hy
    obtain ⟨j, hj⟩ := List.mem_iff_getElem?.mp hy
    obtain ⟨g1, g2'⟩ := gG j y hj
    obtain ⟨hl, _⟩ := List.getElem?_eq_some_iff.mp g2'
    have hjn : j < np := by omega
    obtain ⟨t', q', h1, h2, h3⟩ := gt j hjn
    have eq' : q' = y.2.2.1 := by rw [h2] at g2'; injection g2'
    obtain ⟨a1, a2, a3, a4, a5⟩ := args j t' h1
    obtain ⟨w1, w2, w3⟩ := i4 j hjn
    have w2 : om2.2.1 (pN (10 * a + (d + 1)) j) = q' := w2.trans h3
    have w1 : om2.1 (pN (10 * a + (d + 1)) j) = om.1 (pS a ((fQ (x a d) + S1.length) + j)) := w1.trans (eWt j)
    unfold nAm
    rw [g1, w1, w2, w3, ← eq']
    refine ⟨⟨fit_v a5 (dps _ (List.mem_iff_getElem?.mpr ⟨j, h2⟩)) (fit j t' q' h1 h2) a1.1, fun o0 => by rw [kn2]; exact a1.2 o0⟩, rfl, rfl, ?_, ?_⟩
    · rw [sE_o (Or.inr (by decide)), sQ_f, hf _ (by omega)]
      exact a2
    · rw [bg_L, if_neg (by omega)]
      show g2 _ = _
      rw [hg j hjn, Nat.add_assoc]
      exact a3
  case ths =>
    refine ⟨tt, th, ?_, ?_, lH2, lH3, ?_, ?_, fun y => ?_⟩
    · rw [lH1]; exact ⟨vt.1, fun o0 => by rw [kn2]; exact vt.2 o0⟩
    · rw [lH1]; exact v0
    · rw [lH1, sE_9, upd_eq']
    · rw [lH1, bg_L, if_pos ⟨rfl, rfl⟩]
    · show R0 = om2.2.2.2.2 a
      rw [kn2]; exact t6 y
  case lk =>
    refine Or.inr ⟨d, rfl, t, le, S1, eS, le1, rfl, rfl, ?_⟩
    rw [(st.1 _ ER).1]
    exact l5
  case bq => omega
  case bb => omega
  case so =>
    refine ⟨?_, ?_, ?_, ?_⟩
    · rw [sE_3 (Or.inr (by decide)), sQ_h]
    · show _ ≤ (sQ sg a z c f ((fBs (x a d) + (mi (fMe (x a d))).2.2.2.2 + S1.length) + (mi m).2.2.2.2)).2.2.2.2 a 13
      rw [sQ_c]; exact c1
    · show _ ≤ (sQ sg a z c f ((fBs (x a d) + (mi (fMe (x a d))).2.2.2.2 + S1.length) + (mi m).2.2.2.2)).2.2.2.2 a 13
      rw [sQ_c]; exact c2
    · show (sQ sg a z c f ((fBs (x a d) + (mi (fMe (x a d))).2.2.2.2 + S1.length) + (mi m).2.2.2.2)).2.2.2.2 a 13 ≤ _
      rw [sQ_c]; exact c3
  case r93 =>
    rw [bg_I, if_neg (by omega), if_neg (by omega), if_neg (by omega), wA_get, if_pos ⟨rfl, rfl⟩]
  case g3 => exact sE_3a
  case r92 =>
    rw [bg_I, if_neg (by omega), if_neg (by omega), if_pos ⟨rfl, rfl⟩]
end CA2
