/-! A BODY CALLS: regions. -/
section CA3
variable {sB : rS} {A B : Nat → Int32} {mi : Nat → Nat × Nat × Nat × Nat × Nat} {kc : kCi} {om om' : oMg} {ka ka' : kAp} {la : lAy} {ms : mSg} {N N' cn : Nat} {sg sg' sg2 : cS} {s s' s2 S1 : rS} {a b d e lo q0 J l t r i n p q k k2 f0 w P L sz lv : Nat} {xs : Nat → Int32} {zf : Value} {Z : Nat → Prop} {hB h h' : rm_H} {es : List Nat} {x : Nat → Nat → fDs} {D : Nat → Nat} {S S0 X : List stE} {v : Int64} {y : Int32}
variable {E Ap El : Nat → Prop} {R0 : Nat}
theorem nOe_fs {ob : Nat} (gi : GI ob N om.1 om.2.1 om.2.2.1) (no : nOe om El r Ap) (hc : ∀ y, E y → El y ∨ N ≤ y ∨ y = R0) (hR0 : ∀ l, Ap l → om.2.1 l ≠ 0 → oV (om.1 l) ≠ 0 → om.2.1 l % 8 ≤ 1 → ¬ inR om.2.2.1 (om.2.2.1.2.1 (oV (om.1 l))) R0) : nOe (om.1, om.2.1, fsG om.2.2.1 N a, om.2.2.2) E r Ap := by
  intro l hA
  obtain ⟨h1, h2⟩ := no l hA
  refine ⟨h1, fun t0 o0 c1 y hy hin => ?_⟩
  have hin : inR om.2.2.1 (om.2.2.1.2.1 (oV (om.1 l))) y := hin
  rcases hc y hy with z | z | z
  · exact h2 t0 o0 c1 y z hin
  · have e := in_fs gi z _ hin
    have := gi.2.1.2.1 (oV (om.1 l))
    omega
  · rw [z] at hin
    exact hR0 l hA t0 o0 c1 hin
theorem eS_c {lv' y : Nat} (hl : fL (x a d) ≤ lv') (h : eSu (om.1, om.2.1, fsG om.2.2.1 N a, om.2.2.2) (N + lv' + 1) a (d + 1) (xU x a d (fMe (x a d), lv', fG (x a d), fGn (x a d), (t, false, fL (x a d)) :: S0, rUp (fRe (x a d)) (fL (x a d)) N, fBs (x a d), fQ (x a d)) a) y) : (eLr om N a d (fL (x a d)) (x a)) y ∨ N ≤ y := by
  rcases h with h | ⟨h1, h2⟩ | ⟨e, j, h1, h2, h3⟩
  · exact Or.inl (Or.inl h)
  · have h2 : (if N ≤ y then a else om.2.2.1.2.2.2.2 y) ≠ a := h2
    by_cases c : N ≤ y
    · exact Or.inr c
    · rw [if_neg c] at h2
      exact Or.inl (Or.inr (Or.inl ⟨by omega, h2⟩))
  · by_cases c : e = d
    · rw [c, xU_eq] at h3 h2
      have h3 : y = rUp (fRe (x a d)) (fL (x a d)) N j := h3
      by_cases c2 : j ≤ fL (x a d)
      · rw [rUp_l c2] at h3
        exact Or.inl (Or.inr (Or.inr ⟨d, j, Or.inr ⟨rfl, c2⟩, h3⟩))
      · rw [rUp_g (by omega)] at h3
        exact Or.inr (by omega)
    · rw [xU_e c] at h3 h2
      exact Or.inl (Or.inr (Or.inr ⟨e, j, Or.inl ⟨by omega, h2⟩, h3⟩))
/-- a body is called: this has been popped, or is new -/
theorem cal_3 {np pe qe lve lv' p' q' m z c tt : Nat} {Gc : List scN} {ts ps : List Nat} {f : Nat → Int32} {g2 : Nat → Int64} (it : iTm sB A B mi kc om ka la ms N cn sg s D x a d) (d9 : d + 1 < 10) (eS : fSt (x a d) = vE (fL (x a d)) ts ++ S0) (pf : eLv (fL (x a d)) S0) (ptc : PT sB A B (fMe (x a d)) (mi (fMe (x a d))).1 (mi (fMe (x a d))).2.1 (mi (fMe (x a d))).2.2.1 p' q' lv' (fG (x a d)) (fGn (x a d)) ((t, false, fL (x a d)) :: S0)) (n7 : sg.2.2.2.1 a 7 d = Int32.ofNat p') (q4c : q' < 4400) (hl : fL (x a d) ≤ lv') (len : S0.length < 1010)
    (hR : R0 = fRe (x a d) (fL (x a d)) ∨ (R0 ≠ 0 ∧ R0 < N ∧ om.2.2.1.2.2.2.2 R0 = a ∧ (∀ y, (eLr om N a d (fL (x a d)) (x a)) y → ¬ inR om.2.2.1 R0 y) ∧ ∀ j, j < np → om.2.1 (pS a ((fQ (x a d) + S0.length) + j)) ≠ 0 → oV (om.1 (pS a ((fQ (x a d) + S0.length) + j))) ≠ 0 → om.2.1 (pS a ((fQ (x a d) + S0.length) + j)) % 8 ≤ 1 → ¬ inR om.2.2.1 (om.2.2.1.2.1 (oV (om.1 (pS a ((fQ (x a d) + S0.length) + j))))) R0))
    (hT : (om.2.1 (pS a ((fQ (x a d) + S0.length) + np)) ≠ 0 ∧ om.2.2.1.1 (pS a ((fQ (x a d) + S0.length) + np)) = fRe (x a d) (fL (x a d)) ∧ R0 = fRe (x a d) (fL (x a d)) ∧ v = om.1 (pS a ((fQ (x a d) + S0.length) + np)) ∧ (oV v = 0 ∨ (rg_good (om.2.1 (pS a ((fQ (x a d) + S0.length) + np)) % 8) (tt % 8) ∧ tt % 8 ≤ 4 ∧ om.2.1 (pS a ((fQ (x a d) + S0.length) + np)) % 8 ≤ 4))) ∨ (oV v ≤ ka.2.2.1 ∧ (oV v = 0 ∨ (2 ≤ tt % 8 ∧ rg_ok om.2.2.1.2.1 om.2.2.1.2.2.1 om.2.2.1.2.2.2.1 R0 (tt % 8) (oV v)))))
    (th : thT sB m 0 tt) (vt : vAl om ka a tt v) (v0 : v ≠ 0) (tt0 : tt ≠ 0) (t6 : tt % 8 = 6 → R0 = om.2.2.2.2 a)
    (lts : ts.length = np) (lps : ps.length = np) (fit : ∀ (j t' q' : Nat), ts[j]? = some t' → ps[j]? = some q' → fitC (cT t') (cT q') = 0) (hx : R0 = fRe (x a d) (fL (x a d)) ∨ ∀ q' ∈ ps, sdT q' = true)
    (mo : mtOk sB A B mi m) (n6 : np ≤ 6) (npl : np ≤ (mi m).2.2.2.2) (dps : ∀ q' ∈ ps, dTy q' = true) (gG : ∀ (j : Nat) (X : scN), Gc[j]? = some X → X.2.1 = j ∧ ps[j]? = some X.2.2.1) (go : GO sB (mi m).2.1 (mi m).2.2.1 (mi m).2.2.2.1 0 Gc) (pt : PT sB A B m (mi m).1 (mi m).2.1 (mi m).2.2.1 pe qe lve Gc 0 []) (q4 : qe < 4400)
    (l5 : (sB.2.1 70 m = 1 ∧ rsT sB m t ∧ (R0 = fRe (x a d) (fL (x a d)) ∨ hmT sB m)) ∨ (sB.2.1 70 m = 0 ∧ sB.2.1 75 m = -1 ∧ ∃ k cp : Nat, k < 8 ∧ cp < 5 ∧ sB.2.1 71 m = Int32.ofNat k ∧ sB.2.1 66 k = 0 ∧ t = 8 * (k + 1) + cp ∧ (((cp = 2 ∨ cp = 4) ∧ R0 = fRe (x a d) (fL (x a d))) ∨ (om.2.2.1.2.2.2.1 R0 = 0 ∧ (cp = 0 ∨ cp = 1 ∨ cp = 3) ∧ ∀ y, (eLr om N a d (fL (x a d)) (x a)) y → y ≠ R0))))
    (hf : ∀ i, i < (fBs (x a d) + (mi (fMe (x a d))).2.2.2.2 + S0.length) + np → f i = sg.2.2.2.1 a 12 i) (c1 : (fBs (x a d) + (mi (fMe (x a d))).2.2.2.2 + S0.length) + (mi m).2.2.2.2 ≤ c) (c2 : 64 ≤ c) (c3 : c ≤ 40000) (hg : ∀ i, i < np → g2 (16 * (10 * a + (d + 1)) + i) = s.2.2 97 (10100 * a + (fQ (x a d) + S0.length) + i)) (hg' : ∀ i, i < 16 * (10 * a + (d + 1)) ∨ 16 * (10 * a + (d + 1)) + np ≤ i → g2 i = s.2.2 101 i) :
    ∃ (om' : oMg) (N' : Nat) (D' : Nat → Nat) (x' : Nat → Nat → fDs), rUn sB A B mi kc om' ka la ms N' cn (sE (sQ sg a z c f ((fBs (x a d) + (mi (fMe (x a d))).2.2.2.2 + S0.length) + (mi m).2.2.2.2)) a (d + 1) (Int32.ofNat pe) (Int32.ofNat (fBs (x a d) + (mi (fMe (x a d))).2.2.2.2 + S0.length)) (cvl v)) (sBg (rs_wA (rsL (rs_wA s 99 (10 * a + d) (Int32.ofNat q')) 101 g2) 93 a (Int32.ofNat (fQ (x a d) + S0.length))) a (d + 1) m qe v) D' x' := by
  obtain ⟨w1, w2, w3⟩ := cal_1 it eS pf ptc n7 q4c hl len
  have it0 := it
  obtain ⟨wl, _, su, ⟨_, ac, _⟩, vl, rg, nm, od, _, so, r93, _⟩ := it0
  have gi := wl.2.1
  obtain ⟨r0, rN, ro⟩ := rg.1 (fL (x a d)) (Nat.le_refl _)
  have Elr : (eLr om N a d (fL (x a d)) (x a)) (fRe (x a d) (fL (x a d))) := Or.inr (Or.inr ⟨d, _, Or.inr ⟨rfl, Nat.le_refl _⟩, rfl⟩)
  have R1 : R0 ≠ 0 ∧ R0 < N ∧ om.2.2.1.2.2.2.2 R0 = a := by
    rcases hR with z | z
    · rw [z]; exact ⟨r0, rN, ro⟩
    · exact ⟨z.1, z.2.1, z.2.2.1⟩
  have sv := vl.2.2.2
  rw [eS] at sv
  have arg : ∀ (j t' : Nat), ts[j]? = some t' → vAl om ka a t' (om.1 (pS a ((fQ (x a d) + S0.length) + j))) ∧ sg.2.2.2.1 a 12 ((fBs (x a d) + (mi (fMe (x a d))).2.2.2.2 + S0.length) + j) = cvl (om.1 (pS a ((fQ (x a d) + S0.length) + j))) ∧ s.2.2 97 (10100 * a + ((fQ (x a d) + S0.length) + j)) = om.1 (pS a ((fQ (x a d) + S0.length) + j)) ∧ (om.2.1 (pS a ((fQ (x a d) + S0.length) + j)) = t' ∧ (t' ≠ 0 → om.2.2.1.1 (pS a ((fQ (x a d) + S0.length) + j)) = fRe (x a d) (fL (x a d)))) ∧ gTy t' = true := by
    intro j t' hj
    obtain ⟨p1, p2, p3, p4, p5, p6⟩ := arg_at sv hj
    rw [Nat.add_assoc (fQ (x a d)), Nat.add_assoc _ S0.length]
    refine ⟨p1, p2, p3, ?_, p5⟩
    rcases p4 with z | z
    · exact z
    · exact absurd (show false = true from z.1) (by decide)
  have tn0 : ∀ j, j < np → ∃ t', ts[j]? = some t' ∧ t' ≠ 0 := by
    intro j hj
    have h1 : ts[j]? = some ts[j] := List.getElem?_eq_getElem (by omega)
    have h2 : ps[j]? = some ps[j] := List.getElem?_eq_getElem (by omega)
    obtain ⟨_, _, _, _, a5⟩ := arg j _ h1
    have := fit_c a5 (dps _ (List.mem_iff_getElem?.mpr ⟨j, h2⟩)) (fit j _ _ h1 h2)
    exact ⟨_, h1, by omega⟩
  have hAr : ∀ l, (∃ j, j < np ∧ l = pS a ((fQ (x a d) + S0.length) + j)) → om.2.2.1.1 l = fRe (x a d) (fL (x a d)) := by
    intro l ⟨j, hj, hl⟩
    obtain ⟨t', h1, h2⟩ := tn0 j hj
    obtain ⟨_, _, _, ⟨_, a4⟩, _⟩ := arg j t' h1
    rw [hl]; exact a4 h2
  -- E
  have hc : ∀ y, (eSu (om.1, om.2.1, fsG om.2.2.1 N a, om.2.2.2) (N + lv' + 1) a (d + 1) (xU x a d (fMe (x a d), lv', fG (x a d), fGn (x a d), (t, false, fL (x a d)) :: S0, rUp (fRe (x a d)) (fL (x a d)) N, fBs (x a d), fQ (x a d)) a) y ∨ y = R0) → (eLr om N a d (fL (x a d)) (x a)) y ∨ N ≤ y ∨ y = R0 := by
    intro y hy
    rcases hy with z | z
    · rcases eS_c hl z with w | w
      · exact Or.inl w
      · exact Or.inr (Or.inl w)
    · exact Or.inr (Or.inr z)
  have xd : fRe (xU x a d (fMe (x a d), lv', fG (x a d), fGn (x a d), (t, false, fL (x a d)) :: S0, rUp (fRe (x a d)) (fL (x a d)) N, fBs (x a d), fQ (x a d)) a d) (fL (x a d)) = fRe (x a d) (fL (x a d)) := by
    rw [xU_eq]
    exact rUp_l (Nat.le_refl _)
  have Er : eSu (om.1, om.2.1, fsG om.2.2.1 N a, om.2.2.2) (N + lv' + 1) a (d + 1) (xU x a d (fMe (x a d), lv', fG (x a d), fGn (x a d), (t, false, fL (x a d)) :: S0, rUp (fRe (x a d)) (fL (x a d)) N, fBs (x a d), fQ (x a d)) a) (fRe (x a d) (fL (x a d))) ∨ fRe (x a d) (fL (x a d)) = R0 := Or.inl (Or.inr (Or.inr ⟨d, fL (x a d), by omega, by rw [xU_eq]; exact hl, xd.symm⟩))
  have Em : eSu (om.1, om.2.1, fsG om.2.2.1 N a, om.2.2.2) (N + lv' + 1) a (d + 1) (xU x a d (fMe (x a d), lv', fG (x a d), fGn (x a d), (t, false, fL (x a d)) :: S0, rUp (fRe (x a d)) (fL (x a d)) N, fBs (x a d), fQ (x a d)) a) (om.2.2.2.2 a) ∨ om.2.2.2.2 a = R0 := by
    left; right; right
    obtain ⟨S1, t1, _, ok⟩ := w3 0 (by omega)
    rcases ok.2.2.2.2.2 with ⟨_, _, _, z, _⟩ | ⟨d', z, _⟩
    · exact ⟨0, 0, by omega, Nat.zero_le _, z.symm⟩
    · omega
  have Elt : ∀ y, (eSu (om.1, om.2.1, fsG om.2.2.1 N a, om.2.2.2) (N + lv' + 1) a (d + 1) (xU x a d (fMe (x a d), lv', fG (x a d), fGn (x a d), (t, false, fL (x a d)) :: S0, rUp (fRe (x a d)) (fL (x a d)) N, fBs (x a d), fQ (x a d)) a) y ∨ y = R0) → y < N + lv' + 1 := by
    intro y hy
    rcases hy with (z | z | ⟨e, j, h1, h2, h3⟩) | z
    · omega
    · exact z.1
    · obtain ⟨S1, t1, _, ok⟩ := w3 e h1
      rw [h3]
      exact (ok.2.2.1.1 j h2).2.1
    · omega
  have top : ∀ e j, e < d + 1 → j ≤ fL (xU x a d (fMe (x a d), lv', fG (x a d), fGn (x a d), (t, false, fL (x a d)) :: S0, rUp (fRe (x a d)) (fL (x a d)) N, fBs (x a d), fQ (x a d)) a e) → R0 ≠ fRe (xU x a d (fMe (x a d), lv', fG (x a d), fGn (x a d), (t, false, fL (x a d)) :: S0, rUp (fRe (x a d)) (fL (x a d)) N, fBs (x a d), fQ (x a d)) a e) j → ¬ inR om.2.2.1 R0 (fRe (xU x a d (fMe (x a d), lv', fG (x a d), fGn (x a d), (t, false, fL (x a d)) :: S0, rUp (fRe (x a d)) (fL (x a d)) N, fBs (x a d), fQ (x a d)) a e) j) := by
    intro e j h1 h2 h3 h4
    rcases eS_c hl (Or.inr (Or.inr ⟨e, j, h1, h2, rfl⟩)) with z | z
    · rcases hR with w | w
      · rw [w] at h3 h4
        exact tOp_of it (Nat.le_refl _) _ z (fun y => h3 y.symm) h4
      · exact w.2.2.2.1 _ z h4
    · exact h3 (in_fs gi z _ h4)
  have ow1 : ∀ y, y < N → om.2.2.1.2.2.2.2 y = a → (fsG om.2.2.1 N a).2.2.2.2 y = a := fun y h1 h2 => by
    show (if N ≤ y then a else om.2.2.1.2.2.2.2 y) = a
    rw [if_neg (by omega)]
    exact h2
  have gi1 : GI ka.2.2.1 (N + lv' + 1) om.1 om.2.1 (fsG om.2.2.1 N a) := GI_fs gi (by omega)
  have hS1 : fSt (xU x a d (fMe (x a d), lv', fG (x a d), fGn (x a d), (t, false, fL (x a d)) :: S0, rUp (fRe (x a d)) (fL (x a d)) N, fBs (x a d), fQ (x a d)) a d) = (t, false, fL (x a d)) :: S0 := by rw [xU_eq]
  have hle : fL (x a d) ≤ fL (xU x a d (fMe (x a d), lv', fG (x a d), fGn (x a d), (t, false, fL (x a d)) :: S0, rUp (fRe (x a d)) (fL (x a d)) N, fBs (x a d), fQ (x a d)) a d) := by rw [xU_eq]; exact hl
  have e1 : fQ (xU x a d (fMe (x a d), lv', fG (x a d), fGn (x a d), (t, false, fL (x a d)) :: S0, rUp (fRe (x a d)) (fL (x a d)) N, fBs (x a d), fQ (x a d)) a d) = fQ (x a d) := by rw [xU_eq]
  have e2 : fBs (xU x a d (fMe (x a d), lv', fG (x a d), fGn (x a d), (t, false, fL (x a d)) :: S0, rUp (fRe (x a d)) (fL (x a d)) N, fBs (x a d), fQ (x a d)) a d) = fBs (x a d) := by rw [xU_eq]
  have e3 : fMe (xU x a d (fMe (x a d), lv', fG (x a d), fGn (x a d), (t, false, fL (x a d)) :: S0, rUp (fRe (x a d)) (fL (x a d)) N, fBs (x a d), fQ (x a d)) a d) = fMe (x a d) := by rw [xU_eq]
  have tld : ∃ omT, tLd (om.1, om.2.1, fsG om.2.2.1 N a, om.2.2.2) omT ka.2.2.1 (N + lv' + 1) a (fun y => eSu (om.1, om.2.1, fsG om.2.2.1 N a, om.2.2.2) (N + lv' + 1) a (d + 1) (xU x a d (fMe (x a d), lv', fG (x a d), fGn (x a d), (t, false, fL (x a d)) :: S0, rUp (fRe (x a d)) (fL (x a d)) N, fBs (x a d), fQ (x a d)) a) y ∨ y = R0) (pH (10 * a + (d + 1))) (pS a ((fQ (x a d) + S0.length) + np)) v tt R0 (fRe (x a d) (fL (x a d))) (fun l => ∃ j, j < np ∧ l = pS a ((fQ (x a d) + S0.length) + j)) := by
    rcases hT with ⟨h1, h2, h3, h4, h5⟩ | ⟨h1, h2⟩
    · subst h3
      subst h4
      have no := nOe_of (Ap := fun l => (∃ j, j < np ∧ l = pS a ((fQ (x a d) + S0.length) + j)) ∨ l = pS a ((fQ (x a d) + S0.length) + np)) it (Nat.le_refl _) (fun l hl => by
        rcases hl with z | z
        · exact hAr l z
        · rw [z]; exact h2)
      have no1 := nOe_fs (a := a) (R0 := fRe (x a d) (fL (x a d))) gi no hc (fun l hA t0 o0 c1 => (no l hA).2 t0 o0 c1 _ Elr)
      exact tLd_m (a := a) (l0 := pS a ((fQ (x a d) + S0.length) + np)) (l1 := pH (10 * a + (d + 1))) (t1 := tt) (om := (om.1, om.2.1, fsG om.2.2.1 N a, om.2.2.2)) gi1 no1 (fun ⟨j, hj, z⟩ => sS_ne (a := a) (by omega) z) (fun ⟨j, hj, z⟩ => hS_ne z) hS_ne Er r0 (by omega) (ow1 _ rN ro) ob_H h1 tt0 h5
    · have no := nOe_of (Ap := fun l => ∃ j, j < np ∧ l = pS a ((fQ (x a d) + S0.length) + j)) it (Nat.le_refl _) hAr
      have no1 := nOe_fs (a := a) (R0 := R0) gi no hc (fun l hA t0 o0 c1 => by
        rcases hR with z | z
        · rw [z]
          exact (no l hA).2 t0 o0 c1 _ Elr
        · obtain ⟨j, hj, hl⟩ := hA
          rw [hl] at t0 o0 c1 ⊢
          exact z.2.2.2.2 j hj t0 o0 c1)
      exact tLd_p (om := (om.1, om.2.1, fsG om.2.2.1 N a, om.2.2.2)) gi1 no1 (fun ⟨j, hj, z⟩ => hS_ne z) (by omega) ob_H h1 h2
  obtain ⟨omT, td⟩ := tld
  have := cal_2 (om := (om.1, om.2.1, fsG om.2.2.1 N a, om.2.2.2)) (omT := omT) (N := N + lv' + 1) (x := xU x a d (fMe (x a d), lv', fG (x a d), fGn (x a d), (t, false, fL (x a d)) :: S0, rUp (fRe (x a d)) (fL (x a d)) N, fBs (x a d), fQ (x a d))) (s := rs_wA s 99 (10 * a + d) (Int32.ofNat q')) (E := fun y => eSu (om.1, om.2.1, fsG om.2.2.1 N a, om.2.2.2) (N + lv' + 1) a (d + 1) (xU x a d (fMe (x a d), lv', fG (x a d), fGn (x a d), (t, false, fL (x a d)) :: S0, rUp (fRe (x a d)) (fL (x a d)) N, fBs (x a d), fQ (x a d)) a) y ∨ y = R0) (R0 := R0) (r := fRe (x a d) (fL (x a d))) (le := fL (x a d)) (np := np) (pe := pe) (qe := qe) (lve := lve) (m := m) (z := z) (c := c) (tt := tt) (Gc := Gc) (ts := ts) (ps := ps) (f := f) (g2 := g2) (v := v) w1 w2 w3 ac d9 hS1 hle (fun y hy => Or.inl hy) (Or.inr rfl) Em Elt R1.1 (ow1 _ R1.2.1 R1.2.2) top Er r0 (by rw [e1]; exact td) th vt v0 t6 lts lps (by
    rw [e1, e2, e3]
    intro j t' hj
    obtain ⟨a1, a2, a3, ⟨a4, _⟩, a5⟩ := arg j t' hj
    exact ⟨a1, a2, a3, a4, a5⟩) fit hx mo n6 npl dps gG go pt q4 (by
    rw [xd]
    rcases l5 with z | ⟨z1, z2, k, cp, z3, z4, z5, z6, z7, z8⟩
    · exact Or.inl z
    · refine Or.inr ⟨z1, z2, k, cp, z3, z4, z5, z6, z7, ?_⟩
      rcases z8 with z8 | ⟨z8, z9, z10⟩
      · exact Or.inl z8
      · refine Or.inr ⟨z8, z9, fun d' j h1 h2 h3 => ?_⟩
        rcases eS_c hl (Or.inr (Or.inr ⟨d', j, by omega, h2, rfl⟩)) with w | w
        · exact z10 _ w h3
        · omega) (by rw [e2, e3]; exact hf) (by rw [e2, e3]; exact c1) c2 c3 (by rw [e1]; exact hg) hg'
  rw [e1, e2, e3] at this
  exact this
end CA3
