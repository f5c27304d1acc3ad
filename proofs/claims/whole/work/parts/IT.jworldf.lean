/-! A FIELD IS WRITTEN: the world. -/
section IT2
variable (sB : rS) (A B : Nat → Int32) (mi : Nat → Nat × Nat × Nat × Nat × Nat) (om : oMg) (ka : kAp) (N : Nat) (sg : cS) (s : rS) (D : Nat → Nat) (x : Nat → Nat → fDs) (a d : Nat)
/-- iTm but for the world -/
def iTf : Prop := (∀ b, b < ka.2.2.2 → b ≠ a → aBd sB A B mi om ka N sg s b (x b) (D b)) ∧ fSu sB A B mi om ka N sg s a (x a) d ∧ (D a = d + 1 ∧ a < ka.2.2.2 ∧ d < 10) ∧ fVl sB mi om ka sg s a d (x a d) (fSt (x a d)) ∧ fRg om N a (x a d) ∧ fNm sB A B mi (x a d) ∧ fOr om.2.2.1 (x a) d ∧ ((d = 0 ∧ fB0 sB om ka a (x a)) ∨ ∃ d', d = d' + 1 ∧ fLk sB mi om.2.2.1 (x a) d') ∧ SOK sg a (fBs (x a d) + (mi (fMe (x a d))).2.2.2.2 + (fSt (x a d)).length) ∧ s.2.1 93 a = Int32.ofNat (fQ (x a d) + (fSt (x a d)).length) ∧ (fQ (x a d) ≤ 1010 * d ∧ fBs (x a d) ≤ 1026 * d ∧ (fSt (x a d)).length ≤ 1010)
end IT2
section JWF
variable {sB : rS} {A B : Nat → Int32} {mi : Nat → Nat × Nat × Nat × Nat × Nat} {kc : kCi} {om om' : oMg} {ka ka' : kAp} {la : lAy} {ms : mSg} {N N' cn : Nat} {sg sg' sg2 : cS} {s s' s2 S1 : rS} {a b d e lo q0 J l t r i n p q k k2 f0 w P L sz lv : Nat} {xs : Nat → Int32} {zf : Value} {Z : Nat → Prop} {hB h h' : rm_H} {es : List Nat} {x : Nat → Nat → fDs} {D : Nat → Nat} {S S0 X : List stE} {v : Int64} {y : Int32}
variable {E Pq Qs : Nat → Prop} {o f tf : Nat}
theorem it_mf {gn' : Int32} (it : iTm sB A B mi kc om ka la ms N cn sg s D x a d) (cl : kCl a d (fBs (x a d)) sg sg') (rf : kRf a d (fQ (x a d)) s s') (ch : ∀ l, ¬ cHg a d (fQ (x a d)) l → ¬ xCh om a l → om'.1 l = om.1 l ∧ om'.2.1 l = om.2.1 l) (st : rSt a a (eLr om N a d (fL (x a d)) (x a)) (cHg a d (fQ (x a d))) om.2.2.1 om'.2.2.1) (gi' : GI ka.2.2.1 N om'.1 om'.2.1 om'.2.2.1) (eK : om'.2.2.2 = om.2.2.2)
    (nms : ∀ y ∈ fG (x a d), gn' &&& bt y.2.1 = 0 → nAm om' ka sg' s' a (10 * a + d) (fBs (x a d)) (fRe (x a d)) y) (ths : tHs sB om' ka sg' s' a d (fMe (x a d)) (fRe (x a d))) (svl : sVl (pEn om' ka sg' s' a (fBs (x a d) + (mi (fMe (x a d))).2.2.2.2) (fQ (x a d)) (fRe (x a d))) S0) (so : SOK sg' a (fBs (x a d) + (mi (fMe (x a d))).2.2.2.2 + S0.length)) (r93 : s'.2.1 93 a = Int32.ofNat (fQ (x a d) + S0.length)) (len : S0.length ≤ 1010) :
    iTf sB A B mi om' ka N sg' s' D (xU x a d (fMe (x a d), fL (x a d), fG (x a d), gn', S0, fRe (x a d), fBs (x a d), fQ (x a d))) a d := by
  have it0 := it
  obtain ⟨w, bo, su, ⟨hD, ac, d10⟩, vl, rg, nm, od, lk, _, _, b1, b2, b3⟩ := it0
  have ac12 : ka.2.2.2 ≤ 12 := by obtain ⟨_, _, ⟨_, _, _, _, _, ⟨_, _, z⟩, _⟩, _⟩ := w; exact z
  have El : ∀ j, j ≤ fL (x a d) → eLr om N a d (fL (x a d)) (x a) (fRe (x a d) j) := fun j hj => eL_R hj
  have Es : ∀ e j, e < d → j ≤ fL (x a e) → eLr om N a d (fL (x a d)) (x a) (fRe (x a e) j) := fun e j h1 h2 => Or.inr (Or.inr ⟨e, j, Or.inl ⟨h1, h2⟩, rfl⟩)
  have hE : ∀ y, y = 0 ∨ (y < N ∧ om.2.2.1.2.2.2.2 y ≠ a) → eLr om N a d (fL (x a d)) (x a) y := fun y hy => by
    rcases hy with z | z
    · exact Or.inl z
    · exact Or.inr (Or.inl z)
  have lay : d = 0 ∨ ∃ d', d = d' + 1 ∧ fLk sB mi om.2.2.1 (x a) d' := by
    rcases lk with z | z
    · exact Or.inl z.1
    · exact Or.inr z
  have su' := fSu_k su (by omega) ac lay cl rf ch st Es (Nat.le_refl N) (knK_of (fun o ho => by rw [eK]; exact ho)) (by rw [eK]) d10
  unfold iTf
  rw [xU_eq]
  refine ⟨fun b hb hne => ?_, fSu_x su' (fun e he => xU_e (by omega)), ⟨hD, ac, d10⟩, ⟨?_, nms, ths, svl⟩, ⟨fun j hj => ?_, fun j h1 hj => ?_⟩, nm, fun d' j1 j hd hj => ?_, ?_, so, r93, b1, b2, len⟩
  · rw [xU_b hne]
    exact aBd_o w.2.1 (bo b hb hne) hne (by omega) hb cl rf ch st hE (Nat.le_refl N) eK d10
  · rw [cl.2.2.2.1 a 8 (Or.inr (by decide))]; exact vl.1
  · obtain ⟨r1, r2, r3⟩ := rg.1 j hj
    exact ⟨r1, r2, by rw [(st.1 _ (El j hj)).2.1]; exact r3⟩
  · rw [(st.1 _ (El j hj)).1]; exact rg.2 j h1 hj
  · rw [xU_eq] at hj ⊢
    have old : fRe (xU x a d (fMe (x a d), fL (x a d), fG (x a d), gn', S0, fRe (x a d), fBs (x a d), fQ (x a d)) a d') j1 = fRe (x a d') j1 ∧ ((d' < d ∧ j1 ≤ fL (x a d')) ∨ (d' = d ∧ j1 < j)) := by
      rcases hd with z | z
      · rw [xU_e (by omega)] at z ⊢
        exact ⟨rfl, Or.inl z⟩
      · rw [z.1, xU_eq]
        exact ⟨rfl, Or.inr ⟨rfl, z.2⟩⟩
    rw [old.1]
    obtain ⟨o1, o2⟩ := od d' j1 j old.2 hj
    refine ⟨fun h1 h2 => o1 h1 ?_, o2⟩
    have Ed : eLr om N a d (fL (x a d)) (x a) (fRe (x a d') j1) := by
      rcases old.2 with z | z
      · exact Es d' j1 z.1 z.2
      · have hj : j ≤ fL (x a d) := hj
        rw [z.1]; exact El j1 (by omega)
    exact ((st.1 _ Ed).2.2.2 _).mp h2
  · rcases lk with ⟨h0, f1, f2, f3, f4⟩ | ⟨d', hd, lk⟩
    · left
      refine ⟨h0, ?_⟩
      unfold fB0
      subst h0
      rw [xU_eq]
      exact ⟨f1, f2, by rw [eK]; exact f3, f4⟩
    · right
      refine ⟨d', hd, ?_⟩
      subst hd
      unfold fLk
      rw [xU_eq, xU_e (by omega)]
      obtain ⟨t, le, S1, l1, l2, l3, l4, l5⟩ := lk
      refine ⟨t, le, S1, l1, l2, l3, l4, ?_⟩
      rcases l5 with l5 | ⟨m1, m2, k, cp, m3, m4, m5, m6, m7, m8⟩
      · exact Or.inl l5
      · right
        refine ⟨m1, m2, k, cp, m3, m4, m5, m6, m7, ?_⟩
        rcases m8 with m8 | ⟨m8, m9, m10⟩
        · exact Or.inl m8
        · refine Or.inr ⟨?_, m9, fun d'' j h1 h2 => ?_⟩
          · show om'.2.2.1.2.2.2.1 (fRe (x a (d' + 1)) 0) = 0
            rw [(st.1 _ (El 0 (Nat.zero_le _))).1]; exact m8
          · rw [xU_e (by omega)] at h2 ⊢
            exact m10 d'' j h1 h2
theorem iTf_e (h : iTf sB A B mi om ka N sg s D x a d) (g2 : sg'.2.2 = sg.2.2) (r1 : s'.2.1 = s.2.1) (h97 : s'.2.2 97 = s.2.2 97) (h100 : s'.2.2 100 = s.2.2 100) (h101 : s'.2.2 101 = s.2.2 101) : iTf sB A B mi om ka N sg' s' D x a d := by
  obtain ⟨bo, su, h3, vl, rg, nm, od, lk, so, r93, bb⟩ := h
  refine ⟨fun b hb hne => aBd_e (bo b hb hne) (by rw [g2]) (by rw [g2]) (by rw [g2]) (by rw [r1]) (by rw [r1]) h97 h100 h101, fun e he => ?_, h3, fVl_e vl (by rw [g2]) (by rw [g2]) (by rw [g2]) h97 h100 h101, rg, nm, od, lk, ?_, by rw [r1]; exact r93, bb⟩
  · obtain ⟨S0, t, z1, z2⟩ := su e he
    exact ⟨S0, t, z1, fOk_e z2 (by rw [g2]) (by rw [r1]) h97 h100 h101⟩
  · unfold SOK at so ⊢
    rw [g2]
    exact so
/-- field f of object o, that is a's, is written -/
theorem wAl_f {g' : rGt} {l0 : Nat} (l03 : l0 % 6 = 3) (w : wAl sB kc om ka la ms N cn sg s D) (ac : a < ka.2.2.2) (o1 : 1 ≤ o) (o2 : o ≤ ka.2.2.1) (hf : f < (kc (ka.1 o)).1) (htf : (kc (ka.1 o)).2.1 f = tf) (hT : om.2.1 (pO o f) = tf) (kn : om.2.2.2.1 a o) (ro : om.2.2.1.2.1 o ≠ 0) (oo : om.2.2.1.2.2.2.2 (om.2.2.1.2.1 o) = a) (v1 : vTy ka 0 tf (om.1 (l0))) (v2 : oV (om.1 (l0)) ≠ 0 → om.2.2.2.1 a (oV (om.1 (l0)))) (gi' : GI ka.2.2.1 N (wU om.1 (pO o f) (om.1 (l0))) (rg_up (rg_up om.2.1 (l0) 0) (pO o f) tf) g') (st : rSt a a E (fun _ => False) om.2.2.1 g') (hE : ∀ y, y = 0 ∨ (y < N ∧ om.2.2.1.2.2.2.2 y ≠ a) → E y) (hEm : E (om.2.2.2.2 a)) : wAl sB kc (wU om.1 (pO o f) (om.1 (l0)), rg_up (rg_up om.2.1 (l0) 0) (pO o f) tf, g', om.2.2.2) ka la ms N cn (sW sg 0 (la.1 o + 1 + f) (cvl (om.1 (l0)))) (rs_wB s 96 (400 * a + la.2.2.1 o + f) (om.1 (l0))) D := by
  have bd := w_bd w
  have w0 := w
  obtain ⟨⟨x1, x2⟩, gi, wn, wo, wd, wa⟩ := w
  have ac12 : ka.2.2.2 ≤ 12 := by obtain ⟨_, _, _, _, _, ⟨_, _, z⟩, _⟩ := wn; exact z
  have own := fun (d' o' : Nat) h => own_k (om' := (wU om.1 (pO o f) (om.1 (l0)), rg_up (rg_up om.2.1 (l0) 0) (pO o f) tf, g', om.2.2.2)) (o := o') (d := d') gi st hE h
  have Es : ∀ y, y < N → om.2.2.1.2.2.2.2 y ≠ a → E y := fun y h1 h2 => hE y (Or.inr ⟨h1, h2⟩)
  obtain ⟨⟨_, _, nf8⟩, s1, s2, s3, s4, s5, s6, s7⟩ := wo o o1 o2
  have cW : ∀ l, l ≠ pO o f → l ≠ l0 → wU om.1 (pO o f) (om.1 (l0)) l = om.1 l ∧ rg_up (rg_up om.2.1 (l0) 0) (pO o f) tf l = om.2.1 l := fun l h1 h2 => ⟨wU_ne h1, by rw [rg_up_ne _ h1, rg_up_ne _ h2]⟩
  have c0 : ((sW sg 0 (la.1 o + 1 + f) (cvl (om.1 (l0))))).2.1 0 = upd (sg.2.1 0) (la.1 o + 1 + f) (cvl (om.1 (l0))) := rfl
  have rl : ∀ p i, p ≠ 96 ∨ i ≠ 400 * a + la.2.2.1 o + f → ((rs_wB s 96 (400 * a + la.2.2.1 o + f) (om.1 (l0)))).2.2 p i = s.2.2 p i := fun p i h => by
    rw [wB_get, if_neg (by omega)]
  have r96 : ((rs_wB s 96 (400 * a + la.2.2.1 o + f) (om.1 (l0)))).2.2 96 (400 * a + la.2.2.1 o + f) = om.1 (l0) := by rw [wB_get, if_pos ⟨rfl, rfl⟩]
  have bo400 := bd o f o1 o2 hf
  -- copies
  have cpo : ∀ d' y, y < 400 → (d' ≠ a ∨ y ≠ la.2.2.1 o + f) → cPy ((rs_wB s 96 (400 * a + la.2.2.1 o + f) (om.1 (l0)))) d' y = cPy s d' y := by
    intro d' y hy h
    unfold cPy
    by_cases c : d' < 12
    · rw [if_pos c, if_pos c, rl 96 _ (by omega)]
    · rw [if_neg c, if_neg c, rl 107 _ (by omega)]
  have fld : ∀ o' f', 1 ≤ o' → o' ≤ ka.2.2.1 → f' < (kc (ka.1 o')).1 → (o' ≠ o ∨ f' ≠ f) → pO o' f' ≠ pO o f ∧ la.1 o' + 1 + f' ≠ la.1 o + 1 + f ∧ la.2.2.1 o' + f' ≠ la.2.2.1 o + f := by
    intro o' f' h1 h2 h3 h4
    obtain ⟨⟨_, _, nf8'⟩, _⟩ := wo o' h1 h2
    have dj : o' = o ∨ (la.1 o + (kc (ka.1 o)).1 + 1 ≤ la.1 o' ∧ la.2.2.1 o + (kc (ka.1 o)).1 ≤ la.2.2.1 o') ∨ (la.1 o' + (kc (ka.1 o')).1 + 1 ≤ la.1 o ∧ la.2.2.1 o' + (kc (ka.1 o')).1 ≤ la.2.2.1 o) := by
      rcases Nat.lt_trichotomy o' o with z | z | z
      · exact Or.inr (Or.inr (wd.1 o' o h1 z o2))
      · exact Or.inl z
      · exact Or.inr (Or.inl (wd.1 o o' o1 z h2))
    refine ⟨?_, ?_, ?_⟩
    · unfold pO; omega
    · rcases dj with z | z | z
      · subst z; omega
      · omega
      · omega
    · rcases dj with z | z | z
      · subst z; omega
      · omega
      · omega
  have knk : ∀ d', wKn kc om ka la s d' → (d' = a ∨ ∀ o', om.2.2.2.1 d' o' → o' ≠ o) → wKn kc (wU om.1 (pO o f) (om.1 (l0)), rg_up (rg_up om.2.1 (l0) 0) (pO o f) tf, g', om.2.2.2) ka la ((rs_wB s 96 (400 * a + la.2.2.1 o + f) (om.1 (l0)))) d' := by
    intro d' h hd o' ho
    obtain ⟨z1, z2, z3⟩ := h o' ho
    refine ⟨z1, own d' o' z2, fun f' hf' => ?_⟩
    obtain ⟨y1, y2⟩ := z3 f' hf'
    have b4 := bd o' f' z1.1 z1.2 hf'
    by_cases c : o' = o ∧ f' = f
    · obtain ⟨c1, c2⟩ := c
      have da : d' = a := by
        rcases hd with z | z
        · exact z
        · exact absurd c1 (z _ ho)
      rw [c1, c2, da]
      show cPy ((rs_wB s 96 (400 * a + la.2.2.1 o + f) (om.1 (l0)))) a (la.2.2.1 o + f) = wU om.1 (pO o f) (om.1 (l0)) (pO o f) ∧ (oV (wU om.1 (pO o f) (om.1 (l0)) (pO o f)) ≠ 0 → om.2.2.2.1 a (oV (wU om.1 (pO o f) (om.1 (l0)) (pO o f))))
      rw [wU_eq]
      refine ⟨?_, v2⟩
      unfold cPy
      rw [if_pos (by omega), ← Nat.add_assoc]
      exact r96
    · have ne := fld o' f' z1.1 z1.2 hf' (by omega)
      show cPy ((rs_wB s 96 (400 * a + la.2.2.1 o + f) (om.1 (l0)))) d' (la.2.2.1 o' + f') = wU om.1 (pO o f) (om.1 (l0)) (pO o' f') ∧ (oV (wU om.1 (pO o f) (om.1 (l0)) (pO o' f')) ≠ 0 → om.2.2.2.1 d' (oV (wU om.1 (pO o f) (om.1 (l0)) (pO o' f'))))
      rw [wU_ne ne.1, cpo d' _ b4 (Or.inr ne.2.2)]
      exact ⟨y1, y2⟩
  have nokn : ∀ d', d' ≠ a → wKn kc om ka la s d' → ∀ o', om.2.2.2.1 d' o' → o' ≠ o := by
    intro d' hd h o' ho z
    obtain ⟨_, z2, _⟩ := h o' ho
    rw [z] at z2
    rcases z2 with y | y
    · exact ro y
    · exact hd (y.symm.trans oo)
  refine ⟨⟨x1, fun p hp => ?_⟩, gi', ?_, fun o' h1 h2 => ?_, wd, fun b hb => ?_⟩
  · funext i; rw [rl p i (Or.inl (by omega)), x2 p hp]
  · exact wn
  · obtain ⟨⟨k1, k2, k3⟩, q1, q2, q3, q4, q5, q6, q7⟩ := wo o' h1 h2
    have nek : la.1 o' ≠ la.1 o + 1 + f := by
      rcases Nat.lt_trichotomy o' o with z | z | z
      · have := (wd.1 o' o h1 z o2).1; omega
      · subst z; omega
      · have := (wd.1 o o' o1 z h2).1; omega
    refine ⟨⟨k1, k2, k3⟩, q1, ?_, q3, q4, q5, q6, fun f' hf' => ?_⟩
    · rw [c0, upd_ne' nek]; exact q2
    · obtain ⟨y1, y2, y3⟩ := q7 f' hf'
      by_cases c : o' = o ∧ f' = f
      · obtain ⟨c1, c2⟩ := c
        rw [c1, c2]
        refine ⟨(rg_up_eq _ _ _).trans htf.symm, ?_, ?_⟩
        · show vTy ka 0 _ (wU om.1 (pO o f) (om.1 (l0)) (pO o f))
          rw [wU_eq, htf]
          exact v1
        · show _ = cvl (wU om.1 (pO o f) (om.1 (l0)) (pO o f))
          rw [wU_eq, c0, upd_eq']
      · have ne := fld o' f' h1 h2 hf' (by omega)
        have := cW (pO o' f') ne.1 (by unfold pO; omega)
        refine ⟨this.2.trans y1, ?_, ?_⟩
        · show vTy ka 0 _ (wU om.1 (pO o f) (om.1 (l0)) (pO o' f'))
          rw [this.1]; exact y2
        · show _ = cvl (wU om.1 (pO o f) (om.1 (l0)) (pO o' f'))
          rw [this.1, c0, upd_ne' ne.2.1]; exact y3
  · obtain ⟨k1, k2, k3⟩ := wa b hb
    refine ⟨knk b k1 (by
      by_cases c : b = a
      · exact Or.inl c
      · exact Or.inr (nokn b c k1)), ?_, ?_⟩
    · obtain ⟨a1, a4, a6, a8, a10, ⟨a11, a12, a13⟩, a14⟩ := k2
      have eb : E (om.2.2.2.2 b) := by
        by_cases c : b = a
        · rw [c]; exact hEm
        · exact Es _ a12 (by rw [a13]; exact c)
      refine ⟨a1, a4, a6, a8, a10, ⟨a11, a12, by rw [show ((wU om.1 (pO o f) (om.1 (l0)), rg_up (rg_up om.2.1 (l0) 0) (pO o f) tf, g', om.2.2.2)).2.2.1.2.2.2.2 = g'.2.2.2.2 from rfl, (st.1 _ eb).2.1]; exact a13⟩, fun f' hf' => ?_⟩
      obtain ⟨f1, f2, f3, f4, f5⟩ := a14 f' hf'
      have := cW (pF b f') oF_ne.symm (by unfold pF; omega)
      have nec : la.2.1 b + 1 + f' ≠ la.1 o + 1 + f := by
        rcases wd.2.2 o b o1 o2 hb with z | z <;> omega
      refine ⟨this.2.trans f1, ?_, ?_, ?_, ?_⟩
      · show g'.1 (pF b f') = om.2.2.2.2 b
        rw [st.2.1 _ id (by rw [f2]; exact eb)]; exact f2
      · show vAl (wU om.1 (pO o f) (om.1 (l0)), rg_up (rg_up om.2.1 (l0) 0) (pO o f) tf, g', om.2.2.2) ka b _ (wU om.1 (pO o f) (om.1 (l0)) (pF b f'))
        rw [this.1]; exact ⟨f3.1, f3.2⟩
      · show _ = cvl (wU om.1 (pO o f) (om.1 (l0)) (pF b f'))
        rw [this.1, c0, upd_ne' nec]; exact f4
      · show _ = wU om.1 (pO o f) (om.1 (l0)) (pF b f')
        rw [this.1, rl 95 _ (Or.inl (by decide))]; exact f5
    · obtain ⟨m1, m4, m6, m7, m8⟩ := k3
      refine ⟨m1, m4, fun k hk => ?_, m7, m8⟩
      obtain ⟨p1, p2, p3, p4, ⟨p9, p10, p11⟩, ⟨ts, t1, t2, t3, t4⟩, p12, p13⟩ := m6 k hk
      have em : E (ms.2.2.2.2 (6 * b + ms.2.2.1 b k)) := Es _ p10 (by rw [p11]; omega)
      refine ⟨p1, p2, p3, p4, ⟨p9, p10, by rw [show ((wU om.1 (pO o f) (om.1 (l0)), rg_up (rg_up om.2.1 (l0) 0) (pO o f) tf, g', om.2.2.2)).2.2.1.2.2.2.2 = g'.2.2.2.2 from rfl, (st.1 _ em).2.1]; exact p11⟩, ⟨ts, t1, t2, t3, fun i t ht => ?_⟩, knk _ p12 (Or.inr (nokn _ (by omega) p12)), p13⟩
      obtain ⟨u1, u2, u3, u4, u5⟩ := t4 i t ht
      have := cW (pM (6 * b + ms.2.2.1 b k) i) (by unfold pM pO; omega) (by unfold pM; omega)
      refine ⟨this.2.trans u1, ?_, ?_, ?_, ?_⟩
      · show g'.1 _ = _
        rw [st.2.1 _ id (by rw [u2]; exact em)]; exact u2
      · show vAl (wU om.1 (pO o f) (om.1 (l0)), rg_up (rg_up om.2.1 (l0) 0) (pO o f) tf, g', om.2.2.2) ka _ t (wU om.1 (pO o f) (om.1 (l0)) _)
        rw [this.1]; exact ⟨u3.1, u3.2⟩
      · show _ = cvl (wU om.1 (pO o f) (om.1 (l0)) _)
        rw [this.1]; exact u4
      · show _ = wU om.1 (pO o f) (om.1 (l0)) _
        rw [this.1, rl 106 _ (Or.inl (by decide))]; exact u5
/-- field f of actor a is written -/
theorem wAl_fa {g' : rGt} {l0 : Nat} (l03 : l0 % 6 = 3) (w : wAl sB kc om ka la ms N cn sg s D) (ac : a < ka.2.2.2) (hf : f < (kc (ka.2.1 a)).1) (htf : (kc (ka.2.1 a)).2.1 f = tf) (v1 : vAl om ka a tf (om.1 (l0))) (gi' : GI ka.2.2.1 N (wU om.1 (pF a f) (om.1 (l0))) (rg_up (rg_up om.2.1 (l0) 0) (pF a f) tf) g') (hr : g'.1 (pF a f) = om.2.2.2.2 a) (st : rSt a a E (fun l => l = pF a f) om.2.2.1 g') (hE : ∀ y, y = 0 ∨ (y < N ∧ om.2.2.1.2.2.2.2 y ≠ a) → E y) (hEm : E (om.2.2.2.2 a)) : wAl sB kc (wU om.1 (pF a f) (om.1 (l0)), rg_up (rg_up om.2.1 (l0) 0) (pF a f) tf, g', om.2.2.2) ka la ms N cn (sW sg 0 (la.2.1 a + 1 + f) (cvl (om.1 (l0)))) (rs_wB s 95 (8 * a + f) (om.1 (l0))) D := by
  have bd := w_bd w
  obtain ⟨⟨x1, x2⟩, gi, wn, wo, wd, wa⟩ := w
  have ac12 : ka.2.2.2 ≤ 12 := by obtain ⟨_, _, _, _, _, ⟨_, _, z⟩, _⟩ := wn; exact z
  have own := fun (d' o' : Nat) h => own_k (om' := (wU om.1 (pF a f) (om.1 (l0)), rg_up (rg_up om.2.1 (l0) 0) (pF a f) tf, g', om.2.2.2)) (o := o') (d := d') gi st hE h
  have Es : ∀ y, y < N → om.2.2.1.2.2.2.2 y ≠ a → E y := fun y h1 h2 => hE y (Or.inr ⟨h1, h2⟩)
  have na8 : (kc (ka.2.1 a)).1 ≤ 8 := (wa a ac).2.1.1.2.2.2.2
  have cW : ∀ l, l ≠ pF a f → l ≠ l0 → wU om.1 (pF a f) (om.1 (l0)) l = om.1 l ∧ rg_up (rg_up om.2.1 (l0) 0) (pF a f) tf l = om.2.1 l := fun l h1 h2 => ⟨wU_ne h1, by rw [rg_up_ne _ h1, rg_up_ne _ h2]⟩
  have c0 : ((sW sg 0 (la.2.1 a + 1 + f) (cvl (om.1 (l0))))).2.1 0 = upd (sg.2.1 0) (la.2.1 a + 1 + f) (cvl (om.1 (l0))) := rfl
  have rl : ∀ p i, p ≠ 95 ∨ i ≠ 8 * a + f → ((rs_wB s 95 (8 * a + f) (om.1 (l0)))).2.2 p i = s.2.2 p i := fun p i h => by
    rw [wB_get, if_neg (by omega)]
  have r95 : ((rs_wB s 95 (8 * a + f) (om.1 (l0)))).2.2 95 (8 * a + f) = om.1 (l0) := by rw [wB_get, if_pos ⟨rfl, rfl⟩]
  have cp : ∀ d' y, cPy ((rs_wB s 95 (8 * a + f) (om.1 (l0)))) d' y = cPy s d' y := by
    intro d' y
    unfold cPy
    rw [rl 96 _ (Or.inl (by decide)), rl 107 _ (Or.inl (by decide))]
  have pOn : ∀ o' f', wU om.1 (pF a f) (om.1 (l0)) (pO o' f') = om.1 (pO o' f') ∧ rg_up (rg_up om.2.1 (l0) 0) (pF a f) tf (pO o' f') = om.2.1 (pO o' f') := fun o' f' => cW _ oF_ne (by unfold pO; omega)
  have knk : ∀ d', wKn kc om ka la s d' → wKn kc (wU om.1 (pF a f) (om.1 (l0)), rg_up (rg_up om.2.1 (l0) 0) (pF a f) tf, g', om.2.2.2) ka la ((rs_wB s 95 (8 * a + f) (om.1 (l0)))) d' := fun d' h => wKn_k (om' := (wU om.1 (pF a f) (om.1 (l0)), rg_up (rg_up om.2.1 (l0) 0) (pF a f) tf, g', om.2.2.2)) h (fun y _ => cp d' y) (fun o' f' _ _ _ => (pOn o' f').1) (own d') rfl bd
  refine ⟨⟨x1, fun p hp => ?_⟩, gi', ?_, fun o' h1 h2 => ?_, wd, fun b hb => ?_⟩
  · funext i; rw [rl p i (Or.inl (by omega)), x2 p hp]
  · exact wn
  · obtain ⟨⟨k1, k2, k3⟩, q1, q2, q3, q4, q5, q6, q7⟩ := wo o' h1 h2
    have dj := wd.2.2 o' a h1 h2 ac
    refine ⟨⟨k1, k2, k3⟩, q1, ?_, q3, q4, q5, q6, fun f' hf' => ?_⟩
    · rw [c0, upd_ne' (by omega)]; exact q2
    · obtain ⟨y1, y2, y3⟩ := q7 f' hf'
      refine ⟨(pOn o' f').2.trans y1, ?_, ?_⟩
      · show vTy ka 0 _ (wU om.1 (pF a f) (om.1 (l0)) (pO o' f'))
        rw [(pOn o' f').1]; exact y2
      · show _ = cvl (wU om.1 (pF a f) (om.1 (l0)) (pO o' f'))
        rw [(pOn o' f').1, c0, upd_ne' (by omega)]; exact y3
  · obtain ⟨k1, k2, k3⟩ := wa b hb
    refine ⟨knk b k1, ?_, ?_⟩
    · obtain ⟨a1, a4, a6, a8, a10, ⟨a11, a12, a13⟩, a14⟩ := k2
      have nb8 : (kc (ka.2.1 b)).1 ≤ 8 := a1.2.2.2.2
      have eb : E (om.2.2.2.2 b) := by
        by_cases c : b = a
        · rw [c]; exact hEm
        · exact Es _ a12 (by rw [a13]; exact c)
      refine ⟨a1, a4, a6, a8, a10, ⟨a11, a12, by rw [show ((wU om.1 (pF a f) (om.1 (l0)), rg_up (rg_up om.2.1 (l0) 0) (pF a f) tf, g', om.2.2.2)).2.2.1.2.2.2.2 = g'.2.2.2.2 from rfl, (st.1 _ eb).2.1]; exact a13⟩, fun f' hf' => ?_⟩
      obtain ⟨f1, f2, f3, f4, f5⟩ := a14 f' hf'
      by_cases c : b = a ∧ f' = f
      · obtain ⟨c1, c2⟩ := c
        rw [c1, c2]
        refine ⟨(rg_up_eq _ _ _).trans htf.symm, hr, ?_, ?_, ?_⟩
        · show vAl (wU om.1 (pF a f) (om.1 (l0)), rg_up (rg_up om.2.1 (l0) 0) (pF a f) tf, g', om.2.2.2) ka a _ (wU om.1 (pF a f) (om.1 (l0)) (pF a f))
          rw [wU_eq, htf]; exact ⟨v1.1, v1.2⟩
        · show _ = cvl (wU om.1 (pF a f) (om.1 (l0)) (pF a f))
          rw [wU_eq, c0, upd_eq']
        · show _ = wU om.1 (pF a f) (om.1 (l0)) (pF a f)
          rw [wU_eq]; exact r95
      · have nl : pF b f' ≠ pF a f := by unfold pF; omega
        have := cW (pF b f') nl (by unfold pF; omega)
        have nec : la.2.1 b + 1 + f' ≠ la.2.1 a + 1 + f := by
          rcases Nat.lt_trichotomy b a with z | z | z
          · have := wd.2.1 b a z ac; omega
          · subst z; omega
          · have := wd.2.1 a b z hb; omega
        refine ⟨this.2.trans f1, ?_, ?_, ?_, ?_⟩
        · show g'.1 (pF b f') = om.2.2.2.2 b
          rw [st.2.1 _ nl (by rw [f2]; exact eb)]; exact f2
        · show vAl (wU om.1 (pF a f) (om.1 (l0)), rg_up (rg_up om.2.1 (l0) 0) (pF a f) tf, g', om.2.2.2) ka b _ (wU om.1 (pF a f) (om.1 (l0)) (pF b f'))
          rw [this.1]; exact ⟨f3.1, f3.2⟩
        · show _ = cvl (wU om.1 (pF a f) (om.1 (l0)) (pF b f'))
          rw [this.1, c0, upd_ne' nec]; exact f4
        · show _ = wU om.1 (pF a f) (om.1 (l0)) (pF b f')
          rw [this.1, rl 95 _ (Or.inr (by omega))]; exact f5
    · obtain ⟨m1, m4, m6, m7, m8⟩ := k3
      refine ⟨m1, m4, fun k hk => ?_, m7, m8⟩
      obtain ⟨p1, p2, p3, p4, ⟨p9, p10, p11⟩, ⟨ts, t1, t2, t3, t4⟩, p12, p13⟩ := m6 k hk
      have em : E (ms.2.2.2.2 (6 * b + ms.2.2.1 b k)) := Es _ p10 (by rw [p11]; omega)
      refine ⟨p1, p2, p3, p4, ⟨p9, p10, by rw [show ((wU om.1 (pF a f) (om.1 (l0)), rg_up (rg_up om.2.1 (l0) 0) (pF a f) tf, g', om.2.2.2)).2.2.1.2.2.2.2 = g'.2.2.2.2 from rfl, (st.1 _ em).2.1]; exact p11⟩, ⟨ts, t1, t2, t3, fun i t ht => ?_⟩, knk _ p12, p13⟩
      obtain ⟨u1, u2, u3, u4, u5⟩ := t4 i t ht
      have nl : pM (6 * b + ms.2.2.1 b k) i ≠ pF a f := by unfold pM pF; omega
      have := cW (pM (6 * b + ms.2.2.1 b k) i) nl (by unfold pM; omega)
      refine ⟨this.2.trans u1, ?_, ?_, ?_, ?_⟩
      · show g'.1 _ = _
        rw [st.2.1 _ nl (by rw [u2]; exact em)]; exact u2
      · show vAl (wU om.1 (pF a f) (om.1 (l0)), rg_up (rg_up om.2.1 (l0) 0) (pF a f) tf, g', om.2.2.2) ka _ t (wU om.1 (pF a f) (om.1 (l0)) _)
        rw [this.1]; exact ⟨u3.1, u3.2⟩
      · show _ = cvl (wU om.1 (pF a f) (om.1 (l0)) _)
        rw [this.1]; exact u4
      · show _ = wU om.1 (pF a f) (om.1 (l0)) _
        rw [this.1, rl 106 _ (Or.inl (by decide))]; exact u5
end JWF
