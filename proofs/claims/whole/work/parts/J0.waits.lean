/-! A BODY WAITS FOR WHAT IT CALLED. -/
section CAL
variable {sB : rS} {A B : Nat → Int32} {mi : Nat → Nat × Nat × Nat × Nat × Nat} {kc : kCi} {om om' : oMg} {ka ka' : kAp} {la : lAy} {ms : mSg} {N N' cn : Nat} {sg sg' sg2 : cS} {s s' s2 S1 : rS} {a b d e lo q0 J l t r i n p q k k2 f0 w P L sz lv : Nat} {xs : Nat → Int32} {zf : Value} {Z : Nat → Prop} {hB h h' : rm_H} {es : List Nat} {x : Nat → Nat → fDs} {D : Nat → Nat} {S S0 X : List stE} {v : Int64} {y : Int32}

/-- body d is to wait: levels above its own are fresh -/
theorem cal_1 {lv' p' q' : Nat} (it : iTm sB A B mi kc om ka la ms N cn sg s D x a d) (eS : fSt (x a d) = X ++ S0) (pf : eLv (fL (x a d)) S0) (pt : PT sB A B (fMe (x a d)) (mi (fMe (x a d))).1 (mi (fMe (x a d))).2.1 (mi (fMe (x a d))).2.2.1 p' q' lv' (fG (x a d)) (fGn (x a d)) ((t, false, fL (x a d)) :: S0)) (n7 : sg.2.2.2.1 a 7 d = Int32.ofNat p') (q4 : q' < 4400) (hl : fL (x a d) ≤ lv') (len : S0.length < 1010) :
    wAl sB kc (om.1, om.2.1, fsG om.2.2.1 N a, om.2.2.2) ka la ms (N + lv' + 1) cn sg (rs_wA s 99 (10 * a + d) (Int32.ofNat q')) D ∧ (∀ b, b < ka.2.2.2 → b ≠ a → aBd sB A B mi (om.1, om.2.1, fsG om.2.2.1 N a, om.2.2.2) ka (N + lv' + 1) sg (rs_wA s 99 (10 * a + d) (Int32.ofNat q')) b (xU x a d (fMe (x a d), lv', fG (x a d), fGn (x a d), (t, false, fL (x a d)) :: S0, rUp (fRe (x a d)) (fL (x a d)) N, fBs (x a d), fQ (x a d)) b) (D b)) ∧ fSu sB A B mi (om.1, om.2.1, fsG om.2.2.1 N a, om.2.2.2) ka (N + lv' + 1) sg (rs_wA s 99 (10 * a + d) (Int32.ofNat q')) a (xU x a d (fMe (x a d), lv', fG (x a d), fGn (x a d), (t, false, fL (x a d)) :: S0, rUp (fRe (x a d)) (fL (x a d)) N, fBs (x a d), fQ (x a d)) a) (d + 1) := by
  have it0 := it
  obtain ⟨w, bo, su, ⟨hD, ac, d10⟩, vl, rg, nm, od, lk, _, _, b1, b2, b3⟩ := it0
  have gi := w.2.1
  have ac12 : ka.2.2.2 ≤ 12 := by obtain ⟨_, _, ⟨_, _, _, _, _, ⟨_, _, z⟩, _⟩, _⟩ := w; exact z
  have lt := fun y (h : eLr om N a d (fL (x a d)) (x a) y) => eL_lt it (Nat.le_refl _) h
  have E0 : eLr om N a d (fL (x a d)) (x a) 0 := Or.inl rfl
  have st2 : rSt a a (eLr om N a d (fL (x a d)) (x a)) (cHg a d (fQ (x a d))) om.2.2.1 (fsG om.2.2.1 N a) := fsG_st gi lt
  have El : ∀ j, j ≤ fL (x a d) → eLr om N a d (fL (x a d)) (x a) (fRe (x a d) j) := fun j hj => Or.inr (Or.inr ⟨d, j, Or.inr ⟨rfl, hj⟩, rfl⟩)
  have Es : ∀ e j, e < d → j ≤ fL (x a e) → eLr om N a d (fL (x a d)) (x a) (fRe (x a e) j) := fun e j h1 h2 => Or.inr (Or.inr ⟨e, j, Or.inl ⟨h1, h2⟩, rfl⟩)
  have gi2 : GI ka.2.2.1 (N + lv' + 1) om.1 om.2.1 (fsG om.2.2.1 N a) := GI_fs gi (by omega)
  have lay : d = 0 ∨ ∃ d', d = d' + 1 ∧ fLk sB mi om.2.2.1 (x a) d' := by
    rcases lk with z | z
    · exact Or.inl z.1
    · exact Or.inr z
  have cl : kCl a d (fBs (x a d)) sg sg := kCl_r
  have rf : kRf a d (fQ (x a d)) s (rs_wA s 99 (10 * a + d) (Int32.ofNat q')) := kRf_A (Or.inl ⟨rfl, rfl⟩)
  have hE : ∀ y, y = 0 ∨ (y < N ∧ om.2.2.1.2.2.2.2 y ≠ a) → eLr om N a d (fL (x a d)) (x a) y := fun y hy => by
    rcases hy with z | z
    · exact Or.inl z
    · exact Or.inr (Or.inl z)
  have ch : ∀ l, ¬ cHg a d (fQ (x a d)) l → (om.1 l = om.1 l ∧ om.2.1 l = om.2.1 l) := fun _ _ => ⟨rfl, rfl⟩
  refine ⟨wAl_k (om' := (om.1, om.2.1, fsG om.2.2.1 N a, om.2.2.2)) w cl rf ch st2 hE (eL_m it) (by omega) gi2 (by omega) rfl, fun b hb c => ?_, fun e he => ?_⟩
  · rw [xU_b c]
    exact aBd_o (om' := (om.1, om.2.1, fsG om.2.2.1 N a, om.2.2.2)) gi (bo b hb c) c (by omega) hb cl rf (fun _ _ _ => ⟨rfl, rfl⟩) st2 hE (by omega) rfl d10
  by_cases ce : e < d
  · have su' := fSu_k (om' := (om.1, om.2.1, fsG om.2.2.1 N a, om.2.2.2)) (N' := N + lv' + 1) su (by omega) ac lay cl rf (fun _ _ _ => ⟨rfl, rfl⟩) st2 Es (by omega) (knK_of (fun o ho => ho)) rfl d10
    exact fSu_x su' (fun e he => xU_e (by omega)) e ce
  have ed : e = d := by omega
  subst ed
  refine ⟨S0, (t, false, fL (x a e)), by rw [xU_eq], ?_⟩
  unfold fOk
  rw [xU_eq]
  refine ⟨⟨p', q', p', 0, PJ_0 pt, pt, n7, by rw [wA_get, if_pos ⟨rfl, rfl⟩], q4, b1, b2, Nat.succ_le_of_lt len⟩, ⟨vl.1, fun y hy gy => ?_, ?_, ?_⟩, ⟨fun j hj => ?_, fun j h1 hj => ?_⟩, ⟨GO_up nm.1 hl, nm.2.1, nm.2.2⟩, fun d' j1 j hd hj => ?_, ?_⟩
  · obtain ⟨n1, n2, n3, n4, n5⟩ := vl.2.1 y hy gy
    refine ⟨n1, n2, ?_, n4, n5⟩
    show om.2.2.1.1 _ = rUp (fRe (x a e)) (fL (x a e)) N y.2.2.2
    rw [rUp_l (nm.1.2 y hy)]
    exact n3
  · obtain ⟨tt, t1, t2, t3, t4, t5, t6, t7, t8⟩ := vl.2.2.1
    refine ⟨tt, t1, t2, t3, t4, ?_, t6, t7, fun z => ?_⟩
    · show om.2.2.1.1 _ = rUp (fRe (x a e)) (fL (x a e)) N 0
      rw [rUp_l (Nat.zero_le _)]
      exact t5
    · show rUp (fRe (x a e)) (fL (x a e)) N 0 = _
      rw [rUp_l (Nat.zero_le _)]
      exact t8 z
  · have sv := vl.2.2.2
    rw [eS] at sv
    exact sVl_m S0 (sVl_app X S0 sv) (fun y j hy _ h => pEn_R h (rUp_l (pf y hy).2))
  · show rUp (fRe (x a e)) (fL (x a e)) N j ≠ 0 ∧ rUp (fRe (x a e)) (fL (x a e)) N j < N + lv' + 1 ∧ (if N ≤ rUp (fRe (x a e)) (fL (x a e)) N j then a else om.2.2.1.2.2.2.2 (rUp (fRe (x a e)) (fL (x a e)) N j)) = a
    have hj : j ≤ lv' := hj
    by_cases c : j ≤ fL (x a e)
    · rw [rUp_l c]
      obtain ⟨r1, r2, r3⟩ := rg.1 j (by omega)
      refine ⟨r1, by omega, ?_⟩
      rw [if_neg (by omega)]
      exact r3
    · have := gi.2.2.2.2
      rw [rUp_g (by omega), if_pos (by omega)]
      exact ⟨by omega, by omega, rfl⟩
  · show om.2.2.1.2.2.2.1 (rUp (fRe (x a e)) (fL (x a e)) N j) = 0
    by_cases c : j ≤ fL (x a e)
    · rw [rUp_l c]
      exact rg.2 j h1 (by omega)
    · rw [rUp_g (by omega)]
      by_cases z : om.2.2.1.2.2.2.1 (N + j) = 0
      · exact z
      · have := (gi.2.1.2.2 _ z).1
        omega
  · rw [xU_eq] at hj ⊢
    have hj : j ≤ lv' := hj
    show (rUp (fRe (x a e)) (fL (x a e)) N j ≠ fRe (xU x a e _ a d') j1 → ¬ inR om.2.2.1 (rUp (fRe (x a e)) (fL (x a e)) N j) (fRe (xU x a e _ a d') j1)) ∧ (1 ≤ j → rUp (fRe (x a e)) (fL (x a e)) N j ≠ fRe (xU x a e _ a d') j1)
    by_cases c : j ≤ fL (x a e)
    · have old : fRe (xU x a e (fMe (x a e), lv', fG (x a e), fGn (x a e), (t, false, fL (x a e)) :: S0, rUp (fRe (x a e)) (fL (x a e)) N, fBs (x a e), fQ (x a e)) a d') j1 = fRe (x a d') j1 ∧ ((d' < e ∧ j1 ≤ fL (x a d')) ∨ (d' = e ∧ j1 < j)) := by
        rcases hd with z | z
        · rw [xU_e (by omega)] at z ⊢
          exact ⟨rfl, Or.inl z⟩
        · rw [z.1, xU_eq]
          exact ⟨rUp_l (by omega), Or.inr ⟨rfl, z.2⟩⟩
      rw [old.1, rUp_l c]
      exact od d' j1 j old.2 (by omega)
    · rw [rUp_g (by omega)]
      have ne : N + j ≠ fRe (xU x a e (fMe (x a e), lv', fG (x a e), fGn (x a e), (t, false, fL (x a e)) :: S0, rUp (fRe (x a e)) (fL (x a e)) N, fBs (x a e), fQ (x a e)) a d') j1 := by
        rcases hd with z | z
        · rw [xU_e (by omega)] at z ⊢
          have := lt _ (Es d' j1 z.1 z.2)
          omega
        · rw [z.1, xU_eq]
          show N + j ≠ rUp (fRe (x a e)) (fL (x a e)) N j1
          by_cases c2 : j1 ≤ fL (x a e)
          · rw [rUp_l c2]
            have := lt _ (El j1 c2)
            omega
          · rw [rUp_g (by omega)]
            omega
      exact ⟨fun _ h2 => ne (in_fs2 gi (by omega) h2).symm, fun _ => ne⟩
  · rcases lk with ⟨h0, f1, f2, f3, f4⟩ | ⟨d', hd, lk⟩
    · left
      refine ⟨h0, ?_⟩
      unfold fB0
      subst h0
      rw [xU_eq]
      refine ⟨f1, f2, ?_, f4⟩
      show rUp (fRe (x a 0)) (fL (x a 0)) N 0 = om.2.2.2.2 a
      rw [rUp_l (Nat.zero_le _)]
      exact f3
    · right
      refine ⟨d', hd, ?_⟩
      subst hd
      unfold fLk
      rw [xU_eq, xU_e (by omega)]
      obtain ⟨t, le, S1, l1, l2, l3, l4, l5⟩ := lk
      refine ⟨t, le, S1, l1, l2, l3, l4, ?_⟩
      show (_ ∧ _ ∧ (rUp (fRe (x a (d' + 1))) (fL (x a (d' + 1))) N 0 = _ ∨ _)) ∨ _
      rcases l5 with ⟨m1, m2, m3⟩ | ⟨m1, m2, k, cp, m3, m4, m5, m6, m7, m8⟩
      · left
        rw [rUp_l (Nat.zero_le _)]
        exact ⟨m1, m2, m3⟩
      · right
        refine ⟨m1, m2, k, cp, m3, m4, m5, m6, m7, ?_⟩
        show ((_ ∧ rUp (fRe (x a (d' + 1))) (fL (x a (d' + 1))) N 0 = _) ∨ (om.2.2.1.2.2.2.1 (rUp (fRe (x a (d' + 1))) (fL (x a (d' + 1))) N 0) = 0 ∧ _ ∧ ∀ d'' j : Nat, d'' ≤ d' → j ≤ fL (xU x a (d' + 1) _ a d'') → fRe (xU x a (d' + 1) _ a d'') j ≠ rUp (fRe (x a (d' + 1))) (fL (x a (d' + 1))) N 0))
        rw [rUp_l (Nat.zero_le _)]
        rcases m8 with m8 | ⟨m8, m9, m10⟩
        · exact Or.inl m8
        · refine Or.inr ⟨m8, m9, fun d'' j h1 h2 => ?_⟩
          rw [xU_e (by omega)] at h2 ⊢
          exact m10 d'' j h1 h2
end CAL
