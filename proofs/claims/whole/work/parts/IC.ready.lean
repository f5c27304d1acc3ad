/-! A BODY IS READY FOR AN INSTRUCTION. -/
section RDY
variable {sB : rS} {A B : Nat → Int32} {mi : Nat → Nat × Nat × Nat × Nat × Nat} {kc : kCi} {om om' : oMg} {ka ka' : kAp} {la : lAy} {ms : mSg} {N N' cn : Nat} {sg sg' sg2 : cS} {s s' s2 : rS} {a b d e lo q0 J : Nat} {E P Qs : Nat → Prop} {x : Nat → Nat → fDs} {xb : Nat → fDs} {D : Nat → Nat} {S S0 X : List stE} {v : Int64}
theorem fVl_e {y : fDs} (h : fVl sB mi om ka sg s a d y S) (h8 : sg'.2.2.2.1 a 8 = sg.2.2.2.1 a 8) (h9 : sg'.2.2.2.1 a 9 = sg.2.2.2.1 a 9) (h12 : sg'.2.2.2.1 a 12 = sg.2.2.2.1 a 12) (h97 : s'.2.2 97 = s.2.2 97) (h100 : s'.2.2 100 = s.2.2 100) (h101 : s'.2.2 101 = s.2.2 101) : fVl sB mi om ka sg' s' a d y S := by
  obtain ⟨v1, v2, v3, v4⟩ := h
  refine ⟨by rw [h8]; exact v1, fun z hz gz => ?_, ?_, sVl_m S v4 (fun z j _ _ hp => ?_)⟩
  · have := v2 z hz gz
    unfold nAm at this ⊢
    rw [h12, h101]
    exact this
  · unfold tHs at v3 ⊢
    rw [h9, h100]
    exact v3
  · unfold pEn at hp ⊢
    rw [h12, h97]
    exact hp
theorem fOk_e (h : fOk sB A B mi om ka N sg s a xb d S) (h7 : sg'.2.2.2.1 = sg.2.2.2.1) (h99 : s'.2.1 99 = s.2.1 99) (h97 : s'.2.2 97 = s.2.2 97) (h100 : s'.2.2 100 = s.2.2 100) (h101 : s'.2.2 101 = s.2.2 101) : fOk sB A B mi om ka N sg' s' a xb d S := by
  obtain ⟨h1, h2, h3⟩ := h
  refine ⟨?_, fVl_e h2 (by rw [h7]) (by rw [h7]) (by rw [h7]) h97 h100 h101, h3⟩
  unfold fPt at h1 ⊢
  rw [h7, h99]
  exact h1
theorem aBd_e {D' : Nat} (h : aBd sB A B mi om ka N sg s a xb D') (h7 : sg'.2.2.2.1 = sg.2.2.2.1) (h13 : sg'.2.2.1 a 13 = sg.2.2.1 a 13) (hp : sg'.2.2.2.2 = sg.2.2.2.2) (h99 : s'.2.1 99 = s.2.1 99) (h93 : s'.2.1 93 a = s.2.1 93 a) (h97 : s'.2.2 97 = s.2.2 97) (h100 : s'.2.2 100 = s.2.2 100) (h101 : s'.2.2 101 = s.2.2 101) : aBd sB A B mi om ka N sg' s' a xb D' := by
  have so : ∀ ht, SOK sg a ht → SOK sg' a ht := fun ht h => by unfold SOK at h ⊢; rw [h13, hp]; exact h
  rcases h with ⟨h1, h2, h3⟩ | ⟨d0, h1, h2, h3, h4, h5, h6⟩
  · exact Or.inl ⟨h1, so _ h2, by rw [h93]; exact h3⟩
  · refine Or.inr ⟨d0, h1, h2, fun e he => ?_, fOk_e h4 h7 h99 h97 h100 h101, so _ h5, by rw [h93]; exact h6⟩
    obtain ⟨S0, t, z1, z2⟩ := h3 e he
    exact ⟨S0, t, z1, fOk_e z2 h7 h99 h97 h100 h101⟩
/-- an instruction is counted -/
theorem wAl_c (w : wAl sB kc om ka la ms N cn sg s D) (ac : a < ka.2.2.2) : wAl sB kc om ka la ms N cn (sCn sg a) (sDn s a) D := by
  obtain ⟨⟨x1, x2⟩, gi, wn, wo, wd, wa⟩ := w
  have g1 : ∀ j, j ≠ 11 → (sCn sg a).1 j = sg.1 j := fun j hj => upd_ne' (g := sg.1) hj
  have g11 : (sCn sg a).1 11 = sg.1 11 + 1 := upd_eq' (g := sg.1) (i := 11) (v := sg.1 11 + 1)
  have s1 : ∀ j, j ≠ 80 → (sDn s a).1 j = s.1 j := fun j hj => upd_ne' (g := s.1) hj
  have s80 : (sDn s a).1 80 = s.1 80 + 1 := upd_eq' (g := s.1) (i := 80) (v := s.1 80 + 1)
  have g3 : ∀ b j, j ≠ 5 ∨ b ≠ a → (sCn sg a).2.2.1 b j = sg.2.2.1 b j := fun b j h => sA_ne (sg := sXc sg 11 (sg.1 11 + 1)) h
  have g5 : (sCn sg a).2.2.1 a 5 = sg.2.2.1 a 5 + 1 := sA_at (sg := sXc sg 11 (sg.1 11 + 1))
  have rr : ∀ p i, p ≠ 90 ∨ i ≠ a → (sDn s a).2.1 p i = s.2.1 p i := fun p i h => by
    show (rs_wA (rs_w s 80 (s.1 80 + 1)) 90 a (s.2.1 90 a + 1)).2.1 p i = _
    rw [wA_get, if_neg (by omega)]
    rfl
  have r90 : (sDn s a).2.1 90 a = s.2.1 90 a + 1 := by
    show (rs_wA (rs_w s 80 (s.1 80 + 1)) 90 a (s.2.1 90 a + 1)).2.1 90 a = _
    rw [wA_get, if_pos ⟨rfl, rfl⟩]
  refine ⟨⟨fun p hp => ?_, x2⟩, gi, ?_, fun o h1 h2 => ?_, wd, fun b hb => ?_⟩
  · funext i; rw [rr p i (by omega), x1 p hp]
  · obtain ⟨clm, mb, tn, n1, n2, n3, n4, n5, n6, n7, ⟨n8, n8b, n8c, n8d⟩, n9, n10⟩ := wn
    unfold wNm
    rw [g11, s80, g1 5 (by decide), g1 6 (by decide), g1 8 (by decide), g1 9 (by decide), g1 10 (by decide), g1 12 (by decide), g1 13 (by decide), g1 14 (by decide), g1 15 (by decide), s1 78 (by decide), s1 79 (by decide), s1 75 (by decide), s1 76 (by decide), s1 77 (by decide), s1 87 (by decide), s1 81 (by decide), s1 82 (by decide), s1 83 (by decide), s1 84 (by decide), s1 74 (by decide)]
    exact ⟨clm, mb, tn, n1, n2, n3, n4, n5, n6, by rw [n7], ⟨n8, n8b, n8c, fun i h1 h2 => by rw [rr 108 i (Or.inl (by decide)), rr 109 i (Or.inl (by decide))]; exact n8d i h1 h2⟩, n9, n10.1, n10.2.1, fun b h1 h2 => by rw [g3 b 0 (Or.inl (by decide))]; exact n10.2.2 b h1 h2⟩
  · have := wo o h1 h2
    unfold wO1 at this ⊢
    rw [rr 87 o (Or.inl (by decide)), rr 88 o (Or.inl (by decide))]
    exact this
  · obtain ⟨k1, k2, k3⟩ := wa b hb
    refine ⟨k1, ?_, ?_⟩
    · obtain ⟨⟨a1, a2, a3⟩, ⟨a4, a5⟩, ⟨a6, a7⟩, ⟨a8, a9⟩, a10, a11, a14⟩ := k2
      refine ⟨⟨by rw [g3 b 0 (Or.inl (by decide))]; exact a1, a2, a3⟩, ⟨by rw [g3 b 2 (Or.inl (by decide))]; exact a4, by rw [rr 89 b (Or.inl (by decide))]; exact a5⟩, ⟨by rw [g3 b 3 (Or.inl (by decide))]; exact a6, by rw [rr 92 b (Or.inl (by decide))]; exact a7⟩, ⟨?_, by rw [g3 b 6 (Or.inl (by decide)), rr 91 b (Or.inl (by decide))]; exact a9⟩, a10, a11, a14⟩
      by_cases c : b = a
      · rw [c, g5, r90]
        rw [c] at a8
        rw [a8]
      · rw [g3 b 5 (Or.inr c), rr 90 b (Or.inr c)]; exact a8
    · obtain ⟨⟨m1, m2, m3⟩, ⟨m4, m5⟩, m6, m7, m8⟩ := k3
      refine ⟨⟨m1, by rw [g3 b 4 (Or.inl (by decide))]; exact m2, by rw [rr 94 b (Or.inl (by decide))]; exact m3⟩, ⟨m4, by rw [g3 b 11 (Or.inl (by decide))]; exact m5⟩, fun k hk => ?_, m7, fun j hj hz => by rw [rr 104 _ (Or.inl (by decide))]; exact m8 j hj hz⟩
      obtain ⟨p1, p2, p3, ⟨p4, p5, p6⟩, p9, p10, p12, p13⟩ := m6 k hk
      exact ⟨p1, by rw [rr 102 _ (Or.inl (by decide))]; exact p2, by rw [rr 104 _ (Or.inl (by decide))]; exact p3, ⟨p4, by rw [rr 103 _ (Or.inl (by decide))]; exact p5, p6⟩, p9, p10, p12, fun o h1 h2 => by rw [rr 105 _ (Or.inl (by decide))]; exact p13 o h1 h2⟩
theorem kRf_r : kRf a d q0 s s := ⟨rfl, fun _ _ _ _ => rfl, fun _ _ _ _ => rfl⟩
/-- READY -/
theorem it_of (ru : rUn sB A B mi kc om ka la ms N cn sg s D x) (ac : a < ka.2.2.2) (hD : D a = d + 1) : ∃ p q b j : Nat, PJ A B j b p ∧ PT sB A B (fMe (x a d)) (mi (fMe (x a d))).1 (mi (fMe (x a d))).2.1 (mi (fMe (x a d))).2.2.1 p q (fL (x a d)) (fG (x a d)) (fGn (x a d)) (fSt (x a d)) ∧ sg.2.2.2.1 a 7 d = Int32.ofNat b ∧ s.2.1 99 (10 * a + d) = Int32.ofNat q ∧ q < 4400 ∧ iTm sB A B mi kc om ka la ms N cn (sI1 sg a d p) (sDn s a) D x a d := by
  obtain ⟨w, bd⟩ := ru
  have wc := wAl_c w ac
  have ac12 : ka.2.2.2 ≤ 12 := by obtain ⟨_, _, ⟨_, _, _, _, _, ⟨_, _, z⟩, _⟩, _⟩ := w; exact z
  have bc : ∀ b, b < ka.2.2.2 → aBd sB A B mi om ka N (sCn sg a) (sDn s a) b (x b) (D b) := fun b hb => aBd_e (bd b hb) rfl (sA_ne (sg := sXc sg 11 (sg.1 11 + 1)) (Or.inl (by decide))) rfl (by
    funext i
    show (rs_wA (rs_w s 80 (s.1 80 + 1)) 90 a (s.2.1 90 a + 1)).2.1 99 i = _
    rw [wA_get, if_neg (by omega)]
    rfl) (by
    show (rs_wA (rs_w s 80 (s.1 80 + 1)) 90 a (s.2.1 90 a + 1)).2.1 93 b = _
    rw [wA_get, if_neg (by omega)]
    rfl) rfl rfl rfl
  have ba := bd a ac
  rcases ba with ⟨z, _⟩ | ⟨d0, h1, h2, _, ⟨⟨p, q, b, j, z1, z2, z3, z4, z5, z6, z7, z8⟩, _⟩, _⟩
  · omega
  have e0 : d0 = d := by omega
  subst e0
  refine ⟨p, q, b, j, z1, z2, z3, z4, z5, ?_⟩
  rcases bc a ac with ⟨z, _⟩ | ⟨d1, g1, g2, g3, g4, g5, g6⟩
  · omega
  have e1 : d1 = d0 := by omega
  subst e1
  have lay : d1 = 0 ∨ ∃ d', d1 = d' + 1 ∧ fLk sB mi om.2.2.1 (x a) d' := by
    rcases g4.2.2.2.2.2 with z | z
    · exact Or.inl z.1
    · exact Or.inr z
  have cl : ∀ lo, kCl a d1 lo (sCn sg a) (sI1 sg a d1 p) := fun lo => kCl_7
  have ne : ∀ j, j ≠ 7 → (sI1 sg a d1 p).2.2.2.1 a j = (sCn sg a).2.2.2.1 a j := fun j hj => if_neg (fun z => hj z.2)
  refine ⟨wAl_k (E := fun _ => True) (q0 := 0) wc (cl 0) kRf_r (fun _ _ => ⟨rfl, rfl⟩) rSt_r (fun _ _ => trivial) trivial (by omega) w.2.1 (Nat.le_refl _) rfl, fun b hb hne => aBd_o (E := fun _ => True) (q0 := 0) w.2.1 (bc b hb) hne (by omega) hb (cl 0) kRf_r (fun _ _ _ => ⟨rfl, rfl⟩) rSt_r (fun _ _ => trivial) (Nat.le_refl _) rfl g2, fSu_k (E := fun _ => True) g3 (by omega) ac lay (cl _) kRf_r (fun _ _ _ => ⟨rfl, rfl⟩) rSt_r (fun _ _ _ _ => trivial) (Nat.le_refl _) (knK_of (fun _ h => h)) rfl g2, ⟨hD, ac, g2⟩, fVl_e g4.2.1 (ne 8 (by decide)) (ne 9 (by decide)) (ne 12 (by decide)) rfl rfl rfl, g4.2.2.1, g4.2.2.2.1, g4.2.2.2.2.1, g4.2.2.2.2.2, g5, g6, z6, z7, z8⟩
end RDY
