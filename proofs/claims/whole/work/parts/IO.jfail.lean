/-! WITHIN AN INSTRUCTION: values are taken from the stack; an instruction fails. -/
section JIT
variable {sB : rS} {A B : Nat → Int32} {mi : Nat → Nat × Nat × Nat × Nat × Nat} {kc : kCi} {om om' : oMg} {ka ka' : kAp} {la : lAy} {ms : mSg} {N N' cn : Nat} {sg sg' sg2 : cS} {s s' s2 S1 : rS} {a b d e lo q0 J l t r i n p q k k2 f0 w P L sz lv : Nat} {xs : Nat → Int32} {zf : Value} {Z : Nat → Prop} {hB h h' : rm_H} {es : List Nat} {x : Nat → Nat → fDs} {D : Nat → Nat} {S S0 X : List stE} {v : Int64} {y : Int32}
variable {E Pq Qs : Nat → Prop}
theorem it_mv {gn' : Int32} (it : iTm sB A B mi kc om ka la ms N cn sg s D x a d) (cl : kCl a d (fBs (x a d)) sg sg') (rf : kRf a d (fQ (x a d)) s s') (ch : ∀ l, ¬ cHg a d (fQ (x a d)) l → om'.1 l = om.1 l ∧ om'.2.1 l = om.2.1 l) (st : rSt a a (eLr om N a d (fL (x a d)) (x a)) (cHg a d (fQ (x a d))) om.2.2.1 om'.2.2.1) (gi' : GI ka.2.2.1 N om'.1 om'.2.1 om'.2.2.1) (eK : om'.2.2.2 = om.2.2.2)
    (nms : ∀ y ∈ fG (x a d), gn' &&& bt y.2.1 = 0 → nAm om' ka sg' s' a (10 * a + d) (fBs (x a d)) (fRe (x a d)) y) (ths : tHs sB om' ka sg' s' a d (fMe (x a d)) (fRe (x a d))) (svl : sVl (pEn om' ka sg' s' a (fBs (x a d) + (mi (fMe (x a d))).2.2.2.2) (fQ (x a d)) (fRe (x a d))) S0) (so : SOK sg' a (fBs (x a d) + (mi (fMe (x a d))).2.2.2.2 + S0.length)) (r93 : s'.2.1 93 a = Int32.ofNat (fQ (x a d) + S0.length)) (len : S0.length ≤ 1010) :
    iTm sB A B mi kc om' ka la ms N cn sg' s' D (xU x a d (fMe (x a d), fL (x a d), fG (x a d), gn', S0, fRe (x a d), fBs (x a d), fQ (x a d))) a d := by
  have it0 := it
  obtain ⟨w, bo, su, ⟨hD, ac, d10⟩, vl, rg, nm, od, lk, _, _, b1, b2, b3⟩ := it0
  have ac12 : ka.2.2.2 ≤ 12 := by obtain ⟨_, _, ⟨_, _, _, _, _, ⟨_, _, z⟩, _⟩, _⟩ := w; exact z
  have El : ∀ j, j ≤ fL (x a d) → eLr om N a d (fL (x a d)) (x a) (fRe (x a d) j) := fun j hj => eL_R hj
  have Es : ∀ e j, e < d → j ≤ fL (x a e) → eLr om N a d (fL (x a d)) (x a) (fRe (x a e) j) := fun e j h1 h2 => Or.inr (Or.inr ⟨e, j, Or.inl ⟨h1, h2⟩, rfl⟩)
  have hE : ∀ y, y = 0 ∨ (y < N ∧ om.2.2.1.2.2.2.2 y ≠ a) → eLr om N a d (fL (x a d)) (x a) y := fun y hy => by
    rcases hy with z | z
    · exact Or.inl z
    · exact Or.inr (Or.inl z)
  have lay : d = 0 ∨ ∃ d', d = d' + 1 ∧ fLk sB mi om.2.2.1 (x a) d' := by
    rcases lk with z | z
    · exact Or.inl z.1
    · exact Or.inr z
  have su' := fSu_k su (by omega) ac lay cl rf (fun l h _ => ch l h) st Es (Nat.le_refl N) (knK_of (fun o ho => by rw [eK]; exact ho)) (by rw [eK]) d10
  unfold iTm
  rw [xU_eq]
  refine ⟨wAl_k w cl rf ch st hE (eL_m it) (by omega) gi' (Nat.le_refl N) eK, fun b hb hne => ?_, fSu_x su' (fun e he => xU_e (by omega)), ⟨hD, ac, d10⟩, ⟨?_, nms, ths, svl⟩, ⟨fun j hj => ?_, fun j h1 hj => ?_⟩, nm, fun d' j1 j hd hj => ?_, ?_, so, r93, b1, b2, len⟩
  · rw [xU_b hne]
    exact aBd_o w.2.1 (bo b hb hne) hne (by omega) hb cl rf (fun l h _ => ch l h) st hE (Nat.le_refl N) eK d10
  · rw [cl.2.2.2.1 a 8 (Or.inr (by decide))]; exact vl.1
  · obtain ⟨r1, r2, r3⟩ := rg.1 j hj
    exact ⟨r1, r2, by rw [(st.1 _ (El j hj)).2.1]; exact r3⟩
  · rw [(st.1 _ (El j hj)).1]; exact rg.2 j h1 hj
  · rw [xU_eq] at hj ⊢
    have old : fRe (xU x a d (fMe (x a d), fL (x a d), fG (x a d), gn', S0, fRe (x a d), fBs (x a d), fQ (x a d)) a d') j1 = fRe (x a d') j1 ∧ ((d' < d ∧ j1 ≤ fL (x a d')) ∨ (d' = d ∧ j1 < j)) := by
      rcases hd with z | z
      · rw [xU_e (by omega)] at z ⊢
        exact ⟨rfl, Or.inl z⟩
      · rw [z.1, xU_eq]
        exact ⟨rfl, Or.inr ⟨rfl, z.2⟩⟩
    rw [old.1]
    obtain ⟨o1, o2⟩ := od d' j1 j old.2 hj
    refine ⟨fun h1 h2 => o1 h1 ?_, o2⟩
    have Ed : eLr om N a d (fL (x a d)) (x a) (fRe (x a d') j1) := by
      rcases old.2 with z | z
      · exact Es d' j1 z.1 z.2
      · have hj : j ≤ fL (x a d) := hj
        rw [z.1]; exact El j1 (by omega)
    exact ((st.1 _ Ed).2.2.2 _).mp h2
  · rcases lk with ⟨h0, f1, f2, f3, f4⟩ | ⟨d', hd, lk⟩
    · left
      refine ⟨h0, ?_⟩
      unfold fB0
      subst h0
      rw [xU_eq]
      exact ⟨f1, f2, by rw [eK]; exact f3, f4⟩
    · right
      refine ⟨d', hd, ?_⟩
      subst hd
      unfold fLk
      rw [xU_eq, xU_e (by omega)]
      obtain ⟨t, le, S1, l1, l2, l3, l4, l5⟩ := lk
      refine ⟨t, le, S1, l1, l2, l3, l4, ?_⟩
      rcases l5 with l5 | ⟨m1, m2, k, cp, m3, m4, m5, m6, m7, m8⟩
      · exact Or.inl l5
      · right
        refine ⟨m1, m2, k, cp, m3, m4, m5, m6, m7, ?_⟩
        rcases m8 with m8 | ⟨m8, m9, m10⟩
        · exact Or.inl m8
        · refine Or.inr ⟨?_, m9, fun d'' j h1 h2 => ?_⟩
          · show om'.2.2.1.2.2.2.1 (fRe (x a (d' + 1)) 0) = 0
            rw [(st.1 _ (El 0 (Nat.zero_le _))).1]; exact m8
          · rw [xU_e (by omega)] at h2 ⊢
            exact m10 d'' j h1 h2
/-- what the class does when an instruction fails -/
def sFc (sg : cS) (a : Nat) (why : Int32) : cS := sA' (sA' (sA' (sXc sg 15 (sg.1 15 + 1)) a 6 why) a 3 0) a 13 0
/-- AN INSTRUCTION FAILS -/
theorem J_fl {why : Int32} (it : iTm sB A B mi kc om ka la ms N cn sg s D x a d) : rUn sB A B mi kc om ka la ms N cn (sFc sg a why) (sFl s a why) (fun b => if b = a then 0 else D b) x := by
  obtain ⟨w, bo, su, ⟨hD, ac, d10⟩, vl, rg, nm, od, lk, so, _⟩ := it
  obtain ⟨⟨x1, x2⟩, gi, ⟨clm, mb, tn, ⟨n1, n1b⟩, ⟨n2, n2b⟩, ⟨n3, n3b⟩, ⟨n4, n4b⟩, ⟨n5, n5b⟩, ⟨n6, n6b⟩, n7, ⟨n8, n8b, n8c, n8d⟩, ⟨n9, n9b, n9c⟩, n10, n11⟩, wo, wd, wa⟩ := w
  have c1 : ∀ {j}, j ≠ 15 → (sFc sg a why).1 j = sg.1 j := fun h => upd_ne' (g := sg.1) h
  have c15 : (sFc sg a why).1 15 = sg.1 15 + 1 := upd_eq' (g := sg.1) (i := 15) (v := sg.1 15 + 1)
  have c2 : ∀ {j}, j ≠ 84 → (sFl s a why).1 j = s.1 j := fun h => upd_ne' (g := s.1) h
  have c84 : (sFl s a why).1 84 = s.1 84 + 1 := upd_eq' (g := s.1) (i := 84) (v := s.1 84 + 1)
  have g3 : ∀ b j, b ≠ a ∨ (j ≠ 6 ∧ j ≠ 3 ∧ j ≠ 13) → (sFc sg a why).2.2.1 b j = sg.2.2.1 b j := by
    intro b j h
    show (sA' (sA' (sA' (sXc sg 15 (sg.1 15 + 1)) a 6 why) a 3 0) a 13 0).2.2.1 b j = _
    rw [sA_ne (by omega), sA_ne (by omega), sA_ne (by omega)]
    rfl
  have rr : ∀ p i, i ≠ a ∨ (p ≠ 91 ∧ p ≠ 92 ∧ p ≠ 93) → (sFl s a why).2.1 p i = s.2.1 p i := by
    intro p i h
    show (rs_wA (rs_wA (rs_wA (rs_w s 84 (s.1 84 + 1)) 91 a why) 92 a 0) 93 a 0).2.1 p i = _
    rw [wA_get, if_neg (by omega), wA_get, if_neg (by omega), wA_get, if_neg (by omega)]
    rfl
  have r91 : (sFl s a why).2.1 91 a = why := by
    show (rs_wA (rs_wA (rs_wA (rs_w s 84 (s.1 84 + 1)) 91 a why) 92 a 0) 93 a 0).2.1 91 a = _
    rw [wA_get, if_neg (by omega), wA_get, if_neg (by omega), wA_get, if_pos ⟨rfl, rfl⟩]
  have r92 : (sFl s a why).2.1 92 a = 0 := by
    show (rs_wA (rs_wA (rs_wA (rs_w s 84 (s.1 84 + 1)) 91 a why) 92 a 0) 93 a 0).2.1 92 a = _
    rw [wA_get, if_neg (by omega), wA_get, if_pos ⟨rfl, rfl⟩]
  have r93 : (sFl s a why).2.1 93 a = 0 := by
    show (rs_wA (rs_wA (rs_wA (rs_w s 84 (s.1 84 + 1)) 91 a why) 92 a 0) 93 a 0).2.1 93 a = _
    rw [wA_get, if_pos ⟨rfl, rfl⟩]
  have g6 : (sFc sg a why).2.2.1 a 6 = why := by
    show (sA' (sA' (sA' (sXc sg 15 (sg.1 15 + 1)) a 6 why) a 3 0) a 13 0).2.2.1 a 6 = _
    rw [sA_ne (Or.inl (by decide)), sA_ne (Or.inl (by decide)), sA_at]
  have g33 : (sFc sg a why).2.2.1 a 3 = 0 := by
    show (sA' (sA' (sA' (sXc sg 15 (sg.1 15 + 1)) a 6 why) a 3 0) a 13 0).2.2.1 a 3 = _
    rw [sA_ne (Or.inl (by decide)), sA_at]
  have g13 : (sFc sg a why).2.2.1 a 13 = 0 := sA_at
  refine ⟨⟨⟨fun p hp => ?_, x2⟩, gi, ⟨clm, mb, tn, ⟨?_, ?_⟩, ⟨?_, ?_⟩, ⟨?_, ?_⟩, ⟨?_, ?_⟩, ⟨?_, ?_⟩, ⟨?_, n6b⟩, ?_, ⟨?_, ?_, n8c, fun i h1 h2 => ?_⟩, ⟨?_, ?_, ?_⟩, ?_, n11.1, fun b h1 h2 => by rw [g3 b 0 (Or.inr (by decide))]; exact n11.2 b h1 h2⟩, fun o h1 h2 => ?_, wd, fun b hb => ?_⟩, fun b hb => ?_⟩
  · funext i; rw [rr p i (by omega), x1 p hp]
  · rw [c1 (by decide)]; exact n1
  · rw [c2 (by decide)]; exact n1b
  · rw [c1 (by decide)]; exact n2
  · rw [c2 (by decide)]; exact n2b
  · rw [c1 (by decide)]; exact n3
  · rw [c2 (by decide)]; exact n3b
  · rw [c1 (by decide)]; exact n4
  · rw [c2 (by decide)]; exact n4b
  · rw [c1 (by decide)]; exact n5
  · rw [c2 (by decide)]; exact n5b
  · rw [c2 (by decide)]; exact n6
  · rw [c1 (by decide), c2 (by decide)]; exact n7
  · rw [c1 (by decide)]; exact n8
  · rw [c2 (by decide)]; exact n8b
  · rw [rr 108 i (by omega), rr 109 i (by omega)]; exact n8d i h1 h2
  · rw [c1 (by decide), c2 (by decide)]; exact n9
  · rw [c1 (by decide), c2 (by decide)]; exact n9b
  · rw [c15, c84, n9c]
  · rw [c2 (by decide)]; exact n10
  · have := wo o h1 h2
    unfold wO1 at this ⊢
    rw [rr 87 o (by omega), rr 88 o (by omega)]
    exact this
  · obtain ⟨k1, k2, k3⟩ := wa b hb
    refine ⟨k1, ?_, ?_⟩
    · obtain ⟨⟨a1, a2⟩, ⟨a4, a5⟩, ⟨a6, a7⟩, ⟨a8, a9⟩, a10⟩ := k2
      refine ⟨⟨by rw [g3 b 0 (by omega)]; exact a1, a2⟩, ⟨by rw [g3 b 2 (by omega)]; exact a4, by rw [rr 89 b (by omega)]; exact a5⟩, ?_, ⟨by rw [g3 b 5 (by omega), rr 90 b (by omega)]; exact a8, ?_⟩, a10⟩
      · show (sFc sg a why).2.2.1 b 3 = Int32.ofNat (if b = a then 0 else D b) ∧ (sFl s a why).2.1 92 b = Int32.ofNat (if b = a then 0 else D b)
        by_cases c : b = a
        · rw [if_pos c, c, g33, r92]; exact ⟨rfl, rfl⟩
        · rw [if_neg c, g3 b 3 (Or.inl c), rr 92 b (Or.inl c)]; exact ⟨a6, a7⟩
      · by_cases c : b = a
        · rw [c, g6, r91]
        · rw [g3 b 6 (Or.inl c), rr 91 b (Or.inl c)]; exact a9
    · obtain ⟨⟨m1, m2, m3⟩, ⟨m4, m5⟩, m6, m7, m8⟩ := k3
      refine ⟨⟨m1, by rw [g3 b 4 (by omega)]; exact m2, by rw [rr 94 b (by omega)]; exact m3⟩, ⟨m4, by rw [g3 b 11 (by omega)]; exact m5⟩, fun k hk => ?_, m7, fun j hj hz => by rw [rr 104 _ (by omega)]; exact m8 j hj hz⟩
      obtain ⟨p1, p2, p3, ⟨p4, p5, p6⟩, p9, p10, p12, p13⟩ := m6 k hk
      exact ⟨p1, by rw [rr 102 _ (by omega)]; exact p2, by rw [rr 104 _ (by omega)]; exact p3, ⟨p4, by rw [rr 103 _ (by omega)]; exact p5, p6⟩, p9, p10, p12, fun o h1 h2 => by rw [rr 105 _ (by omega)]; exact p13 o h1 h2⟩
  · show aBd sB A B mi om ka N (sFc sg a why) (sFl s a why) b (x b) (if b = a then 0 else D b)
    by_cases c : b = a
    · rw [c, if_pos rfl]
      exact Or.inl ⟨rfl, ⟨g13, Nat.zero_le _, so.2.2.1, so.2.2.2⟩, r93⟩
    · rw [if_neg c]
      exact aBd_e (bo b hb c) rfl (g3 b 13 (Or.inl c)) rfl (by funext i; exact rr 99 i (by omega)) (rr 93 b (Or.inl c)) rfl rfl rfl
end JIT
