/-! A FIELD IS READ BY BOTH. -/
section JFD
variable {sB : rS} {A B : Nat → Int32} {mi : Nat → Nat × Nat × Nat × Nat × Nat} {kc : kCi} {om om' : oMg} {ka ka' : kAp} {la : lAy} {ms : mSg} {N N' cn : Nat} {sg sg' sg2 : cS} {s s' s2 S1 : rS} {a b d e lo q0 J l t r i n p q k k2 f0 w P L sz lv : Nat} {xs : Nat → Int32} {zf : Value} {Z : Nat → Prop} {hB h h' : rm_H} {es : List Nat} {x : Nat → Nat → fDs} {D : Nat → Nat} {S S0 X : List stE} {v : Int64} {y : Int32}
variable {c c' o f tf tl : Nat}
/-- it fails -/
theorem jEx_f {sg1 : cS} {h' : rm_H} {S' : rS} {why : Int32} {D' : Nat → Nat} (hd : dM L xs zf w (k + 12) 251 [.ref 24, .ref (sg.2.2.2.2 a 0), .int (Int32.ofNat p)] h = some (none, h')) (hr : rM w (k2 + 12) 388 [.ref 36, .int (Int32.ofNat a), .int (Int32.ofNat (10 * a + d)), .int (Int32.ofNat q)] s = some (some (.int why), S')) (hw0 : why ≠ 0) (rh : RH (.ref P) n (sFc sg1 a why) Z hB h') (hn : ka.2.2.2 ≤ n) (ac : a < ka.2.2.2) (ru : rUn sB A B mi kc om' ka la ms N' cn (sFc sg1 a why) (sFl S' a why) D' x) (e0 : sg1.2.2.2.2 a 0 = sg.2.2.2.2 a 0) (e13 : ∀ b, sg1.2.2.2.2 b 13 = sg.2.2.2.2 b 13) (l1 : h'.length = h.length) (z1 : zh h' = zh h) : jEx sB A B mi kc L xs zf w P Z hB k k2 n cn a d p q sg h s :=
  ⟨h', n, _, S', why, om', ka, la, ms, N', D', x, hd, hr, rh, ⟨hn, Nat.le_refl _⟩, by rw [if_neg hw0]; exact rUn_cn ru, e0, ac, cNt_of (CST_0 e13 l1 z1)⟩
theorem sPo_13 {ht : Nat} : ∀ b, (sPo sg a ht).2.2.2.2 b 13 = sg.2.2.2.2 b 13 := fun b => by
  by_cases e : b = a
  · rw [e, sQ_c]
  · exact sQ_P (Or.inr e)
/-- the type that is seen -/
theorem bhT_c (hb : bhT 4 c tf t) (ot : isO tf = true) : ∃ c', c' < 5 ∧ lkV 4 (Int32.ofNat c) (Int32.ofNat (tf % 8)) = Int32.ofNat c' ∧ t = tf - tf % 8 + c' := by
  unfold bhT at hb
  rw [if_pos ot] at hb
  exact hb
theorem bhT_v {a2 : Nat} (hb : bhT 4 c tf t) (dt : dTy tf = true) (h : vTy ka a2 tf v) : vTy ka a t v ∧ gTy t = true ∧ ¬ (8 ≤ t ∧ t % 8 = 6) := by
  have dc := dTy_c dt
  rw [gTy_c]
  by_cases ot : isO tf = true
  · obtain ⟨c', c5, _, et⟩ := bhT_c hb ot
    have tc := isO_c ot
    have : t % 8 = c' ∧ t / 8 = tf / 8 := by omega
    refine ⟨?_, by omega, by omega⟩
    rcases h with h | h | h | h | h
    · omega
    · omega
    · refine Or.inr (Or.inr (Or.inl ⟨by omega, by omega, ?_⟩))
      rcases h.2.2 with y | ⟨o, o1, o2, o3, o4⟩
      · exact Or.inl y
      · exact Or.inr ⟨o, o1, o2, o3, by rw [this.2]; exact o4⟩
    · omega
    · omega
  · unfold bhT at hb
    rw [if_neg ot] at hb
    rw [hb]
    have no : ¬ (8 ≤ tf ∧ tf % 8 < 5) := fun z => ot (isO_n z)
    refine ⟨?_, by omega, by omega⟩
    rcases h with h | h | h | h | h
    · exact Or.inl h
    · exact Or.inr (Or.inl h)
    · omega
    · exact Or.inr (Or.inr (Or.inr (Or.inl h)))
    · omega
/-- THE FIELD'S VALUE IS PUSHED: owner and value popped already -/
theorem J_10p {z c1 : Nat} {g1 : Nat → Int32} (it : iTm sB A B mi kc om ka la ms N cn sg s D x a d) (q4 : q < 4400) (eK : sB.2.1 44 q = Int32.ofNat 10) (ec : EC sB A B (fMe (x a d)) (mi (fMe (x a d))).1 (mi (fMe (x a d))).2.1 (mi (fMe (x a d))).2.2.1 q (p + 1) (fL (x a d)) (fG (x a d)) (fGn (x a d)) t (fSt (x a d))) (n7 : sg.2.2.2.1 a 7 d = Int32.ofNat (p + 1)) (gt : gTy t = true) (t6 : ¬ (8 ≤ t ∧ t % 8 = 6)) (val : vAl om ka a t v) (rgt : oV v ≠ 0 → (2 ≤ t % 8 → rg_ok om.2.2.1.2.1 om.2.2.1.2.2.1 om.2.2.1.2.2.2.1 (fRe (x a d) (fL (x a d))) (t % 8) (oV v)) ∧ (t % 8 ≤ 1 → sEe om a t (fRe (x a d) (fL (x a d))) (oV v))) (stn : STN sg a (fBs (x a d) + (mi (fMe (x a d))).2.2.2.2 + (fSt (x a d)).length) z c1 g1 (fBs (x a d) + (mi (fMe (x a d))).2.2.2.2 + (fSt (x a d)).length + 1)) (ff : g1 (fBs (x a d) + (mi (fMe (x a d))).2.2.2.2 + (fSt (x a d)).length) = cvl v) : ∃ q', bhd sB 1 q q' ∧ ∃ om' N' x', rUn sB A B mi kc om' ka la ms N' cn (sQ sg a z c1 g1 (fBs (x a d) + (mi (fMe (x a d))).2.2.2.2 + (fSt (x a d)).length + 1)) (rs_wA (sPsh s a (fQ (x a d) + (fSt (x a d)).length) v) 99 (10 * a + d) (Int32.ofNat q')) D x' := by
  have pl : isPl (sB.2.1 44 q) = true := by rw [eK]; rfl
  exact J_psh (S1 := s) (X := []) it rfl gl_r q4 ec gt (fun h1 h2 => absurd ⟨h1, h2⟩ t6) val (fun o0 => ⟨(rgt o0).1, fun z => ⟨pl, (rgt o0).2 z⟩⟩) stn ff n7 (Or.inl rfl)
/-- what holds the owner of the field, when it has been popped -/
theorem hLd_of {pl : Bool} (it : iTm sB A B mi kc om ka la ms N cn sg s D x a d) (eS : fSt (x a d) = (tl, pl, fL (x a d)) :: S0) (pf : eLv (fL (x a d)) S0) (ot : isO tl = true) (ho : oV (om.1 (pS a (fQ (x a d) + S0.length))) = o) (o1 : o ≠ 0) : ∃ om1 : oMg, iTm sB A B mi kc om1 ka la ms N cn (sPo sg a (fBs (x a d) + (mi (fMe (x a d))).2.2.2.2 + S0.length)) (rs_wA s 93 a (Int32.ofNat (fQ (x a d) + S0.length))) D (xU x a d (fMe (x a d), fL (x a d), fG (x a d), fGn (x a d), S0, fRe (x a d), fBs (x a d), fQ (x a d))) a d ∧ hLd om1 a (tl % 8) o (fRe (x a d) (fL (x a d))) ∧ (∀ l, l ≠ pH (120 + a) → l ≠ pS a (fQ (x a d) + S0.length) → om1.1 l = om.1 l ∧ om1.2.1 l = om.2.1 l) ∧ om1.2.2.2 = om.2.2.2 := by
  obtain ⟨⟨a12, d10, u1, u2, u3, u4⟩, rq, fx, b3, r92, b8, gi, rl, ob4⟩ := it_f it
  have it0 := it
  obtain ⟨wl, _, _, ⟨_, ac, _⟩, vl, rg, nm, _, _, so, r93, _⟩ := it0
  have tc := isO_c ot
  have top := vl.2.2.2
  rw [eS] at top
  obtain ⟨⟨p1, p2, p3, p4, p5, p6⟩, _⟩ := top
  rcases p4 with ⟨hT, hr⟩ | ⟨z1, z2, z3, z4, z5⟩
  · have hT : om.2.1 (pS a (fQ (x a d) + S0.length)) = tl := hT
    have hr := hr (by omega)
    by_cases c1 : tl % 8 ≤ 1
    · obtain ⟨g', it1, i2⟩ := it_sav it eS pf (by omega) hT hr (Or.inr (by omega))
      refine ⟨_, it1, ?_, fun l h1 h2 => ⟨wU_ne h1, ?_⟩, rfl⟩
      · have gi1 := (it_f it1).2.2.2.2.2.2.1
        have eW : wU om.1 (pH (120 + a)) (om.1 (pS a (fQ (x a d) + S0.length))) (pH (120 + a)) = om.1 (pS a (fQ (x a d) + S0.length)) := wU_eq
        have lof : lOf a (pH (120 + a)) := Or.inr (Or.inr (Or.inr ⟨by unfold pH; omega, Or.inr rfl⟩))
        have se := see_pl (om := (wU om.1 (pH (120 + a)) (om.1 (pS a (fQ (x a d) + S0.length))), rg_up (rg_up om.2.1 (pS a (fQ (x a d) + S0.length)) 0) (pH (120 + a)) tl, g', om.2.2.2)) (l := pH (120 + a)) (t := tl) (r := fRe (x a d) (fL (x a d))) gi1 lof (by show oV (wU om.1 (pH (120 + a)) (om.1 (pS a (fQ (x a d) + S0.length))) (pH (120 + a))) ≠ 0; rw [eW, ho]; exact o1) (rg_up_eq _ _ _) ot i2 rl.1
        have e1 : oV (wU om.1 (pH (120 + a)) (om.1 (pS a (fQ (x a d) + S0.length))) (pH (120 + a))) = o := by rw [eW]; exact ho
        have s1 := se.2 c1
        have s1 : sEe (wU om.1 (pH (120 + a)) (om.1 (pS a (fQ (x a d) + S0.length))), rg_up (rg_up om.2.1 (pS a (fQ (x a d) + S0.length)) 0) (pH (120 + a)) tl, g', om.2.2.2) a tl (fRe (x a d) (fL (x a d))) o := by
          have : sEe (wU om.1 (pH (120 + a)) (om.1 (pS a (fQ (x a d) + S0.length))), rg_up (rg_up om.2.1 (pS a (fQ (x a d) + S0.length)) 0) (pH (120 + a)) tl, g', om.2.2.2) a tl (fRe (x a d) (fL (x a d))) (oV (wU om.1 (pH (120 + a)) (om.1 (pS a (fQ (x a d) + S0.length))) (pH (120 + a)))) := s1
          rw [e1] at this
          exact this
        refine ⟨?_, fun _ => ⟨s1.1, s1.2.2⟩⟩
        by_cases c0 : tl % 8 = 0
        · exact Or.inr ⟨c0, s1.1⟩
        · have c11 : tl % 8 = 1 := by omega
          left
          rw [c11]
          exact Or.inr (Or.inr ⟨rl.1, Or.inr (Or.inr (Or.inr (Or.inl ⟨rfl, s1.1, (s1.2.1 c11).1, (s1.2.1 c11).2⟩)))⟩)
      · show rg_up (rg_up om.2.1 (pS a (fQ (x a d) + S0.length)) 0) (pH (120 + a)) tl l = om.2.1 l
        rw [rg_up_ne _ h1, rg_up_ne _ h2]
    · refine ⟨om, it_pop (X := [(tl, pl, fL (x a d))]) it eS pf, ⟨Or.inl ?_, fun z => absurd z c1⟩, fun _ _ _ => ⟨rfl, rfl⟩, rfl⟩
      have ok := gi.1.1 (pS a (fQ (x a d) + S0.length))
      rw [tgF_eq (by rw [hT]; omega), hr, show cpF om.2.1 (pS a (fQ (x a d) + S0.length)) = tl % 8 from by unfold cpF; rw [hT], ho] at ok
      exact ok
  · have se : sEe om a tl (fRe (x a d) (fL (x a d))) (oV (om.1 (pS a (fQ (x a d) + S0.length)))) := z5 (by rw [ho]; exact o1)
    rw [ho] at se
    refine ⟨om, it_pop (X := [(tl, pl, fL (x a d))]) it eS pf, ⟨?_, fun _ => ⟨se.1, se.2.2⟩⟩, fun _ _ _ => ⟨rfl, rfl⟩, rfl⟩
    have z3 : tl % 8 ≤ 1 := z3
    by_cases c0 : tl % 8 = 0
    · exact Or.inr ⟨c0, se.1⟩
    · have c11 : tl % 8 = 1 := by omega
      left
      rw [c11]
      exact Or.inr (Or.inr ⟨rl.1, Or.inr (Or.inr (Or.inr (Or.inl ⟨rfl, se.1, (se.2.1 c11).1, (se.2.1 c11).2⟩)))⟩)
end JFD
