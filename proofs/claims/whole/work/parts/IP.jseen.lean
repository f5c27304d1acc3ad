/-! A FIELD IS READ: what is seen. -/
/-- the fields of a Kind, as both have them -/
def kFd (sB : rS) (kc : kCi) : Prop := ∀ (k : Nat) (c : Int64) (f0 f tf : Nat), fdT sB k c f0 f tf → f - f0 < (kc k).1 ∧ (kc k).2.1 (f - f0) = tf ∧ dTy tf = true
def thB (c e c' : Nat) : Bool := (decide (c = 0) && ((decide (e = 0) && decide (c' = 0)) || (decide (e = 3) && decide (c' = 3)))) || (decide (c = 1) && ((decide (e = 0) && decide (c' = 0)) || (decide (e = 3) && decide (c' = 3)) || (decide (e ≠ 0) && decide (e ≠ 3) && decide (c' = 4)))) || (decide (c = 2) && decide (c' = e)) || (decide (c = 3) && decide (c' = 3)) || (decide (c = 4) && ((decide (e = 3) && decide (c' = 3)) || (decide (e ≠ 0) && decide (e ≠ 3) && decide (c' = 4))))
theorem th_b : ∀ c, c < 5 → ∀ e, e < 5 → ∀ c', c' < 5 → lkV 4 (Int32.ofNat c) (Int32.ofNat e) = Int32.ofNat c' → thB c e c' = true := by decide +kernel
/-- object o is held or seen in region r with right c -/
def hLd (om : oMg) (a c o r : Nat) : Prop := (rg_ok om.2.2.1.2.1 om.2.2.1.2.2.1 om.2.2.1.2.2.2.1 r c o ∨ (c = 0 ∧ om.2.2.1.2.1 o ≠ 0)) ∧ (c ≤ 1 → om.2.2.1.2.1 o ≠ 0 ∧ ∃ lx, lOf a lx ∧ tgF om.2.1 om.1 lx ≠ 0 ∧ om.2.1 lx % 8 ≤ 1 ∧ om.2.2.1.1 lx = r ∧ inR om.2.2.1 (om.2.2.1.2.1 (tgF om.2.1 om.1 lx)) (om.2.2.1.2.1 o))
section JFR
variable {sB : rS} {A B : Nat → Int32} {mi : Nat → Nat × Nat × Nat × Nat × Nat} {kc : kCi} {om om' : oMg} {ka ka' : kAp} {la : lAy} {ms : mSg} {N N' cn : Nat} {sg sg' sg2 : cS} {s s' s2 S1 : rS} {a b d e lo q0 J l t r i n p q k k2 f0 w P L sz lv : Nat} {xs : Nat → Int32} {zf : Value} {Z : Nat → Prop} {hB h h' : rm_H} {es : List Nat} {x : Nat → Nat → fDs} {D : Nat → Nat} {S S0 X : List stE} {v : Int64} {y : Int32}
variable {c c' o f tf : Nat}
theorem th_c (hc : c < 5) (he : e < 5) (hc' : i < 5) (h : lkV 4 (Int32.ofNat c) (Int32.ofNat e) = Int32.ofNat i) : (c = 0 ∧ ((e = 0 ∧ i = 0) ∨ (e = 3 ∧ i = 3))) ∨ (c = 1 ∧ ((e = 0 ∧ i = 0) ∨ (e = 3 ∧ i = 3) ∨ (e ≠ 0 ∧ e ≠ 3 ∧ i = 4))) ∨ (c = 2 ∧ i = e) ∨ (c = 3 ∧ i = 3) ∨ (c = 4 ∧ ((e = 3 ∧ i = 3) ∨ (e ≠ 0 ∧ e ≠ 3 ∧ i = 4))) := by
  have h1 := th_b c hc e he i hc' h
  unfold thB at h1
  simp at h1
  omega
/-- what is in field f of o may be seen so -/
theorem f_rd {ob : Nat} (gi : GI ob N om.1 om.2.1 om.2.2.1) (hd : hLd om a c o r) (o1 : o ≠ 0) (f8 : f < 8) (hT : om.2.1 (pO o f) = tf) (ot : isO tf = true) (o0 : oV (om.1 (pO o f)) ≠ 0) (c5 : c < 5) (tab : lkV 4 (Int32.ofNat c) (Int32.ofNat (tf % 8)) = Int32.ofNat c') (c5' : c' < 5) (ht : t % 8 = c') (r0 : r ≠ 0) : (2 ≤ t % 8 → rg_ok om.2.2.1.2.1 om.2.2.1.2.2.1 om.2.2.1.2.2.2.1 r (t % 8) (oV (om.1 (pO o f)))) ∧ (t % 8 ≤ 1 → sEe om a t r (oV (om.1 (pO o f)))) := by
  have tc := isO_c ot
  have hob : obP (pO o f) = o := ob_O f8
  have t0 : om.2.1 (pO o f) ≠ 0 := by rw [hT]; omega
  have et : tgF om.2.1 om.1 (pO o f) = oV (om.1 (pO o f)) := tgF_eq t0
  have ecp : cpF om.2.1 (pO o f) = tf % 8 := by unfold cpF; rw [hT]
  have hrk : om.2.2.1.1 (pO o f) = om.2.2.1.2.1 o := by
    have := gi.1.2.2.2 (pO o f) (by rw [hob]; exact o1)
    rw [hob] at this
    exact this
  have tb := th_c c5 (by omega) c5' tab
  rw [ht]
  refine ⟨fun h2 => ?_, fun h1 => ?_⟩
  · have := rg_see gi.1 r c o (pO o f) c' r0 o1 hd.1 hob (by
      rw [ecp]
      unfold rg_thr
      omega) (Or.inr h2)
    rw [et] at this
    exact this
  · -- iso or trn: seen in its place
    have rho0 : om.2.2.1.2.1 o ≠ 0 ∧ (c = 2 → om.2.2.1.2.1 o = r) := by
      by_cases c2 : c = 2
      · rcases hd.1 with z | z
        · rcases z with z | z | ⟨_, z | z | z | z | z⟩
          · exact absurd z o1
          · exact absurd z.1 r0
          · omega
          · exact ⟨by rw [z.2]; exact r0, fun _ => z.2⟩
          · omega
          · omega
          · omega
        · omega
      · exact ⟨(hd.2 (by omega)).1, fun z => absurd z c2⟩
    obtain ⟨e1, e2, e3⟩ := rg_ent gi.1 (pO o f) (by rw [et]; exact o0) (by rw [hrk]; exact rho0.1) (by rw [ecp]; omega)
    rw [et] at e1 e2 e3
    rw [ecp] at e2
    rw [hrk] at e3
    refine ⟨e1, fun z => ?_, ?_⟩
    · have c2 : c = 2 := by omega
      exact ⟨by rw [e2]; omega, by rw [e3]; exact rho0.2 c2⟩
    · by_cases c2 : c = 2
      · refine ⟨pO o f, Or.inl (by unfold pO; omega), by rw [et]; exact o0, by rw [hT]; omega, by rw [hrk]; exact rho0.2 c2, ?_⟩
        rw [et]
        exact inR_r
      · obtain ⟨_, lx, l1, l2, l3, l4, l5⟩ := hd.2 (by omega)
        refine ⟨lx, l1, l2, l3, l4, inR_t l5 ?_⟩
        have := inR_up (g := om.2.2.1) (x := om.2.2.1.2.1 (oV (om.1 (pO o f)))) (by rw [e2]; omega)
        rw [e3] at this
        exact this
/-- what is on top is popped -/
theorem it_pop (it : iTm sB A B mi kc om ka la ms N cn sg s D x a d) (eS : fSt (x a d) = X ++ S0) (pf : eLv (fL (x a d)) S0) : iTm sB A B mi kc om ka la ms N cn (sPo sg a (fBs (x a d) + (mi (fMe (x a d))).2.2.2.2 + S0.length)) (rs_wA s 93 a (Int32.ofNat (fQ (x a d) + S0.length))) D (xU x a d (fMe (x a d), fL (x a d), fG (x a d), fGn (x a d), S0, fRe (x a d), fBs (x a d), fQ (x a d))) a d := by
  obtain ⟨⟨a12, d10, u1, u2, u3, u4⟩, rq, fx, b3, r92, b8, gi, rl, ob4⟩ := it_f it
  have it0 := it
  obtain ⟨wl, _, _, ⟨_, ac, _⟩, vl, rg, nm, _, _, so, r93, _⟩ := it0
  have len : S0.length ≤ (fSt (x a d)).length := by rw [eS]; simp
  have gi := gi
  obtain ⟨o1, o2, o3, o4⟩ := so
  have cl : kCl a d (fBs (x a d)) sg (sPo sg a (fBs (x a d) + (mi (fMe (x a d))).2.2.2.2 + S0.length)) := kCl_q (fun _ _ => rfl)
  have rf : kRf a d (fQ (x a d)) s (rs_wA s 93 a (Int32.ofNat (fQ (x a d) + S0.length))) := kRf_A (Or.inr ⟨rfl, rfl⟩)
  obtain ⟨nms, ths, svl⟩ := fV0 (om' := om) (sg' := sPo sg a (fBs (x a d) + (mi (fMe (x a d))).2.2.2.2 + S0.length)) (s' := rs_wA s 93 a (Int32.ofNat (fQ (x a d) + S0.length))) (P := fun _ => False) (Qs := fun _ => False) it (Nat.le_refl _) rSt_r rfl eS pf (fun _ _ _ => ⟨rfl, rfl, id⟩) ⟨rfl, rfl, id⟩ (fun _ _ => ⟨rfl, rfl, id⟩) (by rw [cl.2.2.2.1 a 9 (Or.inr (by decide))]) (fun _ h => h.elim) (fun i _ _ => by rw [sQ_f]) rfl (fun _ _ _ => rfl) (fun _ _ => rfl)
  exact it_mv it cl rf (fun _ _ => ⟨rfl, rfl⟩) rSt_r gi rfl (fun y hy gy => nms y hy gy id (nm.1.2 y hy)) ths svl (SOK_q (by omega) o3 o4) (by rw [wA_get, if_pos ⟨rfl, rfl⟩]) (by omega)
/-- a value on top that is iso or trn is kept aside -/
theorem it_sav {tl : Nat} (it : iTm sB A B mi kc om ka la ms N cn sg s D x a d) {pl : Bool} (eS : fSt (x a d) = (tl, pl, fL (x a d)) :: S0) (pf : eLv (fL (x a d)) S0) (tl0 : tl ≠ 0) (hT : om.2.1 (pS a (fQ (x a d) + S0.length)) = tl) (hr : om.2.2.1.1 (pS a (fQ (x a d) + S0.length)) = fRe (x a d) (fL (x a d))) (t4 : oV (om.1 (pS a (fQ (x a d) + S0.length))) = 0 ∨ tl % 8 ≤ 4) : ∃ g' : rGt, iTm sB A B mi kc (wU om.1 (pH (120 + a)) (om.1 (pS a (fQ (x a d) + S0.length))), rg_up (rg_up om.2.1 (pS a (fQ (x a d) + S0.length)) 0) (pH (120 + a)) tl, g', om.2.2.2) ka la ms N cn (sPo sg a (fBs (x a d) + (mi (fMe (x a d))).2.2.2.2 + S0.length)) (rs_wA s 93 a (Int32.ofNat (fQ (x a d) + S0.length))) D (xU x a d (fMe (x a d), fL (x a d), fG (x a d), fGn (x a d), S0, fRe (x a d), fBs (x a d), fQ (x a d))) a d ∧ g'.1 (pH (120 + a)) = fRe (x a d) (fL (x a d)) := by
  obtain ⟨⟨a12, d10, u1, u2, u3, u4⟩, rq, fx, b3, r92, b8, gi, rl, ob4⟩ := it_f it
  have it0 := it
  obtain ⟨wl, _, _, ⟨_, ac, _⟩, vl, rg, nm, _, _, so, r93, _⟩ := it0
  have u3' : S0.length < 1010 := by rw [eS] at u3; exact u3
  have so' : SOK sg a ((fBs (x a d) + (mi (fMe (x a d))).2.2.2.2 + S0.length) + 1) := by rw [eS] at so; exact so
  obtain ⟨o1, o2, o3, o4⟩ := so'
  obtain ⟨r0, rN, ro⟩ := rg.1 (fL (x a d)) (Nat.le_refl _)
  obtain ⟨g', i1, i2, i3⟩ := lay_x (a := a) (b := a) (l0 := pS a (fQ (x a d) + S0.length)) (l1 := pH (120 + a)) (t1 := tl) (r := fRe (x a d) (fL (x a d))) (r1 := fRe (x a d) (fL (x a d))) gi (tOp_of it (Nat.le_refl _)) (eL_R (Nat.le_refl _)) r0 r0 rN ro hS_ne ob_H (by rw [hT]; exact tl0) tl0 hr (by
    rcases t4 with z | z
    · exact Or.inl z
    · right
      rw [hT]
      unfold rg_good
      omega) (Or.inl rfl)
  have zch : cHg a d (fQ (x a d)) (pH (120 + a)) := Or.inr (Or.inr (Or.inl rfl))
  have sch : cHg a d (fQ (x a d)) (pS a (fQ (x a d) + S0.length)) := Or.inr (Or.inl ⟨_, by omega, by omega, rfl⟩)
  have kp : ∀ l, l ≠ pH (120 + a) → l ≠ pS a (fQ (x a d) + S0.length) → wU om.1 (pH (120 + a)) (om.1 (pS a (fQ (x a d) + S0.length))) l = om.1 l ∧ rg_up (rg_up om.2.1 (pS a (fQ (x a d) + S0.length)) 0) (pH (120 + a)) tl l = om.2.1 l ∧ ¬ (fun z => z = pH (120 + a)) l := fun l h1 h2 => ⟨wU_ne h1, by rw [rg_up_ne _ h1, rg_up_ne _ h2], h1⟩
  have cl : kCl a d (fBs (x a d)) sg (sPo sg a (fBs (x a d) + (mi (fMe (x a d))).2.2.2.2 + S0.length)) := kCl_q (fun _ _ => rfl)
  have rf : kRf a d (fQ (x a d)) s (rs_wA s 93 a (Int32.ofNat (fQ (x a d) + S0.length))) := kRf_A (Or.inr ⟨rfl, rfl⟩)
  obtain ⟨nms, ths, svl⟩ := fV0 (om' := (wU om.1 (pH (120 + a)) (om.1 (pS a (fQ (x a d) + S0.length))), rg_up (rg_up om.2.1 (pS a (fQ (x a d) + S0.length)) 0) (pH (120 + a)) tl, g', om.2.2.2)) (sg' := sPo sg a (fBs (x a d) + (mi (fMe (x a d))).2.2.2.2 + S0.length)) (s' := rs_wA s 93 a (Int32.ofNat (fQ (x a d) + S0.length))) (X := [(tl, pl, fL (x a d))]) (S0 := S0) (Qs := fun _ => False) it (Nat.le_refl _) i3 rfl eS pf (fun z hz _ => kp _ nH_ne nS_ne) (kp _ (hH_ne (by omega)) hS_ne) (fun k hk => kp _ hS_ne.symm (sS_ne (by omega))) (by rw [cl.2.2.2.1 a 9 (Or.inr (by decide))]) (fun _ h => h.elim) (fun i _ _ => by rw [sQ_f]) rfl (fun _ _ _ => rfl) (fun _ _ => rfl)
  exact ⟨g', it_mv (om' := (wU om.1 (pH (120 + a)) (om.1 (pS a (fQ (x a d) + S0.length))), rg_up (rg_up om.2.1 (pS a (fQ (x a d) + S0.length)) 0) (pH (120 + a)) tl, g', om.2.2.2)) it cl rf (fun l hl => ⟨(kp l (fun z => hl (z ▸ zch)) (fun z => hl (z ▸ sch))).1, (kp l (fun z => hl (z ▸ zch)) (fun z => hl (z ▸ sch))).2.1⟩) (rSt_P i3 (fun l z => by rw [z]; exact zch)) i1 rfl (fun y hy gy => nms y hy gy id (nm.1.2 y hy)) ths svl (SOK_q (by omega) o3 o4) (by rw [wA_get, if_pos ⟨rfl, rfl⟩]) (by omega), i2⟩
end JFR
