/-! A BODY ENDS: what it gives. -/
section JFN
variable {sB : rS} {A B : Nat → Int32} {mi : Nat → Nat × Nat × Nat × Nat × Nat} {kc : kCi} {om om' : oMg} {ka ka' : kAp} {la : lAy} {ms : mSg} {N N' cn : Nat} {sg sg' sg2 : cS} {s s' s2 S1 : rS} {a b d e lo q0 J l t r i n p q k k2 f0 w P L sz lv : Nat} {xs : Nat → Int32} {zf : Value} {Z : Nat → Prop} {hB h h' : rm_H} {es : List Nat} {x : Nat → Nat → fDs} {D : Nat → Nat} {S S0 X : List stE} {v : Int64} {y : Int32}

/-- something that may be had often is put where the caller waits -/
theorem fin_p {le : Nat} (it : iTm sB A B mi kc om ka la ms N cn sg s D x a (d + 1)) (l2 : le ≤ fL (x a d)) (ob : oV v ≤ ka.2.2.1) (ok : t = 0 ∨ oV v = 0 ∨ (2 ≤ t % 8 ∧ rg_ok om.2.2.1.2.1 om.2.2.1.2.2.1 om.2.2.1.2.2.2.1 (fRe (x a d) le) (t % 8) (oV v))) : ∃ om' : oMg, GI ka.2.2.1 N om'.1 om'.2.1 om'.2.2.1 ∧ om'.2.2.2 = om.2.2.2 ∧ om'.1 (pS a (fQ (x a (d + 1)))) = v ∧ om'.2.1 (pS a (fQ (x a (d + 1)))) = t ∧ (t ≠ 0 → om'.2.2.1.1 (pS a (fQ (x a (d + 1)))) = (fRe (x a d) le)) ∧ (∀ l, l ≠ (pS a (fQ (x a (d + 1)))) → l ≠ (pH (120 + a)) → l ≠ (pH (132 + a)) → om'.1 l = om.1 l ∧ om'.2.1 l = om.2.1 l) ∧ rSt a a (eSu om N a (d + 1) (x a)) (fun l => l = (pS a (fQ (x a (d + 1)))) ∨ l = (pH (120 + a)) ∨ l = (pH (132 + a))) om.2.2.1 om'.2.2.1 := by
  have gi := (it_f it).2.2.2.2.2.2.1
  obtain ⟨wl, _, su, ⟨_, ac, d10⟩, _⟩ := it
  obtain ⟨S1, t1, _, k⟩ := su d (by omega)
  obtain ⟨q0, qN, ow1⟩ := k.2.2.1.1 le l2
  refine ⟨(wU om.1 (pS a (fQ (x a (d + 1)))) v, rg_up om.2.1 (pS a (fQ (x a (d + 1)))) t, rRo om.2.2.1 (pS a (fQ (x a (d + 1)))) (fRe (x a d) le), om.2.2.2), GI_put gi (pS a (fQ (x a (d + 1)))) t (fRe (x a d) le) v ob_S qN (Or.inr ob) ok, rfl, wU_eq, rg_up_eq _ _ _, fun _ => rg_up_eq _ _ _, fun l h1 _ _ => ⟨wU_ne h1, rg_up_ne _ h1⟩, rSt_P rRo_st (fun l h => Or.inl h)⟩
/-- a made object: its region is closed -/
theorem fin_m {le tt kk cp : Nat} (it : iTm sB A B mi kc om ka la ms N cn sg s D x a (d + 1)) (l2 : le ≤ fL (x a d)) (ett : tt = 8 * (kk + 1) + 2) (et : t = 8 * (kk + 1) + cp) (c5 : cp < 5) (ob : oV v ≤ ka.2.2.1) (ok : rg_ok om.2.2.1.2.1 om.2.2.1.2.2.1 om.2.2.1.2.2.2.1 (fRe (x a (d + 1)) 0) 2 (oV v)) (tk0 : om.2.2.1.2.2.2.1 (fRe (x a (d + 1)) 0) = 0) (nev : ∀ d' j : Nat, d' ≤ d → j ≤ fL (x a d') → fRe (x a d') j ≠ (fRe (x a (d + 1)) 0)) : ∃ om' : oMg, GI ka.2.2.1 N om'.1 om'.2.1 om'.2.2.1 ∧ om'.2.2.2 = om.2.2.2 ∧ om'.1 (pS a (fQ (x a (d + 1)))) = v ∧ om'.2.1 (pS a (fQ (x a (d + 1)))) = t ∧ (t ≠ 0 → om'.2.2.1.1 (pS a (fQ (x a (d + 1)))) = (fRe (x a d) le)) ∧ (∀ l, l ≠ (pS a (fQ (x a (d + 1)))) → l ≠ (pH (120 + a)) → l ≠ (pH (132 + a)) → om'.1 l = om.1 l ∧ om'.2.1 l = om.2.1 l) ∧ rSt a a (eSu om N a (d + 1) (x a)) (fun l => l = (pS a (fQ (x a (d + 1)))) ∨ l = (pH (120 + a)) ∨ l = (pH (132 + a))) om.2.2.1 om'.2.2.1 := by
  have gi := (it_f it).2.2.2.2.2.2.1
  have it0 := it
  obtain ⟨wl, _, su, ⟨_, ac, d10⟩, vl, rg, _⟩ := it0
  obtain ⟨S1, t1, _, k⟩ := su d (by omega)
  obtain ⟨q0, qN, ow1⟩ := k.2.2.1.1 le l2
  obtain ⟨r0, rN, ro⟩ := rg.1 0 (Nat.zero_le _)
  have EsR : (eSu om N a (d + 1) (x a)) (fRe (x a d) le) := Or.inr (Or.inr ⟨d, le, by omega, l2, rfl⟩)
  have g1 := GI_put gi (pH (120 + a)) tt (fRe (x a (d + 1)) 0) v ob_H rN (Or.inr ob) (Or.inr (Or.inr ⟨by omega, by rw [show tt % 8 = 2 from by omega]; exact ok⟩))
  have top0 := tOp_of it (Nat.zero_le (fL (x a (d + 1))))
  have no : ∀ y, (eSu om N a (d + 1) (x a)) y → ¬ inR om.2.2.1 (fRe (x a (d + 1)) 0) y := by
    intro y hy
    refine top0 y (eS_L hy) (fun z => ?_)
    rcases hy with w | w | ⟨e, j, h1, h2, h3⟩
    · exact r0 (z.symm.trans w)
    · rw [z, ro] at w; exact w.2 rfl
    · exact nev e j (by omega) h2 (h3.symm.trans z)
  have yz : (pH (132 + a)) ≠ (pH (120 + a)) := hH_ne (by omega)
  obtain ⟨g2, j1, j2, j3⟩ := cLs (a := a) (l0 := (pH (120 + a))) (lz := (pH (132 + a))) (t0 := tt) (t1 := 8 * (kk + 1)) (r1 := (fRe (x a d) le)) (Rc := (fRe (x a (d + 1)) 0)) (E := (eSu om N a (d + 1) (x a))) (Ef := (eLr om N a (d + 1) (fL (x a (d + 1))) (x a))) g1 yz ob_H ob_H (rg_up_eq _ _ _) (by omega) (by omega) (rg_up_eq _ _ _) r0 rN tk0 ro q0 qN ow1 EsR (fun y h => eS_L h) (Or.inr (Or.inr ⟨d + 1, 0, Or.inr ⟨rfl, Nat.zero_le _⟩, rfl⟩)) top0 no (Or.inl rfl) (Or.inr ⟨by omega, by rw [if_pos (by omega)]; omega⟩)
  have st1 : rSt a a (eSu om N a (d + 1) (x a)) (fun l => l = (pS a (fQ (x a (d + 1)))) ∨ l = (pH (120 + a)) ∨ l = (pH (132 + a))) om.2.2.1 g2 := rSt_u (Or.inl rfl) (rSt_P (rRo_st (l := (pH (120 + a))) (r := (fRe (x a (d + 1)) 0))) (fun l h => Or.inr (Or.inl h))) (rSt_P j3 (fun l h => by
    rcases h with z | z
    · exact Or.inr (Or.inl z)
    · exact Or.inr (Or.inr z)))
  have top := tOp_k (tOp_su it l2) st1
  have ne : (pS a (fQ (x a (d + 1)))) ≠ (pH (120 + a)) := hS_ne.symm
  have ne2 : (pS a (fQ (x a (d + 1)))) ≠ (pH (132 + a)) := hS_ne.symm
  have wz : wU (wU om.1 (pH (120 + a)) v) (pH (132 + a)) (wU om.1 (pH (120 + a)) v (pH (120 + a))) (pH (120 + a)) = v := by rw [wU_ne yz.symm, wU_eq]
  have tz : rg_up (rg_up (rg_up om.2.1 (pH (120 + a)) tt) (pH (132 + a)) 0) (pH (120 + a)) (8 * (kk + 1)) (pH (120 + a)) = 8 * (kk + 1) := rg_up_eq _ _ _
  obtain ⟨g3, n1, n2, n3⟩ := lay_x (a := a) (b := a) (l0 := (pH (120 + a))) (l1 := (pS a (fQ (x a (d + 1))))) (t1 := t) (r1 := (fRe (x a d) le)) j1 top EsR q0 q0 qN (by rw [(st1.1 _ EsR).2.1]; exact ow1) ne ob_S (by rw [tz]; omega) (by omega) j2 (by
    rw [tz]
    exact Or.inr ⟨Or.inl (by omega), by omega, by omega⟩) (Or.inl rfl)
  refine ⟨(wU (wU (wU om.1 (pH (120 + a)) v) (pH (132 + a)) (wU om.1 (pH (120 + a)) v (pH (120 + a)))) (pS a (fQ (x a (d + 1)))) (wU (wU om.1 (pH (120 + a)) v) (pH (132 + a)) (wU om.1 (pH (120 + a)) v (pH (120 + a))) (pH (120 + a))), rg_up (rg_up (rg_up (rg_up (rg_up om.2.1 (pH (120 + a)) tt) (pH (132 + a)) 0) (pH (120 + a)) (8 * (kk + 1))) (pH (120 + a)) 0) (pS a (fQ (x a (d + 1)))) t, g3, om.2.2.2), n1, rfl, ?_, rg_up_eq _ _ _, fun _ => n2, fun l h1 h2 h3 => ⟨?_, ?_⟩, rSt_u (Or.inl rfl) st1 (rSt_P n3 (fun l h => Or.inl h))⟩
  · show wU (wU (wU om.1 (pH (120 + a)) v) (pH (132 + a)) (wU om.1 (pH (120 + a)) v (pH (120 + a)))) (pS a (fQ (x a (d + 1)))) (wU (wU om.1 (pH (120 + a)) v) (pH (132 + a)) (wU om.1 (pH (120 + a)) v (pH (120 + a))) (pH (120 + a))) (pS a (fQ (x a (d + 1)))) = v
    rw [wU_eq, wz]
  · show wU (wU (wU om.1 (pH (120 + a)) v) (pH (132 + a)) (wU om.1 (pH (120 + a)) v (pH (120 + a)))) (pS a (fQ (x a (d + 1)))) (wU (wU om.1 (pH (120 + a)) v) (pH (132 + a)) (wU om.1 (pH (120 + a)) v (pH (120 + a))) (pH (120 + a))) l = _
    rw [wU_ne h1, wU_ne h3, wU_ne h2]
  · show rg_up (rg_up (rg_up (rg_up (rg_up om.2.1 (pH (120 + a)) tt) (pH (132 + a)) 0) (pH (120 + a)) (8 * (kk + 1))) (pH (120 + a)) 0) (pS a (fQ (x a (d + 1)))) t l = _
    rw [rg_up_ne _ h1, rg_up_ne _ h2, rg_up_ne _ h2, rg_up_ne _ h3, rg_up_ne _ h2]
end JFN
