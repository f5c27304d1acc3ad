/-! A BODY GIVES A RESULT. -/
section JRT
variable {sB : rS} {A B : Nat → Int32} {mi : Nat → Nat × Nat × Nat × Nat × Nat} {kc : kCi} {om om' : oMg} {ka ka' : kAp} {la : lAy} {ms : mSg} {N N' cn : Nat} {sg sg' sg2 : cS} {s s' s2 S1 : rS} {a b d e lo q0 J l t r i n p q k k2 f0 w P L sz lv : Nat} {xs : Nat → Int32} {zf : Value} {Z : Nat → Prop} {hB h h' : rm_H} {es : List Nat} {x : Nat → Nat → fDs} {D : Nat → Nat} {S S0 X : List stE} {v : Int64} {y : Int32}
variable {x1 : Nat → Nat → fDs}
theorem eS_L {J : Nat} {xb : Nat → fDs} {y : Nat} (h : eSu om N a d xb y) : eLr om N a d J xb y := by
  rcases h with h | h | ⟨e, j, h1, h2, h3⟩
  · exact Or.inl h
  · exact Or.inr (Or.inl h)
  · exact Or.inr (Or.inr ⟨e, j, Or.inl ⟨h1, h2⟩, h3⟩)
theorem gd_r {c : Nat} (h : c ≤ 4) : rg_good c c := by unfold rg_good; omega
/-- the result goes over -/
theorem res_1 {tv tr le : Nat} (it : iTm sB A B mi kc om ka la ms N cn sg s D x1 a (d + 1)) (l2 : le ≤ fL (x1 a d)) (hT : om.2.1 (pS a (fQ (x1 a (d + 1)))) = tv) (hr : om.2.2.1.1 (pS a (fQ (x1 a (d + 1)))) = (fRe (x1 a (d + 1)) 0)) (gv : gTy tv = true) (dr : dTy tr = true) (fit : fitC (cT tv) (cT tr) = 0) (val : vAl om ka a tv (om.1 (pS a (fQ (x1 a (d + 1)))))) (hx : (fRe (x1 a (d + 1)) 0) = (fRe (x1 a d) le) ∨ sdT tr = true) :
    ∃ om' : oMg, GI ka.2.2.1 N om'.1 om'.2.1 om'.2.2.1 ∧ om'.2.2.2 = om.2.2.2 ∧ om'.1 (pS a (fQ (x1 a (d + 1)))) = om.1 (pS a (fQ (x1 a (d + 1)))) ∧ om'.2.1 (pS a (fQ (x1 a (d + 1)))) = tr ∧ om'.2.2.1.1 (pS a (fQ (x1 a (d + 1)))) = (fRe (x1 a d) le) ∧ (∀ l, l ≠ (pS a (fQ (x1 a (d + 1)))) → l ≠ (pH (120 + a)) → om'.1 l = om.1 l ∧ om'.2.1 l = om.2.1 l) ∧ rSt a a (eSu om N a (d + 1) (x1 a)) (fun l => l = (pS a (fQ (x1 a (d + 1)))) ∨ l = (pH (120 + a))) om.2.2.1 om'.2.2.1 := by
  have gi := (it_f it).2.2.2.2.2.2.1
  have it0 := it
  obtain ⟨wl, _, su, ⟨_, ac, d10⟩, vl, rg, nm, _⟩ := it0
  obtain ⟨S1, t1, _, ok⟩ := su d (by omega)
  obtain ⟨q0, qN, ow1⟩ := ok.2.2.1.1 le l2
  obtain ⟨r0, rN, ro⟩ := rg.1 0 (Nat.zero_le _)
  have fc := fit_c gv dr fit
  have dc := dTy_c dr
  have t0 : om.2.1 (pS a (fQ (x1 a (d + 1)))) ≠ 0 := by rw [hT]; omega
  have no := nOe_of (Ap := fun l => l = (pS a (fQ (x1 a (d + 1))))) it (Nat.zero_le _) (fun l hl => by rw [hl]; exact hr)
  have EsR : (eSu om N a (d + 1) (x1 a)) (fRe (x1 a d) le) := Or.inr (Or.inr ⟨d, le, by omega, l2, rfl⟩)
  have v2 := fit_v gv dr fit val.1
  obtain ⟨g1, i1, i2, i3, _⟩ := lay_1 (a := a) (b1 := a) (l0 := (pS a (fQ (x1 a (d + 1))))) (l1 := (pH (120 + a))) (t1 := tr) (r1 := (fRe (x1 a d) le)) gi no rfl (fun z => hS_ne z) (Or.inr (Or.inr ⟨d + 1, 0, Or.inr ⟨rfl, Nat.zero_le _⟩, rfl⟩)) (eS_L EsR) r0 q0 qN ow1 ob_H t0 (by omega) (by rw [hT]; exact fit_r gv dr fit val.1) (by
    rcases hx with z | z
    · exact Or.inl z.symm
    · right
      by_cases o0 : oV (om.1 (pS a (fQ (x1 a (d + 1))))) = 0
      · exact Or.inl o0
      · right
        have tc := isO_c (vTy_o v2 o0).1
        unfold sdT at z
        simp at z
        omega)
  have top := tOp_k (tOp_su it l2) (rSt_E i3 (fun y h => eS_L h))
  have ne : (pS a (fQ (x1 a (d + 1)))) ≠ (pH (120 + a)) := hS_ne.symm
  have w1 : wU om.1 (pH (120 + a)) (om.1 (pS a (fQ (x1 a (d + 1))))) (pH (120 + a)) = om.1 (pS a (fQ (x1 a (d + 1)))) := wU_eq
  have tz : rg_up (rg_up om.2.1 (pS a (fQ (x1 a (d + 1)))) 0) (pH (120 + a)) tr (pH (120 + a)) = tr := rg_up_eq _ _ _
  obtain ⟨g2, j1, j2, j3⟩ := lay_x (a := a) (b := a) (l0 := (pH (120 + a))) (l1 := (pS a (fQ (x1 a (d + 1))))) (t1 := tr) (r1 := (fRe (x1 a d) le)) i1 top EsR q0 q0 qN (by rw [(i3.1 _ (eS_L EsR)).2.1]; exact ow1) ne ob_S (by rw [tz]; omega) (by omega) i2 (by
    rw [w1, tz]
    by_cases o0 : oV (om.1 (pS a (fQ (x1 a (d + 1))))) = 0
    · exact Or.inl o0
    · have tc := isO_c (vTy_o v2 o0).1
      exact Or.inr ⟨gd_r (by omega), by omega, by omega⟩) (Or.inl rfl)
  refine ⟨(wU (wU om.1 (pH (120 + a)) (om.1 (pS a (fQ (x1 a (d + 1)))))) (pS a (fQ (x1 a (d + 1)))) (wU om.1 (pH (120 + a)) (om.1 (pS a (fQ (x1 a (d + 1))))) (pH (120 + a))), rg_up (rg_up (rg_up (rg_up om.2.1 (pS a (fQ (x1 a (d + 1)))) 0) (pH (120 + a)) tr) (pH (120 + a)) 0) (pS a (fQ (x1 a (d + 1)))) tr, g2, om.2.2.2), j1, rfl, ?_, rg_up_eq _ _ _, j2, fun l h1 h2 => ⟨?_, ?_⟩, rSt_u (Or.inl rfl) (rSt_P (rSt_E i3 (fun y h => eS_L h)) (fun l h => Or.inr h)) (rSt_P j3 (fun l h => Or.inl h))⟩
  · show wU (wU om.1 (pH (120 + a)) (om.1 (pS a (fQ (x1 a (d + 1)))))) (pS a (fQ (x1 a (d + 1)))) (wU om.1 (pH (120 + a)) (om.1 (pS a (fQ (x1 a (d + 1))))) (pH (120 + a))) (pS a (fQ (x1 a (d + 1)))) = _
    rw [wU_eq, wU_eq]
  · show wU (wU om.1 (pH (120 + a)) (om.1 (pS a (fQ (x1 a (d + 1)))))) (pS a (fQ (x1 a (d + 1)))) (wU om.1 (pH (120 + a)) (om.1 (pS a (fQ (x1 a (d + 1))))) (pH (120 + a))) l = _
    rw [wU_ne h1, wU_ne h2]
  · show rg_up (rg_up (rg_up (rg_up om.2.1 (pS a (fQ (x1 a (d + 1)))) 0) (pH (120 + a)) tr) (pH (120 + a)) 0) (pS a (fQ (x1 a (d + 1)))) tr l = _
    rw [rg_up_ne _ h1, rg_up_ne _ h2, rg_up_ne _ h2, rg_up_ne _ h1]
end JRT
