/-! BOTH PUSH A VALUE. -/
section JPU
variable {sB : rS} {A B : Nat → Int32} {mi : Nat → Nat × Nat × Nat × Nat × Nat} {kc : kCi} {om om' : oMg} {ka ka' : kAp} {la : lAy} {ms : mSg} {N N' cn : Nat} {sg sg' sg2 : cS} {s s' s2 S1 : rS} {a b d e lo q0 J l t r i : Nat} {E P Qs : Nat → Prop} {x : Nat → Nat → fDs} {D : Nat → Nat} {S S0 X : List stE} {v : Int64} {y : Int32}
/-- what may be seen of a place -/
theorem see_pl {ob : Nat} (gi : GI ob N om.1 om.2.1 om.2.2.1) (lo : lOf a l) (o0 : oV (om.1 l) ≠ 0) (hT : om.2.1 l = t) (ot : isO t = true) (hr : om.2.2.1.1 l = r) (r0 : r ≠ 0) : (2 ≤ t % 8 → rg_ok om.2.2.1.2.1 om.2.2.1.2.2.1 om.2.2.1.2.2.2.1 r (t % 8) (oV (om.1 l))) ∧ (t % 8 ≤ 1 → sEe om a t r (oV (om.1 l))) := by
  have tc := isO_c ot
  have t0 : om.2.1 l ≠ 0 := by rw [hT]; omega
  have et : tgF om.2.1 om.1 l = oV (om.1 l) := tgF_eq t0
  have ok := gi.1.1 l
  rw [et, hr] at ok
  have ecp : cpF om.2.1 l = t % 8 := by unfold cpF; rw [hT]
  rw [ecp] at ok
  refine ⟨fun _ => ok, fun h1 => ?_⟩
  obtain ⟨e1, e2, e3⟩ := rg_ent gi.1 l (by rw [et]; exact o0) (by rw [hr]; exact r0) (by rw [ecp]; exact h1)
  rw [et] at e1 e2 e3
  rw [ecp] at e2
  rw [hr] at e3
  refine ⟨e1, fun z => ⟨by rw [e2, z], e3⟩, l, lo, by rw [et]; exact o0, by rw [hT]; exact h1, hr, ?_⟩
  rw [et]
  exact inR_r
/-- val in any region -/
theorem ok_3 {ob : Nat} (gi : GI ob N om.1 om.2.1 om.2.2.1) (hT : om.2.1 l = t) (ot : isO t = true) (h3 : t % 8 = 3) (r0 : r ≠ 0) : rg_ok om.2.2.1.2.1 om.2.2.1.2.2.1 om.2.2.1.2.2.2.1 r (t % 8) (oV (om.1 l)) := by
  have tc := isO_c ot
  have t0 : om.2.1 l ≠ 0 := by rw [hT]; omega
  have et : tgF om.2.1 om.1 l = oV (om.1 l) := tgF_eq t0
  have ok := gi.1.1 l
  have ecp : cpF om.2.1 l = t % 8 := by unfold cpF; rw [hT]
  rw [et, ecp, h3] at ok
  rw [h3]
  rcases ok with z | z | ⟨_, z | z | z | z | z⟩
  · exact Or.inl z
  · exact Or.inr (Or.inr ⟨r0, Or.inl ⟨rfl, z.2⟩⟩)
  · exact Or.inr (Or.inr ⟨r0, Or.inl ⟨rfl, z.2⟩⟩)
  · exact absurd z.1 (by decide)
  · exact absurd z.1 (by decide)
  · exact absurd z.1 (by decide)
  · exact absurd z.1 (by decide)
theorem ps_93 : (rs_wA (sPsh S1 a t v) 99 i y).2.1 93 a = Int32.ofNat (t + 1) := by
  rw [wA_get, if_neg (by omega)]
  show (rs_wA _ 93 a _).2.1 93 a = _
  rw [wA_get, if_pos ⟨rfl, rfl⟩]
theorem ps_99 : (rs_wA (sPsh S1 a t v) 99 i y).2.1 99 i = y := by
  rw [wA_get, if_pos ⟨rfl, rfl⟩]
theorem ps_L {p j : Nat} (h : p ≠ 97 ∨ j ≠ 10100 * a + t) : (rs_wA (sPsh S1 a t v) 99 i y).2.2 p j = S1.2.2 p j := by
  show (rs_wB S1 97 (10100 * a + t) v).2.2 p j = _
  rw [wB_get, if_neg (by omega)]
theorem ps_T : (rs_wA (sPsh S1 a t v) 99 i y).2.2 97 (10100 * a + t) = v := by
  show (rs_wB S1 97 (10100 * a + t) v).2.2 97 (10100 * a + t) = _
  rw [wB_get, if_pos ⟨rfl, rfl⟩]
theorem J_psh {n p z c : Nat} {f : Nat → Int32} {gn' : Int32} (it : iTm sB A B mi kc om ka la ms N cn sg s D x a d) (eS : fSt (x a d) = X ++ S0) (gn : gl (fG (x a d)) (fGn (x a d)) gn') (n4 : n < 4400) (ec : EC sB A B (fMe (x a d)) (mi (fMe (x a d))).1 (mi (fMe (x a d))).2.1 (mi (fMe (x a d))).2.2.1 n (p + 1) (fL (x a d)) (fG (x a d)) gn' t S0)
    (gt : gTy t = true) (own : 8 ≤ t → t % 8 = 6 → isPl (sB.2.1 44 n) = true ∧ fRe (x a d) (fL (x a d)) = om.2.2.2.2 a) (val : vAl om ka a t v) (rgt : oV v ≠ 0 → (2 ≤ t % 8 → rg_ok om.2.2.1.2.1 om.2.2.1.2.2.1 om.2.2.1.2.2.2.1 (fRe (x a d) (fL (x a d))) (t % 8) (oV v)) ∧ (t % 8 ≤ 1 → isPl (sB.2.1 44 n) = true ∧ sEe om a t (fRe (x a d) (fL (x a d))) (oV v)))
    (stn : STN sg a (fBs (x a d) + (mi (fMe (x a d))).2.2.2.2 + S0.length) z c f (fBs (x a d) + (mi (fMe (x a d))).2.2.2.2 + S0.length + 1)) (ff : f (fBs (x a d) + (mi (fMe (x a d))).2.2.2.2 + S0.length) = cvl v) (n7 : sg.2.2.2.1 a 7 d = Int32.ofNat (p + 1)) (hS1 : S1 = s ∨ S1 = rs_wA s 93 a (Int32.ofNat (fQ (x a d) + S0.length))) :
    ∃ q', bhd sB 1 n q' ∧ ∃ om' N' x', rUn sB A B mi kc om' ka la ms N' cn (sQ sg a z c f (fBs (x a d) + (mi (fMe (x a d))).2.2.2.2 + S0.length + 1)) (rs_wA (sPsh S1 a (fQ (x a d) + S0.length) v) 99 (10 * a + d) (Int32.ofNat q')) D x' := by
  have it0 := it
  obtain ⟨w, _, _, ⟨_, ac, d10⟩, vl, rg, nm, _, _, so, _, b1, b2, b3⟩ := it0
  obtain ⟨m1, m2, m3, m4, m5⟩ := nm.2.2.2
  obtain ⟨q', lv', S', bh, hl, pt, hS'⟩ := AD_E m3 m2 nm.1 n4 ec
  have pf : ∀ y ∈ S0, y.2.1 = false ∧ y.2.2 ≤ fL (x a d) := LV_EC ec
  have len := m5 _ _ _ _ _ _ pt
  have len' : S0.length < 1010 := by
    rcases hS' with z | ⟨t', _, z⟩ <;> rw [z] at len <;> exact len
  have q1 : fQ (x a d) ≤ 1010 * 9 := Nat.le_trans b1 (Nat.mul_le_mul_left _ (by omega))
  have q2 : fBs (x a d) ≤ 1026 * 9 := Nat.le_trans b2 (Nat.mul_le_mul_left _ (by omega))
  obtain ⟨y1, y2, y3, y4⟩ := stn
  have c4 : c ≤ 40000 := by
    rcases y4 with z | z
    · exact Nat.le_trans z so.2.2.2
    · omega
  have k1 : kRf a d (fQ (x a d)) s S1 := by
    rcases hS1 with z | z
    · rw [z]; exact kRf_r
    · rw [z]; exact kRf_A (Or.inr ⟨rfl, rfl⟩)
  have rf : kRf a d (fQ (x a d)) s (rs_wA (sPsh S1 a (fQ (x a d) + S0.length) v) 99 (10 * a + d) (Int32.ofNat q')) := kRf_t k1 (kRf_t (kRf_p (by omega) (by omega)) (kRf_A (Or.inl ⟨rfl, rfl⟩)))
  have sl : S1.2.2 = s.2.2 := by rcases hS1 with z | z <;> rw [z] <;> rfl
  refine ⟨q', bh, PSH (X := X) it eS pf gn (PJ_0 (n := 0) pt) pt hS' hl len (PT_rg pt).2 gt own val rgt (kCl_q (fun i hi => y1 i (by omega))) (fun i hi => by rw [sQ_f]; exact y1 i hi) (by rw [sQ_f]; exact ff) (SOK_q y2 y3 c4) (by rw [sQ_R (Or.inl (by decide))]; exact n7) rf (fun i => by rw [ps_L (Or.inl (by decide)), sl]) (fun k hk => by rw [ps_L (Or.inr (by omega)), sl]) ps_T ps_93 ps_99⟩
end JPU
