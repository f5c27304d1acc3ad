/-! BOTH DO AN INSTRUCTION: has, operators; the ends of steps. -/
section JL3
variable {sB : rS} {A B : Nat → Int32} {mi : Nat → Nat × Nat × Nat × Nat × Nat} {kc : kCi} {om om' : oMg} {ka ka' : kAp} {la : lAy} {ms : mSg} {N N' cn : Nat} {sg sg' sg2 : cS} {s s' s2 S1 : rS} {a b d e lo q0 J l t r i n p q k k2 f0 w P L sz lv : Nat} {xs : Nat → Int32} {zf : Value} {Z : Nat → Prop} {hB h h' : rm_H} {es : List Nat} {x : Nat → Nat → fDs} {D : Nat → Nat} {S S0 X : List stE} {v : Int64} {y : Int32}
/-- 0 is none, on both sides -/
theorem cv_z (h : vTy ka a t v) (ht : 2 ≤ t) (ob4 : ka.2.2.1 ≤ 400) (ac : ka.2.2.2 ≤ 12) (a12 : a < 12) : cvl v = 0 ↔ v = 0 := by
  constructor
  · intro z
    rcases h with ⟨h, _⟩ | ⟨_, h⟩ | ⟨_, _, h | ⟨o, o1, o2, h, _⟩⟩ | ⟨_, _, h | ⟨b, b1, h, _⟩⟩ | ⟨_, _, h, _⟩
    · omega
    · exact h
    · exact h
    · rw [h, cv_2] at z
      exact absurd z (ofn_0 (by omega) o1)
    · exact h
    · rw [h, cv_3, of_inc] at z
      exact absurd z (ofn_0 (by omega) (by omega))
    · rw [h, cv_3, of_inc] at z
      exact absurd z (ofn_0 (by omega) (by omega))
  · intro z
    rw [z, cv_0]
/-- has -/
theorem J_6 (cb : CB hB Z P A B sz es) (rh : RH (.ref P) n sg Z hB h) (hn : ka.2.2.2 ≤ n) (it : iTm sB A B mi kc om ka la ms N cn sg s D x a d) (n7 : sg.2.2.2.1 a 7 d = Int32.ofNat (p + 1)) (q4 : q < 4400) (hw : 10000 ≤ w) {pl : Bool} (eK : sB.2.1 44 q = Int32.ofNat 6) (eS : fSt (x a d) = (t, pl, fL (x a d)) :: S0) (ht : 2 ≤ t) (hA : A p = 8) (ec : EC sB A B (fMe (x a d)) (mi (fMe (x a d))).1 (mi (fMe (x a d))).2.1 (mi (fMe (x a d))).2.2.1 q (p + 1) (fL (x a d)) (fG (x a d)) (fGn (x a d)) 1 S0) : jEx sB A B mi kc L xs zf w P Z hB k k2 n cn a d p q sg h s := by
  obtain ⟨⟨a12, d10, u1, u2, u3, u4⟩, rq, fx, b3, r92, b8, gi, rl, ob4⟩ := it_f it
  have it0 := it
  obtain ⟨wl, _, _, ⟨_, ac, _⟩, vl, rg, nm, _, _, so, r93, _⟩ := it0
  have len := ec_len it q4 ec
  have ac12 : ka.2.2.2 ≤ 12 := by obtain ⟨_, _, ⟨_, _, _, _, _, ⟨_, _, z⟩, _⟩, _⟩ := wl; exact z
  have top := vl.2.2.2
  rw [eS] at so r93 top
  obtain ⟨⟨p1, p2, p3, _⟩, _⟩ := top
  obtain ⟨h', z, c, f, e1, e2, e3, e4, e5⟩ := x_8 (L := L) (xs := xs) (zf := zf) (w := w) (k := k + 7) (ht := fBs (x a d) + (mi (fMe (x a d))).2.2.2.2 + S0.length) cb rh (by omega) hA so
  have ev : (if sg.2.2.2.1 a 12 (fBs (x a d) + (mi (fMe (x a d))).2.2.2.2 + S0.length) = 0 then (0 : Int32) else 1) = if s.2.2 97 (10100 * a + (fQ (x a d) + S0.length)) = 0 then 0 else 1 := by
    rw [p2, p3]
    have := cv_z p1.1 ht ob4 ac12 a12
    by_cases c : om.1 (pS a (fQ (x a d) + S0.length)) = 0
    · rw [if_pos c, if_pos (this.mpr c)]
    · rw [if_neg c, if_neg (fun z => c (this.mp z))]
  obtain ⟨q', bh, om', N', x', ru⟩ := J_psh (v := mdV 1 (if s.2.2 97 (10100 * a + (fQ (x a d) + S0.length)) = 0 then 0 else 1)) (S1 := rs_wA s 93 a (Int32.ofNat (fQ (x a d) + S0.length))) (X := [(t, pl, fL (x a d))]) it eS gl_r q4 ec (by decide) (fun h _ => absurd h (by decide)) val_1 (fun z => absurd (oV_1 _) z) e3 (by rw [e4, ev, cv_1]) n7 (Or.inr rfl)
  exact jEx_p e1 (act_6 (k := k2 + 8) (t := fQ (x a d) + S0.length) rq a12 d10 q4 eK bh (by decide) (by omega) r93 (by omega)) e2 hn ac ru e5
/-- an operator -/
theorem J_13 (cb : CB hB Z P A B sz es) (rh : RH (.ref P) n sg Z hB h) (hn : ka.2.2.2 ≤ n) (it : iTm sB A B mi kc om ka la ms N cn sg s D x a d) (n7 : sg.2.2.2.1 a 7 d = Int32.ofNat (p + 1)) (q4 : q < 4400) (hw : 10000 ≤ w) {pl : Bool} (eK : sB.2.1 44 q = Int32.ofNat 13) (eS : fSt (x a d) = (1, pl, fL (x a d)) :: (1, false, fL (x a d)) :: S0) (hA : A p = 13) (op : opS (B p) (sB.2.1 54 q)) (ec : EC sB A B (fMe (x a d)) (mi (fMe (x a d))).1 (mi (fMe (x a d))).2.1 (mi (fMe (x a d))).2.2.1 q (p + 1) (fL (x a d)) (fG (x a d)) (fGn (x a d)) 1 S0) : jEx sB A B mi kc L xs zf w P Z hB k k2 n cn a d p q sg h s := by
  obtain ⟨⟨a12, d10, u1, u2, u3, u4⟩, rq, fx, b3, r92, b8, gi, rl, ob4⟩ := it_f it
  have it0 := it
  obtain ⟨wl, _, _, ⟨_, ac, _⟩, vl, rg, nm, _, _, so, r93, _⟩ := it0
  have len := ec_len it q4 ec
  have top := vl.2.2.2
  rw [eS] at so r93 top
  obtain ⟨⟨p1, p2, p3, _⟩, ⟨g1, g2, g3, _⟩, _⟩ := top
  have u3' : S0.length + 2 ≤ 1010 := by rw [eS] at u3; exact u3
  have i1 : ∀ {v : Int64}, vTy ka a 1 v → v = mdV 1 (Int64.toInt32 v) := by
    intro v h
    rcases h with ⟨_, y, h⟩ | ⟨h, _⟩ | ⟨h, _⟩ | ⟨h, _⟩ | ⟨h, _⟩
    · rw [h, md_lo]
    · omega
    · omega
    · omega
    · omega
  have ho : B p = 15 ∨ B p = 16 ∨ B p = 17 ∨ B p = 18 ∨ B p = 19 := by rcases op with z | z | z | z | z <;> simp [z.1]
  obtain ⟨h', z, c, f, e1, e2, e3, e4, e5⟩ := k_operate (L := L) (xs := xs) (zf := zf) (w := w) (k := k + 7) (ht := fBs (x a d) + (mi (fMe (x a d))).2.2.2.2 + S0.length) rh (by omega) so ho
  have e54 : s.2.1 54 q = sB.2.1 54 q := by rw [fx.1 54 (by decide)]
  have c1 : sg.2.2.2.1 a 12 (fBs (x a d) + (mi (fMe (x a d))).2.2.2.2 + S0.length) = Int64.toInt32 (s.2.2 97 (10100 * a + (fQ (x a d) + S0.length))) := by
    rw [g2, g3, i1 g1.1, cv_1, md_lo]
  have c2 : sg.2.2.2.1 a 12 (fBs (x a d) + (mi (fMe (x a d))).2.2.2.2 + S0.length + 1) = Int64.toInt32 (s.2.2 97 (10100 * a + (fQ (x a d) + S0.length + 1))) := by
    have p2 : sg.2.2.2.1 a 12 (fBs (x a d) + (mi (fMe (x a d))).2.2.2.2 + S0.length + 1) = cvl (om.1 (pS a (fQ (x a d) + (S0.length + 1)))) := p2
    have p3 : s.2.2 97 (10100 * a + (fQ (x a d) + S0.length + 1)) = om.1 (pS a (fQ (x a d) + (S0.length + 1))) := p3
    have p1' : vTy ka a 1 (om.1 (pS a (fQ (x a d) + (S0.length + 1)))) := p1.1
    rw [p2, p3, i1 p1', cv_1, md_lo]
  rw [c1, c2, opC_V op, ← e54] at e4
  obtain ⟨q', bh, om', N', x', ru⟩ := J_psh (v := mdV 1 (opV (s.2.1 54 q) (Int64.toInt32 (s.2.2 97 (10100 * a + (fQ (x a d) + S0.length)))) (Int64.toInt32 (s.2.2 97 (10100 * a + (fQ (x a d) + S0.length + 1)))))) (S1 := rs_wA s 93 a (Int32.ofNat (fQ (x a d) + S0.length))) (X := [(1, pl, fL (x a d)), (1, false, fL (x a d))]) it eS gl_r q4 ec (by decide) (fun h _ => absurd h (by decide)) val_1 (fun z => absurd (oV_1 _) z) e3 (by rw [e4, cv_1]) n7 (Or.inr rfl)
  exact jEx_p (x_13s (k := k + 10) cb rh (by omega) hA e1) (act_13 (k := k2 + 7) (t := fQ (x a d) + S0.length) rq a12 d10 q4 eK bh (by decide) (by omega) r93 (by omega)) e2 hn ac ru e5
theorem gDs_p {G Go gx : List scN} (h : gDs G) (e : G = Go ++ gx) : gDs Go := by
  intro i j y z h1 h2 h3
  refine h i j y z ?_ ?_ h3
  · rw [e, List.getElem?_append_left (List.getElem?_eq_some_iff.mp h1).1]; exact h1
  · rw [e, List.getElem?_append_left (List.getElem?_eq_some_iff.mp h2).1]; exact h2
/-- THE END of a step -/
theorem eNd3 {b' q' : Nat} {G0 : List scN} {gn0 : Int32} (it : iTm sB A B mi kc om ka la ms N cn sg s D x a d) (cl : kCl a d (fBs (x a d)) sg sg') (rf : kRf a d (fQ (x a d)) s s') (ch : ∀ l, ¬ cHg a d (fQ (x a d)) l → om'.1 l = om.1 l ∧ om'.2.1 l = om.2.1 l) (st : rSt a a (eLr om N a d (fL (x a d)) (x a)) (cHg a d (fQ (x a d))) om.2.2.1 om'.2.2.1) (gi' : GI ka.2.2.1 N om'.1 om'.2.1 om'.2.2.1) (eK : om'.2.2.2 = om.2.2.2)
    (nx : NXT sB A B (fMe (x a d)) (mi (fMe (x a d))).1 (mi (fMe (x a d))).2.1 (mi (fMe (x a d))).2.2.1 b' (fL (x a d)) G0 gn0 S0 q') (n7 : sg'.2.2.2.1 a 7 d = Int32.ofNat b') (r99 : s'.2.1 99 (10 * a + d) = Int32.ofNat q')
    (go : GO sB (mi (fMe (x a d))).2.1 (mi (fMe (x a d))).2.2.1 (mi (fMe (x a d))).2.2.2.1 (fL (x a d)) G0) (gd : gDs G0) (gs : ∀ y ∈ G0, y.2.1 < (mi (fMe (x a d))).2.2.2.2 ∧ dTy y.2.2.1 = true)
    (nms : ∀ y ∈ G0, gn0 &&& bt y.2.1 = 0 → nAm om' ka sg' s' a (10 * a + d) (fBs (x a d)) (fRe (x a d)) y) (ths : tHs sB om' ka sg' s' a d (fMe (x a d)) (fRe (x a d))) (svl : sVl (pEn om' ka sg' s' a (fBs (x a d) + (mi (fMe (x a d))).2.2.2.2) (fQ (x a d)) (fRe (x a d))) S0) (slv : ∀ y ∈ S0, y.2.2 ≤ fL (x a d))
    (so : SOK sg' a (fBs (x a d) + (mi (fMe (x a d))).2.2.2.2 + S0.length)) (r93 : s'.2.1 93 a = Int32.ofNat (fQ (x a d) + S0.length)) :
    ∃ om2 N2 x2, rUn sB A B mi kc om2 ka la ms N2 cn sg' s' D x2 := by
  obtain ⟨i', lv', G', gx, g', j, pj, hl, eG, hg, pt⟩ := nx
  have it0 := it
  obtain ⟨_, _, _, _, _, _, nm, _⟩ := it0
  have sub : ∀ y, y ∈ G' → y ∈ G0 := fun y hy => by rw [eG]; exact List.mem_append.mpr (Or.inl hy)
  exact ⟨_, _, _, eNd2 it (Nat.le_refl _) cl rf ch st gi' eK pj pt n7 r99 (PT_rg pt).2 (nm.2.2.2.2.2.2.2 _ _ _ _ _ _ pt) hl (GO_sub go eG) (gDs_p gd eG) (fun y hy => gs y (sub y hy)) (fun y hy gy => nms y (sub y hy) (hg y hy gy)) ths svl slv so r93⟩
/-- what is on top is dropped, the body goes on -/
theorem J_pop {b' q' : Nat} {gn0 : Int32} (it : iTm sB A B mi kc om ka la ms N cn sg s D x a d) (eS : fSt (x a d) = X ++ S0) (pf : ∀ y ∈ S0, y.2.1 = false ∧ y.2.2 ≤ fL (x a d)) (gn : gl (fG (x a d)) (fGn (x a d)) gn0) (nx : NXT sB A B (fMe (x a d)) (mi (fMe (x a d))).1 (mi (fMe (x a d))).2.1 (mi (fMe (x a d))).2.2.1 b' (fL (x a d)) (fG (x a d)) gn0 S0 q') (cl : kCl a d (fBs (x a d)) sg sg') (c12 : sg'.2.2.2.1 a 12 = sg.2.2.2.1 a 12) (n7 : sg'.2.2.2.1 a 7 d = Int32.ofNat b') (so : SOK sg' a (fBs (x a d) + (mi (fMe (x a d))).2.2.2.2 + S0.length)) : ∃ om2 N2 x2, rUn sB A B mi kc om2 ka la ms N2 cn sg' (rs_wA (rs_wA s 93 a (Int32.ofNat (fQ (x a d) + S0.length))) 99 (10 * a + d) (Int32.ofNat q')) D x2 := by
  have it0 := it
  obtain ⟨_, _, _, _, vl, _, nm, _⟩ := it0
  have gi := (it_f it).2.2.2.2.2.2.1
  have rf : kRf a d (fQ (x a d)) s (rs_wA (rs_wA s 93 a (Int32.ofNat (fQ (x a d) + S0.length))) 99 (10 * a + d) (Int32.ofNat q')) := kRf_t (kRf_A (Or.inr ⟨rfl, rfl⟩)) (kRf_A (Or.inl ⟨rfl, rfl⟩))
  obtain ⟨nms, ths, svl⟩ := fV0 (om' := om) (sg' := sg') (s' := rs_wA (rs_wA s 93 a (Int32.ofNat (fQ (x a d) + S0.length))) 99 (10 * a + d) (Int32.ofNat q')) (P := fun _ => False) (Qs := fun _ => False) it (Nat.le_refl _) rSt_r rfl eS pf (fun _ _ _ => ⟨rfl, rfl, id⟩) ⟨rfl, rfl, id⟩ (fun _ _ => ⟨rfl, rfl, id⟩) (by rw [cl.2.2.2.1 a 9 (Or.inr (by decide))]) (fun _ h => h.elim) (fun i _ _ => by rw [c12]) rfl (fun _ _ _ => rfl) (fun _ _ => rfl)
  exact eNd3 it cl rf (fun _ _ => ⟨rfl, rfl⟩) rSt_r gi rfl nx n7 (by rw [wA_get, if_pos ⟨rfl, rfl⟩]) nm.1 nm.2.1 nm.2.2.1 (fun y hy gy => nms y hy (gn y hy gy) id (nm.1.2 y hy)) ths svl (fun y hy => (pf y hy).2) so (by rw [wA_get, if_neg (by omega), wA_get, if_pos ⟨rfl, rfl⟩])
/-- an expression alone -/
theorem J_27 (cb : CB hB Z P A B sz es) (rh : RH (.ref P) n sg Z hB h) (hn : ka.2.2.2 ≤ n) (it : iTm sB A B mi kc om ka la ms N cn sg s D x a d) (n7 : sg.2.2.2.1 a 7 d = Int32.ofNat (p + 1)) (q4 : q < 4400) (hw : 10000 ≤ w) {u : Nat} {pl : Bool} (eK : sB.2.1 44 q = Int32.ofNat 27) (eS : fSt (x a d) = (t, pl, fL (x a d)) :: S0) (hA : A p = 17) (sc : SC sB A B (fMe (x a d)) (mi (fMe (x a d))).1 (mi (fMe (x a d))).2.1 (mi (fMe (x a d))).2.2.1 u q (p + 1) (fL (x a d)) (fG (x a d)) (fGn (x a d)) S0) : jEx sB A B mi kc L xs zf w P Z hB k k2 n cn a d p q sg h s := by
  obtain ⟨⟨a12, d10, u1, u2, u3, u4⟩, rq, fx, b3, r92, b8, gi, rl, ob4⟩ := it_f it
  have it0 := it
  obtain ⟨wl, _, _, ⟨_, ac, _⟩, vl, rg, nm, _, _, so, r93, _⟩ := it0
  rw [eS] at so r93 u3
  obtain ⟨h', e1, e2, e3, e4⟩ := x_17 (L := L) (xs := xs) (zf := zf) (w := w) (k := k + 7) (ht := fBs (x a d) + (mi (fMe (x a d))).2.2.2.2 + S0.length) cb rh (by omega) hA so
  obtain ⟨q', bh, nx⟩ := AD_S nm.2.2.2.2.2.1 nm.2.2.2.2.1 sc nm.1 q4
  obtain ⟨o1, o2, o3, o4⟩ := so
  have u3' : S0.length < 1010 := u3
  obtain ⟨om2, N2, x2, ru⟩ := J_pop (X := [(t, pl, fL (x a d))]) (sg' := sQ sg a (sg.2.2.2.2 a 12) (sg.2.2.2.2 a 13) (sg.2.2.2.1 a 12) (fBs (x a d) + (mi (fMe (x a d))).2.2.2.2 + S0.length)) it eS (LV_SC sc) gl_r nx (kCl_q (fun _ _ => rfl)) sQ_f (by rw [sQ_R (Or.inl (by decide))]; exact n7) (SOK_q (Nat.le_trans (Nat.le_succ _) o2) o3 o4)
  exact jEx_p e1 (act_27 (k := k2 + 8) (t := fQ (x a d) + S0.length) rq a12 d10 q4 eK bh (by decide) (by omega) r93 (by omega)) e2 hn ac ru (CST_q e3 e4)
end JL3
