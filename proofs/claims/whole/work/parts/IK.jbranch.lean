/-! BRANCHES, WHAT IS TOLD. -/
section JBR
variable {sB : rS} {A B : Nat → Int32} {mi : Nat → Nat × Nat × Nat × Nat × Nat} {kc : kCi} {om om' : oMg} {ka ka' : kAp} {la : lAy} {ms : mSg} {N N' cn : Nat} {sg sg' sg2 : cS} {s s' s2 S1 : rS} {a b d e lo q0 J l t r i n p q k k2 f0 w P L sz lv : Nat} {xs : Nat → Int32} {zf : Value} {Z : Nat → Prop} {hB h h' : rm_H} {es : List Nat} {x : Nat → Nat → fDs} {D : Nat → Nat} {S S0 X : List stE} {v : Int64} {y : Int32}
theorem jEx_s {sg' : cS} {h' : rm_H} {S' : rS} (hd : dM L xs zf w (k + 12) 251 [.ref 24, .ref (sg.2.2.2.2 a 0), .int (Int32.ofNat p)] h = some (none, h')) (hr : rM w (k2 + 12) 388 [.ref 36, .int (Int32.ofNat a), .int (Int32.ofNat (10 * a + d)), .int (Int32.ofNat q)] s = some (some (.int 0), S')) (rh : RH (.ref P) n sg' Z hB h') (hn : ka.2.2.2 ≤ n) (ac : a < ka.2.2.2) (ru : rUn sB A B mi kc om' ka la ms N' cn sg' S' D x) (e0 : sg'.2.2.2.2 a 0 = sg.2.2.2.2 a 0) (cs : CST n sg h sg' h') : jEx sB A B mi kc L xs zf w P Z hB k k2 n cn a d p q sg h s :=
  ⟨h', n, _, S', 0, om', ka, la, ms, N', D, x, hd, hr, rh, ⟨hn, Nat.le_refl _⟩, by rw [if_pos rfl]; exact rUn_cn ru, e0, ac, cNt_of cs⟩
/-- the int on top -/
theorem int_top {pl : Bool} (it : iTm sB A B mi kc om ka la ms N cn sg s D x a d) (eS : fSt (x a d) = (1, pl, lv) :: S0) : sg.2.2.2.1 a 12 (fBs (x a d) + (mi (fMe (x a d))).2.2.2.2 + S0.length) = Int64.toInt32 (s.2.2 97 (10100 * a + (fQ (x a d) + S0.length))) := by
  obtain ⟨_, _, _, _, vl, _⟩ := it
  have top := vl.2.2.2
  rw [eS] at top
  obtain ⟨⟨p1, p2, p3, _⟩, _⟩ := top
  rw [p2, p3]
  rcases p1.1 with ⟨_, y, h⟩ | ⟨h, _⟩ | ⟨h, _⟩ | ⟨h, _⟩ | ⟨h, _⟩
  · have h : om.1 (pS a (fQ (x a d) + S0.length)) = mdV 1 y := h
    rw [h, cv_1, md_lo]
  · have h : 1 = 0 ∨ 1 = 2 := h
    omega
  · have h : 8 ≤ 1 := h
    omega
  · have h : 8 ≤ 1 := h
    omega
  · have h : 8 ≤ 1 := h
    omega
theorem sR_7 {v : Int32} : (sR sg a 7 d v).2.2.2.1 a 7 d = v := by
  show (if a = a ∧ 7 = 7 then upd (sg.2.2.2.1 a 7) d v else sg.2.2.2.1 a 7) d = v
  rw [if_pos ⟨rfl, rfl⟩, upd_eq']
theorem sR_o {v : Int32} {j : Nat} (hj : j ≠ 7) : (sR sg a 7 d v).2.2.2.1 a j = sg.2.2.2.1 a j := if_neg (fun z => hj z.2)
/-- a test: where it goes on -/
theorem J_tst {b' q' : Nat} {pl : Bool} {gn0 : Int32} (cb : CB hB Z P A B sz es) (rh : RH (.ref P) n sg Z hB h) (hn : ka.2.2.2 ≤ n) (it : iTm sB A B mi kc om ka la ms N cn sg s D x a d) (n7 : sg.2.2.2.1 a 7 d = Int32.ofNat (p + 1)) (eS : fSt (x a d) = (1, pl, fL (x a d)) :: S0) (pf : eLv (fL (x a d)) S0) (hA : A p = 18) (gn : gl (fG (x a d)) (fGn (x a d)) gn0) (nx : NXT sB A B (fMe (x a d)) (mi (fMe (x a d))).1 (mi (fMe (x a d))).2.1 (mi (fMe (x a d))).2.2.1 b' (fL (x a d)) (fG (x a d)) gn0 S0 q') (hb : if Int64.toInt32 (s.2.2 97 (10100 * a + (fQ (x a d) + S0.length))) = 0 then B p = Int32.ofNat b' else b' = p + 1) (hr : rM w (k2 + 12) 388 [.ref 36, .int (Int32.ofNat a), .int (Int32.ofNat (10 * a + d)), .int (Int32.ofNat q)] s = some (some (.int 0), rs_wA (rs_wA s 93 a (Int32.ofNat (fQ (x a d) + S0.length))) 99 (10 * a + d) (Int32.ofNat q'))) : jEx sB A B mi kc L xs zf w P Z hB k k2 n cn a d p q sg h s := by
  obtain ⟨⟨a12, d10, u1, u2, u3, u4⟩, rq, fx, b3, r92, b8, gi, rl, ob4⟩ := it_f it
  have it0 := it
  obtain ⟨wl, _, _, ⟨_, ac, _⟩, vl, rg, nm, _, _, so, r93, _⟩ := it0
  have e0 := int_top it eS
  rw [eS] at so r93 u3
  have u3' : S0.length < 1010 := u3
  obtain ⟨o1, o2, o3, o4⟩ := so
  obtain ⟨h', e1, e2, e3, e4⟩ := k_test (L := L) (xs := xs) (zf := zf) (w := w) (k := k + 7) (v := B p) (ht := (fBs (x a d) + (mi (fMe (x a d))).2.2.2.2 + S0.length)) rh (by omega) ⟨o1, o2, o3, o4⟩ b3 (by omega)
  have e1' := x_18s (k := k + 10) cb rh (by omega) hA e1
  rw [e0] at e2
  have sok : SOK (sQ sg a (sg.2.2.2.2 a 12) (sg.2.2.2.2 a 13) (sg.2.2.2.1 a 12) (fBs (x a d) + (mi (fMe (x a d))).2.2.2.2 + S0.length)) a (fBs (x a d) + (mi (fMe (x a d))).2.2.2.2 + S0.length) := SOK_q (Nat.le_trans (Nat.le_succ _) o2) o3 o4
  have cst : CST n sg h (sQ sg a (sg.2.2.2.2 a 12) (sg.2.2.2.2 a 13) (sg.2.2.2.1 a 12) (fBs (x a d) + (mi (fMe (x a d))).2.2.2.2 + S0.length)) h' := CST_q e3 e4
  have p0 : (sQ sg a (sg.2.2.2.2 a 12) (sg.2.2.2.2 a 13) (sg.2.2.2.1 a 12) (fBs (x a d) + (mi (fMe (x a d))).2.2.2.2 + S0.length)).2.2.2.2 a 0 = sg.2.2.2.2 a 0 := sQ_P (Or.inl (by decide))
  by_cases c : Int64.toInt32 (s.2.2 97 (10100 * a + (fQ (x a d) + S0.length))) = 0
  · rw [if_pos c] at e2 hb
    obtain ⟨om2, N2, x2, ru⟩ := J_pop (X := [(1, pl, fL (x a d))]) (sg' := sR (sQ sg a (sg.2.2.2.2 a 12) (sg.2.2.2.2 a 13) (sg.2.2.2.1 a 12) (fBs (x a d) + (mi (fMe (x a d))).2.2.2.2 + S0.length)) a 7 d (B p)) it eS pf gn nx (kCl_t (kCl_q (fun _ _ => rfl)) kCl_7) ((sR_o (by decide)).trans sQ_f) (sR_7.trans hb) sok
    exact jEx_s e1' hr e2 hn ac ru p0 (CST_0 (fun b => by
      show (sQ sg a (sg.2.2.2.2 a 12) (sg.2.2.2.2 a 13) (sg.2.2.2.1 a 12) (fBs (x a d) + (mi (fMe (x a d))).2.2.2.2 + S0.length)).2.2.2.2 b 13 = _
      by_cases e : b = a
      · rw [e, sQ_c]
      · exact sQ_P (Or.inr e)) e3 e4)
  · rw [if_neg c] at e2 hb
    obtain ⟨om2, N2, x2, ru⟩ := J_pop (X := [(1, pl, fL (x a d))]) (sg' := sQ sg a (sg.2.2.2.2 a 12) (sg.2.2.2.2 a 13) (sg.2.2.2.1 a 12) (fBs (x a d) + (mi (fMe (x a d))).2.2.2.2 + S0.length)) it eS pf gn nx (kCl_q (fun _ _ => rfl)) sQ_f (by rw [sQ_R (Or.inl (by decide)), hb]; exact n7) sok
    exact jEx_s e1' hr e2 hn ac ru p0 cst
/-- if -/
theorem J_21 (cb : CB hB Z P A B sz es) (rh : RH (.ref P) n sg Z hB h) (hn : ka.2.2.2 ≤ n) (it : iTm sB A B mi kc om ka la ms N cn sg s D x a d) (n7 : sg.2.2.2.1 a 7 d = Int32.ofNat (p + 1)) (q4 : q < 4400) (hw : 10000 ≤ w) {u dd r d1 y : Nat} {g2 : Int32} {pl : Bool} (eK : sB.2.1 44 q = Int32.ofNat 21) (q1 : 1 ≤ q) (hu : u + 2 * dd ≤ 2 * (mi (fMe (x a d))).1 + 4) (hdd : dd ≤ (mi (fMe (x a d))).1) (pk : PKA sB (mi (fMe (x a d))).2.1 (mi (fMe (x a d))).2.2.1 q) (eS : fSt (x a d) = (1, pl, fL (x a d)) :: S0) (e46 : sB.2.1 46 q = Int32.ofNat r) (r1 : 1 ≤ r) (r2 : r < 4400) (hA : A p = 18) (tu : (TU sB (sB.2.1 53) A B (fMe (x a d)) dd).2 (fL (x a d)) (fG (x a d)) (fGn (x a d)) r 0 y g2 (p + 1) d1)
    (alt : (sB.2.1 47 q = 0 ∧ B p = Int32.ofNat d1 ∧ SC sB A B (fMe (x a d)) (mi (fMe (x a d))).1 (mi (fMe (x a d))).2.1 (mi (fMe (x a d))).2.2.1 u q d1 (fL (x a d)) (fG (x a d)) (fGn (x a d) ||| g2) S0) ∨ ∃ (e y b1 : Nat) (g3 : Int32), sB.2.1 47 q = Int32.ofNat e ∧ 1 ≤ e ∧ e < 4400 ∧ A d1 = 20 ∧ B d1 = Int32.ofNat b1 ∧ B p = Int32.ofNat (d1 + 1) ∧ (TU sB (sB.2.1 53) A B (fMe (x a d)) dd).2 (fL (x a d)) (fG (x a d)) (fGn (x a d)) e 0 y g3 (d1 + 1) b1 ∧ SC sB A B (fMe (x a d)) (mi (fMe (x a d))).1 (mi (fMe (x a d))).2.1 (mi (fMe (x a d))).2.2.1 u q b1 (fL (x a d)) (fG (x a d)) (g3 ||| g2) S0) : jEx sB A B mi kc L xs zf w P Z hB k k2 n cn a d p q sg h s := by
  obtain ⟨⟨a12, d10, u1, u2, u3, u4⟩, rq, fx, b3, r92, b8, gi, rl, ob4⟩ := it_f it
  have it0 := it
  obtain ⟨wl, _, _, ⟨_, ac, _⟩, vl, rg, nm, _, _, so, r93, _⟩ := it0
  obtain ⟨m1, m2, m3, m4, m5⟩ := nm.2.2.2
  have u3' : S0.length < 1010 := by rw [eS] at u3; exact u3
  have r93' : s.2.1 93 a = Int32.ofNat (fQ (x a d) + S0.length + 1) := by rw [eS] at r93; exact r93
  obtain ⟨z49, pkr⟩ := pka_46 pk eK (by decide) rfl r2 e46
  have pf : eLv (fL (x a d)) S0 := by
    rcases alt with z | ⟨e, y, b1, g3, _, _, _, _, _, _, _, z⟩
    · exact LV_SC z.2.2
    · exact LV_SC z
  obtain ⟨e30, _⟩ : sB.2.1 44 r = 30 ∧ True := by
    obtain ⟨d', ed, e30, es, xl⟩ := TU_30 tu
    exact ⟨e30, trivial⟩
  by_cases c : Int64.toInt32 (s.2.2 97 (10100 * a + (fQ (x a d) + S0.length))) = 0
  · rcases alt with ⟨e47, hB', sc⟩ | ⟨e, y', b1, g3, e47, e1, e2, a20, b20, hB', tu2, sc⟩
    · obtain ⟨q', bh, nx⟩ := AD_S m3 m2 sc nm.1 q4
      exact J_tst cb rh hn it n7 eS pf hA gl_o1 nx (by rw [if_pos c]; exact hB') (act_21n (k := k2 + 7) rq a12 d10 q4 eK bh (by decide) (by omega) r93' (by omega) c e47)
    · obtain ⟨z49', pke⟩ := pka_47 pk eK e2 (by omega) e47
      obtain ⟨e30', _⟩ : sB.2.1 44 e = 30 ∧ True := by
        obtain ⟨d', ed, e30, es, xl⟩ := TU_30 tu2
        exact ⟨e30, trivial⟩
      obtain ⟨fu, sc⟩ := sc
      have bc : BC sB A B (fMe (x a d)) (mi (fMe (x a d))).1 (mi (fMe (x a d))).2.1 (mi (fMe (x a d))).2.2.1 (u + 1) e b1 (fL (x a d)) (fG (x a d)) g3 S0 := ⟨fu + 1, e30', by omega, q, z49', q1, q4, Or.inr (Or.inl ⟨eK, g3 ||| g2, u, rfl, gl_o1, Or.inl sc⟩)⟩
      obtain ⟨q', en, nx⟩ := ENT m3 m2 hu hdd ⟨e1, e2⟩ tu2 pke bc nm.1
      exact J_tst cb rh hn it n7 eS pf hA gl_r nx (by rw [if_pos c]; exact hB') (act_21e (k := k2 + 7) rq a12 d10 q4 eK (by omega) r93' (by omega) c e47 e1 e2 en)
  · have bc : BC sB A B (fMe (x a d)) (mi (fMe (x a d))).1 (mi (fMe (x a d))).2.1 (mi (fMe (x a d))).2.2.1 (u + 1) r d1 (fL (x a d)) (fG (x a d)) g2 S0 := by
      rcases alt with ⟨e47, hB', fu, sc⟩ | ⟨e, y', b1, g3, e47, e1, e2, a20, b20, hB', tu2, fu, sc⟩
      · exact ⟨fu + 1, e30, by omega, q, z49, q1, q4, Or.inr (Or.inl ⟨eK, _, u, rfl, gl_o2, Or.inl sc⟩)⟩
      · exact ⟨fu + 1, e30, by omega, q, z49, q1, q4, Or.inr (Or.inl ⟨eK, _, u, rfl, gl_o2, Or.inr ⟨b1, a20, b20, by have := (TU_ab (s := sB) (SL := sB.2.1 53) (A := A) (B := B) (m := fMe (x a d)) dd).2 _ _ _ _ _ _ _ _ _ tu2; omega, sc⟩⟩)⟩
    obtain ⟨q', en, nx⟩ := ENT m3 m2 hu hdd ⟨r1, r2⟩ tu pkr bc nm.1
    exact J_tst cb rh hn it n7 eS pf hA gl_r nx (by rw [if_neg c]) (act_21t (k := k2 + 7) rq a12 d10 q4 eK (by omega) r93' (by omega) c e46 en)
/-- while -/
theorem J_22 (cb : CB hB Z P A B sz es) (rh : RH (.ref P) n sg Z hB h) (hn : ka.2.2.2 ≤ n) (it : iTm sB A B mi kc om ka la ms N cn sg s D x a d) (n7 : sg.2.2.2.1 a 7 d = Int32.ofNat (p + 1)) (q4 : q < 4400) (hw : 10000 ≤ w) {u dd l0 r a0 d1 y : Nat} {g0 g2 : Int32} {pl : Bool} (eK : sB.2.1 44 q = Int32.ofNat 22) (q1 : 1 ≤ q) (hu : u + 2 * dd ≤ 2 * (mi (fMe (x a d))).1 + 4) (hdd : dd ≤ (mi (fMe (x a d))).1) (pk : PKA sB (mi (fMe (x a d))).2.1 (mi (fMe (x a d))).2.2.1 q) (eS : fSt (x a d) = (1, pl, fL (x a d)) :: S0) (e45 : sB.2.1 45 q = Int32.ofNat l0) (l1 : 1 ≤ l0) (l2 : l0 < 4400) (e46 : sB.2.1 46 q = Int32.ofNat r) (r1 : 1 ≤ r) (r2 : r < 4400) (hA : A p = 18) (hB' : B p = Int32.ofNat (d1 + 1)) (tuc : (TU sB (sB.2.1 53) A B (fMe (x a d)) (mi (fMe (x a d))).1).1 (fL (x a d)) (fG (x a d)) g0 l0 1 (fGn (x a d)) a0 p) (tu : (TU sB (sB.2.1 53) A B (fMe (x a d)) dd).2 (fL (x a d)) (fG (x a d)) (fGn (x a d)) r 0 y g2 (p + 1) d1) (a20 : A d1 = 20) (b20 : B d1 = Int32.ofNat a0) (hg : gl (fG (x a d)) g2 g0) (sc : SC sB A B (fMe (x a d)) (mi (fMe (x a d))).1 (mi (fMe (x a d))).2.1 (mi (fMe (x a d))).2.2.1 u q (d1 + 1) (fL (x a d)) (fG (x a d)) (fGn (x a d)) S0) : jEx sB A B mi kc L xs zf w P Z hB k k2 n cn a d p q sg h s := by
  obtain ⟨⟨a12, d10, u1, u2, u3, u4⟩, rq, fx, b3, r92, b8, gi, rl, ob4⟩ := it_f it
  have it0 := it
  obtain ⟨wl, _, _, ⟨_, ac, _⟩, vl, rg, nm, _, _, so, r93, _⟩ := it0
  obtain ⟨m1, m2, m3, m4, m5⟩ := nm.2.2.2
  have u3' : S0.length < 1010 := by rw [eS] at u3; exact u3
  have r93' : s.2.1 93 a = Int32.ofNat (fQ (x a d) + S0.length + 1) := by rw [eS] at r93; exact r93
  obtain ⟨z49, pkr⟩ := pka_46 pk eK (by decide) rfl r2 e46
  have pf : eLv (fL (x a d)) S0 := LV_SC sc
  by_cases c : Int64.toInt32 (s.2.2 97 (10100 * a + (fQ (x a d) + S0.length))) = 0
  · obtain ⟨q', bh, nx⟩ := AD_S m3 m2 sc nm.1 q4
    exact J_tst cb rh hn it n7 eS pf hA gl_r nx (by rw [if_pos c]; exact hB') (act_22n (k := k2 + 7) rq a12 d10 q4 eK bh (by decide) (by omega) r93' (by omega) c)
  · obtain ⟨e30, _⟩ : sB.2.1 44 r = 30 ∧ True := by
      obtain ⟨d', ed, e30, es, xl⟩ := TU_30 tu
      exact ⟨e30, trivial⟩
    obtain ⟨fu, scf⟩ := id sc
    have bc : BC sB A B (fMe (x a d)) (mi (fMe (x a d))).1 (mi (fMe (x a d))).2.1 (mi (fMe (x a d))).2.2.1 (u + 1) r d1 (fL (x a d)) (fG (x a d)) g2 S0 := ⟨fu + 1, e30, by omega, q, z49, q1, q4, Or.inr (Or.inr ⟨eK, pk, l0, a0, p, g0, fGn (x a d), e45, l1, l2, a20, b20, hg, tuc, ⟨q1, q4⟩, 22, eK, by decide, u, dd, l0, r, a0, d1, y, g0, g2, _, S0, hu, hdd, pk, rfl, e45, l1, l2, e46, r1, r2, hA, hB', tuc, tu, a20, b20, hg, scf⟩)⟩
    obtain ⟨q', en, nx⟩ := ENT m3 m2 hu hdd ⟨r1, r2⟩ tu pkr bc nm.1
    exact J_tst cb rh hn it n7 eS pf hA gl_r nx (by rw [if_neg c]) (act_22t (k := k2 + 7) rq a12 d10 q4 eK (by omega) r93' (by omega) c e46 en)
end JBR
