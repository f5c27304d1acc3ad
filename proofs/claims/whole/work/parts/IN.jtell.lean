/-! WHAT IS TOLD. -/
section JTL
variable {sB : rS} {A B : Nat → Int32} {mi : Nat → Nat × Nat × Nat × Nat × Nat} {kc : kCi} {om om' : oMg} {ka ka' : kAp} {la : lAy} {ms : mSg} {N N' cn : Nat} {sg sg' sg2 : cS} {s s' s2 S1 : rS} {a b d e lo q0 J l t r i n p q k k2 f0 w P L sz lv : Nat} {xs : Nat → Int32} {zf : Value} {Z : Nat → Prop} {hB h h' : rm_H} {es : List Nat} {x : Nat → Nat → fDs} {D : Nat → Nat} {S S0 X : List stE} {v : Int64} {y : Int32}
variable {tn : Nat} {vt : Int32}
theorem wA_cm {p p' j j' : Nat} {x1 x2 : Int32} (h : p ≠ p') : rs_wA (rs_wA s p j x1) p' j' x2 = rs_wA (rs_wA s p' j' x2) p j x1 := by
  have e : (rs_wA (rs_wA s p j x1) p' j' x2).2.1 = (rs_wA (rs_wA s p' j' x2) p j x1).2.1 := by
    funext q i
    rw [wA_get, wA_get, wA_get, wA_get]
    by_cases c1 : q = p ∧ i = j
    · rw [if_neg (fun z => h (c1.1.symm.trans z.1)), if_pos c1, if_pos c1]
    · rw [if_neg c1, if_neg c1]
  exact congrArg (fun z => (s.1, z, s.2.2)) e
def sTg (sg : cS) (a tn : Nat) (vt : Int32) : cS := (sXc (if tn < 200 then sW (sW sg 3 tn vt) 4 tn (sg.2.2.1 a 0) else sg) 12 (Int32.ofNat (tn + 1)))
def sTs (s : rS) (a tn : Nat) (vt : Int32) : rS := (rs_w (if tn < 200 then rs_wA (rs_wA s 108 tn vt) 109 tn (Int32.ofNat a) else s) 81 (Int32.ofNat (tn + 1)))
theorem sTg_2 : (sTg sg a tn vt).2.2 = sg.2.2 := by
  unfold sTg
  split <;> rfl
theorem sTg_1 {j : Nat} (h : j ≠ 12) : (sTg sg a tn vt).1 j = sg.1 j := by
  unfold sTg
  show upd _ 12 _ j = _
  rw [upd_ne' h]
  split <;> rfl
theorem sTg_c {j : Nat} (h : j ≠ 3 ∧ j ≠ 4) : (sTg sg a tn vt).2.1 j = sg.2.1 j := by
  unfold sTg
  show (if tn < 200 then sW (sW sg 3 tn vt) 4 tn (sg.2.2.1 a 0) else sg).2.1 j = _
  split
  · show (if j = 4 then _ else if j = 3 then _ else sg.2.1 j) = _
    rw [if_neg h.2, if_neg h.1]
  · rfl
theorem sTs_1 {j : Nat} (h : j ≠ 81) : (sTs s a tn vt).1 j = s.1 j := by
  unfold sTs
  show upd _ 81 _ j = _
  rw [upd_ne' h]
  split <;> rfl
theorem sTs_2 : (sTs s a tn vt).2.2 = s.2.2 := by
  unfold sTs
  split <;> rfl
theorem sTs_r {p i : Nat} (h : p ≠ 108 ∧ p ≠ 109) : (sTs s a tn vt).2.1 p i = s.2.1 p i := by
  unfold sTs
  show (if tn < 200 then rs_wA (rs_wA s 108 tn vt) 109 tn (Int32.ofNat a) else s).2.1 p i = _
  split
  · rw [wA_get, if_neg (fun z => h.2 z.1), wA_get, if_neg (fun z => h.1 z.1)]
  · rfl
theorem sTg_12 : (sTg sg a tn vt).1 12 = Int32.ofNat (tn + 1) := by
  unfold sTg
  exact upd_eq' (g := (if tn < 200 then sW (sW sg 3 tn vt) 4 tn (sg.2.2.1 a 0) else sg).1) (i := 12) (v := Int32.ofNat (tn + 1))
theorem sTs_81 : (sTs s a tn vt).1 81 = Int32.ofNat (tn + 1) := by
  unfold sTs
  exact upd_eq' (g := (if tn < 200 then rs_wA (rs_wA s 108 tn vt) 109 tn (Int32.ofNat a) else s).1) (i := 81) (v := Int32.ofNat (tn + 1))
theorem wAl_t (w : wAl sB kc om ka la ms N cn sg s D) (ac : a < ka.2.2.2) (vt : Int32) : ∃ tn, sg.1 12 = Int32.ofNat tn ∧ s.1 81 = Int32.ofNat tn ∧ tn ≤ cn ∧ wAl sB kc om ka la ms N (cn + 1) (sTg sg a tn vt) (sTs s a tn vt) D := by
  obtain ⟨⟨x1, x2⟩, gi, ⟨clm, mb, tn, ⟨n1, n1b⟩, ⟨n2, n2b⟩, ⟨n3, n3b⟩, ⟨n4, n4b⟩, ⟨n5, n5b⟩, ⟨n6, n6b⟩, n7, ⟨n8, n8b, n8c, n8d⟩, ⟨n9, n9b, n9c⟩, n10, n11⟩, wo, wd, wa⟩ := w
  have an : sg.2.2.1 a 0 = Int32.ofNat a := (wa a ac).2.1.1.1
  refine ⟨tn, n8, n8b, n8c, ?_⟩
  have g2 : (sTg sg a tn vt).2.2 = sg.2.2 := sTg_2
  have rr : ∀ p i, p ≠ 108 ∧ p ≠ 109 → (sTs s a tn vt).2.1 p i = s.2.1 p i := fun p i h => sTs_r h
  have rl : (sTs s a tn vt).2.2 = s.2.2 := sTs_2
  have cp : ∀ d' y, cPy (sTs s a tn vt) d' y = cPy s d' y := fun d' y => by unfold cPy; rw [rl]
  have kn : ∀ d', wKn kc om ka la s d' → wKn kc om ka la (sTs s a tn vt) d' := fun d' h o ho => by
    obtain ⟨z1, z2, z3⟩ := h o ho
    exact ⟨z1, z2, fun f hf => by rw [cp]; exact z3 f hf⟩
  refine ⟨⟨fun p hp => ?_, fun p hp => by rw [rl]; exact x2 p hp⟩, gi, ?_, fun o h1 h2 => ?_, wd, fun b hb => ?_⟩
  · funext i; rw [rr p i ⟨by omega, by omega⟩, x1 p hp]
  · have c1 : ∀ {j}, j ≠ 12 → (sTg sg a tn vt).1 j = sg.1 j := fun h => sTg_1 h
    have c2 : ∀ {j}, j ≠ 81 → (sTs s a tn vt).1 j = s.1 j := fun h => sTs_1 h
    refine ⟨clm, mb, tn + 1, ⟨?_, ?_⟩, ⟨?_, ?_⟩, ⟨?_, ?_⟩, ⟨?_, ?_⟩, ⟨?_, ?_⟩, ⟨?_, n6b⟩, ?_, ⟨?_, ?_, by omega, fun i h1 h2 => ?_⟩, ⟨?_, ?_, ?_⟩, ?_, n11.1, fun b h1 h2 => by rw [g2]; exact n11.2 b h1 h2⟩
    · rw [c1 (by decide)]; exact n1
    · rw [c2 (by decide)]; exact n1b
    · rw [c1 (by decide)]; exact n2
    · rw [c2 (by decide)]; exact n2b
    · rw [c1 (by decide)]; exact n3
    · rw [c2 (by decide)]; exact n3b
    · rw [c1 (by decide)]; exact n4
    · rw [c2 (by decide)]; exact n4b
    · rw [c1 (by decide)]; exact n5
    · rw [c2 (by decide)]; exact n5b
    · rw [c2 (by decide)]; exact n6
    · rw [c1 (by decide), c2 (by decide)]; exact n7
    · exact sTg_12
    · exact sTs_81
    · unfold sTg sTs
      show (if tn < 200 then sW (sW sg 3 tn vt) 4 tn (sg.2.2.1 a 0) else sg).2.1 3 i = (if tn < 200 then rs_wA (rs_wA s 108 tn vt) 109 tn (Int32.ofNat a) else s).2.1 108 i ∧ (if tn < 200 then sW (sW sg 3 tn vt) 4 tn (sg.2.2.1 a 0) else sg).2.1 4 i = (if tn < 200 then rs_wA (rs_wA s 108 tn vt) 109 tn (Int32.ofNat a) else s).2.1 109 i
      by_cases c : tn < 200
      · rw [if_pos c, if_pos c]
        have z3 : (sW (sW sg 3 tn vt) 4 tn (sg.2.2.1 a 0)).2.1 3 = upd (sg.2.1 3) tn vt := rfl
        have z4 : (sW (sW sg 3 tn vt) 4 tn (sg.2.2.1 a 0)).2.1 4 = upd (sg.2.1 4) tn (sg.2.2.1 a 0) := rfl
        rw [z3, z4, wA_get, if_neg (by omega), wA_get, wA_get]
        by_cases ci : i = tn
        · rw [ci, upd_eq', upd_eq', if_pos ⟨rfl, rfl⟩, if_pos ⟨rfl, rfl⟩, an]
          exact ⟨rfl, rfl⟩
        · rw [upd_ne' ci, upd_ne' ci, if_neg (by omega), if_neg (by omega), wA_get, if_neg (by omega)]
          exact n8d i h1 (by omega)
      · rw [if_neg c, if_neg c]
        exact n8d i h1 (by omega)
    · rw [c1 (by decide), c2 (by decide)]; exact n9
    · rw [c1 (by decide), c2 (by decide)]; exact n9b
    · rw [c1 (by decide), c2 (by decide)]; exact n9c
    · rw [c2 (by decide)]; exact n10
  · have := wo o h1 h2
    unfold wO1 at this ⊢
    rw [rr 87 o ⟨by decide, by decide⟩, rr 88 o ⟨by decide, by decide⟩, sTg_c ⟨by decide, by decide⟩, sTg_c ⟨by decide, by decide⟩]
    exact this
  · obtain ⟨k1, k2, k3⟩ := wa b hb
    refine ⟨kn _ k1, ?_, ?_⟩
    · unfold wAc at k2 ⊢
      rw [g2, rl, rr 89 b ⟨by decide, by decide⟩, rr 92 b ⟨by decide, by decide⟩, rr 90 b ⟨by decide, by decide⟩, rr 91 b ⟨by decide, by decide⟩, sTg_c ⟨by decide, by decide⟩]
      exact k2
    · obtain ⟨⟨m1, m2, m3⟩, ⟨m4, m5⟩, m6, m7, m8⟩ := k3
      refine ⟨⟨m1, by rw [g2]; exact m2, by rw [rr 94 b ⟨by decide, by decide⟩]; exact m3⟩, ⟨m4, by rw [g2]; exact m5⟩, fun k hk => ?_, m7, fun j hj hz => by rw [rr 104 _ ⟨by decide, by decide⟩]; exact m8 j hj hz⟩
      obtain ⟨p1, p2, p3, ⟨p4, p5, p6, p7, p8⟩, p9, ⟨ts, t1, t2, t3, t4⟩, p12, p13⟩ := m6 k hk
      refine ⟨p1, by rw [rr 102 _ ⟨by decide, by decide⟩]; exact p2, by rw [rr 104 _ ⟨by decide, by decide⟩]; exact p3, ⟨p4, by rw [rr 103 _ ⟨by decide, by decide⟩]; exact p5, by rw [g2]; exact p6, p7, p8⟩, p9, ⟨ts, t1, t2, t3, fun i t ht => ?_⟩, kn _ p12, fun o h1 h2 => by rw [rr 105 _ ⟨by decide, by decide⟩]; exact p13 o h1 h2⟩
      obtain ⟨u1, u2, u3, u4, u5⟩ := t4 i t ht
      exact ⟨u1, u2, u3, by rw [g2]; exact u4, by rw [rl]; exact u5⟩
theorem it_t (it : iTm sB A B mi kc om ka la ms N cn sg s D x a d) (vt : Int32) : ∃ tn, sg.1 12 = Int32.ofNat tn ∧ s.1 81 = Int32.ofNat tn ∧ tn ≤ cn ∧ iTm sB A B mi kc om ka la ms N (cn + 1) (sTg sg a tn vt) (sTs s a tn vt) D x a d := by
  obtain ⟨w, bo, su, ⟨hD, ac, d10⟩, vl, rg, nm, od, lk, so, r93, bb⟩ := it
  obtain ⟨tn, t1, t2, t3, w'⟩ := wAl_t w ac vt
  have g2 : (sTg sg a tn vt).2.2 = sg.2.2 := sTg_2
  have r2 : (sTs s a tn vt).2.2 = s.2.2 := sTs_2
  have rr : ∀ p, p ≠ 108 ∧ p ≠ 109 → (sTs s a tn vt).2.1 p = s.2.1 p := fun p h => by funext i; exact sTs_r h
  refine ⟨tn, t1, t2, t3, w', fun b hb hne => aBd_e (bo b hb hne) (by rw [g2]) (by rw [g2]) (by rw [g2]) (rr 99 ⟨by decide, by decide⟩) (by rw [rr 93 ⟨by decide, by decide⟩]) (by rw [r2]) (by rw [r2]) (by rw [r2]), fun e he => ?_, ⟨hD, ac, d10⟩, fVl_e vl (by rw [g2]) (by rw [g2]) (by rw [g2]) (by rw [r2]) (by rw [r2]) (by rw [r2]), rg, nm, od, lk, ?_, by rw [rr 93 ⟨by decide, by decide⟩]; exact r93, bb⟩
  · obtain ⟨S0, t, z1, z2⟩ := su e he
    exact ⟨S0, t, z1, fOk_e z2 (by rw [g2]) (rr 99 ⟨by decide, by decide⟩) (by rw [r2]) (by rw [r2]) (by rw [r2])⟩
  · unfold SOK at so ⊢
    rw [g2]
    exact so
/-- tell -/
theorem J_23 (cb : CB hB Z P A B sz es) (rh : RH (.ref P) n sg Z hB h) (hn : ka.2.2.2 ≤ n) (it : iTm sB A B mi kc om ka la ms N cn sg s D x a d) (n7 : sg.2.2.2.1 a 7 d = Int32.ofNat (p + 1)) (q4 : q < 4400) (hw : 10000 ≤ w) {u : Nat} {pl : Bool} (eK : sB.2.1 44 q = Int32.ofNat 23) (cb4 : cn ≤ 1000000) (eS : fSt (x a d) = (1, pl, fL (x a d)) :: S0) (hA : A p = 14) (sc : SC sB A B (fMe (x a d)) (mi (fMe (x a d))).1 (mi (fMe (x a d))).2.1 (mi (fMe (x a d))).2.2.1 u q (p + 1) (fL (x a d)) (fG (x a d)) (fGn (x a d)) S0) : jEx sB A B mi kc L xs zf w P Z hB k k2 n cn a d p q sg h s := by
  obtain ⟨⟨a12, d10, u1, u2, u3, u4⟩, rq, fx, b3, r92, b8, gi, rl, ob4⟩ := it_f it
  have it0 := it
  obtain ⟨wl, _, _, ⟨_, ac, _⟩, vl, rg, nm, _, _, so, r93, _⟩ := it0
  have e0 := int_top it eS
  obtain ⟨tn, t1, t2, t3, itT⟩ := it_t it (Int64.toInt32 (s.2.2 97 (10100 * a + (fQ (x a d) + S0.length))))
  rw [eS] at so r93 u3
  have u3' : S0.length < 1010 := u3
  obtain ⟨o1, o2, o3, o4⟩ := so
  obtain ⟨q', bh, nx⟩ := AD_S nm.2.2.2.2.2.1 nm.2.2.2.2.1 sc nm.1 q4
  obtain ⟨h', e1, e2, e3, e4⟩ := k_told (L := L) (xs := xs) (zf := zf) (w := w) (k := k + 9) (ht := (fBs (x a d) + (mi (fMe (x a d))).2.2.2.2 + S0.length)) rh (by omega) ⟨o1, o2, o3, o4⟩ t1 (by omega)
  rw [e0] at e2
  have g2 : (sTg sg a tn (Int64.toInt32 (s.2.2 97 (10100 * a + (fQ (x a d) + S0.length))))).2.2 = sg.2.2 := sTg_2
  obtain ⟨om2, N2, x2, ru⟩ := J_pop (X := [(1, pl, fL (x a d))]) (sg' := sQ (sTg sg a tn (Int64.toInt32 (s.2.2 97 (10100 * a + (fQ (x a d) + S0.length))))) a (sg.2.2.2.2 a 12) (sg.2.2.2.2 a 13) (sg.2.2.2.1 a 12) (fBs (x a d) + (mi (fMe (x a d))).2.2.2.2 + S0.length)) itT eS (LV_SC sc) gl_r nx (kCl_q (fun i _ => by rw [g2])) (by rw [sQ_f, g2]) (by rw [sQ_R (Or.inl (by decide)), g2]; exact n7) (SOK_q (Nat.le_trans (Nat.le_succ _) o2) o3 o4)
  have hr := act_23 (k := k2 + 8) (t := fQ (x a d) + S0.length) rq a12 d10 q4 eK bh (by decide) (by omega : 6000 ≤ w) r93 (by omega) t2 (by omega)
  have eC : sXc (if tn < 200 then sW (sW (sQ sg a (sg.2.2.2.2 a 12) (sg.2.2.2.2 a 13) (sg.2.2.2.1 a 12) (fBs (x a d) + (mi (fMe (x a d))).2.2.2.2 + S0.length)) 3 tn (Int64.toInt32 (s.2.2 97 (10100 * a + (fQ (x a d) + S0.length))))) 4 tn (sg.2.2.1 a 0) else sQ sg a (sg.2.2.2.2 a 12) (sg.2.2.2.2 a 13) (sg.2.2.2.1 a 12) (fBs (x a d) + (mi (fMe (x a d))).2.2.2.2 + S0.length)) 12 (Int32.ofNat (tn + 1)) = sQ (sTg sg a tn (Int64.toInt32 (s.2.2 97 (10100 * a + (fQ (x a d) + S0.length))))) a (sg.2.2.2.2 a 12) (sg.2.2.2.2 a 13) (sg.2.2.2.1 a 12) (fBs (x a d) + (mi (fMe (x a d))).2.2.2.2 + S0.length) := by
    unfold sTg
    by_cases c : tn < 200
    · rw [if_pos c, if_pos c]; rfl
    · rw [if_neg c, if_neg c]; rfl
  have eR : rs_w (if tn < 200 then rs_wA (rs_wA (rs_wA s 93 a (Int32.ofNat (fQ (x a d) + S0.length))) 108 tn (Int64.toInt32 (s.2.2 97 (10100 * a + (fQ (x a d) + S0.length))))) 109 tn (Int32.ofNat a) else rs_wA s 93 a (Int32.ofNat (fQ (x a d) + S0.length))) 81 (Int32.ofNat (tn + 1)) = rs_wA (sTs s a tn (Int64.toInt32 (s.2.2 97 (10100 * a + (fQ (x a d) + S0.length))))) 93 a (Int32.ofNat (fQ (x a d) + S0.length)) := by
    unfold sTs
    by_cases c : tn < 200
    · rw [if_pos c, if_pos c, wA_cm (p := 93) (p' := 108) (by decide), wA_cm (p := 93) (p' := 109) (by decide)]; rfl
    · rw [if_neg c, if_neg c]; rfl
  rw [eC] at e2
  rw [eR] at hr
  refine ⟨h', n, _, _, 0, om2, ka, la, ms, N2, D, x2, x_14s (k := k + 10) cb rh (by omega) hA e1, hr, e2, ⟨hn, Nat.le_refl _⟩, by rw [if_pos rfl]; exact ru, ?_, ac, cNt_of (CST_0 (fun b => ?_) e3 e4)⟩
  · rw [sQ_P (Or.inl (by decide)), g2]
  · by_cases e : b = a
    · rw [e, sQ_c]
    · rw [sQ_P (Or.inr e), g2]
end JTL
