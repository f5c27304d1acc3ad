/-! A NEW OBJECT BY BOTH. -/
/-- Kind kk's new object, as both make it -/
def kNw (sB : rS) (kc : kCi) (hB : rm_H) (Z : Nat → Prop) (M kk : Nat) (em : Nat → Int64) : Prop := KFR sB kk (kc kk).1 em ∧ (∀ f, f < (kc kk).1 → (∀ k' : kAp, vTy k' 0 ((kc kk).2.1 f) (em f)) ∧ oV (em f) = 0 ∧ cvl (em f) = 0) ∧ ∃ (K : Nat) (mk : Value), MOw hB Z M K ∧ KBk hB Z K (Int32.ofNat kk) (kc kk).1 mk
theorem sOb_99 {s : rS} {c ob tk bd nf i : Nat} {y : Int32} {g : Nat → Int64} : sOb (rs_wA s 99 i y) c ob tk bd nf g = rs_wA (sOb s c ob tk bd nf g) 99 i y := by
  refine Prod.ext rfl (Prod.ext ?_ rfl)
  funext p' i'
  rw [sOb_I, wA_get, wA_get, sOb_I]
  by_cases c1 : p' = 99 ∧ i' = i
  · rw [if_pos c1, if_neg (by omega), if_neg (by omega), if_pos c1]
  · rw [if_neg c1, if_neg c1]
section JNO
variable {sB : rS} {A B : Nat → Int32} {mi : Nat → Nat × Nat × Nat × Nat × Nat} {kc : kCi} {om om' : oMg} {ka ka' : kAp} {la : lAy} {ms : mSg} {N N' cn : Nat} {sg sg' sg2 : cS} {s s' s2 S1 : rS} {a b d e lo q0 J l t r i n p q k k2 f0 w P L sz lv : Nat} {xs : Nat → Int32} {zf : Value} {Z : Nat → Prop} {hB h h' : rm_H} {es : List Nat} {x : Nat → Nat → fDs} {D : Nat → Nat} {S S0 X : List stE} {v : Int64} {y : Int32}

theorem J_8e {R kk m q' lv' pe qe lve z c cp : Nat} {em : Nat → Int64} {cf : Nat → Int32} {g : Nat → Int64} {Gc : List scN} {ts ps : List Nat} {f : Nat → Int32} {g2 : Nat → Int64} (it : iTm sB A B mi kc om ka la ms N cn sg s D x a d) (it2 : iTm sB A B mi kc (omN om N a ka.2.2.1 (kc kk).1 R em (kc kk).2.1) (kaN ka kk) (laN la ka.2.2.1 (kc kk).1) ms (N + 1) cn (sgO sg la.2.2.2.1 (kc kk).1 ka.2.2.1 cf) (sOb s kk ka.2.2.1 la.2.2.2.1 la.2.2.2.2 (kc kk).1 g) D x a d) (d9 : d + 1 < 10) (eS : fSt (x a d) = (vE (fL (x a d)) ts ++ S0)) (pf : eLv (fL (x a d)) S0) (ptc : PT sB A B (fMe (x a d)) (mi (fMe (x a d))).1 (mi (fMe (x a d))).2.1 (mi (fMe (x a d))).2.2.1 (p + 1) q' lv' (fG (x a d)) (fGn (x a d)) ((8 * (kk + 1) + cp, false, fL (x a d)) :: S0)) (n7 : sg.2.2.2.1 a 7 d = Int32.ofNat (p + 1)) (q4c : q' < 4400) (hl : fL (x a d) ≤ lv') (len : S0.length < 1010)
    (hR : (R = fRe (x a d) (fL (x a d)) ∧ (cp = 2 ∨ cp = 4)) ∨ (R = N ∧ (cp = 0 ∨ cp = 1 ∨ cp = 3))) (k8 : kk < 8) (e71 : sB.2.1 71 m = Int32.ofNat kk) (h66 : sB.2.1 66 kk = 0) (h70 : sB.2.1 70 m = 0) (h75 : sB.2.1 75 m = -1) (lps : ps.length = ts.length) (fit : ∀ (j t' q' : Nat), ts[j]? = some t' → ps[j]? = some q' → fitC (cT t') (cT q') = 0) (hsd : cp = 0 ∨ cp = 1 ∨ cp = 3 → ∀ q' ∈ ps, sdT q' = true)
    (mo : mtOk sB A B mi m) (n6 : ps.length ≤ 6) (npl : ps.length ≤ (mi m).2.2.2.2) (dps : ∀ q' ∈ ps, dTy q' = true) (gG : ∀ (j : Nat) (X : scN), Gc[j]? = some X → X.2.1 = j ∧ ps[j]? = some X.2.2.1) (go : GO sB (mi m).2.1 (mi m).2.2.1 (mi m).2.2.2.1 0 Gc) (pt : PT sB A B m (mi m).1 (mi m).2.1 (mi m).2.2.1 pe qe lve Gc 0 []) (q4e : qe < 4400)
    (hf : ∀ i, i < (fBs (x a d) + (mi (fMe (x a d))).2.2.2.2 + S0.length) + ts.length → f i = sg.2.2.2.1 a 12 i) (c1 : (fBs (x a d) + (mi (fMe (x a d))).2.2.2.2 + S0.length) + (mi m).2.2.2.2 ≤ c) (c2 : 64 ≤ c) (c3 : c ≤ 40000) (hg : ∀ i, i < ts.length → g2 (16 * (10 * a + (d + 1)) + i) = s.2.2 97 (10100 * a + (fQ (x a d) + S0.length) + i)) (hg' : ∀ i, i < 16 * (10 * a + (d + 1)) ∨ 16 * (10 * a + (d + 1)) + ts.length ≤ i → g2 i = s.2.2 101 i) (ob3 : ka.2.2.1 + 1 ≤ 400) :
    ∃ (om' : oMg) (N' : Nat) (D' : Nat → Nat) (x' : Nat → Nat → fDs), rUn sB A B mi kc om' (kaN ka kk) (laN la ka.2.2.1 (kc kk).1) ms N' cn (sE (sQ (sgO sg la.2.2.2.1 (kc kk).1 ka.2.2.1 cf) a z c f ((fBs (x a d) + (mi (fMe (x a d))).2.2.2.2 + S0.length) + (mi m).2.2.2.2)) a (d + 1) (Int32.ofNat pe) (Int32.ofNat (fBs (x a d) + (mi (fMe (x a d))).2.2.2.2 + S0.length)) (cvl (mdV 2 (Int32.ofNat (ka.2.2.1 + 1))))) (sBg (rs_wA (rsL (rs_wA (sOb s kk ka.2.2.1 la.2.2.2.1 la.2.2.2.2 (kc kk).1 g) 99 (10 * a + d) (Int32.ofNat q')) 101 g2) 93 a (Int32.ofNat (fQ (x a d) + S0.length))) a (d + 1) m qe (mdV 2 (Int32.ofNat (ka.2.2.1 + 1)))) D' x' := by
  have gi := (it_f it).2.2.2.2.2.2.1
  have rl := (it_f it).2.2.2.2.2.2.2.1
  have it0 := it
  obtain ⟨wl, _, su, ⟨_, ac, _⟩, vl, rg, nm, _⟩ := it0
  have oV1 : oV (mdV 2 (Int32.ofNat (ka.2.2.1 + 1))) = ka.2.2.1 + 1 := oV_2 ob3
  have N1 := gi.2.2.2.2
  have eLN : ∀ y, eLr (omN om N a ka.2.2.1 (kc kk).1 R em (kc kk).2.1) (N + 1) a d (fL (x a d)) (x a) y → y ≠ N := by
    intro y hy hN
    rcases hy with w | w | ⟨e, j, w1, w2⟩
    · omega
    · rw [nw_o, hN, if_pos (Nat.le_refl _)] at w
      exact w.2 rfl
    · rcases w1 with w1 | w1
      · obtain ⟨S1, t1, _, ok⟩ := su e w1.1
        have := (ok.2.2.1.1 j w1.2).2.1
        omega
      · rw [w1.1] at w2
        have := (rg.1 j w1.2).2.1
        omega
  have Rrho : (omN om N a ka.2.2.1 (kc kk).1 R em (kc kk).2.1).2.2.1.2.1 (ka.2.2.1 + 1) = R := nw_re
  have Rn : R ≠ 0 := by
    rcases hR with w | w
    · rw [w.1]; exact rl.1
    · omega
  refine cal_3 (R0 := R) (np := ts.length) (ts := ts) (S0 := S0) (t := 8 * (kk + 1) + cp) (tt := 8 * (kk + 1) + 2) (v := (mdV 2 (Int32.ofNat (ka.2.2.1 + 1)))) (z := z) (c := c) (f := f) (g2 := g2) (q' := q') it2 d9 eS pf ptc n7 q4c hl len ?hR (Or.inr ⟨by rw [oV1]; exact Nat.le_refl _, Or.inr ⟨by omega, ?ok⟩⟩) ⟨kk, k8, e71, Or.inr ⟨h66, 2, by decide, by rw [if_pos h70]; rfl, rfl, fun w => absurd rfl w⟩⟩ ⟨?vt, fun _ => by rw [oV1]; exact Or.inr ⟨rfl, rfl⟩⟩ ?v0 (by omega) (fun w => by omega) rfl lps fit ?hx mo (by omega) (by omega) dps gG go pt q4e ?l5 hf c1 c2 c3 (fun i hi => by rw [sOb_L, if_neg (by decide)]; exact hg i hi) (fun i hi => by rw [sOb_L, if_neg (by decide)]; exact hg' i hi)
  case hR =>
    rcases hR with w | w
    · exact Or.inl w.1
    · refine Or.inr ⟨Rn, by omega, by rw [nw_o, if_pos (by omega)], fun y hy hin => ?_, fun j hj t0 o0 y1 hin => ?_⟩
      · have hin : inR om.2.2.1 R y := hin
        rw [w.1] at hin
        exact eLN y hy (in_fs2 gi (Nat.le_refl _) hin)
      · have hW : (omN om N a ka.2.2.1 (kc kk).1 R em (kc kk).2.1).1 (pS a ((fQ (x a d) + S0.length) + j)) = om.1 (pS a ((fQ (x a d) + S0.length) + j)) := nw_W (ob_z ob_S)
        have hT : (omN om N a ka.2.2.1 (kc kk).1 R em (kc kk).2.1).2.1 (pS a ((fQ (x a d) + S0.length) + j)) = om.2.1 (pS a ((fQ (x a d) + S0.length) + j)) := nw_T (ob_z ob_S)
        rw [hT] at t0
        have bnd := gi.2.2.1 (pS a ((fQ (x a d) + S0.length) + j))
        rw [tgF_eq t0] at bnd
        rw [hW, nw_r (by omega)] at hin
        have hin : inR om.2.2.1 (om.2.2.1.2.1 (oV (om.1 (pS a ((fQ (x a d) + S0.length) + j))))) R := hin
        rw [w.1] at hin
        have e := in_fs gi (Nat.le_refl _) _ hin
        have := gi.2.1.2.1 (oV (om.1 (pS a ((fQ (x a d) + S0.length) + j))))
        omega
  case ok =>
    rw [oV1, show (8 * (kk + 1) + 2) % 8 = 2 from by omega]
    exact Or.inr (Or.inr ⟨Rn, Or.inr (Or.inl ⟨rfl, Rrho⟩)⟩)
  case vt => exact Or.inr (Or.inr (Or.inl ⟨by omega, by omega, Or.inr ⟨ka.2.2.1 + 1, by omega, Nat.le_refl _, rfl, by show (if ka.2.2.1 + 1 = ka.2.2.1 + 1 then kk else _) + 1 = _; rw [if_pos rfl]; omega⟩⟩))
  case v0 =>
    intro w
    rw [w, oV_0] at oV1
    omega
  case hx =>
    rcases hR with w | w
    · exact Or.inl w.1
    · exact Or.inr (hsd w.2)
  case l5 =>
    refine Or.inr ⟨h70, h75, kk, cp, k8, by omega, e71, h66, rfl, ?_⟩
    rcases hR with w | w
    · exact Or.inl ⟨w.2, w.1⟩
    · refine Or.inr ⟨?_, w.2, fun y hy => by rw [w.1]; exact eLN y hy⟩
      show om.2.2.1.2.2.2.1 R = 0
      rw [w.1]
      by_cases y : om.2.2.1.2.2.2.1 N = 0
      · exact y
      · have := (gi.2.1.2.2 _ y).1
        omega
end JNO
