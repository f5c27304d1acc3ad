/-! A CALL BY BOTH. -/
/-- methods of Kinds -/
def mKd (sB : rS) : Prop := ∀ (k : Nat) (so : Int32) (c : Int64) (m : Nat), mtT sB k so c m → k < 8 ∧ m < 72 ∧ sB.2.1 71 m = Int32.ofNat k ∧ (so = 1 → sB.2.1 66 k = 0 → ∃ c', c' < 5 ∧ sB.2.1 72 m = Int32.ofNat c')
/-- method m can be entered by both -/
def cEe (sB : rS) (A B : Nat → Int32) (mi : Nat → Nat × Nat × Nat × Nat × Nat) (hB : rm_H) (Z : Nat → Prop) (es : List Nat) (m : Nat) : Prop := mtOk sB A B mi m ∧ ∃ (Gc : List scN) (ps : List Nat) (pe qe lve M : Nat) (num : Int32), pmT sB m ps ∧ ps.length ≤ 6 ∧ ps.length ≤ (mi m).2.2.2.2 ∧ (∀ (j : Nat) (X : scN), Gc[j]? = some X → X.2.1 = j ∧ ps[j]? = some X.2.2.1) ∧ GO sB (mi m).2.1 (mi m).2.2.1 (mi m).2.2.2.1 0 Gc ∧ PT sB A B m (mi m).1 (mi m).2.1 (mi m).2.2.1 pe qe lve Gc 0 [] ∧ qe < 4400 ∧ RMB sB sB m qe ps.length ∧ es[m]? = some M ∧ MB hB Z M num ps.length (mi m).2.2.2.2 (Int32.ofNat pe)
def gdB2 (c e : Nat) : Bool := decide (c = 0) || (decide (c = 1) && decide (e ≠ 0)) || (decide (c = 2) && (decide (e = 2) || decide (e = 4))) || (decide (c = 3) && (decide (e = 3) || decide (e = 4))) || (decide (c = 4) && decide (e = 4))
theorem gd_b : ∀ c, c < 5 → ∀ e, e < 5 → lkV 1 (Int32.ofNat c) (Int32.ofNat e) = 1 → gdB2 c e = true := by decide +kernel
theorem gd_c {c e : Nat} (hc : c < 5) (he : e < 5) (h : lkV 1 (Int32.ofNat c) (Int32.ofNat e) = 1) : rg_good c e := by
  have h1 := gd_b c hc e he h
  unfold gdB2 at h1
  unfold rg_good
  simp at h1
  omega
theorem w93 {s : rS} {a i : Nat} {u t y : Int32} {g : Nat → Int64} : rs_wA (rsL (rs_wA (rs_wA s 93 a u) 99 i y) 101 g) 93 a t = rs_wA (rsL (rs_wA s 99 i y) 101 g) 93 a t := by
  refine Prod.ext rfl (Prod.ext ?_ rfl)
  funext p' i'
  rw [wA_get, wA_get]
  by_cases c : p' = 93 ∧ i' = a
  · rw [if_pos c, if_pos c]
  · rw [if_neg c, if_neg c]
    show (rs_wA (rs_wA s 93 a u) 99 i y).2.1 p' i' = (rs_wA s 99 i y).2.1 p' i'
    rw [wA_get, wA_get, wA_get, if_neg c]
theorem vlF_f {t t' : Nat} (h6 : t % 8 ≠ 6) (h : vlF false t = (0, t')) : t' = t := by
  unfold vlF at h
  by_cases c : t = 0
  · rw [if_pos c] at h
    exact absurd (show (8 : Int32) = 0 from congrArg Prod.fst h) (by decide)
  · rw [if_neg c, if_neg (fun z => h6 z.2), if_neg (by simp)] at h
    exact (congrArg Prod.snd h).symm
section JCL
variable {sB : rS} {A B : Nat → Int32} {mi : Nat → Nat × Nat × Nat × Nat × Nat} {kc : kCi} {om om' : oMg} {ka ka' : kAp} {la : lAy} {ms : mSg} {N N' cn : Nat} {sg sg' sg2 : cS} {s s' s2 S1 : rS} {a b d e lo q0 J l t r i n p q k k2 f0 w P L sz lv : Nat} {xs : Nat → Int32} {zf : Value} {Z : Nat → Prop} {hB h h' : rm_H} {es : List Nat} {x : Nat → Nat → fDs} {D : Nat → Nat} {S S0 X : List stE} {v : Int64} {y : Int32}

/-- this has been popped: the callee is entered -/
theorem J_11e {R0 tt m q' lv' pe qe lve z c : Nat} {Gc : List scN} {ts ps : List Nat} {f : Nat → Int32} {g2 : Nat → Int64} (it1 : iTm sB A B mi kc om ka la ms N cn (sPo sg a ((fBs (x a d) + (mi (fMe (x a d))).2.2.2.2 + S0.length) + ts.length)) (rs_wA s 93 a (Int32.ofNat ((fQ (x a d) + S0.length) + ts.length))) D (xU x a d (fMe (x a d), fL (x a d), fG (x a d), fGn (x a d), vE (fL (x a d)) ts ++ S0, fRe (x a d), fBs (x a d), fQ (x a d))) a d) (d9 : d + 1 < 10) (pf : eLv (fL (x a d)) S0) (ptc : PT sB A B (fMe (x a d)) (mi (fMe (x a d))).1 (mi (fMe (x a d))).2.1 (mi (fMe (x a d))).2.2.1 (p + 1) q' lv' (fG (x a d)) (fGn (x a d)) ((t, false, fL (x a d)) :: S0)) (n7 : sg.2.2.2.1 a 7 d = Int32.ofNat (p + 1)) (q4c : q' < 4400) (hl : fL (x a d) ≤ lv') (len : S0.length < 1010)
    (hR : R0 = fRe (x a d) (fL (x a d)) ∨ (R0 ≠ 0 ∧ R0 < N ∧ om.2.2.1.2.2.2.2 R0 = a ∧ (∀ y, eLr om N a d (fL (x a d)) ((xU x a d (fMe (x a d), fL (x a d), fG (x a d), fGn (x a d), vE (fL (x a d)) ts ++ S0, fRe (x a d), fBs (x a d), fQ (x a d))) a) y → ¬ inR om.2.2.1 R0 y) ∧ ∀ j, j < ts.length → om.2.1 (pS a ((fQ (x a d) + S0.length) + j)) ≠ 0 → oV (om.1 (pS a ((fQ (x a d) + S0.length) + j))) ≠ 0 → om.2.1 (pS a ((fQ (x a d) + S0.length) + j)) % 8 ≤ 1 → ¬ inR om.2.2.1 (om.2.2.1.2.1 (oV (om.1 (pS a ((fQ (x a d) + S0.length) + j))))) R0))
    (hT : (om.2.1 (pS a ((fQ (x a d) + S0.length) + ts.length)) ≠ 0 ∧ om.2.2.1.1 (pS a ((fQ (x a d) + S0.length) + ts.length)) = fRe (x a d) (fL (x a d)) ∧ R0 = fRe (x a d) (fL (x a d)) ∧ v = om.1 (pS a ((fQ (x a d) + S0.length) + ts.length)) ∧ (oV v = 0 ∨ (rg_good (om.2.1 (pS a ((fQ (x a d) + S0.length) + ts.length)) % 8) (tt % 8) ∧ tt % 8 ≤ 4 ∧ om.2.1 (pS a ((fQ (x a d) + S0.length) + ts.length)) % 8 ≤ 4))) ∨ (oV v ≤ ka.2.2.1 ∧ (oV v = 0 ∨ (2 ≤ tt % 8 ∧ rg_ok om.2.2.1.2.1 om.2.2.1.2.2.1 om.2.2.1.2.2.2.1 R0 (tt % 8) (oV v)))))
    (th : thT sB m 0 tt) (vt : vAl om ka a tt v) (v0 : v ≠ 0) (tt0 : tt ≠ 0) (t6 : tt % 8 = 6 → R0 = om.2.2.2.2 a) (lps : ps.length = ts.length) (fit : ∀ (j t' q' : Nat), ts[j]? = some t' → ps[j]? = some q' → fitC (cT t') (cT q') = 0) (hx : R0 = fRe (x a d) (fL (x a d)) ∨ ∀ q' ∈ ps, sdT q' = true)
    (mo : mtOk sB A B mi m) (n6 : ps.length ≤ 6) (npl : ps.length ≤ (mi m).2.2.2.2) (dps : ∀ q' ∈ ps, dTy q' = true) (gG : ∀ (j : Nat) (X : scN), Gc[j]? = some X → X.2.1 = j ∧ ps[j]? = some X.2.2.1) (go : GO sB (mi m).2.1 (mi m).2.2.1 (mi m).2.2.2.1 0 Gc) (pt : PT sB A B m (mi m).1 (mi m).2.1 (mi m).2.2.1 pe qe lve Gc 0 []) (q4e : qe < 4400)
    (l5 : sB.2.1 70 m = 1 ∧ rsT sB m t ∧ (R0 = fRe (x a d) (fL (x a d)) ∨ hmT sB m))
    (hf : ∀ i, i < (fBs (x a d) + (mi (fMe (x a d))).2.2.2.2 + S0.length) + ts.length → f i = sg.2.2.2.1 a 12 i) (c1 : (fBs (x a d) + (mi (fMe (x a d))).2.2.2.2 + S0.length) + (mi m).2.2.2.2 ≤ c) (c2 : 64 ≤ c) (c3 : c ≤ 40000) (hg : ∀ i, i < ts.length → g2 (16 * (10 * a + (d + 1)) + i) = s.2.2 97 (10100 * a + (fQ (x a d) + S0.length) + i)) (hg' : ∀ i, i < 16 * (10 * a + (d + 1)) ∨ 16 * (10 * a + (d + 1)) + ts.length ≤ i → g2 i = s.2.2 101 i) :
    ∃ (om' : oMg) (N' : Nat) (D' : Nat → Nat) (x' : Nat → Nat → fDs), rUn sB A B mi kc om' ka la ms N' cn (sE (sQ sg a z c f ((fBs (x a d) + (mi (fMe (x a d))).2.2.2.2 + S0.length) + (mi m).2.2.2.2)) a (d + 1) (Int32.ofNat pe) (Int32.ofNat (fBs (x a d) + (mi (fMe (x a d))).2.2.2.2 + S0.length)) (cvl v)) (sBg (rs_wA (rsL (rs_wA s 99 (10 * a + d) (Int32.ofNat q')) 101 g2) 93 a (Int32.ofNat (fQ (x a d) + S0.length))) a (d + 1) m qe v) D' x' := by
  have r := cal_3 (R0 := R0) (np := ts.length) (ts := ts) (S0 := S0) (z := z) (c := c) (v := v) (f := f) (g2 := g2) (q' := q') it1 d9 (by rw [xU_eq]) (by rw [xU_eq]; exact pf) (by rw [xU_eq]; exact ptc) (by rw [sQ_R (Or.inl (by decide))]; exact n7) q4c (by rw [xU_eq]; exact hl) len (by rw [xU_eq]; exact hR) (by rw [xU_eq]; exact hT) th vt v0 tt0 t6 rfl lps fit (by rw [xU_eq]; exact hx) mo (by omega) (by omega) dps gG go pt q4e (Or.inl (by rw [xU_eq]; exact l5)) (by rw [xU_eq, sQ_f]; exact hf) (by rw [xU_eq]; exact c1) c2 c3 (by rw [xU_eq]; exact hg) hg'
  rw [xU_eq, sQ_sQ, w93] at r
  exact r
end JCL
