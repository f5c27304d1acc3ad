/-! BOTH CHECK ALL BODIES: what was declared stays. -/
section JKP
variable {L : Nat} {xs : Nat → Int32} {w M nk m k K lo hi gn : Nat} {cx : Nat → Nat} {h h' : rm_H} {s s' : rS} {kl ml : List Nat}
theorem dSn_g {d : Nat} {c : Int64} {x y : Int32} (g : gH L xs h h') (e : dSn L xs h d c x y) : dSn L xs h' d c x y := by
  obtain ⟨⟨nq, e1, e2⟩, e3, e4⟩ := e
  exact ⟨⟨nq, g.1.2.2.2.1 _ _ _ e1, g.1.2.2.1 _ _ e2⟩, g.1.2.2.2.1 _ _ _ e3, g.1.2.2.2.1 _ _ _ e4⟩
theorem rk_r (rk : rK s s') {q : Nat} (hq : q ≠ 53 ∧ q ≠ 83 ∧ q ≠ 84 ∧ q ≠ 85 ∧ q ≠ 86) : s'.2.1 q = s.2.1 q := rk.2.1 q hq.1 hq.2.1 hq.2.2.1 hq.2.2.2.1 hq.2.2.2.2
theorem mJ_g (g : gH L xs h h') (rk : rK s s') (e : mJ L xs h s nk M m) : mJ L xs h' s' nk M m := by
  obtain ⟨e1, ⟨so, e2, e3⟩, e4, ⟨c, c1, c2, c3, c4⟩, l, ar, cap, ps, ts, p0, e5, e6, e7, e8, e9, e10, e11, e12, e13, e14, e15⟩ := e
  have r70 : s'.2.1 70 = s.2.1 70 := rk_r rk (by decide)
  have r72 : s'.2.1 72 = s.2.1 72 := rk_r rk (by decide)
  have r75 : s'.2.1 75 = s.2.1 75 := rk_r rk (by decide)
  have r77 : s'.2.1 77 = s.2.1 77 := rk_r rk (by decide)
  have r79 : s'.2.2 79 = s.2.2 79 := rk.2.2 79 (by decide)
  refine ⟨e1, ⟨so, g.2.2 _ _ _ (by decide) e2, by rw [r70]; exact e3⟩, g.2.2 _ _ _ (by decide) e4, ⟨c, c1, g.2.2 _ _ _ (by decide) c2, by rw [r70, r72]; exact c3, by rw [r70]; exact c4⟩, l, ar, cap, ps, ts, p0, g.2.2 _ _ _ (by decide) e5, g.1.2.1 _ _ _ _ e6, e7, e8, pmT_k rk e9, by rw [r77]; exact e10, e11, fun i d t hd ht => ?_, by rw [r79]; exact e13, g.2.2 _ _ _ (by decide) e14, ?_⟩
  · rw [r79]
    exact ⟨dSn_g g (e12 i d t hd ht).1, vT_k rk (e12 i d t hd ht).2⟩
  · rw [r75]
    rcases e15 with ⟨z1, z2, z3⟩ | ⟨d, t, z1, z2, z3, z4, z5⟩
    · exact Or.inl ⟨z1, g.2.2 _ _ _ (by decide) z2, g.2.2 _ _ _ (by decide) z3⟩
    · exact Or.inr ⟨d, t, g.2.2 _ _ _ (by decide) z1, g.1.2.2.2.1 _ _ _ z2, tyc_k rk z3, vT_k rk z4, g.2.2 _ _ _ (by decide) z5⟩
theorem kJ_g (g : gH L xs h h') (rk : rK s s') (e : kJ L xs h s nk ml k K) : kJ L xs h' s' nk ml k K := by
  obtain ⟨⟨ac, a1, a2, a3⟩, b1, ⟨fl, ar, cap, fs, f0, c1, c2, c3, c4, c5, c6, c7, c8⟩, mk, l, am, cm, ms, m0, gg, d1, d2, d3, d4, d5, ⟨d6, d6b, d6c, d6d⟩, d7, d8, d9, d10, d11, d12, d13, ⟨nq, d14, d15⟩, d16⟩ := e
  have r64 : s'.2.1 64 = s.2.1 64 := rk_r rk (by decide)
  have r65 : s'.2.1 65 = s.2.1 65 := rk_r rk (by decide)
  have r66 : s'.2.1 66 = s.2.1 66 := rk_r rk (by decide)
  have r69 : s'.2.1 69 = s.2.1 69 := rk_r rk (by decide)
  have r70 : s'.2.1 70 = s.2.1 70 := rk_r rk (by decide)
  have r72 : s'.2.1 72 = s.2.1 72 := rk_r rk (by decide)
  have r71 : s'.2.1 71 = s.2.1 71 := rk_r rk (by decide)
  have r67 : s'.2.2 67 = s.2.2 67 := rk.2.2 67 (by decide)
  have r78 : s'.2.2 78 = s.2.2 78 := rk.2.2 78 (by decide)
  have r62 : s'.2.2 62 = s.2.2 62 := rk.2.2 62 (by decide)
  unfold kJ
  rw [r64, r65, r66, r69, r70, r71, r72, r67, r78, r62]
  exact ⟨⟨ac, g.2.1 _ _ _ a1, a2, a3⟩, g.2.1 _ _ _ b1, ⟨fl, ar, cap, fs, f0, g.2.1 _ _ _ c1, g.1.2.1 _ _ _ _ c2, c3, c4, c5, c6, c7, fun i d hd => by
    obtain ⟨t, t1, t2, t3⟩ := c8 i d hd
    exact ⟨t, dSn_g g t1, tyc_k rk t2, vT_k rk t3⟩⟩, mk, l, am, cm, ms, m0, gg, g.2.1 _ _ _ d1, g.2.1 _ _ _ d2, d3, d4, d5, ⟨g.1.2.1 _ _ _ _ d6, d6b, d6c, fun i d hd => by
    obtain ⟨⟨nq, z1, z2⟩, z3, z4, z5⟩ := d6d i d hd
    exact ⟨⟨nq, g.2.2 _ _ _ (by decide) z1, g.1.2.2.1 _ _ z2⟩, g.2.2 _ _ _ (by decide) z3, g.2.2 _ _ _ (by decide) z4, g.2.2 _ _ _ (by decide) z5⟩⟩, d7, mJ_g g rk d8, d9, fun i d hd => ⟨mJ_g g rk (d10 i d hd).1, (d10 i d hd).2⟩, d11, d12, d13, ⟨nq, g.2.1 _ _ _ d14, g.1.2.2.1 _ _ d15⟩, g.2.2 _ _ _ (by decide) d16⟩
theorem JE_g (g : gH L xs h h') (rk : rK s s') (e : JE L xs cx h s nk kl ml) : JE L xs cx h' s' nk kl ml := by
  obtain ⟨⟨ar, cap, e1⟩, e2, e3, e4, e5⟩ := e
  exact ⟨⟨ar, cap, g.1.2.1 _ _ _ _ e1⟩, e2, e3, by rw [rk.1 32 (by omega)]; exact e4, fun k K hk => kJ_g g rk (e5 k K hk)⟩
theorem bJ_g (g : gH L xs h h') (rk : rK s s') (e : bJ L xs h s nk kl M m) : bJ L xs h' s' nk kl M m := by
  obtain ⟨e1, k, K, e2, e3, e4, e5⟩ := e
  have r66 : s'.2.1 66 = s.2.1 66 := rk_r rk (by decide)
  have r70 : s'.2.1 70 = s.2.1 70 := rk_r rk (by decide)
  have r71 : s'.2.1 71 = s.2.1 71 := rk_r rk (by decide)
  exact ⟨mJ_g g rk e1, k, K, e2, g.2.2 _ _ _ (by decide) e3, by rw [r71]; exact e4, by rw [r66, r70]; exact e5⟩
end JKP
/-- what is written of the Decls since the program, and their types -/
def DTY (L : Nat) (xs : Nat → Int32) (cx : Nat → Nat) (h : rm_H) (s : rS) (nk : Nat) : Prop := ∀ d fs, cx 8 ≤ d → d < cx 20 → hc h d = some (.inr (10, fs)) → ∃ bn c cp cq tq, dDat L xs h d bn c cp cq tq ∧ fd h 10 d 7 = some (.int (dkF s nk bn c cp cq tq).1) ∧ (dkF s nk bn c cp cq tq).2 = none
/-- a method that is declared: its nodes and its body -/
def MFx (h : rm_H) (s : rS) (m M lo hi c bb : Nat) : Prop := 1 ≤ bb ∧ s.2.1 44 bb = 31 ∧ s.2.1 49 c = Int32.ofNat bb ∧ s.2.1 54 bb = Int32.ofNat m ∧ (∀ k0 : Nat, k0 < 8 → s.2.1 71 m = Int32.ofNat k0 → s.2.1 66 k0 ≠ 0 → s.2.1 70 m ≠ 1 → ∃ us, pmT s m us ∧ ∀ t ∈ us, sdT t = true) ∧ ∃ nl np : Nat, nl ≤ 16 ∧ np ≤ nl ∧ fd h 11 M 10 = some (.int (Int32.ofNat nl)) ∧ s.2.1 77 (m + 1) = s.2.1 77 m + Int32.ofNat np ∧ ∀ n, lo ≤ n → n < hi → s.2.1 44 n = 20 → ∃ sl, sl < nl ∧ s.2.1 53 n = Int32.ofNat sl ∧ np ≤ sl ∧ sl < 16
def MF (L : Nat) (xs : Nat → Int32) (cx : Nat → Nat) (h : rm_H) (s : rS) (gn nm m M lo hi c : Nat) : Prop := ∃ pl ph Bn bb, NRz L xs h s 49 1 (hi - lo) lo hi pl ph c Bn ∧ (cx 8 ≤ pl ∧ ph ≤ cx 20 ∧ cx 8 ≤ M) ∧ fd h 11 M 9 = some (.ref Bn) ∧ ((∃ en, fd h 11 M 11 = some (.int en)) ∧ MFx h s m M lo hi c bb) ∧ s.2.1 76 m = Int32.ofNat bb ∧ bb < lo ∧ lo ≤ hi ∧ hi ≤ gn ∧ s.2.1 45 bb = Int32.ofNat c ∧ (s.2.1 75 m = -1 ∨ s.2.1 70 m = 1) ∧ (∃ np, np ≤ 16 ∧ s.2.1 77 (m + 1) = s.2.1 77 m + Int32.ofNat np ∧ ∀ n, lo ≤ n → n < hi → s.2.1 44 n = 20 → ∃ sl, sl < 16 ∧ s.2.1 53 n = Int32.ofNat sl ∧ np ≤ sl) ∧ (∀ n n', lo ≤ n' → n' < n → n < hi → s.2.1 44 n = 20 → s.2.1 44 n' = 20 → s.2.1 53 n' ≠ s.2.1 53 n) ∧ ∀ m2 b2 : Nat, m < m2 → m2 < nm → s.2.1 76 m2 = Int32.ofNat b2 → b2 < 4400 → hi ≤ b2
/-- Main can be made, and of a kind's methods only its maker is one -/
def mnX (s : rS) (nk nm gn : Nat) : Prop := (∃ kk, kF (s.2.2 62) 1298229614 nk 0 = some kk ∧ s.2.1 66 kk = 1 ∧ ∀ m : Nat, m ≤ 72 → s.2.1 65 kk = Int32.ofNat m → pmT s m []) ∧ (∀ k m0 m : Nat, k < nk → m < nm → m0 < m → s.2.1 65 k = Int32.ofNat m0 → s.2.1 71 m = Int32.ofNat k → s.2.1 70 m ≠ 0) ∧ nTk s ∧ s.1 10 = Int32.ofNat gn
/-- all that is declared -/
def DCX (L : Nat) (xs : Nat → Int32) (w : Nat) (cx : Nat → Nat) (h : rm_H) (s : rS) (nk gn : Nat) (kl ml : List Nat) : Prop := JE L xs cx h s nk kl ml ∧ (∀ m M, ml[m]? = some M → bJ L xs h s nk kl M m) ∧ DTY L xs cx h s nk ∧ (∀ n, 1 ≤ n → n < gn → s.2.1 44 n = 8 → s.2.1 53 n = kI (kF (s.2.2 62) (s.2.2 56 n) nk 0)) ∧ (∀ y : Nat, (y : Int) < (s.1 26).toInt → y < 2000 ∧ tcR s nk (dyK s nk y).1 (s.2.1 60 y)) ∧ (∀ d v, cx 8 ≤ d ∧ d < cx 20 → fd h 10 d 6 = some v → ∃ x, fd h 10 d 7 = some (.int x)) ∧ (∀ k, k < nk → s.2.1 66 k = 0 ∨ s.2.1 66 k = 1) ∧ gn ≤ 2990 ∧ 4600 ≤ w ∧ cx 20 ≤ 21 + h.length ∧ ml.length ≤ 72 ∧ (∃ ar cap, aL h (cx 10) ar cap ml) ∧ (s.1 42 = Int32.ofNat ml.length ∧ s.2.1 64 kl.length = s.1 38 ∧ s.2.1 64 0 = 0 ∧ mnX s nk ml.length gn) ∧ ∀ m M, ml[m]? = some M → ∃ lo hi c, MF L xs cx h s gn ml.length m M lo hi c
