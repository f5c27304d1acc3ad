/-! THE REFERENCE TAKES A MESSAGE: the whole. -/
section RT2
variable {sB s s' : rS} {w k : Nat} {a s0 m np p0 wt ob q c bb : Nat}
/-- before the body begins -/
def sT1 (s : rS) (a wt s0 : Nat) (od : Nat → Int32) (g : Nat → Int64) : rS := rsL (rs_wA (rsI (rs_wA s 94 a (Int32.ofNat wt)) 102 od) 104 s0 0) 96 g
theorem r_takeM (rq : rqs sB s) (ha : a < 12) (h0 : s0 < 72) (w5 : wt ≤ 5) (h102 : s.2.1 102 (6 * a) = Int32.ofNat s0) (h94 : s.2.1 94 a = Int32.ofNat (wt + 1)) (h76 : s.1 76 = Int32.ofNat ob) (o4 : ob ≤ 400) (h103 : s.2.1 103 s0 = Int32.ofNat m) (objs : ∀ o, 1 ≤ o → o ≤ ob → s.2.1 105 (401 * s0 + o) ≠ 0 → ∃ c bs nf, OBJ s o c bs nf) (h92 : s.2.1 92 a = Int32.ofNat 0) (hm : m < 72) (hmb : s.2.1 76 m = Int32.ofNat bb) (hb : bb < 4400) (hc0 : c < 4400) (h45 : sB.2.1 45 bb = Int32.ofNat c) (hq : (sB.2.1 45 c = 0 ∧ q = bb) ∨ ∃ e' : Nat, sB.2.1 45 c = Int32.ofNat e' ∧ 1 ≤ e' ∧ e' < 4400 ∧ fI sB 6000 e' q) (hw : 6000 ≤ w) (n6 : np ≤ 6) (h77 : s.2.1 77 m = Int32.ofNat p0) (h77' : s.2.1 77 (m + 1) = Int32.ofNat (p0 + np)) (hp : p0 + np ≤ 500) :
    ∃ (od : Nat → Int32) (g g1 : Nat → Int64), rM w (k + 4) 384 [.ref 36, .int (Int32.ofNat a)] s = some (none, rsL (sBg (sT1 s a wt s0 od g) a 0 m q (mdV 3 (Int32.ofNat a))) 101 g1) ∧ (∀ j, j < wt → od (6 * a + j) = s.2.1 102 (6 * a + j + 1)) ∧ (∀ j, (j < 6 * a ∨ 6 * a + wt ≤ j) → od j = s.2.1 102 j) ∧ (∀ o', 1 ≤ o' → o' ≤ ob → s.2.1 105 (401 * s0 + o') ≠ 0 → ∀ c bs nf, OBJ s o' c bs nf → ∀ f, f < nf → g (400 * a + bs + f) = s.2.2 107 (400 * s0 + bs + f)) ∧ (∀ x, x < 400 → g (400 * a + x) = s.2.2 96 (400 * a + x) ∨ g (400 * a + x) = s.2.2 107 (400 * s0 + x)) ∧ (∀ j, (j < 400 * a ∨ 400 * a + 400 ≤ j) → g j = s.2.2 96 j) ∧ (∀ j, j < np → g1 (160 * a + j) = s.2.2 106 (6 * s0 + j)) ∧ (∀ j, (j < 160 * a ∨ 160 * a + np ≤ j) → g1 j = s.2.2 101 j) ∧ ∀ x, (∀ o', 1 ≤ o' → o' ≤ ob → s.2.1 105 (401 * s0 + o') ≠ 0 → ∀ c bs nf, OBJ s o' c bs nf → x < bs ∨ bs + nf ≤ x) → g (400 * a + x) = s.2.2 96 (400 * a + x) := by
  obtain ⟨od, o1, o2, o3⟩ := r_take_o (s := rs_wA s 94 a (Int32.ofNat wt)) (w := w) (k := k + 3) ha w5 (Int32.ofNat s0) (wA_eq _ _ _ _) wt (s.2.1 102) 0 w (by omega) (by omega)
  rw [show rsI (rs_wA s 94 a (Int32.ofNat wt)) 102 (s.2.1 102) = rs_wA s 94 a (Int32.ofNat wt) from rsI_id (p := 102)] at o1
  generalize hS : rs_wA (rsI (rs_wA s 94 a (Int32.ofNat wt)) 102 od) 104 s0 0 = S at *
  have S2 : S.2.2 = s.2.2 := by rw [← hS]; rfl
  have S1 : S.1 = s.1 := by rw [← hS]; rfl
  have SA : ∀ p, p ≠ 104 → p ≠ 102 → p ≠ 94 → S.2.1 p = s.2.1 p := by
    intro p h1 h2 h3
    rw [← hS, wA_np (Ne.symm h1)]
    show (if p = 102 then od else (rs_wA s 94 a (Int32.ofNat wt)).2.1 p) = _
    rw [if_neg h2, wA_np (Ne.symm h3)]
  have obj : ∀ o c bs nf, OBJ S o c bs nf ↔ OBJ s o c bs nf := by
    intro o c bs nf
    unfold OBJ
    rw [SA 87 (by decide) (by decide) (by decide), SA 88 (by decide) (by decide) (by decide)]
    refine ⟨fun ⟨z1, z2, z3, em, z4⟩ => ⟨z1, z2, z3, em, kf_k z4 (SA 64 (by decide) (by decide) (by decide)).symm (SA 69 (by decide) (by decide) (by decide)).symm (SA 60 (by decide) (by decide) (by decide)).symm⟩, fun ⟨z1, z2, z3, em, z4⟩ => ⟨z1, z2, z3, em, kf_k z4 (SA 64 (by decide) (by decide) (by decide)) (SA 69 (by decide) (by decide) (by decide)) (SA 60 (by decide) (by decide) (by decide))⟩⟩
  obtain ⟨g, w1, w2, w3, w4, w5'⟩ := r_take_w (s := S) (w := w) (k := k + 2) (m := m) (ob := ob) ha h0 (by omega) (by rw [S1]; exact h76) o4 (by rw [SA 103 (by decide) (by decide) (by decide)]; exact h103) (fun o h1 h2 h3 => by rw [SA 105 (by decide) (by decide) (by decide)] at h3; obtain ⟨c, bs, nf, z⟩ := objs o h1 h2 h3; exact ⟨c, bs, nf, (obj o c bs nf).mpr z⟩) ob (S.2.2 96) 1 w (by omega) (by omega) (by omega)
  rw [rsL_id] at w1
  have rb := r_beg (w := w) (k := k) (v := mdV 3 (Int32.ofNat a)) (s := rsL S 96 g) (sB := sB) (q := q) (c := c) (bb := bb) (d := 0) (rqs_t rq (fun p h1 h2 => SA p (by omega) (by omega) (by omega))) ha (by decide) (by show S.2.1 92 a = _; rw [SA 92 (by decide) (by decide) (by decide)]; exact h92) hm (by show S.2.1 76 m = _; rw [SA 76 (by decide) (by decide) (by decide)]; exact hmb) hb hc0 h45 hq hw
  have b77 : ∀ i, (sBg (rsL S 96 g) a 0 m q (mdV 3 (Int32.ofNat a))).2.1 77 i = s.2.1 77 i := by
    intro i
    show S.2.1 77 i = _
    rw [SA 77 (by decide) (by decide) (by decide)]
  obtain ⟨g1, v1, v2, v3⟩ := r_take_v (s := sBg (rsL S 96 g) a 0 m q (mdV 3 (Int32.ofNat a))) (w := w) (k := k + 3) ha h0 hm n6 ((b77 m).trans h77) ((b77 (m + 1)).trans h77') hp np ((sBg (rsL S 96 g) a 0 m q (mdV 3 (Int32.ofNat a))).2.2 101) 0 w (by omega) (by omega)
  rw [rsL_id] at v1
  have e101 : (sBg (rsL S 96 g) a 0 m q (mdV 3 (Int32.ofNat a))).2.2 101 = s.2.2 101 := by
    show S.2.2 101 = _
    rw [S2]
  have e106 : (sBg (rsL S 96 g) a 0 m q (mdV 3 (Int32.ofNat a))).2.2 106 = s.2.2 106 := by
    show S.2.2 106 = _
    rw [S2]
  refine ⟨od, g, g1, ?_, fun j hj => o2 j (by omega) hj, o3, fun o' h1 h2 h3 c bs nf z f hf => ?_, fun x hx => ?_, fun j hj => ?_, fun j hj => ?_, fun j hj => ?_, fun x hx => ?_⟩
  · rw [y384]
    show s384_0 (rM w (k + 3)) w (Int32.ofNat a) s = _
    unfold s384_0
    rw [show (6 : Int32) = Int32.ofNat 6 from rfl, mul_of]
    refine bse ((aI_at (p := 102) (i := 6 * a) (n := 72) (by decide) rfl (by omega) (by decide)).trans (congrArg some h102)) ?_
    refine bse ((aI_at (p := 94) (i := a) (n := 12) (by decide) rfl ha (by decide)).trans (congrArg some h94)) ?_
    rw [of_dec]
    refine bse (sI_at (p := 94) (i := a) (n := 12) (by decide) rfl ha (by decide)) ?_
    rw [show (0 : Int32) = Int32.ofNat 0 from rfl, o1]
    refine bse (sB_at (p := 104) (i := s0) (n := 72) (by decide) rfl h0 (by decide)) ?_
    rw [show ((0 : Int32) &&& 1) = 0 from by decide, hS, show (1 : Int32) = Int32.ofNat 1 from rfl, w1]
    unfold tkE
    rw [show k + 2 + 1 = k + 3 from rfl, rb]
    show s384_188 (rM w (k + 3)) w w (Int32.ofNat a) (Int32.ofNat s0) (Int32.ofNat m) (Int32.ofNat 0) (sBg (rsL S 96 g) a 0 m q (mdV 3 (Int32.ofNat a))) = _
    rw [v1]
    unfold sT1
    rw [hS]
  · have := w2 o' h1 h2 (by rw [SA 105 (by decide) (by decide) (by decide)]; exact h3) c bs nf ((obj o' c bs nf).mpr z) f hf
    rw [S2] at this
    exact this
  · have := w3 x hx
    rw [S2] at this
    exact this
  · have := w4 j hj
    rw [S2] at this
    exact this
  · rw [v2 j (by omega) hj, e106]
  · rw [v3 j (by omega), e101]
  · have := w5' x (fun o' h1 h2 h3 c bs nf z => hx o' h1 h2 (by rw [SA 105 (by decide) (by decide) (by decide)] at h3; exact h3) c bs nf ((obj o' c bs nf).mp z))
    rw [S2] at this
    exact this
end RT2
