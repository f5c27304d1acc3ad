/-! THE REFERENCE CALLS, MAKES, SENDS A MESSAGE. -/
/-- what the reference reads of method m that begins at q -/
def RMB (sB s : rS) (m q np : Nat) : Prop := m < 72 ∧ ∃ bb c p0 : Nat, s.2.1 76 m = Int32.ofNat bb ∧ bb < 4400 ∧ c < 4400 ∧ sB.2.1 45 bb = Int32.ofNat c ∧ ((sB.2.1 45 c = 0 ∧ q = bb) ∨ ∃ e' : Nat, sB.2.1 45 c = Int32.ofNat e' ∧ 1 ≤ e' ∧ e' < 4400 ∧ fI sB 6000 e' q) ∧ s.2.1 77 m = Int32.ofNat p0 ∧ s.2.1 77 (m + 1) = Int32.ofNat (p0 + np) ∧ p0 + np ≤ 500 ∧ np ≤ 6
section RCL
variable {sB s s' : rS} {w k : Nat} {a d t n q N m m' q' np nf c i : Nat} {v u : Int64} {em : Nat → Int64} {Kn : Nat → Prop}
theorem rmb_k (h : RMB sB s m q np) (e76 : s'.2.1 76 = s.2.1 76) (e77 : s'.2.1 77 = s.2.1 77) : RMB sB s' m q np := by
  obtain ⟨h0, bb, c, p0, h1, h2, h3, h4, h5, h6, h7, h8⟩ := h
  exact ⟨h0, bb, c, p0, by rw [e76]; exact h1, h2, h3, h4, h5, by rw [e77]; exact h6, by rw [e77]; exact h7, h8⟩
/-- the callee begins -/
theorem r_comB (rm : RMB sB s m q' np) (rq : rqs sB s) (ha : a < 12) (hd : d < 10) (h92 : s.2.1 92 a = Int32.ofNat d) (h93 : s.2.1 93 a = Int32.ofNat (t + np)) (ht : t + np ≤ 10100) (hw : 6000 ≤ w) : ∃ g : Nat → Int64, rM w (k + 4) 396 [.ref 36, .int (Int32.ofNat a), .int (Int32.ofNat m), .long v] s = some (none, sBg (rs_wA (rsL s 101 g) 93 a (Int32.ofNat t)) a d m q' v) ∧ (∀ i, i < np → g (16 * (10 * a + d) + i) = s.2.2 97 (10100 * a + t + i)) ∧ ∀ i, i < 16 * (10 * a + d) ∨ 16 * (10 * a + d) + np ≤ i → g i = s.2.2 101 i := by
  obtain ⟨h0, bb, c, p0, h1, h2, h3, h4, h5, h6, h7, h8, h9⟩ := rm
  exact r_com rq ha hd h92 h0 h1 h2 h3 h4 h5 hw h6 h7 h8 (by omega) h93 ht
/-- a call -/
theorem r_call0 (ha : a < 12) (ht : s.2.1 93 a = Int32.ofNat (t + 1)) (h1 : t < 10100) (h0 : s.2.2 97 (10100 * a + t) = 0) : rM w (k + 2) 392 [.ref 36, .int (Int32.ofNat a), .int (Int32.ofNat i), .int (Int32.ofNat n)] s = some (some (.int 1), rs_wA s 93 a (Int32.ofNat t)) := by
  rw [y392]
  show s392_0 (rM w (k + 1)) w (Int32.ofNat a) (Int32.ofNat i) (Int32.ofNat n) s = _
  unfold s392_0
  refine bse (r_pop0 ha ht h1) ?_
  exact ifn (by rw [lg_ne]; exact fun z => absurd h0 (of_decide_eq_true z)) rfl
theorem r_call3 (ha : a < 12) (ht : s.2.1 93 a = Int32.ofNat (t + 1)) (h1 : t < 10100) (h0 : s.2.2 97 (10100 * a + t) ≠ 0) (h92 : s.2.1 92 a = Int32.ofNat 10) : rM w (k + 2) 392 [.ref 36, .int (Int32.ofNat a), .int (Int32.ofNat i), .int (Int32.ofNat n)] s = some (some (.int 3), rs_wA s 93 a (Int32.ofNat t)) := by
  rw [y392]
  show s392_0 (rM w (k + 1)) w (Int32.ofNat a) (Int32.ofNat i) (Int32.ofNat n) s = _
  unfold s392_0
  refine bse (r_pop0 ha ht h1) ?_
  refine ift (by rw [lg_ne]; exact decide_eq_true h0) ?_
  refine bse ((aI_at (s := rs_wA s 93 a (Int32.ofNat t)) (p := 92) (i := a) (n := 12) (by decide) rfl ha (by decide)).trans (congrArg some (show (rs_wA s 93 a (Int32.ofNat t)).2.1 92 a = Int32.ofNat 10 from h92))) ?_
  exact ifn (by decide) rfl
theorem r_callB (rq : rqs sB s) (rm : RMB sB s m q' np) (ha : a < 12) (hi : i < 120) (hn : n < 4400) (h53 : s.2.1 53 n = Int32.ofNat m) (hd : d < 10) (h92 : s.2.1 92 a = Int32.ofNat d) (ht : s.2.1 93 a = Int32.ofNat (t + np + 1)) (h1 : t + np < 10100) (h0 : s.2.2 97 (10100 * a + (t + np)) ≠ 0) (bh : bhd sB N n q) (hN : N ≤ 6000) (hw : 6000 ≤ w) : ∃ g : Nat → Int64, rM w (k + 5) 392 [.ref 36, .int (Int32.ofNat a), .int (Int32.ofNat i), .int (Int32.ofNat n)] s = some (some (.int 0), sBg (rs_wA (rsL (rs_wA s 99 i (Int32.ofNat q)) 101 g) 93 a (Int32.ofNat t)) a d m q' (s.2.2 97 (10100 * a + (t + np)))) ∧ (∀ i, i < np → g (16 * (10 * a + d) + i) = s.2.2 97 (10100 * a + t + i)) ∧ ∀ i, i < 16 * (10 * a + d) ∨ 16 * (10 * a + d) + np ≤ i → g i = s.2.2 101 i := by
  have rq2 : rqs sB (rs_wA (rs_wA s 93 a (Int32.ofNat (t + np))) 99 i (Int32.ofNat q)) := rq_w (rq_w rq (by decide)) (by decide)
  obtain ⟨g, r1, r2, r3⟩ := r_comB (s := rs_wA (rs_wA s 93 a (Int32.ofNat (t + np))) 99 i (Int32.ofNat q)) (w := w) (k := k) (v := s.2.2 97 (10100 * a + (t + np))) (rmb_k rm rfl rfl) rq2 ha hd h92 (show (rs_wA s 93 a (Int32.ofNat (t + np))).2.1 93 a = _ from wA_eq _ _ _ _) (by omega) hw
  refine ⟨g, ?_, r2, r3⟩
  rw [y392]
  show s392_0 (rM w (k + 4)) w (Int32.ofNat a) (Int32.ofNat i) (Int32.ofNat n) s = _
  unfold s392_0
  refine bse (r_pop0 (k := k + 3) ha ht h1) ?_
  refine ift (by rw [lg_ne]; exact decide_eq_true h0) ?_
  refine bse ((aI_at (s := rs_wA s 93 a (Int32.ofNat (t + np))) (p := 92) (i := a) (n := 12) (by decide) rfl ha (by decide)).trans (congrArg some (show (rs_wA s 93 a (Int32.ofNat (t + np))).2.1 92 a = Int32.ofNat d from h92))) ?_
  refine ift (ne_t (fun z => absurd (ofn_inj (b := 10) (by omega) (by decide) z) (by omega))) ?_
  refine bse (a := (Int32.ofNat q, rs_wA s 93 a (Int32.ofNat (t + np)))) (by rw [bh_run (k := k + 1) bh (rq_w rq (by decide)) hw (by omega)]; rfl) ?_
  refine bse (sI_at (p := 99) (i := i) (n := 120) (by decide) rfl hi (by decide)) ?_
  refine bse ((aI_at (p := 53) (i := n) (n := 4400) (by decide) rfl hn (by decide)).trans (congrArg some (show (rs_wA (rs_wA s 93 a (Int32.ofNat (t + np))) 99 i (Int32.ofNat q)).2.1 53 n = Int32.ofNat m from h53))) ?_
  refine bse (a := sBg (rs_wA (rsL (rs_wA s 99 i (Int32.ofNat q)) 101 g) 93 a (Int32.ofNat t)) a d m q' (s.2.2 97 (10100 * a + (t + np)))) ?_ rfl
  rw [r1]
  show some (sBg (rs_wA (rsL (rs_wA (rs_wA s 93 a (Int32.ofNat (t + np))) 99 i (Int32.ofNat q)) 101 g) 93 a (Int32.ofNat t)) a d m q' (s.2.2 97 (10100 * a + (t + np)))) = _
  have e : rs_wA (rs_wA (rs_wA s 93 a (Int32.ofNat (t + np))) 99 i (Int32.ofNat q)) 93 a (Int32.ofNat t) = rs_wA (rs_wA s 99 i (Int32.ofNat q)) 93 a (Int32.ofNat t) := by
    refine Prod.ext rfl (Prod.ext (funext fun p => ?_) rfl)
    funext j
    rw [wA_get, wA_get, wA_get, wA_get, wA_get]
    by_cases c1 : p = 93 ∧ j = a
    · rw [if_pos c1, if_pos c1]
    · rw [if_neg c1, if_neg c1, if_neg c1]
  show some (sBg (rsL (rs_wA (rs_wA (rs_wA s 93 a (Int32.ofNat (t + np))) 99 i (Int32.ofNat q)) 93 a (Int32.ofNat t)) 101 g) a d m q' (s.2.2 97 (10100 * a + (t + np)))) = _
  rw [e]
  rfl
/-- an object is made -/
theorem r_makeO {tk cl ob bd : Nat} (rq : rqs sB s) (kf : KFR s c nf em) (rm : RMB sB s m q' np) (ha : a < 12) (hi : i < 120) (hn : n < 4400) (h53 : s.2.1 53 n = Int32.ofNat c) (h65 : s.2.1 65 c = Int32.ofNat m) (h66 : s.2.1 66 c = 0) (hd : d < 10) (h92 : s.2.1 92 a = Int32.ofNat d) (h77 : s.1 77 = Int32.ofNat tk) (h78 : s.1 78 = Int32.ofNat cl) (hcl : cl ≤ 400) (htk : tk + nf + 1 ≤ cl) (h76 : s.1 76 = Int32.ofNat ob) (ho : ob < 400) (h87 : s.1 87 = Int32.ofNat bd) (hb : bd + nf ≤ 400) (ht : s.2.1 93 a = Int32.ofNat (t + np)) (h1 : t + np ≤ 10100) (bh : bhd sB N n q) (hN : N ≤ 6000) (hw : 6000 ≤ w) : ∃ g g2 : Nat → Int64, rM w (k + 5) 397 [.ref 36, .int (Int32.ofNat a), .int (Int32.ofNat i), .int (Int32.ofNat n)] s = some (some (.int 0), sBg (rs_wA (rsL (sOb (rs_wA s 99 i (Int32.ofNat q)) c ob tk bd nf g) 101 g2) 93 a (Int32.ofNat t)) a d m q' (mdV 2 (Int32.ofNat (ob + 1)))) ∧ (∀ f, f < nf → g (400 * a + bd + f) = em f) ∧ (∀ j, (j < 400 * a + bd ∨ 400 * a + bd + nf ≤ j) → g j = s.2.2 96 j) ∧ (∀ i, i < np → g2 (16 * (10 * a + d) + i) = s.2.2 97 (10100 * a + t + i)) ∧ ∀ i, i < 16 * (10 * a + d) ∨ 16 * (10 * a + d) + np ≤ i → g2 i = s.2.2 101 i := by
  obtain ⟨c8, _⟩ := id kf
  obtain ⟨g, o1, o2, o3⟩ := r_mkO (s := rs_wA s 99 i (Int32.ofNat q)) (w := w) (k := k + 1) (kf_k kf rfl rfl rfl) ha h76 ho h77 h87 hb (by omega)
  have rq2 : rqs sB (sOb (rs_wA s 99 i (Int32.ofNat q)) c ob tk bd nf g) := rqs_t rq (fun p h1 h2 => by
    show (rs_wA (rs_wA (rs_wA s 99 i (Int32.ofNat q)) 87 (ob + 1) (Int32.ofNat c)) 88 (ob + 1) (Int32.ofNat bd)).2.1 p = _
    rw [wA_np (by omega), wA_np (by omega), wA_np (by omega)])
  obtain ⟨g2, r1, r2, r3⟩ := r_comB (s := sOb (rs_wA s 99 i (Int32.ofNat q)) c ob tk bd nf g) (w := w) (k := k) (v := mdV 2 (Int32.ofNat (ob + 1))) (rmb_k rm rfl rfl) rq2 ha hd h92 ht h1 hw
  refine ⟨g, g2, ?_, o2, o3, r2, r3⟩
  rw [y397]
  show s397_0 (rM w (k + 4)) w (Int32.ofNat a) (Int32.ofNat i) (Int32.ofNat n) s = _
  unfold s397_0
  refine bse ((aI_at (p := 53) (i := n) (n := 4400) (by decide) rfl hn (by decide)).trans (congrArg some h53)) ?_
  refine bse ((aI_at (p := 65) (i := c) (n := 9) (by decide) rfl (by omega) (by decide)).trans (congrArg some h65)) ?_
  refine bse ((aB_at (p := 66) (i := c) (n := 8) (by decide) rfl (by omega) (by decide)).trans (congrArg some h66)) ?_
  refine ift (by decide) ?_
  refine bse ((aI_at (p := 92) (i := a) (n := 12) (by decide) rfl ha (by decide)).trans (congrArg some h92)) ?_
  refine ift (ne_t (fun z => absurd (ofn_inj (b := 10) (by omega) (by decide) z) (by omega))) ?_
  refine bse (a := (Int32.ofNat nf, s)) (by rw [kf_n (k := k + 3) kf]; rfl) ?_
  refine ift (by
    show mx_f2 .le (s.1 77 + Int32.ofNat nf + 1) (s.1 78) = true
    rw [h77, h78, of_add, of_inc, f2_le, of_int (by omega), of_int (by omega)]
    exact decide_eq_true (by omega)) ?_
  refine bse (a := (Int32.ofNat q, s)) (by rw [bh_run (k := k + 1) bh rq hw (by omega)]; rfl) ?_
  refine bse (sI_at (p := 99) (i := i) (n := 120) (by decide) rfl hi (by decide)) ?_
  refine bse (a := (Int32.ofNat (ob + 1), _)) (by rw [o1]; rfl) ?_
  refine bse (a := (mdV 2 (Int32.ofNat (ob + 1)), _)) (by rw [show (2 : Int32) = Int32.ofNat 2 from rfl, r_376 (k := k + 3)]; rfl) ?_
  refine bse (a := _) (by rw [r1]; rfl) rfl
end RCL
