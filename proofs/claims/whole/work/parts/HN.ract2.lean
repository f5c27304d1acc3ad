/-! THE REFERENCE DOES AN INSTRUCTION: fields, sums, branches, ends. -/
section RAC3
variable {sB s s' : rS} {w k : Nat} {a d t n q N : Nat} {v u : Int64}
/-- a branch is taken -/
theorem r_ent {i r : Nat} (rq : rqs sB s) (hi : i < 120) (en : eN sB r q) (hw : 6000 ≤ w) : ((rM w (k + 4) 401 [.ref 36, .int (Int32.ofNat r)] s).bind rxI).bind (fun x1 => (rs_sI x1.2 99 (Int32.ofNat i) x1.1).bind fun s6 => rrI (some .int) 0 s6) = some (some (.int 0), rs_wA s 99 i (Int32.ofNat q)) := by
  refine bse (a := (Int32.ofNat q, s)) (by rw [en s w k rq hw]; rfl) ?_
  exact bse (sI_at (p := 99) (i := i) (n := 120) (by decide) rfl hi (by decide)) rfl
theorem act_10n (rq : rqs sB s) (ha : a < 12) (hd : d < 10) (hn : n < 4400) (eK : sB.2.1 44 n = Int32.ofNat 10) (hw : 6000 ≤ w) (ht : s.2.1 93 a = Int32.ofNat (t + 1)) (h1 : t < 10100) (h0 : s.2.2 97 (10100 * a + t) = 0) : rM w (k + 5) 388 [.ref 36, .int (Int32.ofNat a), .int (Int32.ofNat (10 * a + d)), .int (Int32.ofNat n)] s = some (some (.int 1), rs_wA s 93 a (Int32.ofNat t)) := by
  rw [y388]
  show s388_0 (rM w (k + 4)) w (Int32.ofNat a) (Int32.ofNat (10 * a + d)) (Int32.ofNat n) s = _
  unfold s388_0
  refine bse (act_hd (i := 0) rq hn eK) ?_
  refine ifn (by decide) (ifn (by decide) (ifn (by decide) (ifn (by decide) (ifn (by decide) (ifn (by decide) (ifn (by decide) (ifn (by decide) (ifn (by decide) (ifn (by decide) (ift rfl ?_))))))))))
  refine bse (r_pop0 (k := k + 3) ha ht h1) ?_
  exact ifn (by rw [lg_ne]; exact fun z => absurd h0 (of_decide_eq_true z)) rfl
theorem act_10o (rq : rqs sB s) (ha : a < 12) (hd : d < 10) (hn : n < 4400) (eK : sB.2.1 44 n = Int32.ofNat 10) (bh : bhd sB N n q) (hN : N ≤ 6000) (hw : 6000 ≤ w) (ht : s.2.1 93 a = Int32.ofNat (t + 1)) (h1 : t < 10100) {o bs f : Nat} (hv : s.2.2 97 (10100 * a + t) = mdV 2 (Int32.ofNat o)) (ho : o ≤ 400) (hb : s.2.1 88 o = Int32.ofNat bs) (hf : bs + f < 400) (h53 : s.2.1 53 n = Int32.ofNat f) : rM w (k + 5) 388 [.ref 36, .int (Int32.ofNat a), .int (Int32.ofNat (10 * a + d)), .int (Int32.ofNat n)] s = some (some (.int 0), rs_wA (sPsh (rs_wA s 93 a (Int32.ofNat t)) a t (s.2.2 96 (400 * a + bs + f))) 99 (10 * a + d) (Int32.ofNat q)) := by
  rw [y388]
  show s388_0 (rM w (k + 4)) w (Int32.ofNat a) (Int32.ofNat (10 * a + d)) (Int32.ofNat n) s = _
  unfold s388_0
  refine bse (act_hd (i := 0) rq hn eK) ?_
  refine ifn (by decide) (ifn (by decide) (ifn (by decide) (ifn (by decide) (ifn (by decide) (ifn (by decide) (ifn (by decide) (ifn (by decide) (ifn (by decide) (ifn (by decide) (ift rfl ?_))))))))))
  refine bse (r_pop0 (k := k + 3) ha ht h1) ?_
  refine ift (by rw [lg_ne]; exact decide_eq_true (by rw [hv]; exact md_n0 2 _ (by decide) (by decide))) ?_
  refine bse ((aI_at (p := 53) (i := n) (n := 4400) (by decide) rfl hn (by decide)).trans (congrArg some h53)) ?_
  refine bse (a := (s.2.2 96 (400 * a + bs + f), rs_wA s 93 a (Int32.ofNat t))) (by rw [r_fld (k := k + 2) (s := rs_wA s 93 a (Int32.ofNat t)) ha hv ho hb hf]; rfl) ?_
  refine bse (r_push0 (k := k + 3) (s := rs_wA s 93 a (Int32.ofNat t)) ha (wA_eq _ _ _ _) h1) ?_
  exact r_nxt (k := k + 1) (rq_p (rq_w rq (by decide))) (by omega) bh hN hw
theorem act_10a (rq : rqs sB s) (ha : a < 12) (hd : d < 10) (hn : n < 4400) (eK : sB.2.1 44 n = Int32.ofNat 10) (bh : bhd sB N n q) (hN : N ≤ 6000) (hw : 6000 ≤ w) (ht : s.2.1 93 a = Int32.ofNat (t + 1)) (h1 : t < 10100) {f : Nat} {x : Int32} (hv : s.2.2 97 (10100 * a + t) = mdV 3 x) (hf : f < 8) (h53 : s.2.1 53 n = Int32.ofNat f) : rM w (k + 5) 388 [.ref 36, .int (Int32.ofNat a), .int (Int32.ofNat (10 * a + d)), .int (Int32.ofNat n)] s = some (some (.int 0), rs_wA (sPsh (rs_wA s 93 a (Int32.ofNat t)) a t (s.2.2 95 (8 * a + f))) 99 (10 * a + d) (Int32.ofNat q)) := by
  rw [y388]
  show s388_0 (rM w (k + 4)) w (Int32.ofNat a) (Int32.ofNat (10 * a + d)) (Int32.ofNat n) s = _
  unfold s388_0
  refine bse (act_hd (i := 0) rq hn eK) ?_
  refine ifn (by decide) (ifn (by decide) (ifn (by decide) (ifn (by decide) (ifn (by decide) (ifn (by decide) (ifn (by decide) (ifn (by decide) (ifn (by decide) (ifn (by decide) (ift rfl ?_))))))))))
  refine bse (r_pop0 (k := k + 3) ha ht h1) ?_
  refine ift (by rw [lg_ne]; exact decide_eq_true (by rw [hv]; exact md_n0 3 _ (by decide) (by decide))) ?_
  refine bse ((aI_at (p := 53) (i := n) (n := 4400) (by decide) rfl hn (by decide)).trans (congrArg some h53)) ?_
  refine bse (a := (s.2.2 95 (8 * a + f), rs_wA s 93 a (Int32.ofNat t))) (by rw [r_fldA (k := k + 2) (s := rs_wA s 93 a (Int32.ofNat t)) ha hv hf]; rfl) ?_
  refine bse (r_push0 (k := k + 3) (s := rs_wA s 93 a (Int32.ofNat t)) ha (wA_eq _ _ _ _) h1) ?_
  exact r_nxt (k := k + 1) (rq_p (rq_w rq (by decide))) (by omega) bh hN hw
/-- what an operator gives -/
def opV (o x y : Int32) : Int32 := if o = 43 then x + y else if o = 45 then x - y else if o = 42 then x * y else if o = 60 then (if x.toInt < y.toInt then 1 else 0) else (if x = y then 1 else 0)
theorem act_13 (rq : rqs sB s) (ha : a < 12) (hd : d < 10) (hn : n < 4400) (eK : sB.2.1 44 n = Int32.ofNat 13) (bh : bhd sB N n q) (hN : N ≤ 6000) (hw : 6000 ≤ w) (ht : s.2.1 93 a = Int32.ofNat (t + 2)) (h1 : t + 2 ≤ 10100) : rM w (k + 5) 388 [.ref 36, .int (Int32.ofNat a), .int (Int32.ofNat (10 * a + d)), .int (Int32.ofNat n)] s = some (some (.int 0), rs_wA (sPsh (rs_wA s 93 a (Int32.ofNat t)) a t (mdV 1 (opV (s.2.1 54 n) (Int64.toInt32 (s.2.2 97 (10100 * a + t))) (Int64.toInt32 (s.2.2 97 (10100 * a + (t + 1))))))) 99 (10 * a + d) (Int32.ofNat q)) := by
  rw [y388]
  show s388_0 (rM w (k + 4)) w (Int32.ofNat a) (Int32.ofNat (10 * a + d)) (Int32.ofNat n) s = _
  unfold s388_0
  refine bse (act_hd (i := 0) rq hn eK) ?_
  refine ifn (by decide) (ifn (by decide) (ifn (by decide) (ifn (by decide) (ifn (by decide) (ifn (by decide) (ifn (by decide) (ifn (by decide) (ifn (by decide) (ifn (by decide) (ifn (by decide) (ifn (by decide) (ifn (by decide) (ift rfl ?_)))))))))))))
  refine bse (r_pop0 (k := k + 3) (t := t + 1) ha ht (by omega)) ?_
  refine bse (r_pop0 (k := k + 3) (s := rs_wA s 93 a (Int32.ofNat (t + 1))) (t := t) ha (wA_eq _ _ _ _) (by omega)) ?_
  rw [show rs_wA (rs_wA s 93 a (Int32.ofNat (t + 1))) 93 a (Int32.ofNat t) = rs_wA s 93 a (Int32.ofNat t) from rs_wAA]
  refine bse (aI_at (s := rs_wA s 93 a (Int32.ofNat t)) (p := 54) (i := n) (n := 4400) (by decide) rfl hn (by decide)) ?_
  show (if mx_f2 .ne (s.2.1 54 n) 43 = true then _ else _) = _
  have go : ∀ x : Int32, s388_383 (rM w (k + 4)) w (Int32.ofNat (10 * a + d)) (Int32.ofNat n) x 1 (Int32.ofNat a) (rs_wA s 93 a (Int32.ofNat t)) = some (some (.int 0), rs_wA (sPsh (rs_wA s 93 a (Int32.ofNat t)) a t (mdV 1 x)) 99 (10 * a + d) (Int32.ofNat q)) := by
    intro x
    unfold s388_383
    refine bse (a := (mdV 1 x, rs_wA s 93 a (Int32.ofNat t))) (by rw [show (1 : Int32) = Int32.ofNat 1 from rfl, r_376 (k := k + 3)]; rfl) ?_
    refine bse (r_push0 (k := k + 3) (s := rs_wA s 93 a (Int32.ofNat t)) ha (wA_eq _ _ _ _) (by omega)) ?_
    exact r_nxt (k := k + 1) (rq_p (rq_w rq (by decide))) (by omega) bh hN hw
  unfold opV
  by_cases c1 : s.2.1 54 n = 43
  · rw [if_pos c1]
    exact ifn (ne_f c1) (go _)
  rw [if_neg c1]
  refine ift (ne_t c1) ?_
  by_cases c2 : s.2.1 54 n = 45
  · rw [if_pos c2]
    exact ifn (ne_f c2) (go _)
  rw [if_neg c2]
  refine ift (ne_t c2) ?_
  by_cases c3 : s.2.1 54 n = 42
  · rw [if_pos c3]
    exact ifn (ne_f c3) (go _)
  rw [if_neg c3]
  refine ift (ne_t c3) ?_
  by_cases c4 : s.2.1 54 n = 60
  · rw [if_pos c4]
    refine ifn (ne_f c4) ?_
    by_cases c5 : (Int64.toInt32 (s.2.2 97 (10100 * a + t))).toInt < (Int64.toInt32 (s.2.2 97 (10100 * a + (t + 1)))).toInt
    · rw [if_pos c5]
      exact ifn (by rw [f2_ge]; exact fun z => absurd (of_decide_eq_true z) (by show ¬ (Int64.toInt32 (s.2.2 97 (10100 * a + (t + 1)))).toInt ≤ (Int64.toInt32 (s.2.2 97 (10100 * a + t))).toInt; omega)) (go 1)
    · rw [if_neg c5]
      exact ift (by rw [f2_ge]; exact decide_eq_true (by show (Int64.toInt32 (s.2.2 97 (10100 * a + (t + 1)))).toInt ≤ (Int64.toInt32 (s.2.2 97 (10100 * a + t))).toInt; omega)) (go 0)
  · rw [if_neg c4]
    refine ift (ne_t c4) ?_
    by_cases c5 : Int64.toInt32 (s.2.2 97 (10100 * a + t)) = Int64.toInt32 (s.2.2 97 (10100 * a + (t + 1)))
    · rw [if_pos c5]
      exact ifn (ne_f c5) (go 1)
    · rw [if_neg c5]
      exact ift (ne_t c5) (go 0)
theorem act_21t (rq : rqs sB s) (ha : a < 12) (hd : d < 10) (hn : n < 4400) (eK : sB.2.1 44 n = Int32.ofNat 21) (hw : 6000 ≤ w) (ht : s.2.1 93 a = Int32.ofNat (t + 1)) (h1 : t < 10100) {r : Nat} (hv : Int64.toInt32 (s.2.2 97 (10100 * a + t)) ≠ 0) (e46 : sB.2.1 46 n = Int32.ofNat r) (en : eN sB r q) : rM w (k + 5) 388 [.ref 36, .int (Int32.ofNat a), .int (Int32.ofNat (10 * a + d)), .int (Int32.ofNat n)] s = some (some (.int 0), rs_wA (rs_wA s 93 a (Int32.ofNat t)) 99 (10 * a + d) (Int32.ofNat q)) := by
  rw [y388]
  show s388_0 (rM w (k + 4)) w (Int32.ofNat a) (Int32.ofNat (10 * a + d)) (Int32.ofNat n) s = _
  unfold s388_0
  refine bse (act_hd (i := 0) rq hn eK) ?_
  refine ifn (by decide) (ifn (by decide) (ifn (by decide) (ifn (by decide) (ifn (by decide) (ifn (by decide) (ifn (by decide) (ifn (by decide) (ifn (by decide) (ifn (by decide) (ifn (by decide) (ifn (by decide) (ifn (by decide) (ifn (by decide) (ifn (by decide) (ifn (by decide) (ifn (by decide) (ifn (by decide) (ifn (by decide) (ifn (by decide) (ifn (by decide) (ift rfl ?_)))))))))))))))))))))
  refine bse (r_pop0 (k := k + 3) ha ht h1) ?_
  refine ifn (eq1_f hv) ?_
  unfold s388_514
  refine ift (by decide) ?_
  unfold s388_530
  refine ifn (by decide) ?_
  refine bse ((nd_at (rq_w rq (by decide)) (by decide) hn).trans (congrArg some e46)) ?_
  exact r_ent (k := k) (rq_w rq (by decide)) (by omega) en hw
theorem act_21e (rq : rqs sB s) (ha : a < 12) (hd : d < 10) (hn : n < 4400) (eK : sB.2.1 44 n = Int32.ofNat 21) (hw : 6000 ≤ w) (ht : s.2.1 93 a = Int32.ofNat (t + 1)) (h1 : t < 10100) {r : Nat} (hv : Int64.toInt32 (s.2.2 97 (10100 * a + t)) = 0) (e47 : sB.2.1 47 n = Int32.ofNat r) (r1 : 1 ≤ r) (r2 : r < 4400) (en : eN sB r q) : rM w (k + 5) 388 [.ref 36, .int (Int32.ofNat a), .int (Int32.ofNat (10 * a + d)), .int (Int32.ofNat n)] s = some (some (.int 0), rs_wA (rs_wA s 93 a (Int32.ofNat t)) 99 (10 * a + d) (Int32.ofNat q)) := by
  rw [y388]
  show s388_0 (rM w (k + 4)) w (Int32.ofNat a) (Int32.ofNat (10 * a + d)) (Int32.ofNat n) s = _
  unfold s388_0
  refine bse (act_hd (i := 0) rq hn eK) ?_
  refine ifn (by decide) (ifn (by decide) (ifn (by decide) (ifn (by decide) (ifn (by decide) (ifn (by decide) (ifn (by decide) (ifn (by decide) (ifn (by decide) (ifn (by decide) (ifn (by decide) (ifn (by decide) (ifn (by decide) (ifn (by decide) (ifn (by decide) (ifn (by decide) (ifn (by decide) (ifn (by decide) (ifn (by decide) (ifn (by decide) (ifn (by decide) (ift rfl ?_)))))))))))))))))))))
  refine bse (r_pop0 (k := k + 3) ha ht h1) ?_
  refine ift (eq1_t hv) ?_
  unfold s388_514
  refine ifn (by decide) ?_
  refine bse ((nd_at (rq_w rq (by decide)) (by decide) hn).trans (congrArg some e47)) ?_
  refine ifn (eq1_f (ofn_0 r2 r1)) ?_
  unfold s388_530
  refine ift (by decide) ?_
  refine bse ((nd_at (rq_w rq (by decide)) (by decide) hn).trans (congrArg some e47)) ?_
  exact r_ent (k := k) (rq_w rq (by decide)) (by omega) en hw
theorem act_21n (rq : rqs sB s) (ha : a < 12) (hd : d < 10) (hn : n < 4400) (eK : sB.2.1 44 n = Int32.ofNat 21) (bh : bhd sB N n q) (hN : N ≤ 6000) (hw : 6000 ≤ w) (ht : s.2.1 93 a = Int32.ofNat (t + 1)) (h1 : t < 10100) (hv : Int64.toInt32 (s.2.2 97 (10100 * a + t)) = 0) (e47 : sB.2.1 47 n = 0) : rM w (k + 5) 388 [.ref 36, .int (Int32.ofNat a), .int (Int32.ofNat (10 * a + d)), .int (Int32.ofNat n)] s = some (some (.int 0), rs_wA (rs_wA s 93 a (Int32.ofNat t)) 99 (10 * a + d) (Int32.ofNat q)) := by
  rw [y388]
  show s388_0 (rM w (k + 4)) w (Int32.ofNat a) (Int32.ofNat (10 * a + d)) (Int32.ofNat n) s = _
  unfold s388_0
  refine bse (act_hd (i := 0) rq hn eK) ?_
  refine ifn (by decide) (ifn (by decide) (ifn (by decide) (ifn (by decide) (ifn (by decide) (ifn (by decide) (ifn (by decide) (ifn (by decide) (ifn (by decide) (ifn (by decide) (ifn (by decide) (ifn (by decide) (ifn (by decide) (ifn (by decide) (ifn (by decide) (ifn (by decide) (ifn (by decide) (ifn (by decide) (ifn (by decide) (ifn (by decide) (ifn (by decide) (ift rfl ?_)))))))))))))))))))))
  refine bse (r_pop0 (k := k + 3) ha ht h1) ?_
  refine ift (eq1_t hv) ?_
  unfold s388_514
  refine ifn (by decide) ?_
  refine bse ((nd_at (rq_w rq (by decide)) (by decide) hn).trans (congrArg some e47)) ?_
  refine ift (by decide) ?_
  exact r_nxt (k := k + 1) (rq_w rq (by decide)) (by omega) bh hN hw
theorem act_22t (rq : rqs sB s) (ha : a < 12) (hd : d < 10) (hn : n < 4400) (eK : sB.2.1 44 n = Int32.ofNat 22) (hw : 6000 ≤ w) (ht : s.2.1 93 a = Int32.ofNat (t + 1)) (h1 : t < 10100) {r : Nat} (hv : Int64.toInt32 (s.2.2 97 (10100 * a + t)) ≠ 0) (e46 : sB.2.1 46 n = Int32.ofNat r) (en : eN sB r q) : rM w (k + 5) 388 [.ref 36, .int (Int32.ofNat a), .int (Int32.ofNat (10 * a + d)), .int (Int32.ofNat n)] s = some (some (.int 0), rs_wA (rs_wA s 93 a (Int32.ofNat t)) 99 (10 * a + d) (Int32.ofNat q)) := by
  rw [y388]
  show s388_0 (rM w (k + 4)) w (Int32.ofNat a) (Int32.ofNat (10 * a + d)) (Int32.ofNat n) s = _
  unfold s388_0
  refine bse (act_hd (i := 0) rq hn eK) ?_
  refine ifn (by decide) (ifn (by decide) (ifn (by decide) (ifn (by decide) (ifn (by decide) (ifn (by decide) (ifn (by decide) (ifn (by decide) (ifn (by decide) (ifn (by decide) (ifn (by decide) (ifn (by decide) (ifn (by decide) (ifn (by decide) (ifn (by decide) (ifn (by decide) (ifn (by decide) (ifn (by decide) (ifn (by decide) (ifn (by decide) (ifn (by decide) (ifn (by decide) (ift rfl ?_))))))))))))))))))))))
  refine bse (r_pop0 (k := k + 3) ha ht h1) ?_
  refine ifn (eq1_f hv) ?_
  refine bse ((nd_at (rq_w rq (by decide)) (by decide) hn).trans (congrArg some e46)) ?_
  exact r_ent (k := k) (rq_w rq (by decide)) (by omega) en hw
theorem act_22n (rq : rqs sB s) (ha : a < 12) (hd : d < 10) (hn : n < 4400) (eK : sB.2.1 44 n = Int32.ofNat 22) (bh : bhd sB N n q) (hN : N ≤ 6000) (hw : 6000 ≤ w) (ht : s.2.1 93 a = Int32.ofNat (t + 1)) (h1 : t < 10100) (hv : Int64.toInt32 (s.2.2 97 (10100 * a + t)) = 0) : rM w (k + 5) 388 [.ref 36, .int (Int32.ofNat a), .int (Int32.ofNat (10 * a + d)), .int (Int32.ofNat n)] s = some (some (.int 0), rs_wA (rs_wA s 93 a (Int32.ofNat t)) 99 (10 * a + d) (Int32.ofNat q)) := by
  rw [y388]
  show s388_0 (rM w (k + 4)) w (Int32.ofNat a) (Int32.ofNat (10 * a + d)) (Int32.ofNat n) s = _
  unfold s388_0
  refine bse (act_hd (i := 0) rq hn eK) ?_
  refine ifn (by decide) (ifn (by decide) (ifn (by decide) (ifn (by decide) (ifn (by decide) (ifn (by decide) (ifn (by decide) (ifn (by decide) (ifn (by decide) (ifn (by decide) (ifn (by decide) (ifn (by decide) (ifn (by decide) (ifn (by decide) (ifn (by decide) (ifn (by decide) (ifn (by decide) (ifn (by decide) (ifn (by decide) (ifn (by decide) (ifn (by decide) (ifn (by decide) (ift rfl ?_))))))))))))))))))))))
  refine bse (r_pop0 (k := k + 3) ha ht h1) ?_
  refine ift (eq1_t hv) ?_
  exact r_nxt (k := k + 1) (rq_w rq (by decide)) (by omega) bh hN hw
theorem act_24 (rq : rqs sB s) (ha : a < 12) (hd : d < 10) (hn : n < 4400) (eK : sB.2.1 44 n = Int32.ofNat 24) (hw : 6000 ≤ w) (ht : s.2.1 93 a = Int32.ofNat (t + 1)) (h1 : t < 10100) (h92 : s.2.1 92 a = Int32.ofNat (d + 1)) : rM w (k + 5) 388 [.ref 36, .int (Int32.ofNat a), .int (Int32.ofNat (10 * a + d)), .int (Int32.ofNat n)] s = some (some (.int 0), if d = 0 then rs_wA (rs_wA s 93 a (Int32.ofNat t)) 92 a 0 else sPsh (rs_wA (rs_wA s 93 a (Int32.ofNat t)) 92 a (Int32.ofNat d)) a t (s.2.2 97 (10100 * a + t))) := by
  rw [y388]
  show s388_0 (rM w (k + 4)) w (Int32.ofNat a) (Int32.ofNat (10 * a + d)) (Int32.ofNat n) s = _
  unfold s388_0
  refine bse (act_hd (i := 0) rq hn eK) ?_
  refine ifn (by decide) (ifn (by decide) (ifn (by decide) (ifn (by decide) (ifn (by decide) (ifn (by decide) (ifn (by decide) (ifn (by decide) (ifn (by decide) (ifn (by decide) (ifn (by decide) (ifn (by decide) (ifn (by decide) (ifn (by decide) (ifn (by decide) (ifn (by decide) (ifn (by decide) (ifn (by decide) (ifn (by decide) (ifn (by decide) (ifn (by decide) (ifn (by decide) (ifn (by decide) (ifn (by decide) (ift rfl ?_))))))))))))))))))))))))
  refine bse (r_pop0 (k := k + 3) ha ht h1) ?_
  refine bse ((aI_at (s := rs_wA s 93 a (Int32.ofNat t)) (p := 92) (i := a) (n := 12) (by decide) rfl ha (by decide)).trans (congrArg some (show (rs_wA s 93 a (Int32.ofNat t)).2.1 92 a = Int32.ofNat (d + 1) from h92))) ?_
  rw [of_dec]
  refine bse (sI_at (p := 92) (i := a) (n := 12) (by decide) rfl ha (by decide)) ?_
  refine bse ((aI_at (p := 92) (i := a) (n := 12) (by decide) rfl ha (by decide)).trans (congrArg some (wA_eq _ _ _ _))) ?_
  by_cases c : d = 0
  · subst c
    rw [if_pos rfl]
    exact ift (by decide) rfl
  · rw [if_neg c]
    refine ifn (by rw [f1_le, of_int (by omega)]; exact fun z => absurd (of_decide_eq_true z) (by omega)) ?_
    exact bse (r_push0 (k := k + 3) (s := rs_wA (rs_wA s 93 a (Int32.ofNat t)) 92 a (Int32.ofNat d)) ha (show (rs_wA s 93 a (Int32.ofNat t)).2.1 93 a = Int32.ofNat t from wA_eq _ _ _ _) h1) rfl
theorem act_31 (rq : rqs sB s) (ha : a < 12) (hd : d < 10) (hn : n < 4400) (eK : sB.2.1 44 n = Int32.ofNat 31) (hw : 6000 ≤ w) (h93 : s.2.1 93 a = Int32.ofNat t) (h1 : t < 10100) (h92 : s.2.1 92 a = Int32.ofNat (d + 1)) {m : Nat} (h54 : s.2.1 54 n = Int32.ofNat m) (hm : m < 72) : rM w (k + 5) 388 [.ref 36, .int (Int32.ofNat a), .int (Int32.ofNat (10 * a + d)), .int (Int32.ofNat n)] s = some (some (.int 0), if d = 0 then rs_wA s 92 a 0 else sPsh (rs_wA s 92 a (Int32.ofNat d)) a t (if s.2.1 70 m = 0 then s.2.2 100 (10 * a + d) else 0)) := by
  rw [y388]
  show s388_0 (rM w (k + 4)) w (Int32.ofNat a) (Int32.ofNat (10 * a + d)) (Int32.ofNat n) s = _
  unfold s388_0
  refine bse (act_hd (i := 0) rq hn eK) ?_
  refine ifn (by decide) (ifn (by decide) (ifn (by decide) (ifn (by decide) (ifn (by decide) (ifn (by decide) (ifn (by decide) (ifn (by decide) (ifn (by decide) (ifn (by decide) (ifn (by decide) (ifn (by decide) (ifn (by decide) (ifn (by decide) (ifn (by decide) (ifn (by decide) (ifn (by decide) (ifn (by decide) (ifn (by decide) (ifn (by decide) (ifn (by decide) (ifn (by decide) (ifn (by decide) (ifn (by decide) (ifn (by decide) (ifn (by decide) (ifn (by decide) (ifn (by decide) (ifn (by decide) (ifn (by decide) (ifn (by decide) (ift rfl ?_)))))))))))))))))))))))))))))))
  refine bse ((aI_at (p := 92) (i := a) (n := 12) (by decide) rfl ha (by decide)).trans (congrArg some h92)) ?_
  rw [of_dec]
  refine bse (sI_at (p := 92) (i := a) (n := 12) (by decide) rfl ha (by decide)) ?_
  refine bse ((aI_at (p := 92) (i := a) (n := 12) (by decide) rfl ha (by decide)).trans (congrArg some (wA_eq _ _ _ _))) ?_
  by_cases c : d = 0
  · subst c
    rw [if_pos rfl]
    exact ift (by decide) rfl
  · rw [if_neg c]
    refine ifn (by rw [f1_le, of_int (by omega)]; exact fun z => absurd (of_decide_eq_true z) (by omega)) ?_
    refine bse ((aI_at (s := rs_wA s 92 a (Int32.ofNat d)) (p := 54) (i := n) (n := 4400) (by decide) rfl hn (by decide)).trans (congrArg some h54)) ?_
    refine bse (aI_at (s := rs_wA s 92 a (Int32.ofNat d)) (p := 70) (i := m) (n := 72) (by decide) rfl hm (by decide)) ?_
    have go : ∀ v : Int64, s388_685 (rM w (k + 4)) w v (Int32.ofNat a) (rs_wA s 92 a (Int32.ofNat d)) = some (some (.int 0), sPsh (rs_wA s 92 a (Int32.ofNat d)) a t v) := by
      intro v
      unfold s388_685
      exact bse (r_push0 (k := k + 3) (s := rs_wA s 92 a (Int32.ofNat d)) ha h93 h1) rfl
    by_cases c0 : s.2.1 70 m = 0
    · rw [if_pos c0]
      refine ifn (ne1_f c0) ?_
      refine bse (aJ_at (s := rs_wA s 92 a (Int32.ofNat d)) (p := 100) (i := 10 * a + d) (n := 120) (by decide) rfl (by omega) (by decide)) ?_
      exact go _
    · rw [if_neg c0]
      exact ift (ne1_t c0) (go 0)
end RAC3
