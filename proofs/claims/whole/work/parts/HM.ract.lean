/-! THE REFERENCE DOES AN INSTRUCTION. -/
section RAC2
variable {sB s s' : rS} {w k : Nat} {a d t n q N : Nat} {v u : Int64}
/-- on to q -/
theorem r_nxt {i : Nat} (rq : rqs sB s) (hi : i < 120) (bh : bhd sB N n q) (hN : N ≤ 6000) (hw : 6000 ≤ w) : s388_697 (rM w (k + 3)) w (Int32.ofNat i) (Int32.ofNat n) s = some (some (.int 0), rs_wA s 99 i (Int32.ofNat q)) := by
  unfold s388_697
  refine bse (a := (Int32.ofNat q, s)) (by rw [bh_run (k := k) bh rq hw (by omega)]; rfl) ?_
  exact bse (sI_at (p := 99) (i := i) (n := 120) (by decide) rfl hi (by decide)) rfl
theorem rq_w {p j : Nat} {x : Int32} (rq : rqs sB s) (hp : p < 44 ∨ 49 < p) : rqs sB (rs_wA s p j x) := rqs_t rq (fun p' h1 h2 => wA_np (by omega))
theorem rq_p {t : Nat} (rq : rqs sB s) : rqs sB (sPsh s a t v) := rqs_t rq (fun p' h1 h2 => wA_np (by omega))
theorem r_pop0 (ha : a < 12) (ht : s.2.1 93 a = Int32.ofNat (t + 1)) (h1 : t < 10100) : (rM w (k + 1) 390 [.ref 36, .int (Int32.ofNat a)] s).bind rxJ = some (s.2.2 97 (10100 * a + t), rs_wA s 93 a (Int32.ofNat t)) := by
  rw [r_pop ha ht h1]
  rfl
theorem r_push0 (ha : a < 12) (ht : s.2.1 93 a = Int32.ofNat t) (h1 : t < 10100) : (rM w (k + 1) 389 [.ref 36, .int (Int32.ofNat a), .long v] s).bind rxV = some (sPsh s a t v) := by
  rw [r_push ha ht h1]
  rfl
theorem act_hd {i : Nat} {K : Nat} (rq : rqs sB s) (hn : n < 4400) (eK : sB.2.1 44 n = Int32.ofNat K) : rs_aI s 44 (Int32.ofNat n) = some (Int32.ofNat K) := (nd_at rq (by decide) hn).trans (congrArg some eK)
theorem act_1 (rq : rqs sB s) (ha : a < 12) (hd : d < 10) (hn : n < 4400) (eK : sB.2.1 44 n = Int32.ofNat 1) (bh : bhd sB N n q) (hN : N ≤ 6000) (hw : 6000 ≤ w) (ht : s.2.1 93 a = Int32.ofNat t) (h1 : t < 10100) : rM w (k + 4) 388 [.ref 36, .int (Int32.ofNat a), .int (Int32.ofNat (10 * a + d)), .int (Int32.ofNat n)] s = some (some (.int 0), rs_wA (sPsh s a t (mdV 1 (s.2.1 54 n))) 99 (10 * a + d) (Int32.ofNat q)) := by
  rw [y388]
  show s388_0 (rM w (k + 3)) w (Int32.ofNat a) (Int32.ofNat (10 * a + d)) (Int32.ofNat n) s = _
  unfold s388_0
  refine bse (act_hd (i := 0) rq hn eK) ?_
  refine ifn (by decide) (ift rfl ?_)
  refine bse (aI_at (p := 54) (i := n) (n := 4400) (by decide) rfl hn (by decide)) ?_
  refine bse (a := (mdV 1 (s.2.1 54 n), s)) (by rw [show (1 : Int32) = Int32.ofNat 1 from rfl, r_376 (k := k + 2)]; rfl) ?_
  refine bse (r_push0 (k := k + 2) ha ht h1) ?_
  exact r_nxt (k := k) (rq_p rq) (by omega) bh hN hw
theorem act_2 (rq : rqs sB s) (ha : a < 12) (hd : d < 10) (hn : n < 4400) (eK : sB.2.1 44 n = Int32.ofNat 2) (bh : bhd sB N n q) (hN : N ≤ 6000) (hw : 6000 ≤ w) (ht : s.2.1 93 a = Int32.ofNat t) (h1 : t < 10100) : rM w (k + 4) 388 [.ref 36, .int (Int32.ofNat a), .int (Int32.ofNat (10 * a + d)), .int (Int32.ofNat n)] s = some (some (.int 0), rs_wA (sPsh s a t 0) 99 (10 * a + d) (Int32.ofNat q)) := by
  rw [y388]
  show s388_0 (rM w (k + 3)) w (Int32.ofNat a) (Int32.ofNat (10 * a + d)) (Int32.ofNat n) s = _
  unfold s388_0
  refine bse (act_hd (i := 0) rq hn eK) ?_
  refine ifn (by decide) (ifn (by decide) (ift rfl ?_))
  refine bse (r_push0 (k := k + 2) ha ht h1) ?_
  exact r_nxt (k := k) (rq_p rq) (by omega) bh hN hw
theorem act_3 (rq : rqs sB s) (ha : a < 12) (hd : d < 10) (hn : n < 4400) (eK : sB.2.1 44 n = Int32.ofNat 3) (bh : bhd sB N n q) (hN : N ≤ 6000) (hw : 6000 ≤ w) (ht : s.2.1 93 a = Int32.ofNat t) (h1 : t < 10100) : rM w (k + 4) 388 [.ref 36, .int (Int32.ofNat a), .int (Int32.ofNat (10 * a + d)), .int (Int32.ofNat n)] s = some (some (.int 0), rs_wA (sPsh s a t (s.2.2 100 (10 * a + d))) 99 (10 * a + d) (Int32.ofNat q)) := by
  rw [y388]
  show s388_0 (rM w (k + 3)) w (Int32.ofNat a) (Int32.ofNat (10 * a + d)) (Int32.ofNat n) s = _
  unfold s388_0
  refine bse (act_hd (i := 0) rq hn eK) ?_
  refine ifn (by decide) (ifn (by decide) (ifn (by decide) (ift rfl ?_)))
  refine bse (aJ_at (p := 100) (i := 10 * a + d) (n := 120) (by decide) rfl (by omega) (by decide)) ?_
  refine bse (r_push0 (k := k + 2) ha ht h1) ?_
  exact r_nxt (k := k) (rq_p rq) (by omega) bh hN hw
theorem act_4 (rq : rqs sB s) (ha : a < 12) (hd : d < 10) (hn : n < 4400) (eK : sB.2.1 44 n = Int32.ofNat 4) (bh : bhd sB N n q) (hN : N ≤ 6000) (hw : 6000 ≤ w) (ht : s.2.1 93 a = Int32.ofNat t) (h1 : t < 10100) {sl : Nat} (hs : s.2.1 53 n = Int32.ofNat sl) (s16 : sl < 16) : rM w (k + 4) 388 [.ref 36, .int (Int32.ofNat a), .int (Int32.ofNat (10 * a + d)), .int (Int32.ofNat n)] s = some (some (.int 0), rs_wA (sPsh s a t (s.2.2 101 (16 * (10 * a + d) + sl))) 99 (10 * a + d) (Int32.ofNat q)) := by
  rw [y388]
  show s388_0 (rM w (k + 3)) w (Int32.ofNat a) (Int32.ofNat (10 * a + d)) (Int32.ofNat n) s = _
  unfold s388_0
  refine bse (act_hd (i := 0) rq hn eK) ?_
  refine ifn (by decide) (ifn (by decide) (ifn (by decide) (ifn (by decide) (ift rfl ?_))))
  refine bse ((aI_at (p := 53) (i := n) (n := 4400) (by decide) rfl hn (by decide)).trans (congrArg some hs)) ?_
  rw [show (16 : Int32) = Int32.ofNat 16 from rfl, mul_of, of_add]
  refine bse (aJ_at (p := 101) (i := 16 * (10 * a + d) + sl) (n := 1920) (by decide) rfl (by omega) (by decide)) ?_
  refine bse (r_push0 (k := k + 2) ha ht h1) ?_
  exact r_nxt (k := k) (rq_p rq) (by omega) bh hN hw
theorem act_5 (rq : rqs sB s) (ha : a < 12) (hd : d < 10) (hn : n < 4400) (eK : sB.2.1 44 n = Int32.ofNat 5) (bh : bhd sB N n q) (hN : N ≤ 6000) (hw : 6000 ≤ w) (ht : s.2.1 93 a = Int32.ofNat t) (h1 : t < 10100) {sl : Nat} (hs : s.2.1 53 n = Int32.ofNat sl) (s16 : sl < 16) : rM w (k + 4) 388 [.ref 36, .int (Int32.ofNat a), .int (Int32.ofNat (10 * a + d)), .int (Int32.ofNat n)] s = some (some (.int 0), rs_wA (sPsh s a t (s.2.2 101 (16 * (10 * a + d) + sl))) 99 (10 * a + d) (Int32.ofNat q)) := by
  rw [y388]
  show s388_0 (rM w (k + 3)) w (Int32.ofNat a) (Int32.ofNat (10 * a + d)) (Int32.ofNat n) s = _
  unfold s388_0
  refine bse (act_hd (i := 0) rq hn eK) ?_
  refine ifn (by decide) (ifn (by decide) (ifn (by decide) (ifn (by decide) (ifn (by decide) (ift rfl ?_)))))
  refine bse ((aI_at (p := 53) (i := n) (n := 4400) (by decide) rfl hn (by decide)).trans (congrArg some hs)) ?_
  rw [show (16 : Int32) = Int32.ofNat 16 from rfl, mul_of, of_add]
  refine bse (aJ_at (p := 101) (i := 16 * (10 * a + d) + sl) (n := 1920) (by decide) rfl (by omega) (by decide)) ?_
  refine bse (r_push0 (k := k + 2) ha ht h1) ?_
  exact r_nxt (k := k) (rq_p rq) (by omega) bh hN hw
theorem act_6 (rq : rqs sB s) (ha : a < 12) (hd : d < 10) (hn : n < 4400) (eK : sB.2.1 44 n = Int32.ofNat 6) (bh : bhd sB N n q) (hN : N ≤ 6000) (hw : 6000 ≤ w) (ht : s.2.1 93 a = Int32.ofNat (t + 1)) (h1 : t < 10100) : rM w (k + 4) 388 [.ref 36, .int (Int32.ofNat a), .int (Int32.ofNat (10 * a + d)), .int (Int32.ofNat n)] s = some (some (.int 0), rs_wA (sPsh (rs_wA s 93 a (Int32.ofNat t)) a t (mdV 1 (if s.2.2 97 (10100 * a + t) = 0 then 0 else 1))) 99 (10 * a + d) (Int32.ofNat q)) := by
  rw [y388]
  show s388_0 (rM w (k + 3)) w (Int32.ofNat a) (Int32.ofNat (10 * a + d)) (Int32.ofNat n) s = _
  unfold s388_0
  refine bse (act_hd (i := 0) rq hn eK) ?_
  refine ifn (by decide) (ifn (by decide) (ifn (by decide) (ifn (by decide) (ifn (by decide) (ifn (by decide) (ift rfl ?_))))))
  refine bse (r_pop0 (k := k + 2) ha ht h1) ?_
  have go : ∀ x : Int32, s388_231 (rM w (k + 3)) w (Int32.ofNat (10 * a + d)) (Int32.ofNat n) x 1 (Int32.ofNat a) (rs_wA s 93 a (Int32.ofNat t)) = some (some (.int 0), rs_wA (sPsh (rs_wA s 93 a (Int32.ofNat t)) a t (mdV 1 x)) 99 (10 * a + d) (Int32.ofNat q)) := by
    intro x
    unfold s388_231
    refine bse (a := (mdV 1 x, rs_wA s 93 a (Int32.ofNat t))) (by rw [show (1 : Int32) = Int32.ofNat 1 from rfl, r_376 (k := k + 2)]; rfl) ?_
    refine bse (r_push0 (k := k + 2) (s := rs_wA s 93 a (Int32.ofNat t)) ha (wA_eq _ _ _ _) h1) ?_
    exact r_nxt (k := k) (rq_p (rq_w rq (by decide))) (by omega) bh hN hw
  by_cases c : s.2.2 97 (10100 * a + t) = 0
  · rw [if_pos c]
    refine ifn (by rw [lg_ne]; exact fun z => absurd c (of_decide_eq_true z)) ?_
    exact go 0
  · rw [if_neg c]
    refine ift (by rw [lg_ne]; exact decide_eq_true c) ?_
    exact go 1
theorem act_20 (rq : rqs sB s) (ha : a < 12) (hd : d < 10) (hn : n < 4400) (eK : sB.2.1 44 n = Int32.ofNat 20) (bh : bhd sB N n q) (hN : N ≤ 6000) (hw : 6000 ≤ w) (ht : s.2.1 93 a = Int32.ofNat (t + 1)) (h1 : t < 10100) {sl : Nat} (hs : s.2.1 53 n = Int32.ofNat sl) (s16 : sl < 16) : rM w (k + 4) 388 [.ref 36, .int (Int32.ofNat a), .int (Int32.ofNat (10 * a + d)), .int (Int32.ofNat n)] s = some (some (.int 0), rs_wA (rs_wB (rs_wA s 93 a (Int32.ofNat t)) 101 (16 * (10 * a + d) + sl) (s.2.2 97 (10100 * a + t))) 99 (10 * a + d) (Int32.ofNat q)) := by
  rw [y388]
  show s388_0 (rM w (k + 3)) w (Int32.ofNat a) (Int32.ofNat (10 * a + d)) (Int32.ofNat n) s = _
  unfold s388_0
  refine bse (act_hd (i := 0) rq hn eK) ?_
  refine ifn (by decide) (ifn (by decide) (ifn (by decide) (ifn (by decide) (ifn (by decide) (ifn (by decide) (ifn (by decide) (ifn (by decide) (ifn (by decide) (ifn (by decide) (ifn (by decide) (ifn (by decide) (ifn (by decide) (ifn (by decide) (ifn (by decide) (ifn (by decide) (ifn (by decide) (ifn (by decide) (ifn (by decide) (ifn (by decide) (ift rfl ?_))))))))))))))))))))
  refine bse ((aI_at (p := 53) (i := n) (n := 4400) (by decide) rfl hn (by decide)).trans (congrArg some hs)) ?_
  refine bse (r_pop0 (k := k + 2) ha ht h1) ?_
  rw [show (16 : Int32) = Int32.ofNat 16 from rfl, mul_of, of_add]
  refine bse (sJ_at (p := 101) (i := 16 * (10 * a + d) + sl) (n := 1920) (by decide) rfl (by omega) (by decide)) ?_
  exact r_nxt (k := k) (rqs_t (rq_w (p := 93) (j := a) (x := Int32.ofNat t) rq (by decide)) (fun _ _ _ => rfl)) (by omega) bh hN hw
theorem act_27 (rq : rqs sB s) (ha : a < 12) (hd : d < 10) (hn : n < 4400) (eK : sB.2.1 44 n = Int32.ofNat 27) (bh : bhd sB N n q) (hN : N ≤ 6000) (hw : 6000 ≤ w) (ht : s.2.1 93 a = Int32.ofNat (t + 1)) (h1 : t < 10100) : rM w (k + 4) 388 [.ref 36, .int (Int32.ofNat a), .int (Int32.ofNat (10 * a + d)), .int (Int32.ofNat n)] s = some (some (.int 0), rs_wA (rs_wA s 93 a (Int32.ofNat t)) 99 (10 * a + d) (Int32.ofNat q)) := by
  rw [y388]
  show s388_0 (rM w (k + 3)) w (Int32.ofNat a) (Int32.ofNat (10 * a + d)) (Int32.ofNat n) s = _
  unfold s388_0
  refine bse (act_hd (i := 0) rq hn eK) ?_
  refine ifn (by decide) (ifn (by decide) (ifn (by decide) (ifn (by decide) (ifn (by decide) (ifn (by decide) (ifn (by decide) (ifn (by decide) (ifn (by decide) (ifn (by decide) (ifn (by decide) (ifn (by decide) (ifn (by decide) (ifn (by decide) (ifn (by decide) (ifn (by decide) (ifn (by decide) (ifn (by decide) (ifn (by decide) (ifn (by decide) (ifn (by decide) (ifn (by decide) (ifn (by decide) (ifn (by decide) (ifn (by decide) (ifn (by decide) (ifn (by decide) (ift rfl ?_)))))))))))))))))))))))))))
  refine bse (r_pop0 (k := k + 2) ha ht h1) ?_
  exact r_nxt (k := k) (rq_w rq (by decide)) (by omega) bh hN hw
theorem act_23 (rq : rqs sB s) (ha : a < 12) (hd : d < 10) (hn : n < 4400) (eK : sB.2.1 44 n = Int32.ofNat 23) (bh : bhd sB N n q) (hN : N ≤ 6000) (hw : 6000 ≤ w) (ht : s.2.1 93 a = Int32.ofNat (t + 1)) (h1 : t < 10100) {tn : Nat} (h81 : s.1 81 = Int32.ofNat tn) (tb : tn ≤ 1000000) : rM w (k + 4) 388 [.ref 36, .int (Int32.ofNat a), .int (Int32.ofNat (10 * a + d)), .int (Int32.ofNat n)] s = some (some (.int 0), rs_wA (rs_w (if tn < 200 then rs_wA (rs_wA (rs_wA s 93 a (Int32.ofNat t)) 108 tn (Int64.toInt32 (s.2.2 97 (10100 * a + t)))) 109 tn (Int32.ofNat a) else rs_wA s 93 a (Int32.ofNat t)) 81 (Int32.ofNat (tn + 1))) 99 (10 * a + d) (Int32.ofNat q)) := by
  rw [y388]
  show s388_0 (rM w (k + 3)) w (Int32.ofNat a) (Int32.ofNat (10 * a + d)) (Int32.ofNat n) s = _
  unfold s388_0
  refine bse (act_hd (i := 0) rq hn eK) ?_
  refine ifn (by decide) (ifn (by decide) (ifn (by decide) (ifn (by decide) (ifn (by decide) (ifn (by decide) (ifn (by decide) (ifn (by decide) (ifn (by decide) (ifn (by decide) (ifn (by decide) (ifn (by decide) (ifn (by decide) (ifn (by decide) (ifn (by decide) (ifn (by decide) (ifn (by decide) (ifn (by decide) (ifn (by decide) (ifn (by decide) (ifn (by decide) (ifn (by decide) (ifn (by decide) (ift rfl ?_)))))))))))))))))))))))
  refine bse (r_pop0 (k := k + 2) ha ht h1) ?_
  have go : ∀ S : rS, rqs sB S → S.1 81 = Int32.ofNat tn → s388_487 (rM w (k + 3)) w (Int32.ofNat (10 * a + d)) (Int32.ofNat n) S = some (some (.int 0), rs_wA (rs_w S 81 (Int32.ofNat (tn + 1))) 99 (10 * a + d) (Int32.ofNat q)) := by
    intro S r1 r2
    unfold s388_487
    rw [r2, of_inc]
    refine bse (rs_p rfl) ?_
    exact r_nxt (k := k) (rqs_t r1 (fun _ _ _ => rfl)) (by omega) bh hN hw
  by_cases c : tn < 200
  · rw [if_pos c]
    refine ifn (by show ¬ mx_f2 .ge (s.1 81) 200 = true; rw [h81, f2_ge, of_int (by omega), show (200 : Int32).toInt = 200 from by decide]; exact fun z => absurd (of_decide_eq_true z) (by omega)) ?_
    show (rs_sI (rs_wA s 93 a (Int32.ofNat t)) 108 (s.1 81) _).bind _ = _
    rw [h81]
    refine bse (sI_at (p := 108) (i := tn) (n := 200) (by decide) rfl c (by decide)) ?_
    show (rs_sI _ 109 (s.1 81) _).bind _ = _
    rw [h81]
    refine bse (sI_at (p := 109) (i := tn) (n := 200) (by decide) rfl c (by decide)) ?_
    exact go _ (rq_w (rq_w (rq_w rq (by decide)) (by decide)) (by decide)) h81
  · rw [if_neg c]
    refine ift (by show mx_f2 .ge (s.1 81) 200 = true; rw [h81, f2_ge, of_int (by omega), show (200 : Int32).toInt = 200 from by decide]; exact decide_eq_true (by omega)) ?_
    exact go _ (rq_w rq (by decide)) h81
theorem act_25 {c R : Nat} (rq : rqs sB s) (ha : a < 12) (hd : d < 10) (hn : n < 4400) (eK : sB.2.1 44 n = Int32.ofNat 25) (e49 : sB.2.1 49 n = Int32.ofNat c) (hc0 : c < 4400) (e49' : sB.2.1 49 c = Int32.ofNat R) (bh : bhd sB N R q) (hN : N ≤ 6000) (hw : 6000 ≤ w) : rM w (k + 4) 388 [.ref 36, .int (Int32.ofNat a), .int (Int32.ofNat (10 * a + d)), .int (Int32.ofNat n)] s = some (some (.int 0), rs_wA s 99 (10 * a + d) (Int32.ofNat q)) := by
  rw [y388]
  show s388_0 (rM w (k + 3)) w (Int32.ofNat a) (Int32.ofNat (10 * a + d)) (Int32.ofNat n) s = _
  unfold s388_0
  refine bse (act_hd (i := 0) rq hn eK) ?_
  refine ifn (by decide) (ifn (by decide) (ifn (by decide) (ifn (by decide) (ifn (by decide) (ifn (by decide) (ifn (by decide) (ifn (by decide) (ifn (by decide) (ifn (by decide) (ifn (by decide) (ifn (by decide) (ifn (by decide) (ifn (by decide) (ifn (by decide) (ifn (by decide) (ifn (by decide) (ifn (by decide) (ifn (by decide) (ifn (by decide) (ifn (by decide) (ifn (by decide) (ifn (by decide) (ifn (by decide) (ifn (by decide) (ift rfl ?_)))))))))))))))))))))))))
  refine bse ((nd_at rq (by decide) hn).trans (congrArg some e49)) ?_
  refine bse ((nd_at rq (by decide) hc0).trans (congrArg some e49')) ?_
  exact r_nxt (k := k) rq (by omega) bh hN hw
end RAC2
