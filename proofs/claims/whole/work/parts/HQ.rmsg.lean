/-! THE REFERENCE MAKES ACTORS AND SENDS MESSAGES. -/
section RMG
variable {sB s s' : rS} {w k : Nat} {a d t n q N m m' q' np nf c i : Nat} {v u : Int64} {em : Nat → Int64} {Kn : Nat → Prop}
/-- nothing is made -/
theorem r_make3 (ha : a < 12) (hn : n < 4400) (h53 : s.2.1 53 n = Int32.ofNat c) (c8 : c < 8) (h65 : s.2.1 65 c = Int32.ofNat m) (h66 : s.2.1 66 c = 0) (h92 : s.2.1 92 a = Int32.ofNat 10) : rM w (k + 2) 397 [.ref 36, .int (Int32.ofNat a), .int (Int32.ofNat i), .int (Int32.ofNat n)] s = some (some (.int 3), s) := by
  rw [y397]
  show s397_0 (rM w (k + 1)) w (Int32.ofNat a) (Int32.ofNat i) (Int32.ofNat n) s = _
  unfold s397_0
  refine bse ((aI_at (p := 53) (i := n) (n := 4400) (by decide) rfl hn (by decide)).trans (congrArg some h53)) ?_
  refine bse ((aI_at (p := 65) (i := c) (n := 9) (by decide) rfl (by omega) (by decide)).trans (congrArg some h65)) ?_
  refine bse ((aB_at (p := 66) (i := c) (n := 8) (by decide) rfl (by omega) (by decide)).trans (congrArg some h66)) ?_
  refine ift (by decide) ?_
  refine bse ((aI_at (p := 92) (i := a) (n := 12) (by decide) rfl ha (by decide)).trans (congrArg some h92)) ?_
  exact ifn (by decide) rfl
theorem r_make2 {tk cl : Nat} (kf : KFR s c nf em) (ha : a < 12) (hn : n < 4400) (h53 : s.2.1 53 n = Int32.ofNat c) (h65 : s.2.1 65 c = Int32.ofNat m) (h66 : s.2.1 66 c = 0) (hd : d < 10) (h92 : s.2.1 92 a = Int32.ofNat d) (h77 : s.1 77 = Int32.ofNat tk) (h78 : s.1 78 = Int32.ofNat cl) (hcl : cl ≤ 400) (ht4 : tk ≤ 400) (htk : cl < tk + nf + 1) : rM w (k + 2) 397 [.ref 36, .int (Int32.ofNat a), .int (Int32.ofNat i), .int (Int32.ofNat n)] s = some (some (.int 2), s) := by
  obtain ⟨c8, _, _, _, _, n8, _⟩ := id kf
  rw [y397]
  show s397_0 (rM w (k + 1)) w (Int32.ofNat a) (Int32.ofNat i) (Int32.ofNat n) s = _
  unfold s397_0
  refine bse ((aI_at (p := 53) (i := n) (n := 4400) (by decide) rfl hn (by decide)).trans (congrArg some h53)) ?_
  refine bse ((aI_at (p := 65) (i := c) (n := 9) (by decide) rfl (by omega) (by decide)).trans (congrArg some h65)) ?_
  refine bse ((aB_at (p := 66) (i := c) (n := 8) (by decide) rfl (by omega) (by decide)).trans (congrArg some h66)) ?_
  refine ift (by decide) ?_
  refine bse ((aI_at (p := 92) (i := a) (n := 12) (by decide) rfl ha (by decide)).trans (congrArg some h92)) ?_
  refine ift (ne_t (fun z => absurd (ofn_inj (b := 10) (by omega) (by decide) z) (by omega))) ?_
  refine bse (a := (Int32.ofNat nf, s)) (by rw [kf_n kf]; rfl) ?_
  refine ifn (by
    show ¬ mx_f2 .le (s.1 77 + Int32.ofNat nf + 1) (s.1 78) = true
    rw [h77, h78, of_add, of_inc, f2_le, of_int (by omega), of_int (by omega)]
    exact fun z => absurd (of_decide_eq_true z) (by omega)) ?_
  rfl
theorem r_make4 (hn : n < 4400) (h53 : s.2.1 53 n = Int32.ofNat c) (c8 : c < 8) (h65 : s.2.1 65 c = Int32.ofNat m) (h66 : s.2.1 66 c = 1) (h75 : s.1 75 = Int32.ofNat 12) : rM w (k + 2) 397 [.ref 36, .int (Int32.ofNat a), .int (Int32.ofNat i), .int (Int32.ofNat n)] s = some (some (.int 4), s) := by
  rw [y397]
  show s397_0 (rM w (k + 1)) w (Int32.ofNat a) (Int32.ofNat i) (Int32.ofNat n) s = _
  unfold s397_0
  refine bse ((aI_at (p := 53) (i := n) (n := 4400) (by decide) rfl hn (by decide)).trans (congrArg some h53)) ?_
  refine bse ((aI_at (p := 65) (i := c) (n := 9) (by decide) rfl (by omega) (by decide)).trans (congrArg some h65)) ?_
  refine bse ((aB_at (p := 66) (i := c) (n := 8) (by decide) rfl (by omega) (by decide)).trans (congrArg some h66)) ?_
  refine ifn (by decide) ?_
  refine ifn (by rw [h75]; decide) ?_
  rfl
theorem r_makeA2 {tk cl b : Nat} (kf : KFR s c nf em) (hn : n < 4400) (h53 : s.2.1 53 n = Int32.ofNat c) (h65 : s.2.1 65 c = Int32.ofNat m) (h66 : s.2.1 66 c = 1) (h75 : s.1 75 = Int32.ofNat b) (hb : b < 12) (h77 : s.1 77 = Int32.ofNat tk) (h78 : s.1 78 = Int32.ofNat cl) (hcl : cl ≤ 400) (ht4 : tk ≤ 400) (htk : cl < tk + nf + 1) : rM w (k + 2) 397 [.ref 36, .int (Int32.ofNat a), .int (Int32.ofNat i), .int (Int32.ofNat n)] s = some (some (.int 2), s) := by
  obtain ⟨c8, _, _, _, _, n8, _⟩ := id kf
  rw [y397]
  show s397_0 (rM w (k + 1)) w (Int32.ofNat a) (Int32.ofNat i) (Int32.ofNat n) s = _
  unfold s397_0
  refine bse ((aI_at (p := 53) (i := n) (n := 4400) (by decide) rfl hn (by decide)).trans (congrArg some h53)) ?_
  refine bse ((aI_at (p := 65) (i := c) (n := 9) (by decide) rfl (by omega) (by decide)).trans (congrArg some h65)) ?_
  refine bse ((aB_at (p := 66) (i := c) (n := 8) (by decide) rfl (by omega) (by decide)).trans (congrArg some h66)) ?_
  refine ifn (by decide) ?_
  refine ift (by rw [h75]; exact ne_t (fun z => absurd (ofn_inj (b := 12) (by omega) (by decide) z) (by omega))) ?_
  refine bse (a := (Int32.ofNat nf, s)) (by rw [kf_n kf]; rfl) ?_
  refine ifn (by
    show ¬ mx_f2 .le (s.1 77 + Int32.ofNat nf + 1) (s.1 78) = true
    rw [h77, h78, of_add, of_inc, f2_le, of_int (by omega), of_int (by omega)]
    exact fun z => absurd (of_decide_eq_true z) (by omega)) ?_
  rfl
/-- a message to none, or to one whose mailbox is full -/
theorem r_msg1 (ha : a < 12) (ht : s.2.1 93 a = Int32.ofNat (t + 1)) (h1 : t < 10100) (h0 : s.2.2 97 (10100 * a + t) = 0) : rM w (k + 1) 399 [.ref 36, .int (Int32.ofNat a), .int (Int32.ofNat i), .int (Int32.ofNat n)] s = some (some (.int 1), s) := by
  rw [y399]
  show s399_0 (rM w k) w (Int32.ofNat a) (Int32.ofNat i) (Int32.ofNat n) s = _
  unfold s399_0
  refine bse ((aI_at (p := 93) (i := a) (n := 12) (by decide) rfl ha (by decide)).trans (congrArg some ht)) ?_
  rw [show (10100 : Int32) = Int32.ofNat 10100 from rfl, mul_of, of_add, show 10100 * a + (t + 1) = 10100 * a + t + 1 from by omega, of_dec]
  refine bse (aJ_at (p := 97) (i := 10100 * a + t) (n := 121200) (by decide) rfl (by omega) (by decide)) ?_
  exact ifn (by rw [lg_ne]; exact fun z => absurd h0 (of_decide_eq_true z)) rfl
theorem r_msgF {b : Nat} (ha : a < 12) (ht : s.2.1 93 a = Int32.ofNat (t + 1)) (h1 : t < 10100) (hv : s.2.2 97 (10100 * a + t) = mdV 3 (Int32.ofNat b)) (hb : b < 12) (h94 : s.2.1 94 b = s.1 79) : rM w (k + 1) 399 [.ref 36, .int (Int32.ofNat a), .int (Int32.ofNat i), .int (Int32.ofNat n)] s = some (some (.int 0), rs_w s 83 (s.1 83 + 1)) := by
  rw [y399]
  show s399_0 (rM w k) w (Int32.ofNat a) (Int32.ofNat i) (Int32.ofNat n) s = _
  unfold s399_0
  refine bse ((aI_at (p := 93) (i := a) (n := 12) (by decide) rfl ha (by decide)).trans (congrArg some ht)) ?_
  rw [show (10100 : Int32) = Int32.ofNat 10100 from rfl, mul_of, of_add, show 10100 * a + (t + 1) = 10100 * a + t + 1 from by omega, of_dec]
  refine bse ((aJ_at (p := 97) (i := 10100 * a + t) (n := 121200) (by decide) rfl (by omega) (by decide)).trans (congrArg some hv)) ?_
  refine ift (by rw [lg_ne]; exact decide_eq_true (md_n0 3 _ (by decide) (by decide))) ?_
  rw [md_lo]
  refine bse ((aI_at (p := 94) (i := b) (n := 12) (by decide) rfl hb (by decide)).trans (congrArg some h94)) ?_
  refine ifn (ne_f rfl) ?_
  exact bse (rs_p rfl) rfl
/-- a message goes -/
theorem r_msgS {b wt j mb : Nat} (rq : rqs sB s) (rm : RMB sB s m q' np) (ha : a < 12) (hi : i < 120) (hn : n < 4400) (h53 : s.2.1 53 n = Int32.ofNat m) (h52 : s.2.1 52 n = Int32.ofNat np) (ht : s.2.1 93 a = Int32.ofNat (t + np + 1)) (h1 : t + np < 10100) (hv : s.2.2 97 (10100 * a + (t + np)) = mdV 3 (Int32.ofNat b)) (hb : b < 12) (h94 : s.2.1 94 b = Int32.ofNat wt) (w6 : wt < 6) (h79 : s.1 79 = Int32.ofNat mb) (m6 : mb ≤ 6) (hne : wt ≠ mb) (hj : j < 6) (hfr : s.2.1 104 (6 * b + j) = 0) (hus : ∀ i, i < j → s.2.1 104 (6 * b + i) = 1) (vk : ∀ j, j < np → vKn Kn (s.2.2 97 (10100 * a + t + j))) (kn : KNc s a Kn) (bh : bhd sB N n q) (hN : N ≤ 6000) (hw : 6000 ≤ w) :
    ∃ (br wl : Nat → Int32) (bt ag : Nat → Int64) (L : List Nat), rM w (k + 5) 399 [.ref 36, .int (Int32.ofNat a), .int (Int32.ofNat i), .int (Int32.ofNat n)] s = some (some (.int 0), rs_wA (sPsh (sSd (sS1 (rs_wA s 93 a (Int32.ofNat t)) b wt (6 * b + j) m) br wl bt ag) a t 0) 99 i (Int32.ofNat q)) ∧ WLI Kn (401 * (6 * b + j)) br wl L ∧ DON s a (6 * b + j) bt L L.length ∧ (∀ i, i < np → ag (6 * (6 * b + j) + i) = s.2.2 97 (10100 * a + t + i) ∧ vIn L (s.2.2 97 (10100 * a + t + i))) ∧ (∀ i, (i < 6 * (6 * b + j) ∨ 6 * (6 * b + j) + np ≤ i) → ag i = s.2.2 106 i) ∧ (∀ x, (x < 400 * (6 * b + j) ∨ 400 * (6 * b + j) + 400 ≤ x) → bt x = s.2.2 107 x) ∧ ∀ x, (x < 401 * (6 * b + j) ∨ 401 * (6 * b + j) + 401 ≤ x) → br x = s.2.1 105 x := by
  obtain ⟨m72, bb, c, p0, _, _, _, _, _, e77, e77', p5, n6⟩ := rm
  have kn' : KNc (rs_wA s 93 a (Int32.ofNat t)) a Kn := kn
  obtain ⟨br, wl, bt, ag, L, r1, r2, r3, r4, r5, r6, r7⟩ := r_sendM (s := rs_wA s 93 a (Int32.ofNat t)) (w := w) (k := k + 1) (j := j) (wt := wt) (first := t) (to := b) hb ha m72 hj hfr hus h94 w6 e77 e77' p5 n6 (by omega) (by omega) vk kn'
  refine ⟨br, wl, bt, ag, L, ?_, r2, r3, r4, r5, r6, r7⟩
  rw [y399]
  show s399_0 (rM w (k + 4)) w (Int32.ofNat a) (Int32.ofNat i) (Int32.ofNat n) s = _
  unfold s399_0
  have e93 := (aI_at (s := s) (p := 93) (i := a) (n := 12) (by decide) rfl ha (by decide)).trans (congrArg some ht)
  refine bse e93 ?_
  rw [show (10100 : Int32) = Int32.ofNat 10100 from rfl, mul_of, of_add, show 10100 * a + (t + np + 1) = 10100 * a + (t + np) + 1 from by omega, of_dec]
  refine bse ((aJ_at (p := 97) (i := 10100 * a + (t + np)) (n := 121200) (by decide) rfl (by omega) (by decide)).trans (congrArg some hv)) ?_
  refine ift (by rw [lg_ne]; exact decide_eq_true (md_n0 3 _ (by decide) (by decide))) ?_
  rw [md_lo]
  refine bse ((aI_at (p := 94) (i := b) (n := 12) (by decide) rfl hb (by decide)).trans (congrArg some h94)) ?_
  refine ift (by rw [h79]; exact ne_t (fun z => hne (ofn_inj (by omega) (by omega) z))) ?_
  refine bse e93 ?_
  refine bse ((aI_at (p := 52) (i := n) (n := 4400) (by decide) rfl hn (by decide)).trans (congrArg some h52)) ?_
  rw [show (1 : Int32) = Int32.ofNat 1 from rfl, of_add, show t + np + 1 = 1 + np + t from by omega, of_dif _ _ (by omega)]
  refine bse (sI_at (p := 93) (i := a) (n := 12) (by decide) rfl ha (by decide)) ?_
  refine bse ((aI_at (s := rs_wA s 93 a (Int32.ofNat t)) (p := 53) (i := n) (n := 4400) (by decide) rfl hn (by decide)).trans (congrArg some (show (rs_wA s 93 a (Int32.ofNat t)).2.1 53 n = Int32.ofNat m from h53))) ?_
  refine bse ((aI_at (s := rs_wA s 93 a (Int32.ofNat t)) (p := 93) (i := a) (n := 12) (by decide) rfl ha (by decide)).trans (congrArg some (wA_eq _ _ _ _))) ?_
  refine bse (a := sSd (sS1 (rs_wA s 93 a (Int32.ofNat t)) b wt (6 * b + j) m) br wl bt ag) (by rw [r1]; rfl) ?_
  have rq2 : rqs sB (sSd (sS1 (rs_wA s 93 a (Int32.ofNat t)) b wt (6 * b + j) m) br wl bt ag) := rqs_t rq (fun p h1 h2 => by
    rw [sde_1, if_neg (by omega), if_neg (by omega)]
    show (rs_wA (rs_wA (rs_wA (rs_wA (rs_wA s 93 a (Int32.ofNat t)) 104 (6 * b + j) 1) 102 (6 * b + wt) (Int32.ofNat (6 * b + j))) 94 b (Int32.ofNat (wt + 1))) 103 (6 * b + j) (Int32.ofNat m)).2.1 p = _
    rw [wA_np (by omega), wA_np (by omega), wA_np (by omega), wA_np (by omega), wA_np (by omega)])
  refine bse (r_push0 (k := k + 3) (s := sSd (sS1 (rs_wA s 93 a (Int32.ofNat t)) b wt (6 * b + j) m) br wl bt ag) (t := t) (v := 0) ha ?_ (by omega)) ?_
  · show (rs_wA s 93 a (Int32.ofNat t)).2.1 93 a = _
    exact wA_eq _ _ _ _
  refine bse (a := (Int32.ofNat q, _)) (by rw [bh_run (k := k + 1) bh (rq_p rq2) hw (by omega)]; rfl) ?_
  exact bse (sI_at (p := 99) (i := i) (n := 120) (by decide) rfl hi (by decide)) rfl
end RMG
