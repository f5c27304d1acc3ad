/-! THE REFERENCE MAKES AN ACTOR; AN INSTRUCTION. -/
section RMA
variable {sB s s' : rS} {w k : Nat} {a d t n q N m m' q' np nf c i : Nat} {v u : Int64} {em : Nat → Int64} {Kn : Nat → Prop}
theorem KNc_k (kn : KNc s a Kn) (e87 : s'.2.1 87 = s.2.1 87) (e88 : s'.2.1 88 = s.2.1 88) (e64 : s'.2.1 64 = s.2.1 64) (e69 : s'.2.1 69 = s.2.1 69) (e60 : s'.2.1 60 = s.2.1 60) (e96 : s'.2.2 96 = s.2.2 96) : KNc s' a Kn := by
  intro o h1 h2 h3
  obtain ⟨c, bs, nf, ⟨z1, z2, z3, em, z4⟩, z5⟩ := kn o h1 h2 h3
  exact ⟨c, bs, nf, ⟨by rw [e87]; exact z1, by rw [e88]; exact z2, z3, em, kf_k z4 e64 e69 e60⟩, fun f hf => by rw [e96]; exact z5 f hf⟩
theorem r_makeA {b tk cl : Nat} {g : Nat → Int64} {us : Nat → Int32} (o1 : rM w (k + 4) 374 [.ref 36, .int (Int32.ofNat c)] (rs_wA s 93 a (Int32.ofNat t)) = some (some (.int (Int32.ofNat b)), rsI (rsL (sAc0 (rs_wA s 93 a (Int32.ofNat t)) b c tk nf) 95 g) 104 us)) (o4 : ∀ j, j < 6 → us (6 * b + j) = 0) (rq : rqs sB s) (kf : KFR s c nf em) (rm : RMB sB s m q' np) (ha : a < 12) (hi : i < 120) (hn : n < 4400) (h53 : s.2.1 53 n = Int32.ofNat c) (h65 : s.2.1 65 c = Int32.ofNat m) (h66 : s.2.1 66 c = 1) (h52 : s.2.1 52 n = Int32.ofNat np) (h75 : s.1 75 = Int32.ofNat b) (hb : b < 12) (hab : a < b) (h77 : s.1 77 = Int32.ofNat tk) (h78 : s.1 78 = Int32.ofNat cl) (hcl : cl ≤ 400) (htk : tk + nf + 1 ≤ cl) (ht : s.2.1 93 a = Int32.ofNat (t + np)) (h1 : t + np ≤ 10100) (h1' : t < 10100) (vk : ∀ j, j < np → vKn Kn (s.2.2 97 (10100 * a + t + j))) (kn : KNc s a Kn) (bh : bhd sB N n q) (hN : N ≤ 6000) (hw : 6000 ≤ w) :
    ∃ (br wl : Nat → Int32) (bt ag : Nat → Int64) (L : List Nat), rM w (k + 5) 397 [.ref 36, .int (Int32.ofNat a), .int (Int32.ofNat i), .int (Int32.ofNat n)] s = some (some (.int 0), rs_wA (sPsh (sSd (sS1 (rsI (rsL (sAc0 (rs_wA s 93 a (Int32.ofNat t)) b c tk nf) 95 g) 104 us) b 0 (6 * b + 0) m) br wl bt ag) a t (mdV 3 (Int32.ofNat b))) 99 i (Int32.ofNat q)) ∧ WLI Kn (401 * (6 * b + 0)) br wl L ∧ DON s a (6 * b + 0) bt L L.length ∧ (∀ i, i < np → ag (6 * (6 * b + 0) + i) = s.2.2 97 (10100 * a + t + i) ∧ vIn L (s.2.2 97 (10100 * a + t + i))) ∧ (∀ i, (i < 6 * (6 * b + 0) ∨ 6 * (6 * b + 0) + np ≤ i) → ag i = s.2.2 106 i) ∧ (∀ x, (x < 400 * (6 * b + 0) ∨ 400 * (6 * b + 0) + 400 ≤ x) → bt x = s.2.2 107 x) ∧ ∀ x, (x < 401 * (6 * b + 0) ∨ 401 * (6 * b + 0) + 401 ≤ x) → br x = s.2.1 105 x := by
  obtain ⟨c8, _, _, _, _, n8, _⟩ := id kf
  obtain ⟨m72, bb, c', p0, _, _, _, _, _, e77, e77', p5, n6⟩ := rm
  generalize hS : rsI (rsL (sAc0 (rs_wA s 93 a (Int32.ofNat t)) b c tk nf) 95 g) 104 us = S at *
  have SA : ∀ p, p ≠ 104 → p ≠ 94 → p ≠ 93 → p ≠ 92 → p ≠ 91 → p ≠ 90 → p ≠ 89 → S.2.1 p = s.2.1 p := by
    intro p h1 h2 h3 h4 h5 h6 h7
    rw [← hS]
    show (if p = 104 then us else (sAc0 (rs_wA s 93 a (Int32.ofNat t)) b c tk nf).2.1 p) = _
    rw [if_neg h1]
    show (rs_wA (rs_wA (rs_wA (rs_wA (rs_wA (rs_wA (rs_wA s 93 a (Int32.ofNat t)) 89 b (Int32.ofNat c)) 90 b 0) 91 b 0) 92 b 0) 93 b 0) 94 b 0).2.1 p = _
    rw [wA_np (Ne.symm h2), wA_np (Ne.symm h3), wA_np (Ne.symm h4), wA_np (Ne.symm h5), wA_np (Ne.symm h6), wA_np (Ne.symm h7), wA_np (Ne.symm h3)]
  have SL : ∀ p, p ≠ 95 → S.2.2 p = s.2.2 p := by
    intro p h1
    rw [← hS]
    show (if p = 95 then g else s.2.2 p) = _
    rw [if_neg h1]
  have S93 : S.2.1 93 a = Int32.ofNat t := by
    rw [← hS]
    show (rs_wA (rs_wA (rs_wA s 93 a (Int32.ofNat t)) 93 b 0) 94 b 0).2.1 93 a = _
    rw [wA_np (by decide), wA_get, if_neg (by omega)]
    exact wA_eq _ _ _ _
  have S94 : S.2.1 94 b = Int32.ofNat 0 := by
    rw [← hS]
    show (sAc0 (rs_wA s 93 a (Int32.ofNat t)) b c tk nf).2.1 94 b = _
    exact wA_eq _ 94 b 0
  have S104 : ∀ j, j < 6 → S.2.1 104 (6 * b + j) = 0 := by
    intro j hj
    rw [← hS]
    exact o4 j hj
  have kn' : KNc S a Kn := KNc_k kn (SA 87 (by decide) (by decide) (by decide) (by decide) (by decide) (by decide) (by decide)) (SA 88 (by decide) (by decide) (by decide) (by decide) (by decide) (by decide) (by decide)) (SA 64 (by decide) (by decide) (by decide) (by decide) (by decide) (by decide) (by decide)) (SA 69 (by decide) (by decide) (by decide) (by decide) (by decide) (by decide) (by decide)) (SA 60 (by decide) (by decide) (by decide) (by decide) (by decide) (by decide) (by decide)) (SL 96 (by decide))
  have s77 := SA 77 (by decide) (by decide) (by decide) (by decide) (by decide) (by decide) (by decide)
  obtain ⟨br, wl, bt, ag, L, r1, r2, r3, r4, r5, r6, r7⟩ := r_sendM (s := S) (w := w) (k := k + 1) (j := 0) (wt := 0) (first := t) (to := b) hb ha m72 (by decide) (S104 0 (by decide)) (fun i h => by omega) S94 (by decide) (by rw [s77]; exact e77) (by rw [s77]; exact e77') p5 n6 h1 (by omega) (fun j hj => by rw [SL 97 (by decide)]; exact vk j hj) kn'
  rw [SL 97 (by decide)] at r4
  rw [SL 106 (by decide)] at r5
  rw [SL 107 (by decide)] at r6
  rw [SA 105 (by decide) (by decide) (by decide) (by decide) (by decide) (by decide) (by decide)] at r7
  have r3' : DON s a (6 * b + 0) bt L L.length := by
    intro i' o' h1 h2 c2 bs nf2 ob f hf
    have ob' : OBJ S o' c2 bs nf2 := by
      obtain ⟨z1, z2, z3, em, z4⟩ := ob
      exact ⟨by rw [SA 87 (by decide) (by decide) (by decide) (by decide) (by decide) (by decide) (by decide)]; exact z1, by rw [SA 88 (by decide) (by decide) (by decide) (by decide) (by decide) (by decide) (by decide)]; exact z2, z3, em, kf_k z4 (SA 64 (by decide) (by decide) (by decide) (by decide) (by decide) (by decide) (by decide)) (SA 69 (by decide) (by decide) (by decide) (by decide) (by decide) (by decide) (by decide)) (SA 60 (by decide) (by decide) (by decide) (by decide) (by decide) (by decide) (by decide))⟩
    have := r3 i' o' h1 h2 c2 bs nf2 ob' f hf
    rw [SL 96 (by decide)] at this
    exact this
  refine ⟨br, wl, bt, ag, L, ?_, r2, r3', r4, r5, r6, r7⟩
  try rw [hS]
  rw [y397]
  show s397_0 (rM w (k + 4)) w (Int32.ofNat a) (Int32.ofNat i) (Int32.ofNat n) s = _
  unfold s397_0
  refine bse ((aI_at (p := 53) (i := n) (n := 4400) (by decide) rfl hn (by decide)).trans (congrArg some h53)) ?_
  refine bse ((aI_at (p := 65) (i := c) (n := 9) (by decide) rfl (by omega) (by decide)).trans (congrArg some h65)) ?_
  refine bse ((aB_at (p := 66) (i := c) (n := 8) (by decide) rfl (by omega) (by decide)).trans (congrArg some h66)) ?_
  refine ifn (by decide) ?_
  refine ift (by rw [h75]; exact ne_t (fun z => absurd (ofn_inj (b := 12) (by omega) (by decide) z) (by omega))) ?_
  refine bse (a := (Int32.ofNat nf, s)) (by rw [kf_n (k := k + 3) kf]; rfl) ?_
  refine ift (by
    show mx_f2 .le (s.1 77 + Int32.ofNat nf + 1) (s.1 78) = true
    rw [h77, h78, of_add, of_inc, f2_le, of_int (by omega), of_int (by omega)]
    exact decide_eq_true (by omega)) ?_
  refine bse ((aI_at (p := 93) (i := a) (n := 12) (by decide) rfl ha (by decide)).trans (congrArg some ht)) ?_
  refine bse ((aI_at (p := 52) (i := n) (n := 4400) (by decide) rfl hn (by decide)).trans (congrArg some h52)) ?_
  rw [show t + np = np + t from by omega, of_dif _ _ (by omega)]
  refine bse (sI_at (p := 93) (i := a) (n := 12) (by decide) rfl ha (by decide)) ?_
  refine bse (a := (Int32.ofNat b, S)) (by rw [o1]; rfl) ?_
  refine bse ((aI_at (s := S) (p := 93) (i := a) (n := 12) (by decide) rfl ha (by decide)).trans (congrArg some S93)) ?_
  refine bse (a := sSd (sS1 S b 0 (6 * b + 0) m) br wl bt ag) (by rw [r1]; rfl) ?_
  refine bse (a := (mdV 3 (Int32.ofNat b), sSd (sS1 S b 0 (6 * b + 0) m) br wl bt ag)) (by rw [show (3 : Int32) = Int32.ofNat 3 from rfl, r_376 (k := k + 3)]; rfl) ?_
  have rq2 : rqs sB (sSd (sS1 S b 0 (6 * b + 0) m) br wl bt ag) := rqs_t rq (fun p h1 h2 => by
    rw [sde_1, if_neg (by omega), if_neg (by omega)]
    show (rs_wA (rs_wA (rs_wA (rs_wA S 104 (6 * b + 0) 1) 102 (6 * b + 0) (Int32.ofNat (6 * b + 0))) 94 b (Int32.ofNat (0 + 1))) 103 (6 * b + 0) (Int32.ofNat m)).2.1 p = _
    rw [wA_np (by omega), wA_np (by omega), wA_np (by omega), wA_np (by omega), SA p (by omega) (by omega) (by omega) (by omega) (by omega) (by omega) (by omega)])
  refine bse (r_push0 (k := k + 3) (s := sSd (sS1 S b 0 (6 * b + 0) m) br wl bt ag) (t := t) (v := mdV 3 (Int32.ofNat b)) ha S93 h1') ?_
  refine bse (a := (Int32.ofNat q, _)) (by rw [bh_run (k := k + 1) bh (rq_p rq2) hw (by omega)]; rfl) ?_
  exact bse (sI_at (p := 99) (i := i) (n := 120) (by decide) rfl hi (by decide)) rfl
/-- an instruction is counted -/
def sDn (s : rS) (a : Nat) : rS := rs_wA (rs_w s 80 (s.1 80 + 1)) 90 a (s.2.1 90 a + 1)
/-- an instruction of a body -/
theorem r_ins {S : rS} {why : Int32} (ha : a < 12) (hd : d < 10) (h92 : s.2.1 92 a = Int32.ofNat (d + 1)) (h99 : s.2.1 99 (10 * a + d) = Int32.ofNat n) (h : rM w k 388 [.ref 36, .int (Int32.ofNat a), .int (Int32.ofNat (10 * a + d)), .int (Int32.ofNat n)] (sDn s a) = some (some (.int why), S)) : rM w (k + 1) 383 [.ref 36, .int (Int32.ofNat a)] s = some (none, if why = 0 then S else rs_wA (rs_wA (rs_wA (rs_w S 84 (S.1 84 + 1)) 91 a why) 92 a 0) 93 a 0) := by
  rw [y383]
  show s383_0 (rM w k) w (Int32.ofNat a) s = _
  unfold s383_0
  refine bse (rs_p rfl) ?_
  refine bse (aI_at (p := 90) (i := a) (n := 12) (by decide) rfl ha (by decide)) ?_
  refine bse (sI_at (p := 90) (i := a) (n := 12) (by decide) rfl ha (by decide)) ?_
  have e92 : rs_aI (sDn s a) 92 (Int32.ofNat a) = some (Int32.ofNat (d + 1)) := (aI_at (p := 92) (i := a) (n := 12) (by decide) rfl ha (by decide)).trans (congrArg some h92)
  refine bse e92 ?_
  refine ift (ne1_t (ofn_0 (by omega) (by omega))) ?_
  refine bse e92 ?_
  rw [show (10 : Int32) = Int32.ofNat 10 from rfl, mul_of, of_add, show 10 * a + (d + 1) = 10 * a + d + 1 from by omega, of_dec]
  refine bse ((aI_at (s := sDn s a) (p := 99) (i := 10 * a + d) (n := 120) (by decide) rfl (by omega) (by decide)).trans (congrArg some (show (sDn s a).2.1 99 (10 * a + d) = Int32.ofNat n from h99))) ?_
  refine bse (a := (why, S)) (by show (rM w k 388 [.ref 36, .int (Int32.ofNat a), .int (Int32.ofNat (10 * a + d)), .int (Int32.ofNat n)] (sDn s a)).bind rxI = _; rw [h]; rfl) ?_
  by_cases c : why = 0
  · rw [if_pos c]
    exact ifn (ne1_f c) rfl
  · rw [if_neg c]
    refine ift (ne1_t c) ?_
    refine bse (rs_p rfl) ?_
    refine bse (sI_at (p := 91) (i := a) (n := 12) (by decide) rfl ha (by decide)) ?_
    refine bse (sI_at (p := 92) (i := a) (n := 12) (by decide) rfl ha (by decide)) ?_
    exact bse (sI_at (p := 93) (i := a) (n := 12) (by decide) rfl ha (by decide)) rfl
/-- a message is the instruction -/
theorem r_ins0 {S : rS} (ha : a < 12) (h92 : s.2.1 92 a = 0) (h : rM w k 384 [.ref 36, .int (Int32.ofNat a)] (sDn s a) = some (none, S)) : rM w (k + 1) 383 [.ref 36, .int (Int32.ofNat a)] s = some (none, S) := by
  rw [y383]
  show s383_0 (rM w k) w (Int32.ofNat a) s = _
  unfold s383_0
  refine bse (rs_p rfl) ?_
  refine bse (aI_at (p := 90) (i := a) (n := 12) (by decide) rfl ha (by decide)) ?_
  refine bse (sI_at (p := 90) (i := a) (n := 12) (by decide) rfl ha (by decide)) ?_
  have e92 : rs_aI (sDn s a) 92 (Int32.ofNat a) = some 0 := (aI_at (p := 92) (i := a) (n := 12) (by decide) rfl ha (by decide)).trans (congrArg some h92)
  refine bse e92 ?_
  refine ifn (by decide) ?_
  refine bse (a := S) ?_ rfl
  show (rM w k 384 [.ref 36, .int (Int32.ofNat a)] (sDn s a)).bind rxV = _
  rw [h]
  rfl
end RMA
