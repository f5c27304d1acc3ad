/-! THE REFERENCE DOES AN INSTRUCTION: sets, calls. -/
section RAC4
variable {sB s s' : rS} {w k : Nat} {a d t n q N p sl : Nat} {v u : Int64}
theorem r_184 {i : Nat} {S : rS} (sw : Bool) (rq : rqs sB S) (ha : a < 12) (hi : i < 120) (ht : S.2.1 93 a = Int32.ofNat t) (h1 : t < 10100) (bh : bhd sB N n q) (hN : N ≤ 6000) (hw : 6000 ≤ w) : s400_184 (rM w (k + 3)) w (Int32.ofNat a) (Int32.ofNat i) (Int32.ofNat n) (if sw = true then 1 else 0) v S = some (some (.int 0), rs_wA (if sw = true then sPsh S a t v else S) 99 i (Int32.ofNat q)) := by
  have go : ∀ S : rS, rqs sB S → s400_196 (rM w (k + 3)) w (Int32.ofNat i) (Int32.ofNat n) S = some (some (.int 0), rs_wA S 99 i (Int32.ofNat q)) := by
    intro S rq
    unfold s400_196
    refine bse (a := (Int32.ofNat q, S)) (by rw [bh_run (k := k) bh rq hw (by omega)]; rfl) ?_
    exact bse (sI_at (p := 99) (i := i) (n := 120) (by decide) rfl hi (by decide)) rfl
  unfold s400_184
  cases sw with
  | true =>
    refine ifn (by decide) ?_
    refine bse (r_push0 (k := k + 2) ha ht h1) ?_
    exact go _ (rq_p rq)
  | false =>
    refine ift (by decide) ?_
    exact go _ rq
theorem r_400h {i : Nat} {K : Nat} (sw : Bool) (rq : rqs sB s) (hn : n < 4400) (eK : sB.2.1 44 n = Int32.ofNat K) (hK : K = if sw = true then 7 else 26) (e45 : sB.2.1 45 n = Int32.ofNat p) (X : Option rA) (h : s400_24 (rM w (k + 3)) w (Int32.ofNat a) (Int32.ofNat i) (Int32.ofNat n) (Int32.ofNat p) (if sw = true then 1 else 0) s = X) : rM w (k + 4) 400 [.ref 36, .int (Int32.ofNat a), .int (Int32.ofNat i), .int (Int32.ofNat n)] s = X := by
  rw [y400]
  show s400_0 (rM w (k + 3)) w (Int32.ofNat a) (Int32.ofNat i) (Int32.ofNat n) s = _
  unfold s400_0
  refine bsq ((nd_at rq (by decide) hn).trans (congrArg some e45)) ?_
  refine bsq ((nd_at rq (by decide) hn).trans (congrArg some eK)) ?_
  subst hK
  cases sw with
  | true =>
    rw [if_neg (by decide)]
    exact h
  | false =>
    rw [if_pos (by decide)]
    exact h
/-- a name is given a value -/
theorem r_400n {i : Nat} {K : Nat} (sw : Bool) (rq : rqs sB s) (ha : a < 12) (hi : i < 120) (hn : n < 4400) (eK : sB.2.1 44 n = Int32.ofNat K) (hK : K = if sw = true then 7 else 26) (e45 : sB.2.1 45 n = Int32.ofNat p) (hp : p < 4400) (e4 : sB.2.1 44 p = 4) (hs : s.2.1 53 p = Int32.ofNat sl) (s16 : sl < 16) (ht : s.2.1 93 a = Int32.ofNat (t + 1)) (h1 : t < 10100) (bh : bhd sB N n q) (hN : N ≤ 6000) (hw : 6000 ≤ w) : rM w (k + 4) 400 [.ref 36, .int (Int32.ofNat a), .int (Int32.ofNat i), .int (Int32.ofNat n)] s = some (some (.int 0), rs_wA (if sw = true then sPsh (rs_wB (rs_wA s 93 a (Int32.ofNat t)) 101 (16 * i + sl) (s.2.2 97 (10100 * a + t))) a t (s.2.2 101 (16 * i + sl)) else rs_wB (rs_wA s 93 a (Int32.ofNat t)) 101 (16 * i + sl) (s.2.2 97 (10100 * a + t))) 99 i (Int32.ofNat q)) := by
  refine r_400h sw rq hn eK hK e45 _ ?_
  unfold s400_24
  refine bse ((nd_at rq (by decide) hp).trans (congrArg some e4)) ?_
  refine ifn (by decide) ?_
  refine bse (r_pop0 (k := k + 2) ha ht h1) ?_
  have e53 := (aI_at (s := rs_wA s 93 a (Int32.ofNat t)) (p := 53) (i := p) (n := 4400) (by decide) rfl hp (by decide)).trans (congrArg some (show (rs_wA s 93 a (Int32.ofNat t)).2.1 53 p = Int32.ofNat sl from hs))
  refine bse e53 ?_
  rw [show (16 : Int32) = Int32.ofNat 16 from rfl, mul_of, of_add]
  refine bse (aJ_at (s := rs_wA s 93 a (Int32.ofNat t)) (p := 101) (i := 16 * i + sl) (n := 1920) (by decide) rfl (by omega) (by decide)) ?_
  refine bse e53 ?_
  rw [of_add]
  refine bse (sJ_at (p := 101) (i := 16 * i + sl) (n := 1920) (by decide) rfl (by omega) (by decide)) ?_
  exact r_184 (k := k) sw (rqs_t (rq_w (p := 93) (j := a) (x := Int32.ofNat t) rq (by decide)) (fun _ _ _ => rfl)) ha hi (show (rs_wA s 93 a (Int32.ofNat t)).2.1 93 a = Int32.ofNat t from wA_eq _ _ _ _) h1 bh hN hw
/-- a field of none -/
theorem r_400z {i : Nat} {K : Nat} (sw : Bool) (rq : rqs sB s) (ha : a < 12) (hn : n < 4400) (eK : sB.2.1 44 n = Int32.ofNat K) (hK : K = if sw = true then 7 else 26) (e45 : sB.2.1 45 n = Int32.ofNat p) (hp : p < 4400) (e4 : sB.2.1 44 p = 10) (ht : s.2.1 93 a = Int32.ofNat (t + 2)) (h1 : t + 2 ≤ 10100) (h0 : s.2.2 97 (10100 * a + (t + 1)) = 0) : rM w (k + 4) 400 [.ref 36, .int (Int32.ofNat a), .int (Int32.ofNat i), .int (Int32.ofNat n)] s = some (some (.int 1), rs_wA s 93 a (Int32.ofNat t)) := by
  refine r_400h sw rq hn eK hK e45 _ ?_
  unfold s400_24
  refine bse ((nd_at rq (by decide) hp).trans (congrArg some e4)) ?_
  refine ift (by decide) ?_
  refine bse (r_pop0 (k := k + 2) (t := t + 1) ha ht (by omega)) ?_
  refine bse (r_pop0 (k := k + 2) (s := rs_wA s 93 a (Int32.ofNat (t + 1))) (t := t) ha (wA_eq _ _ _ _) (by omega)) ?_
  rw [show rs_wA (rs_wA s 93 a (Int32.ofNat (t + 1))) 93 a (Int32.ofNat t) = rs_wA s 93 a (Int32.ofNat t) from rs_wAA]
  exact ifn (by rw [lg_ne]; exact fun z => absurd h0 (of_decide_eq_true z)) rfl
/-- a field of an object -/
theorem r_400o {i o bs f : Nat} {K : Nat} (sw : Bool) (rq : rqs sB s) (ha : a < 12) (hi : i < 120) (hn : n < 4400) (eK : sB.2.1 44 n = Int32.ofNat K) (hK : K = if sw = true then 7 else 26) (e45 : sB.2.1 45 n = Int32.ofNat p) (hp : p < 4400) (e4 : sB.2.1 44 p = 10) (ht : s.2.1 93 a = Int32.ofNat (t + 2)) (h1 : t + 2 ≤ 10100) (hv : s.2.2 97 (10100 * a + (t + 1)) = mdV 2 (Int32.ofNat o)) (ho : o ≤ 400) (hb : s.2.1 88 o = Int32.ofNat bs) (hf : bs + f < 400) (h53 : s.2.1 53 p = Int32.ofNat f) (bh : bhd sB N n q) (hN : N ≤ 6000) (hw : 6000 ≤ w) : rM w (k + 4) 400 [.ref 36, .int (Int32.ofNat a), .int (Int32.ofNat i), .int (Int32.ofNat n)] s = some (some (.int 0), rs_wA (if sw = true then sPsh (rs_wB (rs_wA s 93 a (Int32.ofNat t)) 96 (400 * a + bs + f) (s.2.2 97 (10100 * a + t))) a t (s.2.2 96 (400 * a + bs + f)) else rs_wB (rs_wA s 93 a (Int32.ofNat t)) 96 (400 * a + bs + f) (s.2.2 97 (10100 * a + t))) 99 i (Int32.ofNat q)) := by
  refine r_400h sw rq hn eK hK e45 _ ?_
  unfold s400_24
  refine bse ((nd_at rq (by decide) hp).trans (congrArg some e4)) ?_
  refine ift (by decide) ?_
  refine bse (r_pop0 (k := k + 2) (t := t + 1) ha ht (by omega)) ?_
  refine bse (r_pop0 (k := k + 2) (s := rs_wA s 93 a (Int32.ofNat (t + 1))) (t := t) ha (wA_eq _ _ _ _) (by omega)) ?_
  rw [show rs_wA (rs_wA s 93 a (Int32.ofNat (t + 1))) 93 a (Int32.ofNat t) = rs_wA s 93 a (Int32.ofNat t) from rs_wAA]
  refine ift (by rw [lg_ne]; exact decide_eq_true (by rw [hv]; exact md_n0 2 _ (by decide) (by decide))) ?_
  have e53 := (aI_at (s := rs_wA s 93 a (Int32.ofNat t)) (p := 53) (i := p) (n := 4400) (by decide) rfl hp (by decide)).trans (congrArg some (show (rs_wA s 93 a (Int32.ofNat t)).2.1 53 p = Int32.ofNat f from h53))
  refine bse e53 ?_
  refine bse (a := (s.2.2 96 (400 * a + bs + f), rs_wA s 93 a (Int32.ofNat t))) (by rw [r_fld (k := k + 1) (s := rs_wA s 93 a (Int32.ofNat t)) ha hv ho hb hf]; rfl) ?_
  refine bse (a := (2, rs_wA s 93 a (Int32.ofNat t))) (by rw [r_379 (k := k + 2), hv, md_hi 2 _ (by decide)]; rfl) ?_
  refine ift (show mx_f2 .ne (2 : Int32) 3 = true by decide) ?_
  rw [hv, md_lo]
  refine bse ((aI_at (s := rs_wA s 93 a (Int32.ofNat t)) (p := 88) (i := o) (n := 401) (by decide) rfl (by omega) (by decide)).trans (congrArg some (show (rs_wA s 93 a (Int32.ofNat t)).2.1 88 o = Int32.ofNat bs from hb))) ?_
  refine bse e53 ?_
  rw [show (400 : Int32) = Int32.ofNat 400 from rfl, mul_of, of_add, of_add]
  refine bse (sJ_at (p := 96) (i := 400 * a + bs + f) (n := 4800) (by decide) rfl (by omega) (by decide)) ?_
  exact r_184 (k := k) sw (rqs_t (rq_w (p := 93) (j := a) (x := Int32.ofNat t) rq (by decide)) (fun _ _ _ => rfl)) ha hi (show (rs_wA s 93 a (Int32.ofNat t)).2.1 93 a = Int32.ofNat t from wA_eq _ _ _ _) (by omega) bh hN hw
/-- a field of the actor itself -/
theorem r_400a {i f : Nat} {x : Int32} {K : Nat} (sw : Bool) (rq : rqs sB s) (ha : a < 12) (hi : i < 120) (hn : n < 4400) (eK : sB.2.1 44 n = Int32.ofNat K) (hK : K = if sw = true then 7 else 26) (e45 : sB.2.1 45 n = Int32.ofNat p) (hp : p < 4400) (e4 : sB.2.1 44 p = 10) (ht : s.2.1 93 a = Int32.ofNat (t + 2)) (h1 : t + 2 ≤ 10100) (hv : s.2.2 97 (10100 * a + (t + 1)) = mdV 3 x) (hf : f < 8) (h53 : s.2.1 53 p = Int32.ofNat f) (bh : bhd sB N n q) (hN : N ≤ 6000) (hw : 6000 ≤ w) : rM w (k + 4) 400 [.ref 36, .int (Int32.ofNat a), .int (Int32.ofNat i), .int (Int32.ofNat n)] s = some (some (.int 0), rs_wA (if sw = true then sPsh (rs_wB (rs_wA s 93 a (Int32.ofNat t)) 95 (8 * a + f) (s.2.2 97 (10100 * a + t))) a t (s.2.2 95 (8 * a + f)) else rs_wB (rs_wA s 93 a (Int32.ofNat t)) 95 (8 * a + f) (s.2.2 97 (10100 * a + t))) 99 i (Int32.ofNat q)) := by
  refine r_400h sw rq hn eK hK e45 _ ?_
  unfold s400_24
  refine bse ((nd_at rq (by decide) hp).trans (congrArg some e4)) ?_
  refine ift (by decide) ?_
  refine bse (r_pop0 (k := k + 2) (t := t + 1) ha ht (by omega)) ?_
  refine bse (r_pop0 (k := k + 2) (s := rs_wA s 93 a (Int32.ofNat (t + 1))) (t := t) ha (wA_eq _ _ _ _) (by omega)) ?_
  rw [show rs_wA (rs_wA s 93 a (Int32.ofNat (t + 1))) 93 a (Int32.ofNat t) = rs_wA s 93 a (Int32.ofNat t) from rs_wAA]
  refine ift (by rw [lg_ne]; exact decide_eq_true (by rw [hv]; exact md_n0 3 _ (by decide) (by decide))) ?_
  have e53 := (aI_at (s := rs_wA s 93 a (Int32.ofNat t)) (p := 53) (i := p) (n := 4400) (by decide) rfl hp (by decide)).trans (congrArg some (show (rs_wA s 93 a (Int32.ofNat t)).2.1 53 p = Int32.ofNat f from h53))
  refine bse e53 ?_
  refine bse (a := (s.2.2 95 (8 * a + f), rs_wA s 93 a (Int32.ofNat t))) (by rw [r_fldA (k := k + 1) (s := rs_wA s 93 a (Int32.ofNat t)) ha hv hf]; rfl) ?_
  refine bse (a := (3, rs_wA s 93 a (Int32.ofNat t))) (by rw [r_379 (k := k + 2), hv, md_hi 3 _ (by decide)]; rfl) ?_
  refine ifn (show ¬ mx_f2 .ne (3 : Int32) 3 = true by decide) ?_
  refine bse e53 ?_
  rw [show (8 : Int32) = Int32.ofNat 8 from rfl, mul_of, of_add]
  refine bse (sJ_at (p := 95) (i := 8 * a + f) (n := 96) (by decide) rfl (by omega) (by decide)) ?_
  exact r_184 (k := k) sw (rqs_t (rq_w (p := 93) (j := a) (x := Int32.ofNat t) rq (by decide)) (fun _ _ _ => rfl)) ha hi (show (rs_wA s 93 a (Int32.ofNat t)).2.1 93 a = Int32.ofNat t from wA_eq _ _ _ _) (by omega) bh hN hw
/-- 7, 26, 8, 11, 12 are done elsewhere -/
theorem act_sub {i K mi : Nat} {why : Int32} {S : rS} (rq : rqs sB s) (hn : n < 4400) (eK : sB.2.1 44 n = Int32.ofNat K) (hK : (K = 7 ∧ mi = 400) ∨ (K = 26 ∧ mi = 400) ∨ (K = 8 ∧ mi = 397) ∨ (K = 11 ∧ mi = 392) ∨ (K = 12 ∧ mi = 399)) (h : rM w k mi [.ref 36, .int (Int32.ofNat a), .int (Int32.ofNat i), .int (Int32.ofNat n)] s = some (some (.int why), S)) : rM w (k + 1) 388 [.ref 36, .int (Int32.ofNat a), .int (Int32.ofNat i), .int (Int32.ofNat n)] s = some (some (.int why), S) := by
  rw [y388]
  show s388_0 (rM w k) w (Int32.ofNat a) (Int32.ofNat i) (Int32.ofNat n) s = _
  unfold s388_0
  refine bse (act_hd (i := 0) rq hn eK) ?_
  rcases hK with ⟨rfl, rfl⟩ | ⟨rfl, rfl⟩ | ⟨rfl, rfl⟩ | ⟨rfl, rfl⟩ | ⟨rfl, rfl⟩
  · refine ifn (by decide) (ifn (by decide) (ifn (by decide) (ifn (by decide) (ifn (by decide) (ifn (by decide) (ifn (by decide) (ift rfl ?_)))))))
    exact bse (a := (why, S)) (by rw [h]; rfl) rfl
  · refine ifn (by decide) (ifn (by decide) (ifn (by decide) (ifn (by decide) (ifn (by decide) (ifn (by decide) (ifn (by decide) (ifn (by decide) (ifn (by decide) (ifn (by decide) (ifn (by decide) (ifn (by decide) (ifn (by decide) (ifn (by decide) (ifn (by decide) (ifn (by decide) (ifn (by decide) (ifn (by decide) (ifn (by decide) (ifn (by decide) (ifn (by decide) (ifn (by decide) (ifn (by decide) (ifn (by decide) (ifn (by decide) (ifn (by decide) (ift rfl ?_))))))))))))))))))))))))))
    exact bse (a := (why, S)) (by rw [h]; rfl) rfl
  · refine ifn (by decide) (ifn (by decide) (ifn (by decide) (ifn (by decide) (ifn (by decide) (ifn (by decide) (ifn (by decide) (ifn (by decide) (ift rfl ?_))))))))
    exact bse (a := (why, S)) (by rw [h]; rfl) rfl
  · refine ifn (by decide) (ifn (by decide) (ifn (by decide) (ifn (by decide) (ifn (by decide) (ifn (by decide) (ifn (by decide) (ifn (by decide) (ifn (by decide) (ifn (by decide) (ifn (by decide) (ift rfl ?_)))))))))))
    exact bse (a := (why, S)) (by rw [h]; rfl) rfl
  · refine ifn (by decide) (ifn (by decide) (ifn (by decide) (ifn (by decide) (ifn (by decide) (ifn (by decide) (ifn (by decide) (ifn (by decide) (ifn (by decide) (ifn (by decide) (ifn (by decide) (ifn (by decide) (ift rfl ?_))))))))))))
    exact bse (a := (why, S)) (by rw [h]; rfl) rfl
end RAC4
