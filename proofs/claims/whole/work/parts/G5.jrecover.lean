/-! BOTH CHECK: recover. -/
/-- what a recover gives -/
def rqT (t : Nat) : Nat := if isO t = true then t - t % 8 + (if t % 8 < 3 then 0 else 3) else t
def rqC (t : Int32) : Int32 := if c_so t = 5 then (if c_cp t = 3 then tO 5 (c_kd t) 3 else if c_cp t = 4 then tO 5 (c_kd t) 3 else tO 5 (c_kd t) 0) else t
def rqR (r : Int32) : Int32 := if clR r = true then (if mx_f2 .ge (r - r / 8 * 8) 3 = true then (r - (r - r / 8 * 8)) + 3 else (r - (r - r / 8 * 8)) + 0) else r
theorem rq_all : ∀ t, t < 72 → gTy t = true → t % 8 ≠ 6 → rqC (cT t) = cT (rqT t) ∧ rqR (rTp t) = rTp (rqT t) ∧ oT (rqT t) = 0 ∧ gTy (rqT t) = true := by decide +kernel
section JRC
variable {L : Nat} {xs : Nat → Int32} {zf : Value} {w C Sc M Pl Ph LO HI nk m lv n p q i d lo hi k k2 z z2 W ke kr ke2 kr2 l px q0 q1 pl ph how pb nb lo2 hi2 tg : Nat} {cx : Nat → Nat} {hB h h1 h2 : rm_H} {s0 s s1 s2 : rS} {pt vr gn gn1 a b a1 b1 x y rc t v g g2 : Int32} {mv : Value} {ds dx kl ml es : List Nat} {G gx : List scN} {u u1 u2 : Nat → Nat} {A B A1 B1 : Nat → Int32} {f f' : Nat → Int64} {sl ty sl' ty' : Nat → Int32}
theorem rqT_v (e : vT s0 nk tg) (h6 : tg % 8 ≠ 6) : vT s0 nk (rqT tg) := by
  obtain ⟨e1, e2⟩ := e
  have q := rq_all tg (gTy_lt e1) e1 h6
  refine ⟨q.2.2.2, fun h8 => ?_⟩
  unfold rqT at h8 ⊢
  by_cases c : isO tg = true
  · rw [if_pos c] at h8 ⊢
    unfold isO at c
    simp at c
    have e3 := e2 c.1
    have d8 : ∀ c', c' < 5 → (tg - tg % 8 + c') / 8 = tg / 8 ∧ (tg - tg % 8 + c') % 8 = c' := fun c' hc => by omega
    have c5 : (if tg % 8 < 3 then 0 else 3) < 5 := by split <;> omega
    obtain ⟨y1, y2⟩ := d8 _ c5
    rw [y1, y2]
    refine ⟨e3.1, Or.inl ⟨c5, ?_⟩⟩
    rcases e3.2 with z | z
    · exact z.2
    · omega
  · rw [if_neg c] at h8 ⊢
    exact e2 h8
/-- the class's type -/
theorem c_rqT {D : dD} (hD : D = dM L xs zf w (k + 1)) (t : Int32) (h : rm_H) : (if mx_f2 .eq (t &&& 15) 5 = true then ((D 160 [.int t] h).bind dxI).bind fun x38 => if mx_f2 .eq x38.1 3 = true then b201_79 L xs zf D w t x38.2 else ((D 160 [.int t] x38.2).bind dxI).bind fun x43 => if mx_f2 .eq x43.1 4 = true then b201_79 L xs zf D w t x43.2 else b201_80 L xs zf D w t 1 x43.2 else drI (some .int) t h) = some (some (.int (rqC t)), h) := by
  subst hD
  have cp : (dM L xs zf w (k + 1) 160 [.int t] h).bind dxI = some (c_cp t, h) := t_cp (k := k) t h
  have kd : (dM L xs zf w (k + 1) 189 [.int t] h).bind dxI = some (c_kd t, h) := t_kd (k := k) t h
  unfold rqC
  by_cases c1 : c_so t = 5
  · rw [if_pos c1]
    refine itq (decide_eq_true c1) (bsq cp ?_)
    by_cases c2 : c_cp t = 3
    · rw [if_pos c2]
      refine itq (decide_eq_true c2) ?_
      unfold b201_79 b201_80
      refine bsq kd (itq (by decide) ?_)
      unfold b201_98
      exact bsq (t_of (k := k) _ _ _ h) rfl
    · rw [if_neg c2]
      refine inq (fun z => c2 (of_decide_eq_true z)) (bsq cp ?_)
      by_cases c3 : c_cp t = 4
      · rw [if_pos c3]
        refine itq (decide_eq_true c3) ?_
        unfold b201_79 b201_80
        refine bsq kd (itq (by decide) ?_)
        unfold b201_98
        exact bsq (t_of (k := k) _ _ _ h) rfl
      · rw [if_neg c3]
        refine inq (fun z => c3 (of_decide_eq_true z)) ?_
        unfold b201_80
        refine bsq kd (inq (by decide) ?_)
        unfold b201_98
        exact bsq (t_of (k := k) _ _ _ h) rfl
  · rw [if_neg c1]
    exact inq (fun z => c1 (of_decide_eq_true z)) rfl
/-- recover -/
theorem j_9 (bq : BQ L xs zf w cx C Sc M pt vr mv hB s0 nk m Pl Ph LO HI z2 2 pb nb lo2 hi2 ke kr) (hzz : z2 + 1 ≤ z) (e0 : fd hB 12 p 0 = some (.int 9)) (e8 : fd hB 12 p 8 = some (.ref pb)) (r44 : s0.2.1 44 n = 9) (r45 : s0.2.1 45 n = Int32.ofNat nb) (hn : n < 4400) (d1 : lo ≤ lo2) (d2 : hi2 ≤ hi) (n1 : lo ≤ n) (n2 : n < hi) (n3 : hi2 ≤ n ∨ n < lo2) (hkr : 2 ≤ kr) : JX L xs zf w cx C Sc M pt vr mv hB s0 nk m Pl Ph LO HI z 174 343 p n lo hi (ke + 2) (kr + 2) := by
  intro j j2 h s ds G lv gn b u A B e hlz fv p53 hz
  obtain ⟨kh, dl, bh, rk, e57, _, rg, gw⟩ := id e
  obtain ⟨r62, r63, r64, r66, rr⟩ := rg rfl
  have o14 := kh.2.2.2.2.2.2.2.2.2
  have bl5 := bq.2.1
  have bl := bq.2.2.1
  have bl2 := bq.2.2.2.1
  -- both go in
  obtain ⟨hA, a1, a2, a3⟩ := pF_ex (v := .int (Int32.ofNat ds.length)) (j := 5) (cis := [13]) kh.1 rfl (by decide) rfl (by decide)
  obtain ⟨kA1, kA2, kA3⟩ := KH_C (pl := Pl) (ph := Ph) (ds' := ds) (gn' := gn) (rc' := if lv = 0 then 0 else 1) (ou' := ds.length) kh a3 a2 (fun _ _ => rfl) (Nat.le_refl _) (Nat.le_refl _)
  obtain ⟨hB', b1, b2, b3⟩ := pF_ex (v := .int 1) (j := 6) (cis := [13]) kA1.1 rfl (by decide) rfl (by decide)
  obtain ⟨kB1, kB2, kB3⟩ := KH_C (pl := Pl) (ph := Ph) (ds' := ds) (gn' := gn) (rc' := 1) (ou' := ds.length) kA1 b3 b2 (fun _ _ => rfl) (Nat.le_refl _) (Nat.le_refl _)
  rw [gu_gu] at kB1 kB3
  have lA : hA.length = h.length := a3.2.1
  have wfB := wF_trans kA2 kA3 kB2
  have wkB := wK2_trans kA3 kB3 (by omega)
  have rc1 : (if lv + 1 = 0 then (0 : Int32) else 1) = 1 := if_neg (Nat.succ_ne_zero lv)
  have k63 : ∀ (S : rS) (v : Int32), rK S (rs_w S 63 v) := fun S v => ⟨fun j hj => w_ne _ _ (by omega), fun _ _ _ _ _ _ => rfl, fun _ _ => rfl⟩
  have EB : CKJ L xs cx C Sc M pt vr mv hB s0 nk m hB' (rs_w s 63 (Int32.ofNat (lv + 1))) ds G (lv + 1) gn 0 b (gu u 0 ds.length) A B := by
    refine ⟨by rw [rc1]; exact kB1, dl, bH_w kh wfB bh, rK_trans rk (k63 _ _), by rw [w_ne _ _ (by decide)]; exact e57, fun z => absurd rfl z, fun _ => ⟨by rw [w_ne _ _ (by decide)]; exact r62, w_eq _ _ _, by rw [w_ne _ _ (by decide)]; exact r64, ⟨by rw [w_ne _ _ (by decide)]; exact r66.1, by rw [w_ne _ _ (by decide)]; exact r66.2⟩, rr⟩, gw.1, by omega, fun i X hX => ?_, gw.2.2.2⟩
    obtain ⟨y1, y2, y3, y4, _⟩ := gw.2.2.1 i X hX
    have lt := (List.getElem?_eq_some_iff.mp hX).1
    rw [gu_eq]
    exact ⟨y1, y2, y3, by omega, fun _ => by omega, fun _ => by omega⟩
  obtain ⟨t0, h2, s2, q1, q2, gn', a', b', u', A', B', o1, o2, o3, o4, o5, o6, o7⟩ := bq.1 j j2 hB' _ ds G (lv + 1) gn b _ A B EB (by omega) (FV_sub fv d1 d2) (fun i i1 i2 => p53 i (by omega) (by omega)) (by rw [gu_ne _ _ (by decide)]; omega)
  rw [gu_ne _ _ (by decide)] at o5
  obtain ⟨kC, _, bh2, rk2, e572, e582, rg2, _⟩ := id o1
  rw [rc1] at kC
  -- both go out
  obtain ⟨hD, c1, c2, c3⟩ := pF_ex (v := .int (Int32.ofNat (u 0))) (j := 5) (cis := [13]) kC.1 rfl (by decide) rfl (by decide)
  obtain ⟨kD1, kD2, kD3⟩ := KH_C (pl := Pl) (ph := Ph) (ds' := ds) (gn' := gn') (rc' := 1) (ou' := u 0) kC c3 c2 (fun _ _ => rfl) (Nat.le_refl _) o14
  obtain ⟨hE, f1, f2, f3⟩ := pF_ex (v := .int (if lv = 0 then 0 else 1)) (j := 6) (cis := [13]) kD1.1 rfl (by decide) (by rcases rc_lv lv with e | e <;> rw [e] <;> rfl) (by decide)
  obtain ⟨kE1, kE2, kE3⟩ := KH_C (pl := Pl) (ph := Ph) (ds' := ds) (gn' := gn') (rc' := if lv = 0 then 0 else 1) (ou' := u 0) kD1 f3 f2 (fun _ _ => rfl) (Nat.le_refl _) o14
  rw [gu_gu] at kE1 kE3
  have lB : hB'.length = h.length := b3.2.1.trans lA
  have lC := o2.1.1
  have lD : hD.length = h2.length := c3.2.1
  have w1 := wF_trans wfB wkB o2
  have k1 := wK2_trans wkB o3 (by omega)
  have w2 := wF_trans w1 k1 kD2
  have k2 := wK2_trans k1 kD3 (by omega)
  have w3 := wF_trans w2 k2 kE2
  have k3 := wK2_trans k2 kE3 (by omega)
  have uu2 : gu u' 0 (u 0) 2 = u' 2 := gu_ne _ _ (by decide)
  have bhE : bH L xs hB hE := bH_w kh w3 bh
  have cls : (dcV L xs (dM L xs zf w (ke + 2 + j)) 174 [13] (some C) [va_rf (some p)] h).bind dxI = some (rqC t0, hE) := by
    have g0 := fd_I (L := L) (xs := xs) (cis := [12]) (bh.1.1 _ _ _ (by decide) e0) (by decide)
    rw [ck_v kh, show ke + 2 + j = ke + j + 1 + 1 from by omega, e174]
    show (b174_0 L xs zf (dM L xs zf w (ke + j + 1)) w (some C) (some p) h).bind dxI = _
    refine bsq (a := (some (.int (rqC t0)), hE)) ?_ rfl
    unfold b174_0
    refine bsq g0 (itq (by decide) (bsq (a := (rqC t0, hE)) ?_ rfl))
    rw [ck_v kh, e201]
    show (b201_0 L xs zf (dM L xs zf w (ke + j)) w (some C) (some p) h).bind dxI = _
    refine bsq (a := (some (.int (rqC t0)), hE)) ?_ rfl
    have so : (dM L xs zf w (ke + j) 159 [.int t0] hE).bind dxI = some (t0 &&& 15, hE) := by
      rw [show ke + j = ke + j - 1 + 1 from by omega]
      exact t_so (k := ke + j - 1) t0 hE
    have tl := c_rqT (L := L) (xs := xs) (zf := zf) (w := w) (k := ke + j - 1) (D := dM L xs zf w (ke + j)) (by rw [show ke + j - 1 + 1 = ke + j from by omega]) t0 hE
    unfold b201_0
    exact bsq (ck_5 kh) (bsq (ck_6 kh) (bsq (ck_3 kh) (bsq a1 (bsq b1 (bsq (fd_R (o := some pb) (EB.2.2.1.1.1 _ _ _ (by decide) e8) (by decide)) (bsq q1 (bsq c1 (bsq f1 (bsq so tl)))))))))
  obtain ⟨k4, hk4⟩ : ∃ k4, kr + j2 = k4 + 2 := ⟨kr + j2 - 2, by omega⟩
  have g45 : rs_aI (rs_w s 63 (Int32.ofNat (lv + 1))) 45 (Int32.ofNat n) = some (Int32.ofNat nb) := (aI_at (i := n) (by decide) rfl hn (by decide)).trans (by show some (s.2.1 45 n) = _; rw [rk_A rk (by decide), r45])
  have g44 : rs_aI s 44 (Int32.ofNat n) = some 9 := (aI_at (i := n) (by decide) rfl hn (by decide)).trans (by rw [rk_A rk (by decide), r44])
  have rhead : ∀ (x : Int32) (S : rS), (if mx_f1 .le ((rs_w s2 63 (s2.1 63 - 1)).1 57) = true then
      ((rM w (kr + j2) 333 [.int ((rs_w s2 63 (s2.1 63 - 1)).1 65)] (rs_w s2 63 (s2.1 63 - 1))).bind rxI).bind fun x19 =>
      if mx_f1 .ne x19.1 = true then
        if mx_f2 .ge (((rs_w s2 63 (s2.1 63 - 1)).1 65) - ((rs_w s2 63 (s2.1 63 - 1)).1 65) / 8 * 8) 3 = true then
          s360_84 (rM w (kr + j2)) w 3 ((x19.2.1 65) - (((rs_w s2 63 (s2.1 63 - 1)).1 65) - ((rs_w s2 63 (s2.1 63 - 1)).1 65) / 8 * 8)) x19.2
        else
          s360_84 (rM w (kr + j2)) w 0 ((x19.2.1 65) - (((rs_w s2 63 (s2.1 63 - 1)).1 65) - ((rs_w s2 63 (s2.1 63 - 1)).1 65) / 8 * 8)) x19.2
      else
        ((rM w (kr + j2) 344 [.ref 36, .int (x19.2.1 65)] x19.2).bind rxI).bind fun x26 =>
        rrI (some .int) x26.1 x26.2
    else
      rrI (some .int) (-1) (rs_w s2 63 (s2.1 63 - 1))) = some (some (.int x), S) → rM w (kr + 2 + j2) 343 [.ref 36, .int (Int32.ofNat n)] s = some (some (.int x), S) := by
    intro x S hS
    rw [show kr + 2 + j2 = kr + j2 + 1 + 1 from by omega, y343]
    show s343_0 (rM w (kr + j2 + 1)) w (Int32.ofNat n) s = _
    unfold s343_0
    refine bsq g44 (itq (by decide) (bsq (a := (x, S)) ?_ rfl))
    rw [y360]
    show (s360_0 (rM w (kr + j2)) w (Int32.ofNat n) s).bind rxI = _
    refine bsq (a := (some (.int x), S)) ?_ rfl
    unfold s360_0
    refine bsq (a := rs_w s 63 (Int32.ofNat (lv + 1))) ?_ (bsq g45 (bsq (a := s2) (by rw [show rM w (kr + j2) 336 [.ref 36, .int (Int32.ofNat nb), .int 2] (rs_w s 63 (Int32.ofNat (lv + 1))) = _ from q2]; rfl) (bsq (a := rs_w s2 63 (s2.1 63 - 1)) rfl hS)))
    rw [r63, show Int32.ofNat lv + 1 = Int32.ofNat (lv + 1) from of_add lv 1]
    rfl
  have gwE : GW s0 nk G lv (gu u' 0 (u 0) 0) := by rw [gu_eq]; exact gw
  have r5 : r53 lo hi s s2 := r53_trans (s1 := rs_w s 63 (Int32.ofNat (lv + 1))) (fun i _ => ⟨rfl, rfl⟩) (r53_mono o6 d1 d2)
  by_cases ha : a' = 0
  · subst ha
    obtain ⟨p1, p2, tg, p3, p4⟩ := o7 rfl
    obtain ⟨v1, v2, v3, v4, v5⟩ := p3 rfl
    obtain ⟨y62, y63, y64, y66, yy⟩ := rg2 rfl
    have e63 : s2.1 63 - 1 = Int32.ofNat lv := by
      rw [y63]
      apply i32_of
      rw [show (1 : Int32) = Int32.ofNat 1 from rfl, of_sub (by omega) (by omega), of_int (by omega)]
      omega
    rw [e63] at rhead
    obtain ⟨all1, all2, all3, all4⟩ := rq_all tg (gTy_lt v1.1) v1.1 v2
    have x65 : (rs_w s2 63 (Int32.ofNat lv)).1 65 = rTp tg := by rw [w_ne _ _ (by decide)]; exact v5
    have E3 : CKJ L xs cx C Sc M pt vr mv hB s0 nk m hE (rs_w (rs_w (rs_w s2 63 (Int32.ofNat lv)) 60 0) 61 0) ds G lv gn' 0 b' (gu u' 0 (u 0)) A' B' := by
      refine ⟨kE1, dl, bhE, rK_trans rk2 (rK_trans (k63 _ _) (rL_K (rL_trans (rL_w (by omega)) (rL_w (by omega))))), ?_, fun z => absurd rfl z, fun _ => ⟨?_, ?_, ?_, ?_, yy⟩, gwE⟩
      · rw [w_ne _ _ (by decide), w_ne _ _ (by decide), w_ne _ _ (by decide)]; exact e572
      · rw [w_ne _ _ (by decide), w_ne _ _ (by decide), w_ne _ _ (by decide)]; exact y62
      · rw [w_ne _ _ (by decide), w_ne _ _ (by decide), w_eq]
      · rw [w_ne _ _ (by decide), w_ne _ _ (by decide), w_ne _ _ (by decide)]; exact y64
      · rw [w_ne _ _ (by decide), w_ne _ _ (by decide), w_ne _ _ (by decide), w_ne _ _ (by decide), w_ne _ _ (by decide), w_ne _ _ (by decide)]; exact y66
    have uE : ∀ (x : Nat), x < u 2 → x < gu u 0 ds.length 2 := fun x hx => by rw [gu_ne _ _ (by decide)]; exact hx
    refine ⟨rqC t0, rTp (rqT tg), hE, rs_w (rs_w (rs_w s2 63 (Int32.ofNat lv)) 60 0) 61 0, cls, rhead _ _ ?_, gn', 0, b', gu u' 0 (u 0), A', B', E3, w3, k3, gu_eq _ _ _, by rw [uu2]; omega, r53_trans r5 (fun i _ => ⟨rfl, rfl⟩), fun _ => ⟨fun i hi => p1 i (uE i hi), fun lo' hi' y1 y2 y3 y4 => p2 lo' hi' (by omega) y2 y3 y4, rqT tg, rqT_v v1 v2, by rw [v4]; exact all1, rfl, by rw [w_eq]; exact all3.symm, ?_, fun SL AA BB y1 y2 => ?_⟩⟩
    · refine itq (by rw [w_ne _ _ (by decide), e572]; decide) ?_
      rw [x65, hk4]
      refine bsq (a := (rd_01 (clR (rTp tg)), rs_w s2 63 (Int32.ofNat lv))) (by rw [r_333b]; rfl) ?_
      show (if mx_f1 .ne (rd_01 (clR (rTp tg))) = true then _ else _) = _
      rw [← all2]
      unfold rqR
      cases hc : clR (rTp tg) with
      | false =>
        rw [if_neg (show ¬ false = true by decide)]
        refine inq (show ¬ mx_f1 .ne (rd_01 false) = true by decide) (bsq (a := (rTp tg, rs_w (rs_w (rs_w s2 63 (Int32.ofNat lv)) 60 0) 61 0)) ?_ rfl)
        show (rM w (k4 + 2) 344 [.ref 36, .int ((rs_w s2 63 (Int32.ofNat lv)).1 65)] (rs_w s2 63 (Int32.ofNat lv))).bind rxI = _
        rw [x65, r_344]
        rfl
      | true =>
        rw [if_pos (show true = true from rfl)]
        refine itq (show mx_f1 .ne (rd_01 true) = true by decide) ?_
        have fin : ∀ v, s360_84 (rM w (k4 + 2)) w v ((rs_w s2 63 (Int32.ofNat lv)).1 65 - (rTp tg - rTp tg / 8 * 8)) (rs_w s2 63 (Int32.ofNat lv)) = some (some (.int (rTp tg - (rTp tg - rTp tg / 8 * 8) + v)), rs_w (rs_w (rs_w s2 63 (Int32.ofNat lv)) 60 0) 61 0) := by
          intro v
          unfold s360_84
          rw [x65, r_344]
          rfl
        by_cases c : mx_f2 .ge (rTp tg - rTp tg / 8 * 8) 3 = true
        · rw [if_pos c, if_pos c]
          exact fin 3
        · rw [if_neg c, if_neg c]
          exact fin 0
    · rw [r44]
      exact pf_0 (by rw [w_ne _ _ (by decide), w_eq]) (by decide)
    · obtain ⟨f, hf⟩ : ∃ f, hi - lo = f + 1 := ⟨hi - lo - 1, by omega⟩
      rw [hf, uu2]
      rw [uu2] at y2
      refine Or.inr ⟨9, r44, by omega, nb, tg, r45, bq.2.2.2.2.1, bq.2.2.2.2.2.1, TU_b (p4 SL AA BB (fun i i1 i2 => y1 i (by omega) (by omega)) (fun i i1 i2 => y2 i ?_ i2)) (by omega), rfl⟩
      rw [gu_ne _ _ (by decide)] at i1
      exact i1
  · refine ⟨rqC t0, -1, hE, rs_w s2 63 (s2.1 63 - 1), cls, rhead _ _ ?_, gn', a', b', gu u' 0 (u 0), A', B', ?_, w3, k3, gu_eq _ _ _, by rw [uu2]; omega, r53_trans r5 (fun i _ => ⟨rfl, rfl⟩), fun z => absurd z ha⟩
    · refine inq (le_ps ?_) rfl
      rw [w_ne _ _ (by decide), e572]
      exact (e582 ha).2
    · exact ⟨kE1, dl, bhE, rK_trans rk2 (k63 _ _), by rw [w_ne _ _ (by decide)]; exact e572, fun z => by rw [w_ne _ _ (by decide)]; exact e582 z, fun z => absurd z ha, gwE⟩
end JRC
