/-! BOTH CHECK: if. -/
section JIG
variable {L : Nat} {xs : Nat → Int32} {zf : Value} {w C Sc M Pl Ph LO HI nk m lv n p q i d lo hi k k2 z z2 W ke kr ke2 kr2 l px q0 q1 pl ph how pb nb pe ne lo1 hi1 lo2 hi2 lo3 hi3 pl2 ph2 : Nat} {cx : Nat → Nat} {hB h h1 h2 : rm_H} {s0 s s1 s2 : rS} {pt vr gn gn1 a b a1 b1 x y rc t v : Int32} {mv : Value} {ds dx kl ml es : List Nat} {G gx : List scN} {u u1 u2 : Nat → Nat} {A B A1 B1 : Nat → Int32} {f f' : Nat → Int64} {sl ty sl' ty' : Nat → Int32}
theorem w_w (s : rS) (j : Nat) (x y : Int32) : rs_w (rs_w s j x) j y = rs_w s j y := by
  refine Prod.ext (funext fun i => ?_) rfl
  by_cases q : i = j
  · subst q
    rw [w_eq, w_eq]
  · rw [w_ne _ _ q, w_ne _ _ q, w_ne _ _ q]
theorem upd_at {B : Nat → Int32} {c i : Nat} {v : Int32} (hi : i ≠ c) : upd B c v i = B i := upd_ne _ _ hi
/-- a step leaves a fault -/
theorem SP_ft {h' : rm_H} {s' : rS} {u' : Nat → Nat} {gn' a' b' : Int32} {A' B' : Nat → Int32} (e : CKJ L xs cx C Sc M pt vr mv hB s0 nk m h' s' ds G lv gn' a' b' u' A' B') (ha : a' ≠ 0) (wf : wF cx C Sc Pl Ph u h h') (wk : wK2 u u' h h') (u0 : u' 0 = u 0) {cst : Nat} (u2' : u' 2 ≤ u 2 + cst) (r : r53 lo hi s s') : SPO L xs cx C Sc M pt vr mv hB s0 nk m Pl Ph LO HI lo hi n how lv G ds gn u A B h s cst t h' s' := ⟨a', b', u', wf, wk, u0, u2', r, Or.inl ⟨ha, FS_of e ha⟩⟩
/-- behind a fault the reference's gone is free -/
theorem CK_64 (e : CKJ L xs cx C Sc M pt vr mv hB s0 nk m h s ds G lv gn a b u A B) (ha : a ≠ 0) (v : Int32) : CKJ L xs cx C Sc M pt vr mv hB s0 nk m h (rs_w s 64 v) ds G lv gn a b u A B := by
  obtain ⟨e1, e2, e3, e4, e5, e6, e7, e8⟩ := e
  exact ⟨e1, e2, e3, rK_trans e4 ⟨fun j hj => w_ne _ _ (by omega), fun _ _ _ _ _ _ => rfl, fun _ _ => rfl⟩, by rw [w_ne _ _ (by decide)]; exact e5, fun z => by rw [w_ne _ _ (by decide)]; exact e6 z, fun z => absurd z ha, e8⟩
/-- if without else -/
theorem js_21a (IC : JI L xs zf w cx C Sc M pt vr mv hB s0 nk m Pl Ph LO HI z px l lo1 hi1 ke kr) (bq : BQ L xs zf w cx C Sc M pt vr mv hB s0 nk m Pl Ph LO HI z 0 pb nb lo2 hi2 ke kr) (j0 : JE L xs cx hB s0 nk kl ml) (bj : bJ L xs hB s0 nk kl M m) (e0 : fd hB 12 p 0 = some (.int 16)) (e8 : fd hB 12 p 8 = some (.ref px)) (e9 : fd hB 12 p 9 = some (.ref pb)) (e10 : fd hB 12 p 10 = some .null) (r44 : s0.2.1 44 n = 21) (r45 : s0.2.1 45 n = Int32.ofNat l) (r46 : s0.2.1 46 n = Int32.ofNat nb) (r47 : s0.2.1 47 n = 0) (hl : 1 ≤ l ∧ l < 4400) (hn : n < 4400) (d1 : lo ≤ lo1) (d2 : hi1 ≤ lo2) (d3 : hi2 ≤ hi) (d4 : lo1 ≤ hi1) (n1 : lo ≤ n) (n2 : n < hi) (n3 : hi1 ≤ n ∨ n < lo1) (n4 : hi2 ≤ n ∨ n < lo2) (hLO : LO ≤ lo) (hHI : hi ≤ HI) (hw : 200 ≤ w) : JS L xs zf w cx C Sc M pt vr mv hB s0 nk m Pl Ph LO HI z how p n lo hi (ke + 2) (kr + 2) := by
  intro j j2 h s ds G lv gn b u A B e hlz fv p53 hz
  have bl := bq.2.2.1
  have bl2 := bq.2.2.2.1
  have bl5 := bq.2.1
  have bn := bq.2.2.2.2
  obtain ⟨h1, s1, r1, sA, gn1, a1, b1, u1, A1, B1, h2, u2, A2, B2, t3, h3, s3, gn3, a3, b3, u3, A3, B3, q1, q2, q3, o1, m1, E2, c1, c2, c3, W3, K3, c6, uu, u13, c7, c8, c9, _, c10⟩ := cb_pre (j := j) (j2 := j2) IC bq j0 bj hw e hlz fv p53 d1 d2 d3 d4 hLO hHI (by omega)
  obtain ⟨kh, dl, bh, rk, e57, _, rg, gw⟩ := id e
  obtain ⟨h4, v1, v2, v3, v4⟩ := ck_gone (pl := Pl) (ph := Ph) c3.1 (gn3 ||| gn1)
  have E4 := CK_gn c3 v2 v3
  obtain ⟨h5, w1, w2, w3, w4⟩ := ck_aim (pl := Pl) (ph := Ph) (zf := zf) (w := w) (k := ke + j - 1) v2 u13 (by omega)
  rw [show ke + j - 1 + 1 = ke + j from by omega] at w1
  have E5 := CK_e0 E4 w2 w3 rfl
  have W4 := wF_trans W3 K3 v3
  have K4 := wK2_trans K3 v4 W3.1.1
  have W5 := wF_trans W4 K4 w3
  have K5 := wK2_trans K4 w4 W4.1.1
  have g8 : dgR L xs h 8 [12] (some p) = some (some px) := fd_R (o := some px) (bh.1.1 _ _ _ (by decide) e8) (by decide)
  have g9 : dgR L xs h2 9 [12] (some p) = some (some pb) := fd_R (o := some pb) (E2.2.2.1.1.1 _ _ _ (by decide) e9) (by decide)
  have g10 : dgR L xs h3 10 [12] (some p) = some none := fd_R (o := none) (c3.2.2.1.1.1 _ _ _ (by decide) e10) (by decide)
  have cls : (dcV L xs (dM L xs zf w (ke + 2 + j)) 169 [13] (some C) [va_rf (some p), .int (hwC how)] h).bind dxI = some (0, h5) := by
    rw [ck_v kh, show ke + 2 + j = ke + j + 1 + 1 from by omega, e169]
    show (b169_0 L xs zf (dM L xs zf w (ke + j + 1)) w (some C) (some p) (hwC how) h).bind dxI = _
    refine bsq (a := (some (.int 0), h5)) ?_ rfl
    unfold b169_0
    refine bsq (fd_I (bh.1.1 _ _ _ (by decide) e0) (by decide)) (inq (by decide) (inq (by decide) (itq rfl (bsq (a := h5) ?_ rfl))))
    rw [ck_v kh, e210]
    show (b210_0 L xs zf (dM L xs zf w (ke + j)) w (some C) (some p) h).bind dxV = _
    refine bsq (a := (none, h5)) ?_ rfl
    unfold b210_0
    exact bsq g8 (bsq q1 (bsq (ck_0 o1.1) (bsq m1 (bsq (ck_4 E2.1) (bsq g9 (bsq c1 (bsq g10 (itq rfl (bsq (ck_4 c3.1) (bsq v1 (bsq (ck_0 v2) (bsq w1 rfl))))))))))))
  have g45 : ∀ S, rK s0 S → rs_aI S 45 (Int32.ofNat n) = some (Int32.ofNat l) := fun S hS => (aI_at (i := n) (by decide) rfl hn (by decide)).trans (by rw [rk_A hS (by decide), r45])
  have g44 : rs_aI s 44 (Int32.ofNat n) = some 21 := (aI_at (i := n) (by decide) rfl hn (by decide)).trans (by rw [rk_A rk (by decide), r44])
  have rhead : ∀ S, (if mx_f1 .le (s1.1 57) = true then
      (rs_aI s1 46 (Int32.ofNat n)).bind fun x16 =>
      ((rM w (kr + j2) 336 [.ref 36, .int x16, .int 0] s1).bind rxV).bind fun s18 =>
      if mx_f1 .le (s18.1 57) = true then
        (rs_pI s18 64 (s1.1 64)).bind fun s24 =>
        (rs_aI s24 47 (Int32.ofNat n)).bind fun x29 =>
        if mx_f1 .eq x29 = true then
          s368_82 (rM w (kr + j2)) w (s18.1 64) s24
        else
          (rs_aI s24 47 (Int32.ofNat n)).bind fun x32 =>
          ((rM w (kr + j2) 336 [.ref 36, .int x32, .int 0] s24).bind rxV).bind fun s34 =>
          s368_82 (rM w (kr + j2)) w (s18.1 64) s34
      else
        some (none, s18)
    else
      some (none, s1)) = some (none, S) → rM w (kr + 2 + j2) 337 [.ref 36, .int (Int32.ofNat n), .int (Int32.ofNat how)] s = some (none, S) := by
    intro S hS
    rw [show kr + 2 + j2 = kr + j2 + 1 + 1 from by omega, y337]
    show s337_0 (rM w (kr + j2 + 1)) w (Int32.ofNat n) (Int32.ofNat how) s = _
    unfold s337_0
    refine bsq (g45 s rk) (bsq g44 (inq (by decide) (inq (by decide) (itq rfl (bsq (a := S) ?_ rfl)))))
    rw [y368]
    show (s368_0 (rM w (kr + j2)) w (Int32.ofNat n) s).bind rxV = _
    refine bsq (a := (none, S)) ?_ rfl
    unfold s368_0
    exact bsq (g45 s rk) (bsq (g45 s rk) (bsq (a := (r1, sA)) (by rw [q2]; rfl) (bsq (a := s1) (by rw [q3]; rfl) hS)))
  have r5 : r53 lo hi s s3 := r53_mono c8 d1 (by omega)
  have cst : u3 2 ≤ u 2 + 3 * (hi - lo) := by omega
  by_cases ha1 : a1 = 0
  · subst ha1
    have ref3 := c2 rfl
    have l1 : mx_f1 .le (s1.1 57) = true := by rw [o1.2.2.2.2.1]; decide
    have g46 : rs_aI s1 46 (Int32.ofNat n) = some (Int32.ofNat nb) := (aI_at (i := n) (by decide) rfl hn (by decide)).trans (by rw [rk_A o1.2.2.2.1 (by decide), r46])
    by_cases ha3 : a3 = 0
    · subst ha3
      obtain ⟨_, p1, p2, p3, p4, p5⟩ := c10 rfl
      have l3 : mx_f1 .le (s3.1 57) = true := by rw [c3.2.2.2.2.1]; decide
      have x64 : s1.1 64 = gn1 := (o1.2.2.2.2.2.2.1 rfl).2.2.1
      have y64 : s3.1 64 = gn3 := (c3.2.2.2.2.2.2.1 rfl).2.2.1
      have gor : gn3 ||| gn1 = gn1 ||| gn3 := Int32.or_comm _ _
      rw [if_pos rfl] at E5
      have s64 : rs_w (rs_w s3 64 gn1) 64 (gn1 ||| gn3) = rs_w s3 64 (gn3 ||| gn1) := by
        rw [gor]
        exact w_w _ _ _ _
      refine ⟨0, h5, rs_w s3 64 (gn3 ||| gn1), cls, rhead _ ?_, 0, b3, u3, W5, K5, c6, cst, r53_trans r5 (fun i _ => ⟨rfl, rfl⟩), Or.inr ⟨rfl, [], G, _, A3, _, 0, by rw [List.append_nil]; exact E5, ⟨[], by rw [List.append_nil]⟩, fun i hi => ⟨(p1 i hi).1, (upd_at (by omega)).trans (p1 i hi).2⟩, fun lo' hi' y1 y2 y3 y4 => FV_oo (p3 lo' hi' (by omega) y2 y3 (p2 lo' hi' (by omega) y2 y3 y4)) (p2 lo' hi' (by omega) y2 y3 y4), fun _ y => absurd y (by rw [r44]; decide), fun SL AA BB f y1 y2 y3 => ?_⟩⟩
      · refine itq l1 (bsq g46 (bsq (a := s3) (by rw [ref3]; rfl) (itq l3 (bsq (a := rs_w s3 64 (s1.1 64)) rfl (bsq (a := 0) ((aI_at (i := n) (by decide) rfl hn (by decide)).trans (by show some (s3.2.1 47 n) = _; rw [rk_A c3.2.2.2.1 (by decide), r47])) (itq (by decide) ?_))))))
        unfold s368_82
        rw [w_eq, x64, y64]
        refine bsq (a := rs_w (rs_w s3 64 gn1) 64 (gn1 ||| gn3)) rfl ?_
        rw [s64]
      · obtain ⟨t1, xx, t2⟩ := p5 SL AA BB f (fun i i1 i2 => y1 i (by omega) (by omega)) (fun i i1 i2 => by
          have q := y2 i i1 (by omega)
          exact ⟨q.1, q.2.trans (upd_at (by omega))⟩) (fun i i1 i2 => by
          have q := y2 i (by omega) i2
          exact ⟨q.1, q.2.trans (upd_at (by omega))⟩) (by omega) (by omega)
        have yc := y2 (u1 2) uu (by omega)
        exact ⟨21, l, r44, r45, hl.1, hl.2, rfl, rfl, nb, u1 2, u3 2, xx, gn1, gn3, r46, bn.1, bn.2.1, t1, yc.1.trans p4, t2, Or.inl ⟨r47, rfl, yc.2.trans (upd_eq _ _ _), gor⟩⟩
    · rw [if_neg ha3] at E5
      refine ⟨0, h5, s3, cls, rhead _ ?_, SP_ft E5 ha3 W5 K5 c6 cst r5⟩
      exact itq l1 (bsq g46 (bsq (a := s3) (by rw [ref3]; rfl) (inq (le_ps (by rw [c3.2.2.2.2.1]; exact (c3.2.2.2.2.2.1 ha3).2)) rfl)))
  · obtain ⟨z1, z2⟩ := c9 ha1
    subst z1
    subst z2
    rw [if_neg ha1] at E5
    refine ⟨0, h5, s3, cls, rhead _ ?_, SP_ft E5 ha1 W5 K5 c6 cst r5⟩
    exact inq (le_ps (by rw [o1.2.2.2.2.1]; exact (o1.2.2.2.2.2.1 ha1).2)) rfl
/-- if with else -/
theorem js_21b (IC : JI L xs zf w cx C Sc M pt vr mv hB s0 nk m Pl Ph LO HI z px l lo1 hi1 ke kr) (bq : BQ L xs zf w cx C Sc M pt vr mv hB s0 nk m Pl Ph LO HI z 0 pb nb lo2 hi2 ke kr) (be : BQ L xs zf w cx C Sc M pt vr mv hB s0 nk m Pl Ph LO HI z 0 pe ne lo3 hi3 ke kr) (j0 : JE L xs cx hB s0 nk kl ml) (bj : bJ L xs hB s0 nk kl M m) (e0 : fd hB 12 p 0 = some (.int 16)) (e8 : fd hB 12 p 8 = some (.ref px)) (e9 : fd hB 12 p 9 = some (.ref pb)) (e10 : fd hB 12 p 10 = some (.ref pe)) (r44 : s0.2.1 44 n = 21) (r45 : s0.2.1 45 n = Int32.ofNat l) (r46 : s0.2.1 46 n = Int32.ofNat nb) (r47 : s0.2.1 47 n = Int32.ofNat ne) (hl : 1 ≤ l ∧ l < 4400) (hn : n < 4400) (d1 : lo ≤ lo1) (d2 : hi1 ≤ lo2) (d3 : hi2 ≤ lo3) (d5 : hi3 ≤ hi) (d4 : lo1 ≤ hi1) (n1 : lo ≤ n) (n2 : n < hi) (n3 : hi1 ≤ n ∨ n < lo1) (n4 : hi2 ≤ n ∨ n < lo2) (n5 : hi3 ≤ n ∨ n < lo3) (hLO : LO ≤ lo) (hHI : hi ≤ HI) (hw : 200 ≤ w) : JS L xs zf w cx C Sc M pt vr mv hB s0 nk m Pl Ph LO HI z how p n lo hi (ke + 2) (kr + 2) := by
  intro j j2 h s ds G lv gn b u A B e hlz fv p53 hz
  have bl := bq.2.2.1
  have bl2 := bq.2.2.2.1
  have bl5 := bq.2.1
  have bn := bq.2.2.2.2
  have el := be.2.2.1
  have el2 := be.2.2.2.1
  have en := be.2.2.2.2
  obtain ⟨h1, s1, r1, sA, gn1, a1, b1, u1, A1, B1, h2, u2, A2, B2, t3, h3, s3, gn3, a3, b3, u3, A3, B3, q1, q2, q3, o1, m1, E2, c1, c2, c3, W3, K3, c6, uu, u13, c7, c8, c9, _, c10⟩ := cb_pre (j := j) (j2 := j2) IC bq j0 bj hw e hlz fv p53 d1 d2 (by omega) d4 hLO hHI (by omega)
  obtain ⟨kh, dl, bh, rk, e57, _, rg, gw⟩ := id e
  obtain ⟨k1, hk1⟩ : ∃ k1, ke + j = k1 + 3 := ⟨ke + j - 3, by omega⟩
  -- a jump over the else
  obtain ⟨h4, u4, A4, B4, m1', m2', m3', m4', m5', m6', m7', m8'⟩ := ck_emit (pl := Pl) (ph := Ph) (zf := zf) (w := w) (k := k1) c3.1 (by omega) 20 0
  rw [← hk1] at m1'
  have E4 := CK_e0 c3 m2' m3' m6'
  obtain ⟨h5, w1, w2, w3, w4⟩ := ck_aim (pl := Pl) (ph := Ph) (zf := zf) (w := w) (k := ke + j - 1) (c := u1 2) m2' (by omega) (by omega)
  rw [show ke + j - 1 + 1 = ke + j from by omega] at w1
  have E5 := CK_e0 E4 w2 w3 rfl
  obtain ⟨h6, v1, v2, v3, v4⟩ := ck_gone (pl := Pl) (ph := Ph) w2 gn1
  have E6 := CK_gn E5 v2 v3
  -- the else
  have fv6 : a3 = 0 → FV s0 G gn1 lo3 hi3 := fun z => (c10 z).2.2.1 lo3 hi3 (by omega) (by omega) (by omega) (FV_sub fv (by omega) d5)
  have p536 : a3 = 0 → ∀ i, lo3 ≤ i → i < hi3 → (if a3 = 0 then rs_w s3 64 gn1 else s3).2.1 53 i = s0.2.1 53 i := by
    intro z i i1 i2
    rw [if_pos z]
    show s3.2.1 53 i = _
    rw [(c8 i (fun y => by omega)).1]
    exact p53 i (by omega) (by omega)
  obtain ⟨t7, h7, s7, gn7, a7, b7, u7, A7, B7, x1, x2, x3, x4, x5, x6, x7, x8, x9, x10⟩ := bk_u (j := j) (j2 := j2) be j0 bj hw E6 hlz fv6 p536 (by omega)
  obtain ⟨h8, y1, y2, y3, y4⟩ := ck_gone (pl := Pl) (ph := Ph) x3.1 (gn7 ||| gn3)
  have E8 := CK_gn x3 y2 y3
  have u47 : u4 2 ≤ u7 2 := x5.2.2.2.2.1
  obtain ⟨h9, z1, z2, z3, z4⟩ := ck_aim (pl := Pl) (ph := Ph) (zf := zf) (w := w) (k := ke + j - 1) (c := u3 2) y2 (by omega) (by omega)
  rw [show ke + j - 1 + 1 = ke + j from by omega] at z1
  have E9 := CK_e0 E8 z2 z3 rfl
  have W4 := wF_trans W3 K3 m3'
  have K4 := wK2_trans K3 m4' W3.1.1
  have W5 := wF_trans W4 K4 w3
  have K5 := wK2_trans K4 w4 W4.1.1
  have W6 := wF_trans W5 K5 v3
  have K6 := wK2_trans K5 v4 W5.1.1
  have W7 := wF_trans W6 K6 x4
  have K7 := wK2_trans K6 x5 W6.1.1
  have W8 := wF_trans W7 K7 y3
  have K8 := wK2_trans K7 y4 W7.1.1
  have W9 := wF_trans W8 K8 z3
  have K9 := wK2_trans K8 z4 W8.1.1
  have g8 : dgR L xs h 8 [12] (some p) = some (some px) := fd_R (o := some px) (bh.1.1 _ _ _ (by decide) e8) (by decide)
  have g9 : dgR L xs h2 9 [12] (some p) = some (some pb) := fd_R (o := some pb) (E2.2.2.1.1.1 _ _ _ (by decide) e9) (by decide)
  have g10 : dgR L xs h3 10 [12] (some p) = some (some pe) := fd_R (o := some pe) (c3.2.2.1.1.1 _ _ _ (by decide) e10) (by decide)
  have g10' : dgR L xs h6 10 [12] (some p) = some (some pe) := fd_R (o := some pe) (E6.2.2.1.1.1 _ _ _ (by decide) e10) (by decide)
  have cls : (dcV L xs (dM L xs zf w (ke + 2 + j)) 169 [13] (some C) [va_rf (some p), .int (hwC how)] h).bind dxI = some (0, h9) := by
    rw [ck_v kh, show ke + 2 + j = ke + j + 1 + 1 from by omega, e169]
    show (b169_0 L xs zf (dM L xs zf w (ke + j + 1)) w (some C) (some p) (hwC how) h).bind dxI = _
    refine bsq (a := (some (.int 0), h9)) ?_ rfl
    unfold b169_0
    refine bsq (fd_I (bh.1.1 _ _ _ (by decide) e0) (by decide)) (inq (by decide) (inq (by decide) (itq rfl (bsq (a := h9) ?_ rfl))))
    rw [ck_v kh, e210]
    show (b210_0 L xs zf (dM L xs zf w (ke + j)) w (some C) (some p) h).bind dxV = _
    refine bsq (a := (none, h9)) ?_ rfl
    unfold b210_0
    exact bsq g8 (bsq q1 (bsq (ck_0 o1.1) (bsq m1 (bsq (ck_4 E2.1) (bsq g9 (bsq c1 (bsq g10 (inq (dnl_s pe) (bsq (ck_4 c3.1) (bsq (ck_0 c3.1) (bsq m1' (bsq (ck_0 m2') (bsq w1 (bsq v1 (bsq g10' (bsq x1 (bsq (ck_4 x3.1) (bsq y1 (bsq (ck_0 y2) (bsq z1 rfl))))))))))))))))))))
  have g45 : ∀ S, rK s0 S → rs_aI S 45 (Int32.ofNat n) = some (Int32.ofNat l) := fun S hS => (aI_at (i := n) (by decide) rfl hn (by decide)).trans (by rw [rk_A hS (by decide), r45])
  have g44 : rs_aI s 44 (Int32.ofNat n) = some 21 := (aI_at (i := n) (by decide) rfl hn (by decide)).trans (by rw [rk_A rk (by decide), r44])
  have rhead : ∀ S, (if mx_f1 .le (s1.1 57) = true then
      (rs_aI s1 46 (Int32.ofNat n)).bind fun x16 =>
      ((rM w (kr + j2) 336 [.ref 36, .int x16, .int 0] s1).bind rxV).bind fun s18 =>
      if mx_f1 .le (s18.1 57) = true then
        (rs_pI s18 64 (s1.1 64)).bind fun s24 =>
        (rs_aI s24 47 (Int32.ofNat n)).bind fun x29 =>
        if mx_f1 .eq x29 = true then
          s368_82 (rM w (kr + j2)) w (s18.1 64) s24
        else
          (rs_aI s24 47 (Int32.ofNat n)).bind fun x32 =>
          ((rM w (kr + j2) 336 [.ref 36, .int x32, .int 0] s24).bind rxV).bind fun s34 =>
          s368_82 (rM w (kr + j2)) w (s18.1 64) s34
      else
        some (none, s18)
    else
      some (none, s1)) = some (none, S) → rM w (kr + 2 + j2) 337 [.ref 36, .int (Int32.ofNat n), .int (Int32.ofNat how)] s = some (none, S) := by
    intro S hS
    rw [show kr + 2 + j2 = kr + j2 + 1 + 1 from by omega, y337]
    show s337_0 (rM w (kr + j2 + 1)) w (Int32.ofNat n) (Int32.ofNat how) s = _
    unfold s337_0
    refine bsq (g45 s rk) (bsq g44 (inq (by decide) (inq (by decide) (itq rfl (bsq (a := S) ?_ rfl)))))
    rw [y368]
    show (s368_0 (rM w (kr + j2)) w (Int32.ofNat n) s).bind rxV = _
    refine bsq (a := (none, S)) ?_ rfl
    unfold s368_0
    exact bsq (g45 s rk) (bsq (g45 s rk) (bsq (a := (r1, sA)) (by rw [q2]; rfl) (bsq (a := s1) (by rw [q3]; rfl) hS)))
  have r5 : r53 lo hi s s3 := r53_mono c8 d1 (by omega)
  have cst : u7 2 ≤ u 2 + 3 * (hi - lo) := by omega
  have u70 : u7 0 = u 0 := x6.trans (m6'.trans c6)
  by_cases ha1 : a1 = 0
  · subst ha1
    have ref3 := c2 rfl
    have l1 : mx_f1 .le (s1.1 57) = true := by rw [o1.2.2.2.2.1]; decide
    have g46 : rs_aI s1 46 (Int32.ofNat n) = some (Int32.ofNat nb) := (aI_at (i := n) (by decide) rfl hn (by decide)).trans (by rw [rk_A o1.2.2.2.1 (by decide), r46])
    by_cases ha3 : a3 = 0
    · subst ha3
      obtain ⟨_, p1, p2, p3, p4, p5⟩ := c10 rfl
      have ref7 := x2 rfl
      rw [if_pos rfl] at ref7 x8
      have l3 : mx_f1 .le (s3.1 57) = true := by rw [c3.2.2.2.2.1]; decide
      have x64 : s1.1 64 = gn1 := (o1.2.2.2.2.2.2.1 rfl).2.2.1
      have y64 : s3.1 64 = gn3 := (c3.2.2.2.2.2.2.1 rfl).2.2.1
      have g47 : rs_aI (rs_w s3 64 gn1) 47 (Int32.ofNat n) = some (Int32.ofNat ne) := (aI_at (i := n) (by decide) rfl hn (by decide)).trans (by show some (s3.2.1 47 n) = _; rw [rk_A c3.2.2.2.1 (by decide), r47])
      have r7 : r53 lo hi s s7 := r53_trans r5 (r53_trans (s1 := rs_w s3 64 gn1) (fun i _ => ⟨rfl, rfl⟩) (r53_mono x8 (by omega) d5))
      have rfin : ∀ S, s368_82 (rM w (kr + j2)) w gn3 s7 = some (none, S) → rM w (kr + 2 + j2) 337 [.ref 36, .int (Int32.ofNat n), .int (Int32.ofNat how)] s = some (none, S) := by
        intro S hS
        refine rhead _ (itq l1 (bsq g46 (bsq (a := s3) (by rw [ref3]; rfl) (itq l3 (bsq (a := rs_w s3 64 (s1.1 64)) rfl ?_)))))
        rw [x64, y64]
        exact bsq g47 (inq (fun q => ofN_0 en.1 en.2.1 (of_decide_eq_true q)) (bsq g47 (bsq (a := s7) (by rw [show rM w (kr + j2) 336 [.ref 36, .int (Int32.ofNat ne), .int 0] (rs_w s3 64 gn1) = _ from ref7]; rfl) hS)))
      by_cases ha7 : a7 = 0
      · subst ha7
        obtain ⟨f1, f2, tg, _, f3⟩ := x10 rfl
        rw [if_pos rfl] at E9
        have z64 : s7.1 64 = gn7 := (x3.2.2.2.2.2.2.1 rfl).2.2.1
        have old7 : ∀ i, i < u3 2 → A7 i = A3 i := fun i hi => (f1 i (by omega)).1.trans (m8' i hi).1
        have oldB : ∀ i, i < u3 2 → i ≠ u1 2 → B7 i = B3 i := fun i hi hne => (f1 i (by omega)).2.trans ((upd_at hne).trans (m8' i hi).2)
        refine ⟨0, h9, rs_w s7 64 (gn7 ||| gn3), cls, rfin _ ?_, 0, b7, u7, W9, K9, u70, cst, r53_trans r7 (fun i _ => ⟨rfl, rfl⟩), Or.inr ⟨rfl, [], G, _, A7, _, 0, by rw [List.append_nil]; exact E9, ⟨[], by rw [List.append_nil]⟩, fun i hi => ⟨(old7 i (by omega)).trans (p1 i hi).1, (upd_at (by omega)).trans ((oldB i (by omega) (by omega)).trans (p1 i hi).2)⟩, fun lo' hi' y1 y2 y3 y4 => FV_oo (f2 lo' hi' (by omega) y2 y3 (p2 lo' hi' (by omega) y2 y3 y4)) (p3 lo' hi' (by omega) y2 y3 (p2 lo' hi' (by omega) y2 y3 y4)), fun _ y => absurd y (by rw [r44]; decide), fun SL AA BB f y1 y2 y3 => ?_⟩⟩
        · unfold s368_82
          rw [z64]
          exact bsq (a := rs_w s7 64 (gn7 ||| gn3)) rfl rfl
        · obtain ⟨t1, xx, t2⟩ := p5 SL AA BB f (fun i i1 i2 => (y1 i (by omega) (by omega)).trans ((x8 i (fun y => by omega)).1)) (fun i i1 i2 => by
            have q := y2 i i1 (by omega)
            exact ⟨q.1.trans (old7 i (by omega)), q.2.trans ((upd_at (by omega)).trans (oldB i (by omega) (by omega)))⟩) (fun i i1 i2 => by
            have q := y2 i (by omega) (by omega)
            exact ⟨q.1.trans (old7 i (by omega)), q.2.trans ((upd_at (by omega)).trans (oldB i (by omega) (by omega)))⟩) (by omega) (by omega)
          have t3 := f3 SL AA BB (fun i i1 i2 => y1 i (by omega) (by omega)) (fun i i1 i2 => by
            have q := y2 i (by omega) i2
            exact ⟨q.1, q.2.trans (upd_at (by omega))⟩)
          rw [m5'] at t3
          have yc := y2 (u1 2) uu (by omega)
          have yd := y2 (u3 2) (by omega) (by omega)
          refine ⟨21, l, r44, r45, hl.1, hl.2, rfl, rfl, nb, u1 2, u3 2, xx, gn1, gn3, r46, bn.1, bn.2.1, t1, yc.1.trans ((old7 _ (by omega)).trans p4), t2, Or.inr ⟨ne, tg, gn7, r47, en.1, en.2.1, ?_, yd.2.trans (upd_eq _ _ _), ?_, TU_b t3 (by omega), rfl⟩⟩
          · rw [yd.1, (f1 (u3 2) (by omega)).1]
            exact m7'.1
          · rw [yc.2, upd_at (by omega), (f1 (u1 2) (by omega)).2, upd_eq, m5']
      · rw [if_neg ha7] at E9
        refine ⟨0, h9, rs_w s7 64 (s7.1 64 ||| gn3), cls, rfin _ ?_, SP_ft (CK_64 E9 ha7 _) ha7 W9 K9 u70 cst (r53_trans r7 (fun i _ => ⟨rfl, rfl⟩))⟩
        unfold s368_82
        exact bsq (a := rs_w s7 64 (s7.1 64 ||| gn3)) rfl rfl
    · obtain ⟨z1', z2'⟩ := x9 ha3
      rw [if_neg ha3] at z1'
      subst z1'
      subst z2'
      rw [if_neg ha3] at E9
      refine ⟨0, h9, s7, cls, rhead _ ?_, SP_ft E9 ha3 W9 K9 u70 cst r5⟩
      exact itq l1 (bsq g46 (bsq (a := s7) (by rw [ref3]; rfl) (inq (le_ps (by rw [c3.2.2.2.2.1]; exact (c3.2.2.2.2.2.1 ha3).2)) rfl)))
  · obtain ⟨z1', z2'⟩ := c9 ha1
    subst z1'
    subst z2'
    obtain ⟨z5, z6⟩ := x9 ha1
    rw [if_neg ha1] at z5
    subst z5
    subst z6
    rw [if_neg ha1] at E9
    refine ⟨0, h9, s7, cls, rhead _ ?_, SP_ft E9 ha1 W9 K9 u70 cst r5⟩
    exact inq (le_ps (by rw [o1.2.2.2.2.1]; exact (o1.2.2.2.2.2.1 ha1).2)) rfl
end JIG
