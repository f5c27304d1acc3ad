/-! BOTH CHECK: var. -/
section JVR
variable {L : Nat} {xs : Nat → Int32} {zf : Value} {w C Sc M Pl Ph LO HI nk m lv n p q i d lo hi k k2 z ke kr l px lo' hi' how nq td : Nat} {cx : Nat → Nat} {hB h h1 h2 : rm_H} {s0 s s1 s2 : rS} {pt vr gn gn1 a b a1 b1 x y rc t v : Int32} {mv : Value} {ds kl ml : List Nat} {G : List scN} {u u1 u2 : Nat → Nat} {A B A1 B1 : Nat → Int32} {c : Int64} {X : scN} {f : Nat → Int64} {sl ty : Nat → Int32}
theorem js_20 (IH : JV L xs zf w cx C Sc M pt vr mv hB s0 nk m Pl Ph LO HI z px l lo' hi' ke kr) (e0 : fd hB 12 p 0 = some (.int 15)) (e8 : fd hB 12 p 8 = some (.ref px)) (e5 : fd hB 12 p 5 = some (.ref d)) (ex : fd hB 12 px 1 = some (.int (s0.2.1 50 l))) (dn0 : fd hB 10 d 0 = some (.ref nq)) (hnq : nS L xs hB nq (s0.2.2 56 n)) (dn1 : fd hB 10 d 1 = some (.int (s0.2.1 51 n))) (dn8 : fd hB 10 d 8 = some (.int (s0.2.1 53 n))) (dn7 : fd hB 10 d 7 = some (.int (cT td))) (mt : tyc s0 (s0.2.1 54 n) td) (vd : vT s0 nk td) (r44 : s0.2.1 44 n = 20) (r45 : s0.2.1 45 n = Int32.ofNat l) (hl : 1 ≤ l ∧ l < 4400) (hn : n < 4400) (d1 : lo ≤ lo') (d2 : hi' ≤ hi) (dno : hi' ≤ n ∨ n < lo') (n1 : lo ≤ n) (n2 : n < hi) (d3 : hi' - lo' < hi - lo) (hHI : hi ≤ HI) (hLO : LO ≤ lo) (hsl : ∀ j, LO ≤ j → j < HI → j ≠ n → s0.2.1 44 j = 20 → s0.2.1 53 j ≠ s0.2.1 53 n) (hk : 4 ≤ ke) (hk2 : 3 ≤ kr) (hw : 200 ≤ w) : JS L xs zf w cx C Sc M pt vr mv hB s0 nk m Pl Ph LO HI z how p n lo hi (ke + 2) (kr + 1) := by
  intro j j2 h s ds G lv gn b u A B e hlz fv p53 hz
  obtain ⟨t, r, h1, s1, q1, q2, gn', a', b', u', A', B', o1, o2, o3, o4, o5, o6, o7⟩ := IH j j2 h s ds G lv gn b u A B e hlz (FV_sub fv d1 d2) (fun i i1 i2 => p53 i (by omega) (by omega)) (by omega)
  obtain ⟨kh, dl, bh, rk, e57, _, rg, gw⟩ := id e
  obtain ⟨kh1, dl1, bh1, rk1, e571, e581, rg1, gw1⟩ := id o1
  obtain ⟨k1, hk1⟩ : ∃ k1, ke + j = k1 + 4 := ⟨ke + j - 4, by omega⟩
  obtain ⟨k3, hk3⟩ : ∃ k1, kr + j2 = k1 + 3 := ⟨kr + j2 - 3, by omega⟩
  obtain ⟨sn, sn16, n53, gb, gx⟩ := fv n n1 n2 r44
  have dB : dSn L xs hB d (s0.2.2 56 n) (Int32.ofNat sn) (cT td) := ⟨⟨nq, dn0, hnq⟩, by rw [← n53]; exact dn8, dn7⟩
  have uu : u 2 ≤ u' 2 := o3.2.2.2.2.1
  -- the class
  have fnd := ck_find (zf := zf) (w := w) (k := k1 + 1) kh1 (bh1.1.2.2.1 _ _ hnq) hw
  obtain ⟨x1, hx1⟩ : ∃ x1 : Int32, x1 = if kF (gN G) (s0.2.2 56 n) ds.length 0 = none then 0 else 2 := ⟨_, rfl⟩
  obtain ⟨x2, hx2⟩ : ∃ x2 : Int32, x2 = fitC t (cT td) := ⟨_, rfl⟩
  have p1' : x1 = 0 ∨ 0 < x1.toInt := by
    rw [hx1]
    split
    · exact Or.inl rfl
    · exact Or.inr (by decide)
  have p2' : x2 = 0 ∨ 0 < x2.toInt := by rw [hx2]; exact fitC_p _ _
  obtain ⟨hA, a1, a2, a3, a4⟩ := ck_rfz (pl := Pl) (ph := Ph) (zf := zf) (w := w) (k := k1 + 3) kh1 x1 (s0.2.1 51 n)
  obtain ⟨hF, b1, b2, b3, b4⟩ := ck_rfz (pl := Pl) (ph := Ph) (zf := zf) (w := w) (k := k1 + 2) a2 x2 (s0.2.1 50 l)
  obtain ⟨h4, u4, A4, B4, m1, m2, m3, m4, m5, m6, m7, m8⟩ := ck_emit (pl := Pl) (ph := Ph) (zf := zf) (w := w) (k := k1 + 1) b2 (by omega) 11 (Int32.ofNat sn)
  have bhA := bH_w kh1 a3 bh1
  have bhF := bH_w a2 b3 bhA
  have bh4 := bH_w b2 m3 bhF
  obtain ⟨h5, c1, c2, c3, c4⟩ := ck_seen (pl := Pl) (ph := Ph) (zf := zf) (w := w) (k := k1 + 3) m2 (bH_dSn bh4 dB)
  have f36 : b170_36 L xs zf (dM L xs zf w (k1 + 4)) w (some C) (some p) t hA = some (none, h5) := by
    unfold b170_36
    refine bsq (fd_R (o := some px) (bhA.1.1 _ _ _ (by decide) e8) (by decide)) (bsq (fd_R (o := some d) (bhA.1.1 _ _ _ (by decide) e5) (by decide)) (bsq (fd_I (bH_dSn bhA dB).2.2 (by decide)) (bsq (a := hF) ?_ (bsq (ck_0 b2) (bsq (fd_R (o := some d) (bhF.1.1 _ _ _ (by decide) e5) (by decide)) (bsq (fd_I (bH_dSn bhF dB).2.1 (by decide)) (bsq m1 (bsq (fd_R (o := some d) (bh4.1.1 _ _ _ (by decide) e5) (by decide)) (bsq c1 rfl)))))))))
    rw [c_188 (k := k1 + 1) a2 (bhA.1.1 _ _ _ (by decide) ex) t (cT td), ← hx2]
    exact b1
  have cls : (dcV L xs (dM L xs zf w (ke + 2 + j)) 169 [13] (some C) [va_rf (some p), .int (hwC how)] h).bind dxI = some (0, h5) := by
    rw [ck_v kh, show ke + 2 + j = ke + j + 1 + 1 from by omega, e169]
    show (b169_0 L xs zf (dM L xs zf w (ke + j + 1)) w (some C) (some p) (hwC how) h).bind dxI = _
    refine bsq (a := (some (.int 0), h5)) ?_ rfl
    unfold b169_0
    refine bsq (fd_I (bh.1.1 _ _ _ (by decide) e0) (by decide)) (inq (by decide) (itq rfl (bsq (a := h5) ?_ rfl)))
    rw [ck_v kh, e170]
    show (b170_0 L xs zf (dM L xs zf w (ke + j)) w (some C) (some p) h).bind dxV = _
    refine bsq (a := (none, h5)) ?_ rfl
    unfold b170_0
    refine bsq (fd_R (o := some px) (bh.1.1 _ _ _ (by decide) e8) (by decide)) (bsq q1 (bsq (fd_R (o := some d) (bh1.1.1 _ _ _ (by decide) e5) (by decide)) (bsq (fd_R (o := some nq) (bh1.1.2.2.2.1 _ _ _ dn0) (by decide)) ?_)))
    rw [hk1]
    refine bsq fnd ?_
    unfold rfz at a1
    cases hf : kF (gN G) (s0.2.2 56 n) ds.length 0 with
    | none =>
      rw [hf, if_pos rfl] at hx1
      rw [hx1, if_pos rfl] at a1
      have : h1 = hA := Option.some.inj a1
      exact itq (show mx_f2 .eq (-1 : Int32) (-1) = true by decide) (by rw [this]; exact f36)
    | some i =>
      rw [hf, if_neg (by simp)] at hx1
      rw [hx1, if_neg (by decide)] at a1
      have il := (kF_some hf).2.1
      have l16 := kh1.2.2.2.1.1
      refine inq (fun z => ofN_m1 (i := i) (by omega) (of_decide_eq_true z)) (bsq (fd_R (o := some d) (bh1.1.1 _ _ _ (by decide) e5) (by decide)) (bsq (fd_I (bh1.1.2.2.2.1 _ _ _ dn1) (by decide)) (bsq a1 f36)))
  have E1 := CK_rg o1 a2 a3 p1'
  have E2 := CK_rg E1 b2 b3 p2'
  have E3 := CK_e0 E2 m2 m3 m6
  have W1 := wF_trans o2 o3 (wF_trans a3 a4 b3)
  have K1 := wK2_trans o3 (wK2_trans a4 b4 a3.1.1) o2.1.1
  have W2 := wF_trans W1 K1 m3
  have K2 := wK2_trans K1 m4 W1.1.1
  have W3 := wF_trans W2 K2 c2
  have K3 := wK2_trans K2 c3 W2.1.1
  have g45 : rs_aI s 45 (Int32.ofNat n) = some (Int32.ofNat l) := (aI_at (i := n) (by decide) rfl hn (by decide)).trans (by rw [rk_A rk (by decide), r45])
  have g44 : rs_aI s 44 (Int32.ofNat n) = some 20 := (aI_at (i := n) (by decide) rfl hn (by decide)).trans (by rw [rk_A rk (by decide), r44])
  have rhead : ∀ R, (if mx_f1 .le (s1.1 57) = true then
      (rs_aJ s1 56 (Int32.ofNat n)).bind fun y18 =>
      ((rM w (kr + j2) 349 [.ref 36, .long y18] s1).bind rxI).bind fun x20 =>
      if mx_f2 .eq x20.1 (-1) = true then
        (rs_aI x20.2 54 (Int32.ofNat n)).bind fun x26 =>
        (rs_aI x20.2 60 x26).bind fun x28 =>
        ((rM w (kr + j2) 353 [.ref 36, .int (Int32.ofNat l), .int r, .int x28] x20.2).bind rxI).bind fun x30 =>
        if mx_f1 .eq x30.1 = true then
          s337_288 (rM w (kr + j2)) w x30.2
        else
          (rs_aJ x30.2 56 (Int32.ofNat n)).bind fun y36 =>
          (rs_aI x30.2 53 (Int32.ofNat n)).bind fun x38 =>
          (rs_aI x30.2 54 (Int32.ofNat n)).bind fun x40 =>
          (rs_aI x30.2 60 x40).bind fun x42 =>
          ((rM w (kr + j2) 335 [.ref 36, .long y36, .int x38, .int x42] x30.2).bind rxV).bind fun s44 =>
          s337_288 (rM w (kr + j2)) w s44
      else
        (rs_aI x20.2 51 (Int32.ofNat n)).bind fun x49 =>
        ((rM w (kr + j2) 305 [.ref 36, .int 2, .int x49] x20.2).bind rxV).bind fun s51 =>
        s337_288 (rM w (kr + j2)) w s51
    else
      some (none, s1)) = R → rM w (kr + 1 + j2) 337 [.ref 36, .int (Int32.ofNat n), .int (Int32.ofNat how)] s = R := by
    intro R hR
    rw [show kr + 1 + j2 = kr + j2 + 1 from by omega, y337]
    show s337_0 (rM w (kr + j2)) w (Int32.ofNat n) (Int32.ofNat how) s = _
    unfold s337_0
    exact bsq g45 (bsq g44 (inq (by decide) (itq rfl (bsq (a := (r, s1)) (by rw [q2]; rfl) hR))))
  -- behind a fault
  have bad : ∀ S (aa bb : Int32), CKJ L xs cx C Sc M pt vr mv hB s0 nk m h4 S ds G lv gn' aa bb u4 A4 B4 → aa ≠ 0 → ((ds.length < 16 ∧ KH L xs cx C Sc M pt vr mv h5 (ds ++ [d]) (pu (gN G) ds.length (s0.2.2 56 n)) (pu (gSl G) ds.length (Int32.ofNat sn)) (pu (gTp G) ds.length (cT td)) gn' (if lv = 0 then 0 else 1) aa bb u4 A4 B4) ∨ (ds.length = 16 ∧ KH L xs cx C Sc M pt vr mv h5 ds (gN G) (gSl G) (gTp G) gn' (if lv = 0 then 0 else 1) aa bb u4 A4 B4)) → FS L xs cx C Sc M pt vr mv hB s0 nk h5 S ds G lv aa bb u4 := by
    intro S aa bb ⟨y1, y2, y3, y4, y5, y6, y7, y8⟩ ha kk
    rcases kk with ⟨_, kk⟩ | ⟨_, kk⟩
    · refine ⟨[d], _, _, _, gn', A4, B4, kk, fun i hi => ?_, y2, bH_w y1 c2 y3, y4, y5, (y6 ha).1, (y6 ha).2, y8⟩
      unfold pu
      rw [if_neg (by omega), if_neg (by omega), if_neg (by omega)]
      exact ⟨rfl, rfl, rfl⟩
    · exact ⟨[], gN G, gSl G, gTp G, gn', A4, B4, by rw [List.append_nil]; exact kk, fun _ _ => ⟨rfl, rfl, rfl⟩, y2, bH_w y1 c2 y3, y4, y5, (y6 ha).1, (y6 ha).2, y8⟩
  by_cases ha : a' = 0
  · subst ha
    obtain ⟨p1, p2, τ, p3, p4, p5, p6, p7, p8⟩ := o7 rfl
    subst p6
    subst p7
    obtain ⟨l1, l2, l3⟩ := nm_look (zf := zf) (w := w) (k := k1) o1 (bh1.1.2.2.1 _ _ hnq) hw
    obtain ⟨r62, r63, r64, ⟨r66, _⟩, rr⟩ := rg1 rfl
    obtain ⟨r60, dtd⟩ := tyc_r rk1 mt
    have s50 : s1.2.1 50 l = s0.2.1 50 l := rk_A rk1 (by decide) l
    have h56 : rs_aJ s1 56 (Int32.ofNat n) = some (s0.2.2 56 n) := (aJ_at (i := n) (by decide) rfl hn (by decide)).trans (by rw [rk_B rk1 (by decide)])
    have h54 : rs_aI s1 54 (Int32.ofNat n) = some (s0.2.1 54 n) := (aI_at (i := n) (by decide) rfl hn (by decide)).trans (by rw [rk_A rk1 (by decide)])
    have s53 : s1.2.1 53 n = Int32.ofNat sn := by rw [(o6 n (fun z => by omega)).1, p53 n n1 n2, n53]
    have r53' := r_353 (w := w) (k := k3) (t := τ) (q := td) e571 hl.2 p3.1 p4 dtd
    rw [s50, ← hx2, ← hk3] at r53'
    have r349 : rM w (kr + j2) 349 [.ref 36, .long (s0.2.2 56 n)] s1 = some (some (.int (kI (kF (gN G) (s0.2.2 56 n) G.length 0))), s1) := by rw [hk3]; exact l2 (k3 + 2)
    rw [dl1] at hx1
    by_cases ok : x1 = 0 ∧ x2 = 0
    · obtain ⟨z1, z2⟩ := ok
      have kn : kF (gN G) (s0.2.2 56 n) G.length 0 = none := by
        refine Decidable.byContradiction (fun q => ?_)
        rw [if_neg q] at hx1
        rw [hx1] at z1
        exact absurd z1 (by decide)
      have nn : ∀ X ∈ G, X.1 ≠ s0.2.2 56 n := by
        rcases l3 with ⟨i, X, dd, y1, _⟩ | ⟨_, y2⟩
        · rw [kn] at y1
          cases y1
        · exact y2
      have gxx : ∀ (i : Nat) (x : scN), G[i]? = some x → x.2.1 ≠ sn := gx
      have fv2 := p2 n (n + 1) (by omega) (by omega) (by omega) (FV_sub fv n1 (by omega)) n (Nat.le_refl _) (Nat.lt_succ_self n) r44
      obtain ⟨sn2, w1, w2, w3, w4⟩ := fv2
      have esn : sn2 = sn := by
        have := w2.symm.trans n53
        have := congrArg Int32.toInt this
        rw [of_int (by omega), of_int (by omega)] at this
        omega
      subst esn
      have clr := bt_cl sn16 w3
      rw [z1, z2, fa_0, fa_0, fb_0, fb_0] at E3 c4
      have S3 : (if (0 : Int32) = 0 then rzS (if (0 : Int32) = 0 then rzS s1 0 (s0.2.1 51 n) else s1) 0 (s0.2.1 50 l) else (if (0 : Int32) = 0 then rzS s1 0 (s0.2.1 51 n) else s1)) = s1 := by
        have r0 : ∀ (s : rS) (y : Int32), rzS s 0 y = s := fun s y => by unfold rzS; rw [if_pos rfl]
        simp only [if_true, r0]
      rw [S3] at E3
      have room := G_room E3.2.2.2.2.2.2.2 sn16 gxx
      have kk := c4.resolve_right (fun z => by omega)
      have F := CK_se E3 sn16 dtd vd nn gxx clr kk.2 rfl c2
      have r335 := r_335 (w := w) (k := k3 + 2) (c := s0.2.2 56 n) r62 room (Int32.ofNat sn2) (rTp td)
      refine ⟨0, h5, seS s1 G.length (s0.2.2 56 n) (Int32.ofNat sn2) (rTp td), cls, rhead _ ?_, 0, b', u4, W3, K3, m6.trans o4, by omega, r53_trans (r53_mono o6 d1 d2) (fun i hi => ?_), Or.inr ⟨rfl, [d], _, gn', A4, B4, 0, F, ⟨_, rfl⟩, fun i hi => ⟨(m8 i (by omega)).1.trans (p1 i hi).1, (m8 i (by omega)).2.trans (p1 i hi).2⟩, fun lo2 hi2 y1 y2 y3 y4 => ?_, fun _ y => absurd y (by rw [r44]; decide), fun SL AA BB f y1 y2 y3 => ?_⟩⟩
      · rw [z2] at r53'
        have r0 : rzS s1 0 (s0.2.1 50 l) = s1 := by unfold rzS; rw [if_pos rfl]
        rw [r0, if_pos rfl] at r53'
        refine itq (show mx_f1 .le (s1.1 57) = true by rw [e571]; decide) (bsq h56 (bsq (a := (-1, s1)) (by rw [r349, kn]; rfl) (itq (show mx_f2 .eq (-1 : Int32) (-1) = true by decide) (bsq h54 (bsq r60 (bsq (a := (1, s1)) (by rw [r53']; rfl) (inq (show ¬ mx_f1 .eq (1 : Int32) = true by decide) (bsq h56 (bsq (a := Int32.ofNat sn2) ((aI_at (i := n) (by decide) rfl hn (by decide)).trans (by rw [s53])) (bsq h54 (bsq r60 (bsq (a := seS s1 G.length (s0.2.2 56 n) (Int32.ofNat sn2) (rTp td)) ?_ rfl))))))))))))
        rw [hk3, r335]
        rfl
      · show (rs_wA (rs_wA (rs_wA (rs_wB s1 82 G.length (s0.2.2 56 n)) 83 G.length (Int32.ofNat sn2)) 84 G.length (rTp td)) 85 G.length (s1.1 63)).2.1 53 i = _ ∧ (rs_wA (rs_wA (rs_wA (rs_wB s1 82 G.length (s0.2.2 56 n)) 83 G.length (Int32.ofNat sn2)) 84 G.length (rTp td)) 85 G.length (s1.1 63)).2.1 86 i = _
        rw [wA_ne _ _ _ (by decide), wA_ne _ _ _ (by decide), wA_ne _ _ _ (by decide), wA_ne _ _ _ (by decide), wA_ne _ _ _ (by decide), wA_ne _ _ _ (by decide)]
        exact ⟨rfl, rfl⟩
      · have q := p2 lo2 hi2 (by omega) y2 y3 y4
        intro j' j1' j2' j3'
        obtain ⟨sj, t1, t2, t3, t4⟩ := q j' j1' j2' j3'
        refine ⟨sj, t1, t2, t3, fun i X hX => ?_⟩
        by_cases qi : i < G.length
        · rw [List.getElem?_append_left qi] at hX
          exact t4 i X hX
        · have hl2 := (List.getElem?_eq_some_iff.mp hX).1
          rw [List.length_append, List.length_singleton] at hl2
          rw [show i = G.length from by omega, List.getElem?_append_right (Nat.le_refl _), Nat.sub_self] at hX
          have hX : some (s0.2.2 56 n, sn2, td, lv) = some X := hX
          rw [← Option.some.inj hX]
          intro zz
          have zz : sn2 = sj := zz
          exact hsl j' (by omega) (by omega) (by omega) j3' (by rw [t2, n53, zz])
      · rw [m5]
        have ui := y2 (u' 2) uu (by omega)
        refine ⟨20, l, r44, r45, hl.1, hl.2, τ, td, sn2, u' 2, gn', VL_f (p8 SL AA BB (fun i i1 i2 => ?_) (fun i i1 i2 => ?_)) (by omega), mt, nn, by rw [← hx2]; exact z2, ?_, sn16, rfl, clr.symm, rfl, rfl, by rw [ui.1, m7.1], by rw [ui.2, m7.2]⟩
        · rw [y1 i (by omega) (by omega)]
          show (rs_wA (rs_wA (rs_wA (rs_wB s1 82 G.length (s0.2.2 56 n)) 83 G.length (Int32.ofNat sn2)) 84 G.length (rTp td)) 85 G.length (s1.1 63)).2.1 53 i = _
          rw [wA_ne _ _ _ (by decide), wA_ne _ _ _ (by decide), wA_ne _ _ _ (by decide)]
          rfl
        · have q := y2 i i1 (by omega)
          exact ⟨q.1.trans (m8 i i2).1, q.2.trans (m8 i i2).2⟩
        · rw [y1 n n1 n2]
          show (rs_wA (rs_wA (rs_wA (rs_wB s1 82 G.length (s0.2.2 56 n)) 83 G.length (Int32.ofNat sn2)) 84 G.length (rTp td)) 85 G.length (s1.1 63)).2.1 53 n = _
          rw [wA_ne _ _ _ (by decide), wA_ne _ _ _ (by decide), wA_ne _ _ _ (by decide)]
          exact s53
    · have nz : fa (fa 0 x1) x2 ≠ 0 := by
        rw [fa_2]
        show (if x1 = 0 then x2 else x1) ≠ 0
        by_cases c0 : x1 = 0
        · rw [if_pos c0]
          exact fun z => ok ⟨c0, z⟩
        · rw [if_neg c0]
          exact c0
      have S3 : (if fa 0 x1 = 0 then rzS (if (0 : Int32) = 0 then rzS s1 x1 (s0.2.1 51 n) else s1) x2 (s0.2.1 50 l) else (if (0 : Int32) = 0 then rzS s1 x1 (s0.2.1 51 n) else s1)) = if x1 = 0 then rzS s1 x2 (s0.2.1 50 l) else rfS s1 x1 (s0.2.1 51 n) := by
        have f1 : fa 0 x1 = x1 := rfl
        rw [f1, if_pos rfl]
        by_cases c0 : x1 = 0
        · rw [if_pos c0, if_pos c0, c0]
          rfl
        · rw [if_neg c0, if_neg c0]
          unfold rzS
          rw [if_neg c0]
      rw [S3] at E3
      refine ⟨0, h5, _, cls, rhead _ ?_, _, _, u4, W3, K3, m6.trans o4, by omega, r53_trans (r53_mono o6 d1 d2) (by split; exact rzS_r; exact fun i _ => ⟨rfl, rfl⟩), Or.inl ⟨nz, bad _ _ _ E3 nz c4⟩⟩
      refine itq (show mx_f1 .le (s1.1 57) = true by rw [e571]; decide) (bsq h56 (bsq (a := (kI (kF (gN G) (s0.2.2 56 n) G.length 0), s1)) (by rw [r349]; rfl) ?_))
      cases hf : kF (gN G) (s0.2.2 56 n) G.length 0 with
      | none =>
        rw [hf, if_pos rfl] at hx1
        have c2' : x2 ≠ 0 := fun z => ok ⟨hx1, z⟩
        rw [if_neg c2'] at r53'
        rw [if_pos hx1]
        exact itq (show mx_f2 .eq (-1 : Int32) (-1) = true by decide) (bsq h54 (bsq r60 (bsq (a := (0, rzS s1 x2 (s0.2.1 50 l))) (by rw [r53']; rfl) (itq (show mx_f1 .eq (0 : Int32) = true by decide) rfl))))
      | some i =>
        rw [hf, if_neg (by simp)] at hx1
        have il := (kF_some hf).2.1
        have l16 := gw1.1.1
        have xn : ¬ x1 = 0 := by rw [hx1]; decide
        rw [if_neg xn, hx1]
        refine inq (fun z => ofN_m1 (i := i) (by omega) (of_decide_eq_true z)) (bsq (a := s0.2.1 51 n) ((aI_at (i := n) (by decide) rfl hn (by decide)).trans (by rw [rk_A rk1 (by decide)])) (bsq (a := rfS s1 2 (s0.2.1 51 n)) ?_ rfl))
        rw [hk3, r_305 (k := k3 + 2) e571]
        rfl
  · have f1 : fa a' x1 = a' := fa_n ha
    have f2 : fa (fa a' x1) x2 = a' := by rw [f1, fa_n ha]
    have nz : fa (fa a' x1) x2 ≠ 0 := by rw [f2]; exact ha
    have S3 : (if fa a' x1 = 0 then rzS (if a' = 0 then rzS s1 x1 (s0.2.1 51 n) else s1) x2 (s0.2.1 50 l) else (if a' = 0 then rzS s1 x1 (s0.2.1 51 n) else s1)) = s1 := by
      rw [f1, if_neg ha, if_neg ha]
    rw [S3] at E3
    refine ⟨0, h5, s1, cls, rhead _ ?_, _, _, u4, W3, K3, m6.trans o4, by omega, r53_mono o6 d1 d2, Or.inl ⟨nz, bad _ _ _ E3 nz c4⟩⟩
    exact inq (le_ps (by rw [e571]; exact (e581 ha).2)) rfl
end JVR
