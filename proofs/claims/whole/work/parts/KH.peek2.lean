/-! PEEK BY BOTH, whole; show and peek where nothing runs. -/
section PE2
variable {L : Nat} {xs : Nat → Int32} {zf : Value} {w k k2 n P b m c N cn sn sz : Nat} {st dep i1 i2 : Int32} {h : rm_H} {s sB : rS} {Zx : Nat → Prop} {kc : kCi} {sg : cS} {ka : kAp} {om : oMg} {la : lAy} {ms : mSg} {mk sa sc A B : Nat → Int32} {mi : Nat → Nat × Nat × Nat × Nat × Nat} {D : Nat → Nat} {x : Nat → Nat → fDs} {es : List Nat}
/-- PEEK BY BOTH, of a run -/
theorem b_peek (hw : 500 ≤ w) (hs : hSo h) (z5 : ¬ Zx 5) (hz : ∀ y, Zr n sg y → y < 30 ∨ 35 < y) (ks : kSh L xs sB kc h (Zb Zx b) P) (msh : mSh L xs sB h (Zb Zx b) es) (cb : CB h (Zb Zx b) P A B sz es) (rh : RH (.ref P) n sg (Zr n sg) h h) (hn : ka.2.2.2 ≤ n) (ru : rUn sB A B mi kc om ka la ms N cn sg s D x) (ot : oTx h s b m c st dep mk sa sc) (cm : cMk st mk sn) (hsn : sn ≤ 1000000) (i1 i2 : Int32) :
    ∃ (r : Int32) (h' : rm_H) (s' : rS) (b' m' c' : Nat) (dep' : Int32) (mk' sa' sc' : Nat → Int32), dM L xs zf w (k + 12) 280 [.ref 21, .int i1, .int i2] h = some (some (.int r), h') ∧ rM w (k2 + 5) 412 [.ref 36, .int i1, .int i2] s = some (some (.int r), s') ∧ oTx h' s' b' m' c' (st + 1) dep' mk' sa' sc' ∧ cMk (st + 1) mk' (sn + 1) ∧ tCh h b m h' b' m' ∧ oL4 s s' ∧ c' ≤ 300000 := by
  obtain ⟨h1, s1, c1, r1, ot1, tc1, l1, z1⟩ := b_clr (L := L) (xs := xs) (zf := zf) (w := w) (k := k + 7) (k2 := k2 + 3) (by omega) ot
  obtain ⟨cm1, nm1⟩ := cMk_n cm hsn
  obtain ⟨vs, v1, v2, v3⟩ := id hs
  obtain ⟨us, u1, u2, u3⟩ := hSo_t hs ot tc1
  have rh1 := RH_tl rh hz ot tc1
  have wl := ru.1
  obtain ⟨clm, mb, tn, _, _, ⟨n3, n3b, n3c⟩, _, _, _, _, _, _, n10, _⟩ := id wl.2.2.1
  have hdc : ∀ X, ((dcV L xs (dM L xs zf w (k + 11)) 236 [2] (some 24) [.int i1] h1).bind dxR).bind (fun p9 => if dnl p9.1 = true then b280_32 L xs zf (dM L xs zf w (k + 11)) w p9.2 else if mx_f1 .lt i2 = true then b280_32 L xs zf (dM L xs zf w (k + 11)) w p9.2 else (dgI L xs p9.2 4 [14] p9.1).bind fun x19 => if mx_f2 .lt i2 x19 = true then (dgR L xs p9.2 2 [0] (some 21)).bind fun p22 => (dgR L xs p9.2 1 [0] (some 21)).bind fun p24 => ((dcV L xs (dM L xs zf w (k + 11)) 281 [3] p22 [va_rf p24, va_rf p9.1, .int i2] p9.2).bind dxV).bind fun h26 => (dgR L xs h26 2 [0] (some 21)).bind fun p30 => ((dcV L xs (dM L xs zf w (k + 11)) 279 [3] p30 [] h26).bind dxI).bind fun x32 => drI (some .int) x32.1 x32.2 else b280_32 L xs zf (dM L xs zf w (k + 11)) w p9.2) = some X → dM L xs zf w (k + 12) 280 [.ref 21, .int i1, .int i2] h = some X := by
    intro X hX
    rw [e280]
    show b280_0 L xs zf (dM L xs zf w (k + 11)) w (some 21) i1 i2 h = _
    unfold b280_0
    refine bse (hc_gR (p := some 30) v1 v3 (by decide)) (bse (a := h1) ?_ (bse (hc_gR (p := some 24) u1 u2 (by decide)) hX))
    rw [hc_v ot.1 (by decide), c1]
    rfl
  have hdr : ∀ X, ((rM w (k2 + 4) 381 [.ref 36, .int i1] s1).bind rxI).bind (fun x6 => if mx_f1 .eq x6.1 = true then s412_26 (rM w (k2 + 4)) w x6.2 else if mx_f1 .lt i2 = true then s412_26 (rM w (k2 + 4)) w x6.2 else (rs_aI x6.2 94 i1).bind fun x13 => if mx_f2 .lt i2 x13 = true then (rs_aI x6.2 102 ((6 * i1) + i2)).bind fun x16 => (rs_aI x6.2 103 x16).bind fun x18 => (rs_aI x6.2 70 x18).bind fun x20 => if mx_f1 .ne x20 = true then (rs_aJ x6.2 78 x18).bind fun y23 => s412_75 (rM w (k2 + 4)) w x16 x18 y23 x6.2 else (rs_aJ x6.2 39 2).bind fun y25 => s412_75 (rM w (k2 + 4)) w x16 x18 y25 x6.2 else s412_26 (rM w (k2 + 4)) w x6.2) = some X → rM w (k2 + 5) 412 [.ref 36, .int i1, .int i2] s = some X := by
    intro X hX
    rw [y412]
    show s412_0 (rM w (k2 + 4)) w i1 i2 s = _
    unfold s412_0
    exact bse (a := s1) (by rw [r1]; rfl) hX
  have r381 := r_381 (w := w) (k := k2 + 3) (i1 := i1) (s := s1) (ac := ka.2.2.2) (by rw [l1.1 74 (by decide)]; exact n10) (by rw [l1.1 75 (by decide)]; exact n3b) n3c
  have mr1 : ∀ o, o ≤ 400 → s1.2.1 112 o = if mk o = st + 1 then 1 else 0 := fun o ho => by rw [z1 o (by omega), if_neg (nm1 o ho)]
  by_cases hzz : i1.toInt < 0 ∨ (ka.2.2.2 : Int) ≤ i1.toInt
  · rw [if_pos hzz] at r381
    refine ⟨-1, h1, s1, b, m, 0, dep, mk, sa, sc, hdc _ (bse (a := (none, h1)) ?_ (ift rfl rfl)), hdr _ (bse (a := ((0 : Int32), s1)) (by rw [r381]; rfl) (ift (show mx_f1 .eq (0 : Int32) = true by decide) rfl)), ot1, cm1, tc1, l1, by omega⟩
    rw [cV_w rh1, k_findN (L := L) (xs := xs) (zf := zf) (w := w) (k := k + 10) (i1 := i1) rh1 n3 n3c hzz]
    rfl
  rw [if_neg hzz] at r381
  obtain ⟨a, ea, al⟩ : ∃ a : Nat, i1 = Int32.ofNat a ∧ a < ka.2.2.2 := ⟨i1.toInt.toNat, of_toNat i1 (by omega) (by omega), by omega⟩
  subst ea
  have kf := k_find (L := L) (xs := xs) (zf := zf) (w := w) (k := k + 10) (i := a) rh1 n3 hn n3c (by omega)
  rw [if_pos al] at kf
  have cf : (dcV L xs (dM L xs zf w (k + 11)) 236 [2] (some 24) [.int (Int32.ofNat a)] h1).bind dxR = some (some (sg.2.2.2.2 a 0), h1) := by
    rw [cV_w rh1, kf]
    rfl
  have rf : (rM w (k2 + 4) 381 [.ref 36, .int (Int32.ofNat a)] s1).bind rxI = some ((1 : Int32), s1) := by rw [r381]; rfl
  by_cases n2 : i2.toInt < 0
  · have lt0 : mx_f1 .lt i2 = true := by rw [f1_lt]; exact decide_eq_true n2
    exact ⟨-1, h1, s1, b, m, 0, dep, mk, sa, sc, hdc _ (bse cf (ifn (fun z => by cases z) (ift lt0 rfl))), hdr _ (bse rf (ifn (show ¬ mx_f1 .eq (1 : Int32) = true by decide) (ift lt0 rfl))), ot1, cm1, tc1, l1, by omega⟩
  have lt0 : ¬ mx_f1 .lt i2 = true := by rw [f1_lt]; exact fun z => n2 (of_decide_eq_true z)
  obtain ⟨tot, ob4, ac, wa⟩ := wAl_tot wl
  obtain ⟨_, _, ⟨⟨m6, y1, y2⟩, ⟨f6, y3⟩, y4, _⟩⟩ := wl.2.2.2.2.2 a al
  have an : a < n := by omega
  have g4 : dgI L xs h1 4 [14] (some (sg.2.2.2.2 a 0)) = some (Int32.ofNat (ms.1 a)) := by rw [gA (L := L) (xs := xs) rh1 an (j := 4) (by omega), y1]
  have r94 : rs_aI s1 94 (Int32.ofNat a) = some (Int32.ofNat (ms.1 a)) := by rw [aI_at (by decide) rfl (by omega) (by decide), l1.2.1 94 (by decide), y2]
  by_cases gf : (ms.1 a : Int) ≤ i2.toInt
  · have nlt : ¬ mx_f2 .lt i2 (Int32.ofNat (ms.1 a)) = true := by
      rw [f2_lt, of_int (by omega)]
      exact fun z => absurd (of_decide_eq_true z) (by omega)
    exact ⟨-1, h1, s1, b, m, 0, dep, mk, sa, sc, hdc _ (bse cf (ifn (fun z => by cases z) (ifn lt0 (bse g4 (ifn nlt rfl))))), hdr _ (bse rf (ifn (show ¬ mx_f1 .eq (1 : Int32) = true by decide) (ifn lt0 (bse r94 (ifn nlt rfl))))), ot1, cm1, tc1, l1, by omega⟩
  obtain ⟨f, ef, lt⟩ : ∃ f : Nat, i2 = Int32.ofNat f ∧ f < ms.1 a := ⟨i2.toInt.toNat, of_toNat i2 (by omega) (by omega), by omega⟩
  subst ef
  have ylt : mx_f2 .lt (Int32.ofNat f) (Int32.ofNat (ms.1 a)) = true := by
    rw [f2_lt, of_int (by omega), of_int (by omega)]
    exact decide_eq_true (by omega)
  obtain ⟨o6, x1, _, ⟨x3, x4, x5, _, _, x8⟩, _, ⟨ts, t1, t2, t3, t4⟩, kn, _⟩ := y4 f lt
  have ks1 := kSh_m (Zb_5 z5 (oTx_b ot1).1) (tCh_f (Zx := Zx) tc1) ks
  have cb1 := CB_m (Zb_5 z5 (oTx_b ot1).1) (tCh_f (Zx := Zx) tc1) cb
  obtain ⟨M, hM, mz1⟩ := mSh_m (Zb_5 z5 (oTx_b ot1).1) (tCh_f (Zx := Zx) tc1) msh _ x8 x3
  obtain ⟨fs, q, pl, ar, cap, ds, ts', a1, a2, a3, a4, a5, a6, a7, a8, a9, a10, a11, a12⟩ := id mz1
  have et := pm_u a9 t1
  subst et
  have fx1 := fxR_4 wl.1 l1
  obtain ⟨h2, s2, g1, g2, b2, m2, c2, ot2, tc2, ol2, hc2⟩ := b_name (L := L) (xs := xs) (zf := zf) (w := w) (k := k + 2) (k2 := k2 + 2) (by omega) a8 ot1 (by omega)
  obtain ⟨h3, s3, b3, m3, e1, e2, ot3, tc3, ol3⟩ := l_cl (L := L) (xs := xs) (zf := zf) (w := w) (k := k + 3) (k2 := k2 + 3) (d := 40) ot2 (by omega) (by decide)
  have tc13 := tCh_t tc2 tc3
  have z53 : ¬ Zb Zx b3 5 := Zb_5 z5 (oTx_b ot3).1
  have l13 : oL4 s1 s3 := oL4_t (oL4_s ol2) (oL4_s ol3)
  have l03 := oL4_t l1 l13
  obtain ⟨h9, s9, b9, m9, c9, dep9, mk9, sa9, sc9, i1', i2', i3, i4, i5, i6, i7⟩ := pk_l (L := L) (xs := xs) (zf := zf) (w := w) (k := k) (k2 := k2) (sA0 := s) (a := a) (e0 := ms.2.1 a) (bt0 := f) (st := st + 1) hw z5 hz (wAl_ls wl (12 + (6 * a + ms.2.2.1 a f)) 107 (400 * (6 * a + ms.2.2.1 a f)) kn (Or.inr ⟨rfl, by omega, by omega, by rw [Nat.add_sub_cancel_left]⟩)) wa ob4 ac wl.1 tot x3 t1 t2 (by omega) an y3 f6 (by omega) (fun i t ht => ⟨(t4 i t ht).2.2.1, (t4 i t ht).2.2.2.1, (t4 i t ht).2.2.2.2⟩) ts'.length 0 h3 s3 b3 m3 (c2 + 1) dep mk sa sc w w (by omega) l03 (kSh_m z53 (tCh_f (Zx := Zx) tc13) ks1) (mS1_m z53 (tCh_f (Zx := Zx) tc13) mz1) (RH_tl rh1 hz ot1 tc13) ot3 (fun o ho => by rw [ol3.2.1 112 (by decide), ol2.2.1 112 (by decide)]; exact mr1 o ho) (by omega) (by omega) (by omega)
  have tc19 := tCh_t tc13 i4
  obtain ⟨ws, w1, w2, w3⟩ := hSo_t ⟨us, u1, u2, u3⟩ ot1 tc19
  refine ⟨Int32.ofNat c9, h9, s9, b9, m9, c9, dep9, mk9, sa9, sc9, hdc _ (bse cf (ifn (fun z => by cases z) (ifn lt0 (bse g4 (ift ylt (bse (hc_gR (p := some 30) u1 u3 (by decide)) (bse (hc_gR (p := some 24) u1 u2 (by decide)) (bse (a := h9) ?_ (bse (hc_gR (p := some 30) w1 w3 (by decide)) (bse (c_279 (k := k + 10) i3) rfl)))))))))), hdr _ (bse rf (ifn (show ¬ mx_f1 .eq (1 : Int32) = true by decide) (ifn lt0 (bse r94 (ift ylt (bse (a := Int32.ofNat (6 * a + ms.2.2.1 a f)) ?_ (bse (a := Int32.ofNat (ms.2.2.2.1 (6 * a + ms.2.2.1 a f))) ?_ (bse (a := sB.2.1 70 (ms.2.2.2.1 (6 * a + ms.2.2.1 a f))) ?_ ?_)))))))), i3, cMk_o cm1 i6, tCh_t tc1 tc19, oL4_t l03 i5, by omega⟩
  · rw [hc_v ot1.1 (by decide)]
    show (dM L xs zf w (k + 11) 281 [.ref 30, .ref 24, .ref (sg.2.2.2.2 a 0), .int (Int32.ofNat f)] h1).bind dxV = _
    rw [show dM L xs zf w (k + 11) 281 [.ref 30, .ref 24, .ref (sg.2.2.2.2 a 0), .int (Int32.ofNat f)] h1 = some (none, h9) from ?_]
    · rfl
    rw [e281]
    show b281_0 L xs zf (dM L xs zf w (k + 10)) w (some 30) (some 24) (some (sg.2.2.2.2 a 0)) (Int32.ofNat f) h1 = _
    unfold b281_0
    have ea : hc h1 (sg.2.2.2.2 a 0) = some (aCel sg a) := RH_a (r := 0) rh1 an (by decide)
    obtain ⟨pvs, _, _, _, _, _, _, _, _, hP1, _⟩ := id cb1
    refine bse (k_7P (L := L) (xs := xs) rh1) (ifn (fun z => by cases z) (bse (k_7P (L := L) (xs := xs) rh1) (bse (a := (Int32.ofNat (ms.2.2.2.1 (6 * a + ms.2.2.1 a f)), h1)) ?_ (bse (a := (some M, h1)) ?_ ?_))))
    · rw [hc_v ea (by decide), k_mm (k := k + 7) rh1 an y3 f6 (by omega), x5]
      rfl
    · rw [hc_v hP1 (by decide), k_meth (k := k + 6) cb1 hM ⟨fs, a1⟩ (by omega)]
      rfl
    unfold b281_23
    refine ifn (fun z => by cases z) (bse (hc_gR (p := some q) a1 a2 (by decide)) (bse (a := h2) ?_ (bse (a := h3) e1 i1')))
    rw [hc_v ot1.1 (by decide)]
    show (dM L xs zf w (k + 10) 277 [.ref 30, .ref q] h1).bind dxV = _
    rw [g1]
    rfl
  · rw [show (6 : Int32) = Int32.ofNat 6 from rfl, ← Int32.ofNat_mul, ← Int32.ofNat_add, aI_at (by decide) rfl (by omega) (by decide), l1.2.1 102 (by decide), x1]
  · rw [aI_at (by decide) rfl (by omega) (by decide), l1.2.1 103 (by decide), x4]
  · rw [aI_at (by decide) rfl (by omega) (by decide), fx1.1 70 (by decide)]
  · have tail : s412_75 (rM w (k2 + 4)) w (Int32.ofNat (6 * a + ms.2.2.1 a f)) (Int32.ofNat (ms.2.2.2.1 (6 * a + ms.2.2.1 a f))) (if sB.2.1 70 (ms.2.2.2.1 (6 * a + ms.2.2.1 a f)) = 0 then sB.2.2 39 2 else sB.2.2 78 (ms.2.2.2.1 (6 * a + ms.2.2.1 a f))) s1 = some (some (.int (Int32.ofNat c9)), s9) := by
      unfold s412_75
      exact bse (a := s2) (by rw [g2]; rfl) (bse (a := s3) e2 i2')
    by_cases e70 : sB.2.1 70 (ms.2.2.2.1 (6 * a + ms.2.2.1 a f)) = 0
    · rw [if_pos e70] at tail
      refine ifn (by rw [e70]; decide) (bse (a := sB.2.2 39 2) ?_ tail)
      rw [show (2 : Int32) = Int32.ofNat 2 from rfl, aJ_at (by decide) rfl (by decide) (by decide), fx1.2 39 (by decide)]
    · rw [if_neg e70] at tail
      refine ift ?_ (bse (a := sB.2.2 78 (ms.2.2.2.1 (6 * a + ms.2.2.1 a f))) ?_ tail)
      · rw [show mx_f1 .ne (sB.2.1 70 (ms.2.2.2.1 (6 * a + ms.2.2.1 a f))) = mx_f2 .ne (sB.2.1 70 (ms.2.2.2.1 (6 * a + ms.2.2.1 a f))) 0 from rfl, f2_ne]
        exact decide_eq_true e70
      · rw [aJ_at (by decide) rfl (by omega) (by decide), fx1.2 78 (by decide)]
/-- show and peek where nothing runs -/
theorem n_show {vs : List Value} (hw : 402 ≤ w) (hs : hSo h) (hW : hc h 24 = some (.inr (2, vs))) (h8 : vs[8]? = some (.int 0)) (h74 : s.1 74 = 0) (ot : oTx h s b m c st dep mk sa sc) (cm : cMk st mk sn) (hsn : sn ≤ 1000000) (i1 i2 : Int32) :
    ∃ (h' : rm_H) (s' : rS), dM L xs zf w (k + 12) 270 [.ref 21, .int i1, .int i2] h = some (some (.int (-1)), h') ∧ rM w (k2 + 5) 405 [.ref 36, .int i1, .int i2] s = some (some (.int (-1)), s') ∧ oTx h' s' b m 0 (st + 1) dep mk sa sc ∧ cMk (st + 1) mk (sn + 1) ∧ tCh h b m h' b m ∧ oL4 s s' := by
  obtain ⟨h1, s1, c1, r1, ot1, tc1, l1, z1⟩ := b_clr (L := L) (xs := xs) (zf := zf) (w := w) (k := k + 7) (k2 := k2 + 3) hw ot
  obtain ⟨vs', v1, v2, v3⟩ := id hs
  obtain ⟨us, u1, u2, u3⟩ := hSo_t hs ot tc1
  have hW1 : hc h1 24 = some (.inr (2, vs)) := tc1.1 _ _ hW (Or.inl (by decide)) (fun z => by
    obtain ⟨_, f, hb⟩ := oTx_b ot
    rw [z, hb] at hW
    cases hW)
  refine ⟨h1, s1, ?_, ?_, ot1, (cMk_n cm hsn).1, tc1, l1⟩
  · rw [e270]
    show b270_0 L xs zf (dM L xs zf w (k + 11)) w (some 21) i1 i2 h = _
    unfold b270_0
    refine bse (hc_gR (p := some 30) v1 v3 (by decide)) (bse (a := h1) (by rw [hc_v ot.1 (by decide), c1]; rfl) (bse (hc_gR (p := some 24) u1 u2 (by decide)) (bse (a := (none, h1)) ?_ (ift rfl rfl))))
    rw [hc_v hW1 (by decide), c_236z (k := k + 10) hW1 h8]
    rfl
  · rw [y405]
    show s405_0 (rM w (k2 + 4)) w i1 i2 s = _
    unfold s405_0
    exact bse (a := s1) (by rw [r1]; rfl) (bse (a := ((0 : Int32), s1)) (by rw [r_381z (k := k2 + 3) (by rw [l1.1 74 (by decide)]; exact h74)]; rfl) (ift (show mx_f1 .eq (0 : Int32) = true by decide) rfl))
theorem n_peek {vs : List Value} (hw : 402 ≤ w) (hs : hSo h) (hW : hc h 24 = some (.inr (2, vs))) (h8 : vs[8]? = some (.int 0)) (h74 : s.1 74 = 0) (ot : oTx h s b m c st dep mk sa sc) (cm : cMk st mk sn) (hsn : sn ≤ 1000000) (i1 i2 : Int32) :
    ∃ (h' : rm_H) (s' : rS), dM L xs zf w (k + 12) 280 [.ref 21, .int i1, .int i2] h = some (some (.int (-1)), h') ∧ rM w (k2 + 5) 412 [.ref 36, .int i1, .int i2] s = some (some (.int (-1)), s') ∧ oTx h' s' b m 0 (st + 1) dep mk sa sc ∧ cMk (st + 1) mk (sn + 1) ∧ tCh h b m h' b m ∧ oL4 s s' := by
  obtain ⟨h1, s1, c1, r1, ot1, tc1, l1, z1⟩ := b_clr (L := L) (xs := xs) (zf := zf) (w := w) (k := k + 7) (k2 := k2 + 3) hw ot
  obtain ⟨vs', v1, v2, v3⟩ := id hs
  obtain ⟨us, u1, u2, u3⟩ := hSo_t hs ot tc1
  have hW1 : hc h1 24 = some (.inr (2, vs)) := tc1.1 _ _ hW (Or.inl (by decide)) (fun z => by
    obtain ⟨_, f, hb⟩ := oTx_b ot
    rw [z, hb] at hW
    cases hW)
  refine ⟨h1, s1, ?_, ?_, ot1, (cMk_n cm hsn).1, tc1, l1⟩
  · rw [e280]
    show b280_0 L xs zf (dM L xs zf w (k + 11)) w (some 21) i1 i2 h = _
    unfold b280_0
    refine bse (hc_gR (p := some 30) v1 v3 (by decide)) (bse (a := h1) (by rw [hc_v ot.1 (by decide), c1]; rfl) (bse (hc_gR (p := some 24) u1 u2 (by decide)) (bse (a := (none, h1)) ?_ (ift rfl rfl))))
    rw [hc_v hW1 (by decide), c_236z (k := k + 10) hW1 h8]
    rfl
  · rw [y412]
    show s412_0 (rM w (k2 + 4)) w i1 i2 s = _
    unfold s412_0
    exact bse (a := s1) (by rw [r1]; rfl) (bse (a := ((0 : Int32), s1)) (by rw [r_381z (k := k2 + 3) (by rw [l1.1 74 (by decide)]; exact h74)]; rfl) (ift (show mx_f1 .eq (0 : Int32) = true by decide) rfl))
end PE2
