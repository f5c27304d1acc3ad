/-! SHOW BY BOTH (270 / 405). -/
/-- the house's own cell -/
def hSo (h : rm_H) : Prop := ∃ vs, hc h 21 = some (.inr (0, vs)) ∧ vs[1]? = some (.ref 24) ∧ vs[2]? = some (.ref 30)
/-- marks are of earlier countings -/
def cMk (st : Int32) (mk : Nat → Int32) (sn : Nat) : Prop := st = Int32.ofNat sn ∧ ∀ o, o ≤ 400 → ∃ x, x ≤ sn ∧ mk o = Int32.ofNat x
section SHO
variable {L : Nat} {xs : Nat → Int32} {zf : Value} {w k k2 n P b m c t N cn sn a : Nat} {st dep i1 i2 : Int32} {h h' : rm_H} {s s' sB : rS} {Zx : Nat → Prop} {kc : kCi} {sg : cS} {ka : kAp} {om : oMg} {la : lAy} {ms : mSg} {mk mk' sa sc A B : Nat → Int32} {mi : Nat → Nat × Nat × Nat × Nat × Nat} {D : Nat → Nat} {x : Nat → Nat → fDs} {v : Int64}
theorem hSo_t {b' m' : Nat} (hs : hSo h) (ot : oTx h s b m c st dep mk sa sc) (t : tCh h b m h' b' m') : hSo h' := by
  obtain ⟨vs, h1, h2, h3⟩ := hs
  refine ⟨vs, t.1 _ _ h1 (Or.inl (by decide)) (fun z => ?_), h2, h3⟩
  obtain ⟨_, f, hb⟩ := oTx_b ot
  rw [z, hb] at h1
  cases h1
theorem cMk_n (cm : cMk st mk sn) (hs : sn ≤ 1000000) : cMk (st + 1) mk (sn + 1) ∧ ∀ o, o ≤ 400 → mk o ≠ st + 1 := by
  obtain ⟨rfl, e⟩ := cm
  refine ⟨⟨of_inc sn, fun o ho => ?_⟩, fun o ho z => ?_⟩
  · obtain ⟨y, h1, h2⟩ := e o ho
    exact ⟨y, by omega, h2⟩
  · obtain ⟨y, h1, h2⟩ := e o ho
    rw [h2, of_inc] at z
    have z := congrArg Int32.toInt z
    rw [of_int (by omega), of_int (by omega)] at z
    omega
theorem cMk_o (cm : cMk st mk sn) (e : ∀ o, mk' o = mk o ∨ mk' o = st) : cMk st mk' sn := by
  refine ⟨cm.1, fun o ho => ?_⟩
  rcases e o with z | z
  · rw [z]
    exact cm.2 o ho
  · exact ⟨sn, Nat.le_refl _, z.trans cm.1⟩
/-- both forget what was told -/
theorem b_clr (hw : 402 ≤ w) (ot : oTx h s b m c st dep mk sa sc) : ∃ h' s', dM L xs zf w (k + 4) 217 [.ref 30] h = some (none, h') ∧ rM w (k2 + 1) 406 [.ref 36] s = some (none, s') ∧ oTx h' s' b m 0 (st + 1) dep mk sa sc ∧ tCh h b m h' b m ∧ oL4 s s' ∧ ∀ j, j < 401 → s'.2.1 112 j = 0 := by
  obtain ⟨h30, h33, h34, h35, s111, n, ml, f, hS, hl⟩ := ot
  obtain ⟨h', ml', a1, a2, a3, a4, a5, a6⟩ := c_217 (L := L) (xs := xs) (zf := zf) (w := w) (k := k) h30 hS
  obtain ⟨g', r1, r2⟩ := r_406 (w := w) (k := k2) (s := s) hw
  refine ⟨h', _, a1, r1, ⟨a2, ?_, ?_, ?_, rfl, 0, ml', f, a3, by decide, (show (0 : Int) ≤ (upd s.1 111 0 111).toInt by rw [upd_eq']; decide), (show ((0 : Nat) : Int) = min (upd s.1 111 0 111).toInt 3000 by rw [upd_eq']; decide), fun i hi => absurd hi (by omega)⟩, ⟨fun y e he hy _ => by rw [a6 y (by omega) (by omega)]; exact he, Nat.le_refl _, by rw [a5]; exact Nat.le_refl _, by rw [a4]; exact Nat.le_refl _, by rw [a4]; exact Nat.le_refl _, Or.inl rfl⟩, ⟨fun p hp => upd_ne' hp, fun p hp => if_neg (by omega), rfl⟩, fun j hj => ?_⟩
  · rw [a6 33 (by decide) (by decide)]; exact h33
  · rw [a6 34 (by decide) (by decide)]; exact h34
  · rw [a6 35 (by decide) (by decide)]; exact h35
  · show (if (112 : Nat) = 112 then g' else (rs_w s 111 0).2.1 112) j = 0
    rw [if_pos rfl]
    exact r2 j hj
theorem vTy_z (dt : dTy t = true) (vt : vTy ka a t v) : vTy ka 0 t v := by
  have h6 : ∀ t, t < 72 → dTy t = true → t % 8 ≠ 6 := by decide +kernel
  have := h6 t (dTy_lt dt) dt
  rcases vt with u | u | u | u | ⟨_, u, _⟩
  · exact Or.inl u
  · exact Or.inr (Or.inl u)
  · exact Or.inr (Or.inr (Or.inl u))
  · exact Or.inr (Or.inr (Or.inr (Or.inl u)))
  · omega
/-- what a run is for the loop, for owner d -/
theorem wAl_ls (wl : wAl sB kc om ka la ms N cn sg s D) (d row bs : Nat) (hk : wKn kc om ka la s d) (hr : (row = 96 ∧ d < 12 ∧ bs = 400 * d) ∨ (row = 107 ∧ 12 ≤ d ∧ d < 84 ∧ bs = 400 * (d - 12))) : lSh kc om ka la sg s (om.2.2.2.1 d) row bs := by
  obtain ⟨fx, gi, wn, wo, wd, wa⟩ := wl
  obtain ⟨cl, mb, tn, ⟨_, _, n1⟩, _, _, _, ⟨_, _, n2⟩, ⟨_, n3⟩, _⟩ := wn
  refine ⟨fun o o1 o2 => ?_, fun o ho => ?_, ?_⟩
  · obtain ⟨⟨k1, k2, k3⟩, q1, q2, q3, q4, q5, q6, q7⟩ := wo o o1 o2
    exact ⟨⟨k1, k3⟩, q1, q2, q3, q4, by omega, by omega, fun f hf => (q7 f hf).2⟩
  · obtain ⟨⟨z1, z2⟩, _, z3⟩ := hk o ho
    refine ⟨z1, z2, fun f hf => ⟨?_, (z3 f hf).2⟩⟩
    have e := (z3 f hf).1
    unfold cPy at e
    rcases hr with ⟨rfl, h1, rfl⟩ | ⟨rfl, h1, h2, rfl⟩
    · rw [if_pos h1, ← Nat.add_assoc] at e
      exact e
    · rw [if_neg (by omega), ← Nat.add_assoc] at e
      exact e
  · rcases hr with ⟨rfl, h1, rfl⟩ | ⟨rfl, h1, h2, rfl⟩
    · exact Or.inl ⟨rfl, by omega⟩
    · exact Or.inr ⟨rfl, by omega⟩
theorem wAl_tot (wl : wAl sB kc om ka la ms N cn sg s D) : sU (fun i => (kc (ka.1 (i + 1))).1 + 1) ka.2.2.1 ≤ 400 ∧ ka.2.2.1 ≤ 400 ∧ ka.2.2.2 ≤ 12 ∧ ∀ a, a < ka.2.2.2 → ka.2.1 a < 8 ∧ (kc (ka.2.1 a)).1 ≤ 8 ∧ s.2.1 89 a = Int32.ofNat (ka.2.1 a) := by
  obtain ⟨fx, gi, wn, wo, wd, wa⟩ := wl
  obtain ⟨cl, mb, tn, ⟨_, _, n1⟩, _, ⟨_, _, n4⟩, _, ⟨_, _, n2⟩, ⟨_, n3⟩, _⟩ := wn
  refine ⟨tot_4 (la := la) (fun o o' h1 h2 h3 => (wd.1 o o' h1 h2 h3).1) (fun o o1 o2 => ?_), by omega, n4, fun a ha => ?_⟩
  · obtain ⟨_, _, _, _, _, q5, _⟩ := wo o o1 o2
    omega
  · obtain ⟨_, ⟨⟨_, _, y3, y4, y5⟩, ⟨_, y6⟩, _⟩, _⟩ := wa a ha
    exact ⟨y3, y5, y6⟩
/-- the end of a telling -/
theorem c_279 (ot : oTx h s b m c st dep mk sa sc) : (dcV L xs (dM L xs zf w (k + 1)) 279 [3] (some 30) [] h).bind dxI = some (Int32.ofNat c, h) := by
  rw [hc_v ot.1 (by decide), e279]
  show (b279_0 L xs zf (dM L xs zf w k) w (some 30) h).bind dxI = _
  unfold b279_0
  refine bse (a := (some (.int (Int32.ofNat c)), h)) (bse (hc_gI ot.1 rfl (by decide)) rfl) rfl
/-- SHOW BY BOTH, of a run -/
theorem b_show (hw : 500 ≤ w) (hs : hSo h) (z5 : ¬ Zx 5) (hz : ∀ y, Zr n sg y → y < 30 ∨ 35 < y) (ks : kSh L xs sB kc h (Zb Zx b) P) (rh : RH (.ref P) n sg (Zr n sg) h h) (hn : ka.2.2.2 ≤ n) (ru : rUn sB A B mi kc om ka la ms N cn sg s D x) (ot : oTx h s b m c st dep mk sa sc) (cm : cMk st mk sn) (hsn : sn ≤ 1000000) (i1 i2 : Int32) :
    ∃ (r : Int32) (h' : rm_H) (s' : rS) (b' m' c' : Nat) (dep' : Int32) (mk' sa' sc' : Nat → Int32), dM L xs zf w (k + 12) 270 [.ref 21, .int i1, .int i2] h = some (some (.int r), h') ∧ rM w (k2 + 5) 405 [.ref 36, .int i1, .int i2] s = some (some (.int r), s') ∧ oTx h' s' b' m' c' (st + 1) dep' mk' sa' sc' ∧ cMk (st + 1) mk' (sn + 1) ∧ tCh h b m h' b' m' ∧ oL4 s s' ∧ c' ≤ 30000 := by
  obtain ⟨h1, s1, c1, r1, ot1, tc1, l1, z1⟩ := b_clr (L := L) (xs := xs) (zf := zf) (w := w) (k := k + 7) (k2 := k2 + 3) (by omega) ot
  obtain ⟨cm1, nm1⟩ := cMk_n cm hsn
  obtain ⟨vs, v1, v2, v3⟩ := id hs
  obtain ⟨us, u1, u2, u3⟩ := hSo_t hs ot tc1
  have rh1 := RH_tl rh hz ot tc1
  have wl := ru.1
  obtain ⟨clm, mb, tn, _, _, ⟨n3, n3b, n3c⟩, _, _, _, _, _, _, n10, _⟩ := id wl.2.2.1
  have hdc : ∀ X, ((dcV L xs (dM L xs zf w (k + 11)) 236 [2] (some 24) [.int i1] h1).bind dxR).bind (fun p9 => if dnl p9.1 = true then b270_40 L xs zf (dM L xs zf w (k + 11)) w p9.2 else if mx_f1 .lt i2 = true then b270_40 L xs zf (dM L xs zf w (k + 11)) w p9.2 else (dgR L xs p9.2 1 [14] p9.1).bind fun p19 => (dgR L xs p9.2 4 [9] p19).bind fun p21 => ((dcV L xs (dM L xs zf w (k + 11)) 101 [5] p21 [] p9.2).bind dxI).bind fun x23 => if mx_f2 .lt i2 x23.1 = true then (dgR L xs x23.2 2 [0] (some 21)).bind fun p28 => (dgR L xs x23.2 1 [0] (some 21)).bind fun p30 => ((dcV L xs (dM L xs zf w (k + 11)) 271 [3] p28 [va_rf p30, va_rf p9.1, .int i2] x23.2).bind dxV).bind fun h32 => (dgR L xs h32 2 [0] (some 21)).bind fun p36 => ((dcV L xs (dM L xs zf w (k + 11)) 279 [3] p36 [] h32).bind dxI).bind fun x38 => drI (some .int) x38.1 x38.2 else b270_40 L xs zf (dM L xs zf w (k + 11)) w x23.2) = some X → dM L xs zf w (k + 12) 270 [.ref 21, .int i1, .int i2] h = some X := by
    intro X hX
    rw [e270]
    show b270_0 L xs zf (dM L xs zf w (k + 11)) w (some 21) i1 i2 h = _
    unfold b270_0
    refine bse (hc_gR (p := some 30) v1 v3 (by decide)) (bse (a := h1) ?_ (bse (hc_gR (p := some 24) u1 u2 (by decide)) hX))
    rw [hc_v ot.1 (by decide), c1]
    rfl
  have hdr : ∀ X, ((rM w (k2 + 4) 381 [.ref 36, .int i1] s1).bind rxI).bind (fun x6 => if mx_f1 .eq x6.1 = true then s405_30 (rM w (k2 + 4)) w x6.2 else if mx_f1 .lt i2 = true then s405_30 (rM w (k2 + 4)) w x6.2 else (rs_aI x6.2 89 i1).bind fun x13 => ((rM w (k2 + 4) 373 [.ref 36, .int x13] x6.2).bind rxI).bind fun x15 => if mx_f2 .lt i2 x15.1 = true then (rs_aJ x15.2 95 ((8 * i1) + i2)).bind fun y21 => ((rM w (k2 + 4) 407 [.ref 36, .long y21, .ref 96, .int (400 * i1)] x15.2).bind rxV).bind fun s23 => rrI (some .int) (s23.1 111) s23 else s405_30 (rM w (k2 + 4)) w x15.2) = some X → rM w (k2 + 5) 405 [.ref 36, .int i1, .int i2] s = some X := by
    intro X hX
    rw [y405]
    show s405_0 (rM w (k2 + 4)) w i1 i2 s = _
    unfold s405_0
    exact bse (a := s1) (by rw [r1]; rfl) hX
  have r381 := r_381 (w := w) (k := k2 + 3) (i1 := i1) (s := s1) (ac := ka.2.2.2) (by rw [l1.1 74 (by decide)]; exact n10) (by rw [l1.1 75 (by decide)]; exact n3b) n3c
  have mr1 : ∀ o, o ≤ 400 → s1.2.1 112 o = if mk o = st + 1 then 1 else 0 := fun o ho => by rw [z1 o (by omega), if_neg (nm1 o ho)]
  by_cases hzz : i1.toInt < 0 ∨ (ka.2.2.2 : Int) ≤ i1.toInt
  · rw [if_pos hzz] at r381
    refine ⟨-1, h1, s1, b, m, 0, dep, mk, sa, sc, hdc _ (bse (a := (none, h1)) ?_ (ift rfl rfl)), hdr _ (bse (a := ((0 : Int32), s1)) (by rw [r381]; rfl) (ift (show mx_f1 .eq (0 : Int32) = true by decide) rfl)), ot1, cm1, tc1, l1, by omega⟩
    rw [cV_w rh1, k_findN (L := L) (xs := xs) (zf := zf) (w := w) (k := k + 10) (i1 := i1) rh1 n3 n3c hzz]
    rfl
  rw [if_neg hzz] at r381
  obtain ⟨a, ea, al⟩ : ∃ a : Nat, i1 = Int32.ofNat a ∧ a < ka.2.2.2 := ⟨i1.toInt.toNat, of_toNat i1 (by omega) (by omega), by omega⟩
  subst ea
  have kf := k_find (L := L) (xs := xs) (zf := zf) (w := w) (k := k + 10) (i := a) rh1 n3 hn n3c (by omega)
  rw [if_pos al] at kf
  have cf : (dcV L xs (dM L xs zf w (k + 11)) 236 [2] (some 24) [.int (Int32.ofNat a)] h1).bind dxR = some (some (sg.2.2.2.2 a 0), h1) := by
    rw [cV_w rh1, kf]
    rfl
  have rf : (rM w (k2 + 4) 381 [.ref 36, .int (Int32.ofNat a)] s1).bind rxI = some ((1 : Int32), s1) := by rw [r381]; rfl
  by_cases n2 : i2.toInt < 0
  · have lt0 : mx_f1 .lt i2 = true := by rw [f1_lt]; exact decide_eq_true n2
    exact ⟨-1, h1, s1, b, m, 0, dep, mk, sa, sc, hdc _ (bse cf (ifn (fun z => by cases z) (ift lt0 rfl))), hdr _ (bse rf (ifn (show ¬ mx_f1 .eq (1 : Int32) = true by decide) (ift lt0 rfl))), ot1, cm1, tc1, l1, by omega⟩
  have lt0 : ¬ mx_f1 .lt i2 = true := by rw [f1_lt]; exact fun z => n2 (of_decide_eq_true z)
  obtain ⟨tot, ob4, ac, wa⟩ := wAl_tot wl
  obtain ⟨knA, ⟨⟨_, y2, y3, y4, y4b⟩, ⟨y5, y5b⟩, _, _, y6, _, y7⟩, _⟩ := wl.2.2.2.2.2 a al
  have ks1 := kSh_m (Zb_5 z5 (oTx_b ot1).1) (tCh_f (Zx := Zx) tc1) ks
  have kz := ks_K ks1 y3 y4b
  obtain ⟨fs, nq, fl, af, cf', f0, ds, q1, q2, q3, q4, q5, q6, q7, q8, q9, q10, q11, q12, q13⟩ := id kz
  have an : a < n := by omega
  have K0 : (kc (ka.2.1 a)).2.2 ≠ 0 := by
    have := hc_ge q1
    omega
  have gk := k_kind (L := L) (xs := xs) rh1 an y2 K0
  have sz : (dcV L xs (dM L xs zf w (k + 11)) 101 [5] (some fl) [] h1).bind dxI = some (Int32.ofNat ds.length, h1) := by
    rw [al_v q4, al_size q4]
    rfl
  have fx1 := fxR_4 wl.1 l1
  have r373 : (rM w (k2 + 4) 373 [.ref 36, .int (Int32.ofNat (ka.2.1 a))] s1).bind rxI = some (Int32.ofNat ds.length, s1) := by
    rw [r_373 (k := k2 + 3) (nf := ds.length) (f0 := f0) y3 (by rw [fx1.1 64 (by decide)]; exact q10) (by rw [fx1.1 64 (by decide)]; exact q11) (by omega)]
    rfl
  have r89 : rs_aI s1 89 (Int32.ofNat a) = some (Int32.ofNat (ka.2.1 a)) := by rw [aI_at (by decide) rfl (by omega) (by decide), l1.2.1 89 (by decide), y5b]
  by_cases gf : (ds.length : Int) ≤ i2.toInt
  · have nlt : ¬ mx_f2 .lt i2 (Int32.ofNat ds.length) = true := by
      rw [f2_lt, of_int (by omega)]
      exact fun z => absurd (of_decide_eq_true z) (by omega)
    exact ⟨-1, h1, s1, b, m, 0, dep, mk, sa, sc, hdc _ (bse cf (ifn (fun z => by cases z) (ifn lt0 (bse gk (bse (hc_gR (p := some fl) q1 q3 (by decide)) (bse sz (ifn nlt rfl))))))), hdr _ (bse rf (ifn (show ¬ mx_f1 .eq (1 : Int32) = true by decide) (ifn lt0 (bse r89 (bse r373 (ifn nlt rfl)))))), ot1, cm1, tc1, l1, by omega⟩
  obtain ⟨f, ef, lt⟩ : ∃ f : Nat, i2 = Int32.ofNat f ∧ f < ds.length := ⟨i2.toInt.toNat, of_toNat i2 (by omega) (by omega), by omega⟩
  subst ef
  have ylt : mx_f2 .lt (Int32.ofNat f) (Int32.ofNat ds.length) = true := by
    rw [f2_lt, of_int (by omega), of_int (by omega)]
    exact decide_eq_true (by omega)
  obtain ⟨d, hd⟩ : ∃ d, ds[f]? = some d := ⟨ds[f]'lt, List.getElem?_eq_getElem lt⟩
  obtain ⟨dfs, dq, d1, d2, d3, d4, d5, d6⟩ := q13 f d hd
  obtain ⟨_, _, vt, hcv, h95⟩ := y7 f (by omega)
  obtain ⟨h9, s9, b9, m9, c9, mk9, sa9, sc9, i1', i2', i3, i4, i5, ⟨i6, i6b⟩, i7⟩ := b_273 (L := L) (xs := xs) (zf := zf) (w := w) (k := k) (k2 := k2) hw z5 hz (wAl_ls wl a 96 (400 * a) knA (Or.inl ⟨rfl, by omega, rfl⟩)) wa ob4 ac wl.1 tot l1 ks1 rh1 ot1 mr1 (by omega) d6 (vTy_z d6 vt.1) vt.2
  obtain ⟨ws, w1, w2, w3⟩ := hSo_t ⟨us, u1, u2, u3⟩ ot1 i4
  refine ⟨Int32.ofNat c9, h9, s9, b9, m9, c9, 0, mk9, sa9, sc9, hdc _ (bse cf (ifn (fun z => by cases z) (ifn lt0 (bse gk (bse (hc_gR (p := some fl) q1 q3 (by decide)) (bse sz (ift ylt (bse (hc_gR (p := some 30) u1 u3 (by decide)) (bse (hc_gR (p := some 24) u1 u2 (by decide)) (bse (a := h9) ?_ (bse (hc_gR (p := some 30) w1 w3 (by decide)) (bse (c_279 (k := k + 10) i3) rfl)))))))))))), hdr _ (bse rf (ifn (show ¬ mx_f1 .eq (1 : Int32) = true by decide) (ifn lt0 (bse r89 (bse r373 (ift ylt (bse (a := om.1 (pF a f)) ?_ (bse (a := s9) ?_ ?_)))))))), i3, cMk_o cm1 i6b, tCh_t tc1 i4, oL4_t l1 i5, by omega⟩
  · rw [hc_v ot1.1 (by decide)]
    show (dM L xs zf w (k + 11) 271 [.ref 30, .ref 24, .ref (sg.2.2.2.2 a 0), .int (Int32.ofNat f)] h1).bind dxV = _
    rw [show dM L xs zf w (k + 11) 271 [.ref 30, .ref 24, .ref (sg.2.2.2.2 a 0), .int (Int32.ofNat f)] h1 = some (none, h9) from ?_]
    · rfl
    rw [e271]
    show b271_0 L xs zf (dM L xs zf w (k + 10)) w (some 30) (some 24) (some (sg.2.2.2.2 a 0)) (Int32.ofNat f) h1 = _
    unfold b271_0
    refine bse (k_7P (L := L) (xs := xs) rh1) (ifn (fun z => by cases z) (ifn lt0 (bse gk (bse (hc_gR (p := some fl) q1 q3 (by decide)) (bse (a := (Int32.ofNat ds.length, h1)) (by rw [al_v q4, al_size q4]; rfl) (ifn ?_ (bse gk (bse (hc_gR (p := some fl) q1 q3 (by decide)) (bse (a := (some d, h1)) (by rw [al_v q4, al_get (k := k + 7) q4 f hd]; rfl) (ifn (by rw [ck_of d1]; decide) (bse (hc_gI d1 d3 (by decide)) (bse (a := Int32.ofNat (la.2.1 a)) ?_ (bse (a := (cvl (om.1 (pF a f)), h1)) ?_ (bse (a := h9) ?_ rfl))))))))))))))
    · rw [f2_ge, of_int (by omega), of_int (by omega)]
      exact fun z => absurd (of_decide_eq_true z) (by omega)
    · rw [gA (L := L) (xs := xs) rh1 an (j := 2) (by omega), y5]
    · show (dcV L xs (dM L xs zf w (k + 10)) 272 [2] (some 24) [.int ((Int32.ofNat (la.2.1 a) + 1) + Int32.ofNat f)] h1).bind dxI = _
      rw [cV_w rh1, of_inc, ← Int32.ofNat_add, k_272 (k := k + 9) rh1 (by
        obtain ⟨cl, mb', tn', ⟨_, _, n1⟩, _, _, _, ⟨_, _, n2'⟩, _⟩ := wl.2.2.1
        omega), hcv]
      rfl
    · rw [hc_v ot1.1 (by decide)]
      show (dM L xs zf w (k + 10) 273 [.ref 30, .ref 24, .int (cT ((kc (ka.2.1 a)).2.1 f)), .int (cvl (om.1 (pF a f)))] h1).bind dxV = _
      rw [i1']
      rfl
  · rw [show (8 : Int32) = Int32.ofNat 8 from rfl, ← Int32.ofNat_mul, ← Int32.ofNat_add, aJ_at (by decide) rfl (by omega) (by decide), l1.2.2, h95]
  · rw [show (400 : Int32) * Int32.ofNat a = Int32.ofNat (400 * a) from by rw [Int32.ofNat_mul]; rfl, i2']
    rfl
  · rw [i3.2.2.2.2.1]
    rfl
end SHO
