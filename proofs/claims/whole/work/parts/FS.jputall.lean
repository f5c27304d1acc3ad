/-! BOTH CHECK: put. -/
section ZVR
variable {L : Nat} {xs : Nat → Int32} {zf : Value} {w k C Sc M pl ph K p p0 n m ke q0 q1 : Nat} {cx : Nat → Nat} {hB h h1 h2 : rm_H} {pt vr gn rc a b x y t : Int32} {mv : Value} {ds kl es : List Nat} {f : Nat → Int64} {sl ty : Nat → Int32} {u u1 u2 : Nat → Nat} {A B : Nat → Int32}
/-- behind a fault: the field, when what is ahead was walked -/
theorem zk_191r {q pa ps : Nat} {c : Int64} {spl s1 s2 : Int32} (e6 : fd hB 12 p 6 = some (.ref pa)) (ea : fd hB 12 pa 1 = some (.int s1)) (e2 : fd hB 12 p 2 = some (.ref q)) (hq : nS L xs hB q c) (e3 : fd hB 12 p 3 = some (.int spl)) (es1 : fd hB 12 ps 1 = some (.int s2)) (hw : 200 ≤ w) (k' j : Nat) (ev1 : EV L xs cx C Sc M pt vr mv ds f sl ty rc a b kl hB h1 u1) (hz : u1 2 + 1 ≤ 9000) (t sw ta : Int32) : ∃ t' h' u', b191r L xs zf (dM L xs zf w (k' + j + 6)) w (some C) (some p) (some ps) t sw ta h1 = some (some (.int t'), h') ∧ ZR L xs cx C Sc M pl ph pt vr mv ds f sl ty rc a b h1 u1 1 h' u' := by
  obtain ⟨z1, ge1, _, nb1, ha⟩ := id ev1
  generalize hkk : k' + j + 6 = kk
  have kk6 : kk = (k' + j) + 6 := hkk.symm
  have rf : ∀ x y, (dcV L xs (dM L xs zf w kk) 178 [13] (some C) [.int x, .int y] h1).bind dxV = some h1 := fun x y => by
    rw [kk6]
    exact zk_ref (k := k' + j + 5) z1 ha x y
  obtain ⟨o, o1, o2⟩ := zk_192 (zf := zf) (w := w) (k := k' + j) z1 ha ge1 (nb1.1 _ _ _ (by decide) e6) (nb1.1 _ _ _ (by decide) ea) (nb1.1 _ _ _ (by decide) e2) (nb1.2.2.1 _ _ hq) (nb1.1 _ _ _ (by decide) e3) ta hw
  rw [← kk6] at o1
  have g3 : dgI L xs h1 3 [12] (some p) = some spl := fd_I (nb1.1 _ _ _ (by decide) e3) (by decide)
  cases o with
  | none =>
    refine ⟨2, h1, u1, ?_, ZR_refl z1⟩
    unfold b191r
    exact bsq o1 (itq rfl rfl)
  | some d =>
    obtain ⟨c0, s0, x0, ed⟩ := o2 d rfl
    obtain ⟨gn, A, B, kh⟩ := id z1
    have so : (dM L xs zf w kk 159 [.int t] h1).bind dxI = some (t &&& 15, h1) := by rw [kk6]; exact t_so (k := k' + j + 5) t h1
    have cp : ∀ t, (dM L xs zf w kk 160 [.int t] h1).bind dxI = some ((t >>> ((8 : Int32) &&& 31)) &&& 7, h1) := fun t => by rw [kk6]; exact t_cp (k := k' + j + 5) t h1
    generalize hi7 : (ta >>> ((8 : Int32) &&& 31)) &&& 7 = i7
    have slb : (dcV L xs (dM L xs zf w kk) 196 [13] (some C) [.int ta, va_rf (some d)] h1).bind dxI = some (slB ta s0, h1) := by rw [kk6]; exact ck_slB (k := k' + j + 4) z1 ed ta
    have fit : (dcV L xs (dM L xs zf w kk) 188 [13] (some C) [va_rf (some ps), .int t, .int x0] h1).bind dxV = some h1 := by rw [kk6]; exact zk_188 (k := k' + j + 3) z1 ha (nb1.1 _ _ _ (by decide) es1) t x0
    have g7 : dgI L xs h1 7 [10] (some d) = some x0 := fd_I ed.2.2 (by decide)
    have f100 : ∃ t' h' u', b191_100 L xs zf (dM L xs zf w kk) w (some C) (some p) sw ta (some d) i7 h1 = some (some (.int t'), h') ∧ ZR L xs cx C Sc M pl ph pt vr mv ds f sl ty rc a b h1 u1 1 h' u' := by
      have f116 : ∀ op, ∃ t' h' u', b191_116 L xs zf (dM L xs zf w kk) w (some C) (some p) sw ta (some d) i7 op (some (cx 8)) h1 = some (some (.int t'), h') ∧ ZR L xs cx C Sc M pl ph pt vr mv ds f sl ty rc a b h1 u1 1 h' u' := by
        intro op
        obtain ⟨h', u', m1, m2⟩ := zk_emit (pl := pl) (ph := ph) (zf := zf) (w := w) (k := k' + j + 3) z1 (by omega) op (slB ta s0)
        rw [show k' + j + 3 + 3 = kk from by omega] at m1
        have ev2 := EV_s ev1 m2
        have rf2 : ∀ x y, (dcV L xs (dM L xs zf w kk) 178 [13] (some C) [.int x, .int y] h').bind dxV = some h' := fun x y => by
          rw [kk6]
          exact zk_ref (k := k' + j + 5) ev2.1 ha x y
        have g7' : dgI L xs h' 7 [10] (some d) = some x0 := fd_I (wF_dSn kh m2.2.1 ed).2.2 (by decide)
        have bh : (dM L xs zf w kk 197 [va_rf (some 3), .int i7, .int x0] h').bind dxI = some (bhC 3 i7 x0, h') := by rw [kk6]; exact t_bh (k := k' + j + 4) (q := 3) (by decide) i7 x0 h'
        have g3' : dgI L xs h' 3 [12] (some p) = some spl := fd_I (ev2.2.2.2.1.1 _ _ _ (by decide) e3) (by decide)
        have hd' : ∀ r, (if mx_f2 .ne (bhC 3 i7 x0) (-1) = true then drI (some .int) (bhC 3 i7 x0) h' else if mx_f1 .eq sw = true then b191_164 L xs zf (dM L xs zf w kk) w h' else (dgI L xs h' 3 [12] (some p)).bind fun x24 => ((dcV L xs (dM L xs zf w kk) 178 [13] (some C) [.int 6, .int x24] h').bind dxV).bind fun h26 => b191_164 L xs zf (dM L xs zf w kk) w h26) = r → b191_116 L xs zf (dM L xs zf w kk) w (some C) (some p) sw ta (some d) i7 op (some (cx 8)) h1 = r := by
          intro r er
          unfold b191_116
          exact bsq slb (bsq m1 (bsq g7' (bsq bh er)))
        by_cases c1 : mx_f2 .ne (bhC 3 i7 x0) (-1) = true
        · exact ⟨bhC 3 i7 x0, h', u', hd' _ (itq c1 rfl), m2⟩
        · by_cases c2 : mx_f1 .eq sw = true
          · exact ⟨2, h', u', hd' _ (inq c1 (itq c2 rfl)), m2⟩
          · exact ⟨2, h', u', hd' _ (inq c1 (inq c2 (bsq g3' (bsq (rf2 _ _) rfl)))), m2⟩
      by_cases c1 : mx_f1 .eq sw = true
      · obtain ⟨t', h', u', m1, m2⟩ := f116 12
        refine ⟨t', h', u', ?_, m2⟩
        unfold b191_100
        exact bsq (zk_0 z1) (itq c1 m1)
      · obtain ⟨t', h', u', m1, m2⟩ := f116 10
        refine ⟨t', h', u', ?_, m2⟩
        unfold b191_100
        exact bsq (zk_0 z1) (inq c1 m1)
    obtain ⟨t', h', u', f100, zz⟩ := f100
    have f55 : b191_55 L xs zf (dM L xs zf w kk) w (some C) (some p) (some ps) t sw ta (some d) i7 h1 = some (some (.int t'), h') := by
      unfold b191_55
      refine bsq g7 (bsq fit (bsq so ?_))
      dsimp only
      split
      · exact f100
      · have lk : (dM L xs zf w kk 190 [va_rf (some 2), .int i7, .int ((t >>> ((8 : Int32) &&& 31)) &&& 7)] h1).bind dxI = some (lkV 2 i7 ((t >>> ((8 : Int32) &&& 31)) &&& 7), h1) := by rw [kk6]; exact lk_tb (k := k' + j + 5) (q := 2) (by decide) _ _ h1
        refine bsq (cp t) (bsq lk ?_)
        dsimp only
        split
        · exact f100
        · exact bsq (fd_I (nb1.1 _ _ _ (by decide) es1) (by decide)) (bsq (rf _ _) f100)
    have f45 : b191_45 L xs zf (dM L xs zf w kk) w (some C) (some p) (some ps) t sw ta (some d) i7 h1 = some (some (.int t'), h') := by
      unfold b191_45
      exact bsq g3 (bsq (rf _ _) f55)
    refine ⟨t', h', u', ?_, zz⟩
    unfold b191r
    refine bsq o1 (inq (dnl_s d) (bsq (cp ta) ?_))
    dsimp only
    rw [hi7]
    split
    · exact f45
    · split
      · exact f55
      · exact f45
end ZVR
section JPT
variable {L : Nat} {xs : Nat → Int32} {zf : Value} {w C Sc M Pl Ph LO HI nk m lv n p q i d lo hi k k2 z W ka kr K l τ px pl ph ne pe tv lov hiv loa hia plv phv pla pha : Nat} {cx : Nat → Nat} {hB h h1 h2 : rm_H} {s0 s s1 s2 : rS} {pt vr gn gn1 a b a1 b1 x y rc t v : Int32} {mv : Value} {ds kl ml es ns ts qs : List Nat} {G : List scN} {u u1 u2 : Nat → Nat} {A B A1 B1 : Nat → Int32} {c : Int64} {X : scN} {f : Nat → Int64} {sl ty : Nat → Int32} {sw : Bool}
/-- what put of both leaves -/
def SXO (L : Nat) (xs : Nat → Int32) (cx : Nat → Nat) (C Sc M : Nat) (pt vr : Int32) (mv : Value) (hB : rm_H) (s0 : rS) (nk m Pl Ph LO HI lo hi n ne lv : Nat) (sw : Bool) (G : List scN) (ds : List Nat) (gn : Int32) (u : Nat → Nat) (A B : Nat → Int32) (h : rm_H) (s : rS) (cst : Nat) (t r : Int32) (h' : rm_H) (s' : rS) : Prop :=
  OUT L xs cx C Sc M pt vr mv hB s0 nk m Pl Ph LO HI lo hi lv G ds gn u A B h s cst h' s' (fun gn' u' A' B' => ∃ τ : Nat, (sw = true → vT s0 nk τ ∧ dTy τ = true ∧ t = cT τ ∧ r = rTp τ) ∧ ∀ (SL AA BB : Nat → Int32) (f : Nat), (∀ i, lo ≤ i → i < hi → SL i = s'.2.1 53 i) → (∀ i, u 2 ≤ i → i < u' 2 → AA i = A' i ∧ BB i = B' i) → hi - lo ≤ f + 1 → ST s0 SL AA BB (TU s0 SL AA BB m f).1 sw lv G gn n ne τ gn' (u 2) (u' 2))
theorem j_186 (j0 : JE L xs cx hB s0 nk kl ml) (bj : bJ L xs hB s0 nk kl M m) (JVv : JV L xs zf w cx C Sc M pt vr mv hB s0 nk m plv phv LO HI z pe ne lov hiv (ka + 1) kr) (pe1 : fd hB 12 pe 1 = some (.int (s0.2.1 50 ne))) (hne : ne < 4400) (e0 : fd hB 12 p 0 = some (.int (Int32.ofNat W))) (r44 : s0.2.1 44 n = Int32.ofNat W) (hW : W ≤ 13) (e1 : fd hB 12 p 1 = some (.int (s0.2.1 50 n))) (hn : n < 4400) (hl1 : lo ≤ n) (hl2 : n < lov) (hv : lov ≤ hiv) (hhi : hiv ≤ hi) (hpv : pl ≤ plv) (hpv2 : phv ≤ ph) (hLO : LO ≤ lo) (hHI : hi ≤ HI) (nm : W = 4 ∨ W = 10 → (∃ q, fd hB 12 p 2 = some (.ref q) ∧ nS L xs hB q (s0.2.2 56 n)) ∧ fd hB 12 p 3 = some (.int (s0.2.1 51 n))) (r51 : W = 4 → s0.2.1 51 n = s0.2.1 50 n) (fl : W = 10 → ∃ px l loa hia pla pha, fd hB 12 p 6 = some (.ref px) ∧ fd hB 12 px 1 = some (.int (s0.2.1 50 l)) ∧ s0.2.1 45 n = Int32.ofNat l ∧ 1 ≤ l ∧ l < 4400 ∧ lo ≤ loa ∧ loa ≤ hia ∧ hia ≤ n ∧ pl ≤ pla ∧ pha ≤ ph ∧ JX L xs zf w cx C Sc M pt vr mv hB s0 nk m pla pha LO HI z 172 339 px l loa hia ka kr ∧ ∀ (ds : List Nat) (f : Nat → Int64) (sl ty : Nat → Int32) (rc a b : Int32), rc = 0 ∨ rc = 1 → ZX L xs zf w cx C Sc M pla pha pt vr mv ds f sl ty rc a b kl hB 172 px (3 * (hia - loa)) ka) (hk : 6 ≤ ka) (hk2 : 4 ≤ kr) (hw : 200 ≤ w) (sw : Bool) (j j2 : Nat) (e : CKJ L xs cx C Sc M pt vr mv hB s0 nk m h s ds G lv gn 0 b u A B) (hlz : lv + z ≤ 55) (fv : FV s0 G gn lo hi) (p53 : ∀ i, lo ≤ i → i < hi → s.2.1 53 i = s0.2.1 53 i) (hz : u 2 + 3 * (hi - lo) ≤ 9000) : ∃ t r h' s', (dcV L xs (dM L xs zf w (ka + 2 + j)) 186 [13] (some C) [va_rf (some p), va_rf (some pe), .int (rd_01 sw)] h).bind dxI = some (t, h') ∧ rM w (kr + 1 + j2) 351 [.ref 36, .int (Int32.ofNat n), .int (Int32.ofNat ne), .int (rd_01 sw)] s = some (some (.int r), s') ∧ SXO L xs cx C Sc M pt vr mv hB s0 nk m pl ph LO HI lo hi n ne lv sw G ds gn u A B h s (3 * (hi - lo)) t r h' s' := by
  obtain ⟨t1, r1, h1, s1, q1, q2, gn1, a1, b1, u1, A1, B1, ck1, wf1, wk1, u10, u12, r5a, ok1⟩ := JVv j j2 h s ds G lv gn b u A B e hlz (FV_sub fv (by omega) hhi) (fun i h1 h2 => p53 i (by omega) (by omega)) (by omega)
  obtain ⟨kh, dl, bh, rk, e57, _, rg, gw⟩ := id e
  obtain ⟨kh1, dl1, bh1, rk1, e571, e581, rg1, gw1⟩ := id ck1
  obtain ⟨kk, hkk⟩ : ∃ kk, ka + j = kk + 6 := ⟨ka + j - 6, by omega⟩
  obtain ⟨k3, hk3⟩ : ∃ k3, kr + j2 = k3 + 4 := ⟨kr + j2 - 4, by omega⟩
  rw [show ka + 1 + j = kk + 7 from by omega] at q1
  rw [hk3] at q2
  rw [show ka + 2 + j = kk + 7 + 1 from by omega, show kr + 1 + j2 = k3 + 4 + 1 from by omega]
  have W1 : wF cx C Sc pl ph u h h1 := wF_mono wf1 hpv hpv2
  have g0 : dgI L xs h1 0 [12] (some p) = some (Int32.ofNat W) := fd_I (bh1.1.1 _ _ _ (by decide) e0) (by decide)
  have uu : u 2 ≤ u1 2 := wk1.2.2.2.2.1
  have uz : u1 2 + 3 * (n - lo) + 1 ≤ u 2 + 3 * (hi - lo) := by omega
  have uz9 : u1 2 + 3 * (n - lo) + 1 ≤ 9000 := by omega
  -- frames
  have wrap : ∀ t h2, (if mx_f2 .ne (Int32.ofNat W) 4 = true then (dgI L xs h1 0 [12] (some p)).bind fun x13 => if mx_f2 .ne x13 10 = true then (dgI L xs h1 1 [12] (some p)).bind fun x16 => ((dcV L xs (dM L xs zf w (kk + 7)) 178 [13] (some C) [.int 8, .int x16] h1).bind dxV).bind fun h18 => drI (some .int) 2 h18 else ((dcV L xs (dM L xs zf w (kk + 7)) 191 [13] (some C) [va_rf (some p), va_rf (some pe), .int t1, .int (rd_01 sw)] h1).bind dxI).bind fun x22 => drI (some .int) x22.1 x22.2 else ((dcV L xs (dM L xs zf w (kk + 7)) 187 [13] (some C) [va_rf (some p), va_rf (some pe), .int t1, .int (rd_01 sw)] h1).bind dxI).bind fun x26 => drI (some .int) x26.1 x26.2) = some (some (.int t), h2) → (dcV L xs (dM L xs zf w (kk + 7 + 1)) 186 [13] (some C) [va_rf (some p), va_rf (some pe), .int (rd_01 sw)] h).bind dxI = some (t, h2) := by
    intro t h2 hh
    rw [ck_v kh, e186]
    show (b186_0 L xs zf (dM L xs zf w (kk + 7)) w (some C) (some p) (some pe) (rd_01 sw) h).bind dxI = _
    refine bsq (a := (some (.int t), h2)) ?_ rfl
    unfold b186_0
    exact bsq q1 (bsq g0 hh)
  have wne : ∀ c, c ≤ 13 → (mx_f2 .ne (Int32.ofNat W) (Int32.ofNat c) = true ↔ W ≠ c) := by
    have : ∀ W, W ≤ 13 → ∀ c, c ≤ 13 → (mx_f2 .ne (Int32.ofNat W) (Int32.ofNat c) = true ↔ W ≠ c) := by decide +kernel
    exact this W hW
  have w187 : ∀ t h2, W = 4 → (dcV L xs (dM L xs zf w (kk + 7)) 187 [13] (some C) [va_rf (some p), va_rf (some pe), .int t1, .int (rd_01 sw)] h1).bind dxI = some (t, h2) → (dcV L xs (dM L xs zf w (kk + 7 + 1)) 186 [13] (some C) [va_rf (some p), va_rf (some pe), .int (rd_01 sw)] h).bind dxI = some (t, h2) := fun t h2 h4 hh => wrap t h2 (inq (fun z => (wne 4 (by omega)).mp z h4) (bsq hh rfl))
  have w191 : ∀ t h2, W = 10 → (dcV L xs (dM L xs zf w (kk + 7)) 191 [13] (some C) [va_rf (some p), va_rf (some pe), .int t1, .int (rd_01 sw)] h1).bind dxI = some (t, h2) → (dcV L xs (dM L xs zf w (kk + 7 + 1)) 186 [13] (some C) [va_rf (some p), va_rf (some pe), .int (rd_01 sw)] h).bind dxI = some (t, h2) := fun t h2 h4 hh => wrap t h2 (itq ((wne 4 (by omega)).mpr (by omega)) (bsq g0 (inq (fun z => (wne 10 (by omega)).mp z h4) (bsq hh rfl))))
  have w178 : ∀ h2, W ≠ 4 → W ≠ 10 → (dcV L xs (dM L xs zf w (kk + 7)) 178 [13] (some C) [.int 8, .int (s0.2.1 50 n)] h1).bind dxV = some h2 → (dcV L xs (dM L xs zf w (kk + 7 + 1)) 186 [13] (some C) [va_rf (some p), va_rf (some pe), .int (rd_01 sw)] h).bind dxI = some (2, h2) := fun h2 h4 h10 hh => wrap 2 h2 (itq ((wne 4 (by omega)).mpr h4) (bsq g0 (itq ((wne 10 (by omega)).mpr h10) (bsq (fd_I (bh1.1.1 _ _ _ (by decide) e1) (by decide)) (bsq hh rfl)))))
  by_cases ha : a1 = 0
  · subst ha
    obtain ⟨old1, fv1, τv, vtv, t6, t0, et, er, vl⟩ := ok1 rfl
    subst et
    subst er
    have g44 : rs_aI s1 44 (Int32.ofNat n) = some (Int32.ofNat W) := (aI_at (i := n) (by decide) rfl hn (by decide)).trans (by rw [rk_A rk1 (by decide), r44])
    have rwrap : ∀ R, (if mx_f2 .ne (Int32.ofNat W) 4 = true then
      (rs_aI s1 44 (Int32.ofNat n)).bind fun x10 =>
      if mx_f2 .eq x10 10 = true then
        (rs_aI s1 45 (Int32.ofNat n)).bind fun x13 =>
        ((rM w (k3 + 4) 339 [.ref 36, .int x13] s1).bind rxI).bind fun x15 =>
        if mx_f1 .le (x15.2.1 57) = true then
          (rs_aI x15.2 45 (Int32.ofNat n)).bind fun x21 =>
          s351r (rM w (k3 + 4)) w (Int32.ofNat n) (Int32.ofNat ne) (rd_01 sw) x21 (rTp τv) x15.1 x15.2
        else
          rrI (some .int) (-1) x15.2
      else
        (rs_aI s1 50 (Int32.ofNat n)).bind fun x74 =>
        ((rM w (k3 + 4) 347 [.ref 36, .int 8, .int x74] s1).bind rxI).bind fun x76 =>
        rrI (some .int) x76.1 x76.2
    else
      ((rM w (k3 + 4) 352 [.ref 36, .int (Int32.ofNat n), .int (Int32.ofNat ne), .int (rTp τv), .int (rd_01 sw)] s1).bind rxI).bind fun x81 =>
      rrI (some .int) x81.1 x81.2) = R → rM w (k3 + 4 + 1) 351 [.ref 36, .int (Int32.ofNat n), .int (Int32.ofNat ne), .int (rd_01 sw)] s = R := by
      intro R hR
      rw [y351]
      show s351_0 (rM w (k3 + 4)) w (Int32.ofNat n) (Int32.ofNat ne) (rd_01 sw) s = _
      unfold s351_0
      exact bsq (a := (rTp τv, s1)) (by rw [q2]; rfl) (itq (show mx_f1 .le (s1.1 57) = true by rw [e571]; decide) (bsq g44 hR))
    by_cases h4 : W = 4
    · obtain ⟨⟨q, y1, y2⟩, y3⟩ := nm (Or.inl h4)
      obtain ⟨t, r, h2, s2, m1, m2, gn2, a2, b2, u2, A2, B2, ck2, wf2, wk2, u20, u22, r5b, ok2⟩ := j_187 (Pl := pl) (Ph := ph) (LO := LO) (HI := HI) (lo := n) (hi := n + 1) (zf := zf) y1 y2 y3 (r51 h4) hn (Nat.le_refl _) (Nat.lt_succ_self n) pe1 hne vtv t6 hw (kk + 2) k3 sw ck1 (by omega)
      refine ⟨t, r, h2, s2, w187 _ _ h4 m1, rwrap _ (inq (fun z => (wne 4 (by omega)).mp z h4) (bsq (a := (r, s2)) (by rw [m2]; rfl) rfl)), gn2, a2, b2, u2, A2, B2, ck2, wF_trans W1 wk1 wf2, wK2_trans wk1 wk2 W1.1.1, u20.trans u10, by omega, r53_trans (r53_mono r5a (by omega) hhi) (r53_mono r5b hl1 (by omega)), fun z => ?_⟩
      obtain ⟨old2, fv2, m5, i, X, hX, xc, et, er, ng, lvX, fit, eg, mA, mB, m53⟩ := ok2 z
      have w3 := gw1.2.2.1 i X hX
      refine ⟨fun i hi => ⟨(old2 i (by omega)).1.trans (old1 i hi).1, (old2 i (by omega)).2.trans (old1 i hi).2⟩, fun lo2 hi2 o1 o2 o3 o4 => fv2 lo2 hi2 (by omega) o2 o3 (fv1 lo2 hi2 (by omega) o2 o3 o4), X.2.2.1, fun _ => ⟨w3.2.2.1, w3.2.1, et, er⟩, fun SL AA BB f hSL hAB hf => ?_⟩
      have ui := hAB (u1 2) uu (by omega)
      have sln : SL n = Int32.ofNat X.2.1 := by rw [hSL n hl1 (by omega), m53]
      refine ⟨τv, gn1, u1 2, VL_f (vl SL AA BB (fun i h1 h2 => ?_) (fun i h1 h2 => ?_)) (by omega), Or.inl ⟨by rw [r44, h4]; rfl, m5, i, X, hX, xc, rfl, sln, ng, lvX, fit, eg, by rw [ui.1]; exact mA, by rw [ui.2, mB, sln]⟩⟩
      · rw [hSL i (by omega) (by omega), (r5b i (fun z => by omega)).1]
      · have q := hAB i h1 (by omega)
        have o := old2 i h2
        exact ⟨q.1.trans o.1, q.2.trans o.2⟩
    · by_cases h10 : W = 10
      · obtain ⟨⟨q, y1, y2⟩, y3⟩ := nm (Or.inr h10)
        obtain ⟨px, l, loa, hia, pla, pha, y6, yx, r45, l1, l2, f1, f2, f3, f4, f5, JXa, ZXa⟩ := fl h10
        obtain ⟨t2, r2, h2, s2, m1, m2, gn2, a2, b2, u2, A2, B2, ck2, wf2, wk2, u20, u22, r5b, ok2⟩ := JXa j j2 h1 s1 ds G lv gn1 b1 u1 A1 B1 ck1 hlz (fv1 loa hia (by omega) (by omega) (by omega) (FV_sub fv (by omega) (by omega))) (fun i h1 h2 => by rw [(r5a i (fun z => by omega)).1]; exact p53 i (by omega) (by omega)) (by omega)
        rw [hkk] at m1
        rw [hk3] at m2
        have W2 : wF cx C Sc pl ph u1 h1 h2 := wF_mono wf2 f4 f5
        have bh2 := ck2.2.2.1
        have c191 : ∀ t h3, b191r L xs zf (dM L xs zf w (kk + 6)) w (some C) (some p) (some pe) (cT τv) (rd_01 sw) t2 h2 = some (some (.int t), h3) → (dcV L xs (dM L xs zf w (kk + 7)) 191 [13] (some C) [va_rf (some p), va_rf (some pe), .int (cT τv), .int (rd_01 sw)] h1).bind dxI = some (t, h3) := by
          intro t h3 hh
          rw [ck_v kh1, e191]
          show (b191_0 L xs zf (dM L xs zf w (kk + 6)) w (some C) (some p) (some pe) (cT τv) (rd_01 sw) h1).bind dxI = _
          refine bsq (a := (some (.int t), h3)) ?_ rfl
          unfold b191_0
          exact bsq (fd_R (o := some px) (bh1.1.1 _ _ _ (by decide) y6) (by decide)) (bsq m1 hh)
        have g45 : rs_aI s1 45 (Int32.ofNat n) = some (Int32.ofNat l) := (aI_at (i := n) (by decide) rfl hn (by decide)).trans (by rw [rk_A rk1 (by decide), r45])
        have g45' : rs_aI s2 45 (Int32.ofNat n) = some (Int32.ofNat l) := (aI_at (i := n) (by decide) rfl hn (by decide)).trans (by rw [rk_A ck2.2.2.2.1 (by decide), r45])
        have rhead : ∀ R, (if mx_f1 .le (s2.1 57) = true then s351r (rM w (k3 + 4)) w (Int32.ofNat n) (Int32.ofNat ne) (rd_01 sw) (Int32.ofNat l) (rTp τv) r2 s2 else rrI (some .int) (-1) s2) = R → rM w (k3 + 4 + 1) 351 [.ref 36, .int (Int32.ofNat n), .int (Int32.ofNat ne), .int (rd_01 sw)] s = R := by
          intro R hR
          refine rwrap R (itq ((wne 4 (by omega)).mpr h4) (bsq g44 (itq (by rw [h10]; decide) (bsq g45 (bsq (a := (r2, s2)) (by rw [m2]; rfl) ?_)))))
          rw [← hR]
          by_cases c : mx_f1 .le (s2.1 57) = true
          · exact itq c (by rw [if_pos c]; exact bsq g45' rfl)
          · exact inq c (by rw [if_neg c])
        by_cases hb : a2 = 0
        · subst hb
          obtain ⟨old2, fv2, τa, vta, ea, era, e61, _, tu⟩ := ok2 rfl
          subst ea
          subst era
          obtain ⟨t, r, h3, s3, n1, n2, gn3, a3, b3, u3, A3, B3, ck3, wf3, wk3, u30, u32, r5c, ok3⟩ := j_191 (Pl := pl) (Ph := ph) (LO := LO) (HI := HI) (lo := n) (hi := n + 1) (zf := zf) (w := w) j0 y6 yx y1 y2 y3 l2 hn (Nat.le_refl _) (Nat.lt_succ_self n) pe1 hne vtv t6 t0 hw kk (k3 + 1) sw ck2 (by omega) vta e61
          have uu2 : u1 2 ≤ u2 2 := wk2.2.2.2.2.1
          refine ⟨t, r, h3, s3, w191 _ _ h10 (c191 _ _ n1), rhead _ ?_, gn3, a3, b3, u3, A3, B3, ck3, wF_trans (wF_trans W1 wk1 W2) (wK2_trans wk1 wk2 W1.1.1) wf3, wK2_trans (wK2_trans wk1 wk2 W1.1.1) wk3 (wF_trans W1 wk1 W2).1.1, (u30.trans u20).trans u10, by omega, r53_trans (r53_trans (r53_mono r5a (by omega) hhi) (r53_mono r5b (by omega) (by omega))) (r53_mono r5c hl1 (by omega)), fun z => ?_⟩
          · rw [if_pos (show mx_f1 .le (s2.1 57) = true by rw [ck2.2.2.2.2.1]; decide)]
            exact n2
          · obtain ⟨old3, fv3, eg, m5, k0, f0, f', tf, k1, k2', k4, k5, fit, k6, k7, mA, mB, m53⟩ := ok3 z
            obtain ⟨τ0, hτ0⟩ : ∃ τ0 : Nat, sw = true → vT s0 nk τ0 ∧ dTy τ0 = true ∧ t = cT τ0 ∧ r = rTp τ0 ∧ bhT 3 (cpT τa) tf τ0 := by
              cases hs : sw with
              | false => exact ⟨0, fun z => by cases z⟩
              | true =>
                obtain ⟨τ', v⟩ := k7 hs
                exact ⟨τ', fun _ => v⟩
            refine ⟨fun i hi => ⟨(old3 i (by omega)).1.trans ((old2 i (by omega)).1.trans (old1 i hi).1), (old3 i (by omega)).2.trans ((old2 i (by omega)).2.trans (old1 i hi).2)⟩, fun lo2 hi2 o1 o2 o3 o4 => fv3 lo2 hi2 (by omega) o2 o3 (fv2 lo2 hi2 (by omega) o2 o3 (fv1 lo2 hi2 (by omega) o2 o3 o4)), τ0, fun hs => ⟨(hτ0 hs).1, (hτ0 hs).2.1, (hτ0 hs).2.2.1, (hτ0 hs).2.2.2.1⟩, fun SL AA BB f hSL hAB hf => ?_⟩
            have ui := hAB (u2 2) (by omega) (by omega)
            have sln : SL n = Int32.ofNat (f' - f0) := by rw [hSL n hl1 (by omega), m53]
            refine ⟨τv, gn1, u1 2, VL_f (vl SL AA BB (fun i h1 h2 => ?_) (fun i h1 h2 => ?_)) (by omega), Or.inr ⟨by rw [r44, h10]; rfl, l, τa, k0, f0, f', tf, u2 2, r45, l1, l2, ?_, m5, k1, k2', sln, k4, k5, fit, k6, fun hs => (hτ0 hs).2.2.2.2, by rw [ui.1]; exact mA, by rw [ui.2]; exact mB⟩⟩
            · rw [hSL i (by omega) (by omega), (r5c i (fun z => by omega)).1, (r5b i (fun z => by omega)).1]
            · have q := hAB i h1 (by omega)
              have o := old3 i (by omega)
              have o' := old2 i (by omega)
              exact ⟨q.1.trans (o.1.trans o'.1), q.2.trans (o.2.trans o'.2)⟩
            · rw [eg]
              refine TU_e (tu SL AA BB (fun i h1 h2 => ?_) (fun i h1 h2 => ?_)) (by omega)
              · rw [hSL i (by omega) (by omega), (r5c i (fun z => by omega)).1]
              · have q := hAB i (by omega) (by omega)
                have o := old3 i h2
                exact ⟨q.1.trans o.1, q.2.trans o.2⟩
        · obtain ⟨t', h', u', n1, n2⟩ := zk_191r (pl := pl) (ph := ph) (zf := zf) y6 yx y1 y2 y3 pe1 hw kk 0 (CK_EV j0 bj ck2 hb) (by omega) (cT τv) (rd_01 sw) t2
          obtain ⟨gn3, A3, B3, ck3⟩ := CK_ZR ck2 hb n2
          have uu2 := n2.2.2.2.2
          refine ⟨t', -1, h', s2, w191 _ _ h10 (c191 _ _ n1), rhead _ ?_, gn3, a2, b2, u', A3, B3, ck3, wF_trans (wF_trans W1 wk1 W2) (wK2_trans wk1 wk2 W1.1.1) n2.2.1, wK2_trans (wK2_trans wk1 wk2 W1.1.1) n2.2.2.1 (wF_trans W1 wk1 W2).1.1, (n2.2.2.2.1.trans u20).trans u10, by omega, r53_trans (r53_mono r5a (by omega) hhi) (r53_mono r5b (by omega) (by omega)), fun z => absurd z hb⟩
          rw [if_neg (le_ps (by rw [ck2.2.2.2.2.1]; exact (ck2.2.2.2.2.2.1 hb).2))]
          rfl
      · obtain ⟨h2, v1, v2, v3, v4⟩ := ck_refA (pl := pl) (ph := ph) (zf := zf) (w := w) (k := kk + 6) kh1 8 (s0.2.1 50 n)
        refine ⟨2, -1, h2, rfS s1 8 (s0.2.1 50 n), w178 _ h4 h10 v1, rwrap _ (itq ((wne 4 (by omega)).mpr h4) (bsq g44 (inq ?_ (bsq (a := s0.2.1 50 n) ((aI_at (i := n) (by decide) rfl hn (by decide)).trans (by rw [rk_A rk1 (by decide)])) (bsq (a := (-1, rfS s1 8 (s0.2.1 50 n))) (by rw [r_347 (k := k3 + 2) e571]; rfl) rfl))))), gn1, 8, s0.2.1 50 n, u1, A1, B1, CK_ft ck1 v2 (by decide) v3 rfl rfS_K rfS_57 rfS_58, wF_trans W1 wk1 v3, wK2_trans wk1 v4 W1.1.1, u10, by omega, r53_trans (r53_mono r5a (by omega) hhi) (fun i _ => ⟨rfl, rfl⟩), fun z => absurd z (by decide)⟩
        have : ∀ W, W ≤ 13 → W ≠ 10 → ¬ mx_f2 .eq (Int32.ofNat W) 10 = true := by decide +kernel
        exact this W hW h10
  · have ref : rM w (k3 + 4 + 1) 351 [.ref 36, .int (Int32.ofNat n), .int (Int32.ofNat ne), .int (rd_01 sw)] s = some (some (.int (-1)), s1) := by
      rw [y351]
      show s351_0 (rM w (k3 + 4)) w (Int32.ofNat n) (Int32.ofNat ne) (rd_01 sw) s = _
      unfold s351_0
      exact bsq (a := (r1, s1)) (by rw [q2]; rfl) (inq (le_ps (by rw [e571]; exact (e581 ha).2)) rfl)
    have ev := CK_EV j0 bj ck1 ha
    have fin : ∀ t h2 u2 nn, (dcV L xs (dM L xs zf w (kk + 7 + 1)) 186 [13] (some C) [va_rf (some p), va_rf (some pe), .int (rd_01 sw)] h).bind dxI = some (t, h2) → ZR L xs cx C Sc M pl ph pt vr mv ds (gN G) (gSl G) (gTp G) (if lv = 0 then 0 else 1) a1 b1 h1 u1 nn h2 u2 → nn ≤ 3 * (n - lo) + 1 → ∃ t r h' s', (dcV L xs (dM L xs zf w (kk + 7 + 1)) 186 [13] (some C) [va_rf (some p), va_rf (some pe), .int (rd_01 sw)] h).bind dxI = some (t, h') ∧ rM w (k3 + 4 + 1) 351 [.ref 36, .int (Int32.ofNat n), .int (Int32.ofNat ne), .int (rd_01 sw)] s = some (some (.int r), s') ∧ SXO L xs cx C Sc M pt vr mv hB s0 nk m pl ph LO HI lo hi n ne lv sw G ds gn u A B h s (3 * (hi - lo)) t r h' s' := by
      intro t h2 u2 nn m1 m2 hnn
      obtain ⟨gn3, A3, B3, ck3⟩ := CK_ZR ck1 ha m2
      have uu2 := m2.2.2.2.2
      exact ⟨t, -1, h2, s1, m1, ref, gn3, a1, b1, u2, A3, B3, ck3, wF_trans W1 wk1 m2.2.1, wK2_trans wk1 m2.2.2.1 W1.1.1, m2.2.2.2.1.trans u10, by omega, r53_mono r5a (by omega) hhi, fun z => absurd z ha⟩
    by_cases h4 : W = 4
    · obtain ⟨⟨q, y1, y2⟩, y3⟩ := nm (Or.inl h4)
      obtain ⟨t', h', u', m1, m2⟩ := zk_187 (pl := pl) (ph := ph) (zf := zf) (w := w) (k := kk + 2) ev (by omega) y1 y2 y3 pe1 t1 (rd_01 sw) hw
      exact fin t' h' u' 1 (w187 _ _ h4 m1) m2 (by omega)
    · by_cases h10 : W = 10
      · obtain ⟨⟨q, y1, y2⟩, y3⟩ := nm (Or.inr h10)
        obtain ⟨px, l, loa, hia, pla, pha, y6, yx, r45, l1, l2, f1, f2, f3, f4, f5, JXa, ZXa⟩ := fl h10
        obtain ⟨t', h', u', m1, m2⟩ := zx_191 (pl := pla) (ph := pha) (ZXa ds (gN G) (gSl G) (gTp G) _ a1 b1 (rc_lv lv)) y6 yx y1 y2 y3 pe1 hk hw j ev (by omega) t1 (rd_01 sw)
        rw [show ka + 1 + j = kk + 7 from by omega] at m1
        exact fin t' h' u' _ (w191 _ _ h10 m1) ⟨m2.1, wF_mono m2.2.1 f4 f5, m2.2.2⟩ (by omega)
      · refine fin 2 h1 u1 0 (w178 _ h4 h10 ?_) (ZR_refl ev.1) (by omega)
        exact zk_ref (k := kk + 6) ev.1 ha _ _
end JPT
