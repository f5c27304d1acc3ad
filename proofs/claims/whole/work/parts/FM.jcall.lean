/-! BOTH CHECK: calls and messages. -/
section JCL
variable {L : Nat} {xs : Nat → Int32} {zf : Value} {w C Sc M Pl Ph LO HI nk m lv n p q i d lo hi k k2 z W ke kr K l τ px q0 q1 M' m' kk : Nat} {cx : Nat → Nat} {hB h h1 h2 : rm_H} {s0 s s1 s2 : rS} {pt vr gn gn1 a b a1 b1 x y rc t v : Int32} {mv : Value} {ds kl ml es ns ts qs : List Nat} {G : List scN} {u u1 u2 : Nat → Nat} {A B A1 B1 : Nat → Int32} {c : Int64} {X : scN} {f : Nat → Int64} {sl ty : Nat → Int32}
theorem pts_h (bh : bH L xs hB h) (e : pts hB q0 q1 p es) : pts h q0 q1 p es := by
  rcases e with ⟨z1, z2⟩ | ⟨l', ar', cap', z1, z2, z3⟩
  · exact Or.inl ⟨bh.1.1 _ _ _ (by decide) z1, z2⟩
  · exact Or.inr ⟨l', ar', cap', bh.1.1 _ _ _ (by decide) z1, bh.1.2.1 _ _ _ _ z2, z3⟩
/-- the reference's state behind a call or a message -/
def s63 (s : rS) (n m' : Nat) : rS := fl0 (rs_wA s 53 n (Int32.ofNat m'))
theorem s63_L : rL s (s63 s n m') := rL_trans (rL_A (by omega)) fl0_L
theorem s63_53 : (s63 s n m').2.1 53 n = Int32.ofNat m' := by
  show (rs_wA s 53 n (Int32.ofNat m')).2.1 53 n = _
  rw [wA_get, if_pos ⟨rfl, rfl⟩]
theorem s63_r (h2 : n < hi) : r53 n hi s (s63 s n m') := by
  intro j hj
  have ne : j ≠ n := fun z => hj ⟨by omega, by omega⟩
  show (rs_wA s 53 n (Int32.ofNat m')).2.1 53 j = _ ∧ (rs_wA s 53 n (Int32.ofNat m')).2.1 86 j = _
  rw [wA_get, if_neg (fun z => ne z.2), wA_get, if_neg (fun z => by omega)]
  exact ⟨rfl, rfl⟩
theorem s63_64 : (s63 s n m').1 64 = s.1 64 := by
  unfold s63
  rw [fl0_64]
  rfl
/-- what a method gives, by both -/
theorem mJ_res (mj : mJ L xs hB s0 nk M' m') : ∃ qs tr hm, qs.length ≤ 6 ∧ pmT s0 m' qs ∧ rsT s0 m' tr ∧ vT s0 nk tr ∧ ((s0.2.1 75 m' = -1 ∧ tr = 0) ∨ (tyc s0 (s0.2.1 75 m') tr ∧ tr ≠ 0)) ∧ hm = (qs.all sdT && (decide (tr = 0) || sdT tr)) ∧ fd hB 11 M' 13 = some (.int (if hm = true then 1 else 0)) ∧ ((fd hB 11 M' 8 = some .null ∧ tr = 0) ∨ ∃ d, fd hB 11 M' 8 = some (.ref d) ∧ fd hB 10 d 7 = some (.int (cT tr))) := by
  obtain ⟨_, _, _, _, l', ar', cap', ps, qs, p0, o1, o2, o3, o4, o5, o6, o7, o8, o9, o10, o11⟩ := mj
  rcases o11 with ⟨r1, r2, r3⟩ | ⟨d, t, r1, r2, r3, r4, r5⟩
  · refine ⟨qs, 0, qs.all sdT && (decide (0 = 0) || sdT 0), o4, o5, Or.inl ⟨r1, rfl⟩, ⟨by decide, fun z => by omega⟩, Or.inl ⟨r1, rfl⟩, rfl, ?_, Or.inl ⟨r2, rfl⟩⟩
    rw [show (qs.all sdT && (decide (0 = 0) || sdT 0)) = qs.all sdT from by simp]
    exact r3
  · have dt : dTy t = true := by
      obtain ⟨_, _, _, _, q⟩ := r3
      exact q
    have t0 : t ≠ 0 := by
      intro z
      rw [z] at dt
      exact absurd dt (by decide)
    refine ⟨qs, t, qs.all sdT && (decide (t = 0) || sdT t), o4, o5, Or.inr r3, r4, Or.inr ⟨r3, t0⟩, rfl, ?_, Or.inr ⟨d, r1, r2⟩⟩
    rw [decide_eq_false t0, Bool.false_or]
    exact r5
theorem ca_own : ∀ P hm, caB P 2 2 hm = true := by decide
/-- a call: node l is ahead -/
theorem j_204 {y1 : Int32} (j0 : JE L xs cx hB s0 nk kl ml) (e0 : fd hB 12 p 0 = some (.int 11)) (e1 : fd hB 12 p 1 = some (.int y1)) (e6 : fd hB 12 p 6 = some (.ref px)) (ex : fd hB 12 px 1 = some (.int (s0.2.1 50 l))) (ex0 : fd hB 12 px 0 = some (.int (s0.2.1 44 l))) (e2 : fd hB 12 p 2 = some (.ref q)) (hq : nS L xs hB q (s0.2.2 56 n)) (e3 : fd hB 12 p 3 = some (.int (s0.2.1 51 n))) (hp : pts hB q0 q1 p es) (hl6 : es.length ≤ 6) (r52 : s0.2.1 52 n = Int32.ofNat es.length) (ch : chR s0 ns (s0.2.1 45 n)) (r44 : s0.2.1 44 n = 11) (r46 : s0.2.1 46 n = Int32.ofNat l) (hl : 1 ≤ l ∧ l < 4400) (hn : n < 4400) (d2 : n < hi) (d3 : lo ≤ n) (hw : 200 ≤ w) (j j2 : Nat) (e : CKJ L xs cx C Sc M pt vr mv hB s0 nk m h s ds G lv gn 0 b u A B) (hz : u 2 + 3 * (hi - n) ≤ 9000) (hτ : vT s0 nk τ) (h60 : pf60 (s.1 60) (isPl (s0.2.1 44 l))) (h61 : s.1 61 = oT τ) (aq : aQ s0 nk h s es ns ts) : ∃ t' r' h' s', (dcV L xs (dM L xs zf w (8 + j)) 202 [13] (some C) [va_rf (some p), .int (cT τ)] h).bind dxI = some (t', h') ∧ rM w (6 + j2) 361 [.ref 36, .int (Int32.ofNat n), .int (Int32.ofNat l), .int (rTp τ)] s = some (some (.int r'), s') ∧ LXO L xs cx C Sc M pt vr mv hB s0 nk m Pl Ph LO HI lo hi n 11 l τ ts lv G ds gn u A B h s (3 * (hi - n)) t' r' h' s' := by
  obtain ⟨kh, dl, bh, rk, e57, _, rg, gw⟩ := id e
  have ge := JE_GE j0 bh
  have e6h := bh.1.1 _ _ _ (by decide) e6
  have exh := bh.1.1 _ _ _ (by decide) ex
  have e2h := bh.1.1 _ _ _ (by decide) e2
  have e3h := bh.1.1 _ _ _ (by decide) e3
  have s56 : s.2.2 56 n = s0.2.2 56 n := rk_B rk (by decide) n
  have s51 : s.2.1 51 n = s0.2.1 51 n := rk_A rk (by decide) n
  have s50 : s.2.1 50 l = s0.2.1 50 l := rk_A rk (by decide) l
  have g51 : rs_aI s 51 (Int32.ofNat n) = some (s0.2.1 51 n) := (aI_at (i := n) (by decide) rfl hn (by decide)).trans (by rw [s51])
  have g56 : rs_aJ s 56 (Int32.ofNat n) = some (s0.2.2 56 n) := (aJ_at (i := n) (by decide) rfl hn (by decide)).trans (by rw [s56])
  have so := so_T τ (gTy_lt hτ.1) hτ.1
  have c93 := c_193 (zf := zf) (w := w) (k := j + 1) kh ge exh (cT τ)
  have r54 := r_354 (w := w) (k := j2 + 1) (l := l) e57 hl.2 hτ.1 h61
  rw [s50] at r54
  have wrap : ∀ t h2, b204_0 L xs zf (dM L xs zf w (j + 6)) w (some C) (some p) (cT τ) h = some (some (.int t), h2) → (dcV L xs (dM L xs zf w (8 + j)) 202 [13] (some C) [va_rf (some p), .int (cT τ)] h).bind dxI = some (t, h2) := by
    intro t h2 hh
    rw [show 8 + j = j + 7 + 1 from by omega]
    refine c_202 (Or.inr (Or.inl ⟨rfl, rfl⟩)) kh (bh.1.1 _ _ _ (by decide) e0) ?_
    rw [ck_v kh, e204]
    show (b204_0 L xs zf (dM L xs zf w (j + 6)) w (some C) (some p) (cT τ) h).bind dxI = _
    rw [hh]
    rfl
  have rwrap : ∀ r s', s363_0 (rM w (j2 + 4)) w (Int32.ofNat n) (Int32.ofNat l) (rTp τ) s = some (some (.int r), s') → rM w (6 + j2) 361 [.ref 36, .int (Int32.ofNat n), .int (Int32.ofNat l), .int (rTp τ)] s = some (some (.int r), s') := by
    intro r s' hh
    rw [show 6 + j2 = j2 + 5 + 1 from by omega, y361]
    show s361_0 (rM w (j2 + 5)) w (Int32.ofNat n) (Int32.ofNat l) (rTp τ) s = _
    unfold s361_0
    refine bsq (a := (11 : Int32)) ((aI_at (i := n) (by decide) rfl hn (by decide)).trans (by rw [rk_A rk (by decide), r44])) (inq (by decide) (inq (by decide) (itq rfl (bsq (a := (r, s')) ?_ rfl))))
    rw [y363]
    show (s363_0 (rM w (j2 + 4)) w (Int32.ofNat n) (Int32.ofNat l) (rTp τ) s).bind rxI = _
    rw [hh]
    rfl
  have ft : ∀ (x y' : Int32) (h1 : rm_H), 0 < x.toInt → KH L xs cx C Sc M pt vr mv h1 ds (gN G) (gSl G) (gTp G) gn (if lv = 0 then 0 else 1) x y' u A B → wF cx C Sc Pl Ph u h h1 → wK2 u u h h1 → LXO L xs cx C Sc M pt vr mv hB s0 nk m Pl Ph LO HI lo hi n 11 l τ ts lv G ds gn u A B h s (3 * (hi - n)) 2 (-1) h1 (rfS s x y') := fun x y' h1 hx k1 w1 w2 => ⟨gn, x, y', u, A, B, CK_ft e k1 hx w1 rfl rfS_K rfS_57 rfS_58, w1, w2, rfl, by omega, fun i _ => ⟨rfl, rfl⟩, fun z => absurd z (ps_ne hx)⟩
  have kne : ∀ i, i < 100 → mx_f2 .ne (Int32.ofNat i) (-1) = true := by decide +kernel
  by_cases ah : 8 ≤ τ ∧ τ % 8 ≠ 5
  · rw [if_pos (so.1.mpr ah)] at c93
    rw [if_pos ah] at r54
    obtain ⟨K, kn, hK⟩ := kNo_T hτ ah.1 j0.2.1 j0.2.2.1
    rw [kn] at c93
    have hk8 : τ / 8 - 1 < 8 := by
      have := (hτ.2 ah.1).1
      have := j0.2.2.1
      omega
    have r55 := r_355 (w := w) (k := j2 + 3) hτ.1 ah h61
    -- the reference up to the method
    have rhead : ∀ R, s363_28 (rM w (j2 + 4)) w (Int32.ofNat n) (Int32.ofNat l) (rTp τ) (Int32.ofNat (τ / 8 - 1)) (if isPl (s0.2.1 44 l) = true then 1 else 0) s = R → s363_0 (rM w (j2 + 4)) w (Int32.ofNat n) (Int32.ofNat l) (rTp τ) s = R := by
      intro R hR
      unfold s363_0
      refine bsq (a := (Int32.ofNat (τ / 8 - 1), s)) (by rw [r54]; rfl) (itq (kne _ (by omega)) ?_)
      unfold pf60 at h60
      cases hP : isPl (s0.2.1 44 l) with
      | false =>
        rw [hP] at h60 hR
        rw [if_neg (by decide)] at h60 hR
        exact itq (by show mx_f1 .le (s.1 60) = true; rw [h60]; decide) hR
      | true =>
        rw [hP] at h60 hR
        rw [if_pos rfl] at h60 hR
        exact inq (le_ps h60) hR
    rcases ml_look (zf := zf) (w := w) (k := j + 2) (k2 := j2 + 3) j0 bh hK (bh.1.2.2.1 _ _ hq) rk hw 1 with ⟨M', m', c56, r64, mt, mj, m70, own2⟩ | ⟨c56, r64⟩
    · obtain ⟨x, y, h1, c99, r58, k1, w1, w2, xp, af⟩ := j_199 (Pl := Pl) (Ph := Ph) (zf := zf) (w := w) (k := j + 1) e aq (pts_h bh hp) hl6 e1 e3 hn r52 ch mj hw
      obtain ⟨m72, _, mn, ⟨ca, ca5, e66, e72, _⟩, _⟩ := id mj
      have e72 := e72 m70
      obtain ⟨qs, tr, hm, lq, pm, rs, vtr, hr, hh, f13, f8⟩ := mJ_res mj
      have bh1 := bH_w kh w1 bh
      have tcp := (t_all2 τ (gTy_lt hτ.1) hτ.1 ah.1).2
      have c05 := c_205 (zf := zf) (w := w) (k := j + 4) k1 (bh1.1.1 _ _ _ (by decide) ex0) (bh1.2.2 _ _ _ e66) (bh1.2.2 _ _ _ f13) ca5 (cp5 (τ := τ))
      have own : ¬ isO τ = true → caB (isPl (s0.2.1 44 l)) (cpT τ) ca hm = true := by
        intro no
        have t6 : τ % 8 = 6 := by
          have : ¬ τ % 8 < 5 := fun q => no (by unfold isO; rw [decide_eq_true ah.1, decide_eq_true q]; rfl)
          have g := hτ.1
          unfold gTy at g
          simp at g
          omega
        have a1 : s0.2.1 66 (τ / 8 - 1) = 1 := by
          rcases (hτ.2 ah.1).2 with q | q
          · omega
          · exact q.2
        have c2 : ca = 2 := by
          have q := own2 a1 rfl
          rw [e72] at q
          have := congrArg Int32.toInt q
          rw [of_int (by omega), show (2 : Int32).toInt = 2 from by decide] at this
          omega
        rw [show cpT τ = 2 from by unfold cpT; rw [if_neg (by omega)], c2]
        exact ca_own _ _
      obtain ⟨h2, f1, f2, f3, f4⟩ := ck_rfz (pl := Pl) (ph := Ph) (zf := zf) (w := w) (k := j + 5) k1 (if caB (isPl (s0.2.1 44 l)) (cpT τ) ca hm = true then 0 else 6) (s0.2.1 50 l)
      have bh2 := bH_w k1 f3 bh1
      obtain ⟨h3, u3, A3, B3, m1, m2, m3, m4, m5, m6, m7, m8⟩ := ck_emit (pl := Pl) (ph := Ph) (zf := zf) (w := w) (k := j + 3) f2 (by omega) 4 (Int32.ofNat m')
      have bh3 := bH_w f2 m3 bh2
      have f88 : b204_88 L xs zf (dM L xs zf w (j + 6)) w (some C) (some M') h2 = some (some (.int (cT tr)), h3) := by
        unfold b204_88
        refine bsq (ck_0 f2) (bsq (fd_I (bh2.2.2 _ _ _ mn) (by decide)) (bsq m1 ?_))
        rcases f8 with ⟨g1, g2⟩ | ⟨d, g1, g2⟩
        · rw [g2]
          exact bsq (fd_R (o := none) (bh3.2.2 _ _ _ g1) (by decide)) (itq rfl rfl)
        · exact bsq (fd_R (o := some d) (bh3.2.2 _ _ _ g1) (by decide)) (inq (dnl_s d) (bsq (fd_R (o := some d) (bh3.2.2 _ _ _ g1) (by decide)) (bsq (fd_I (bh3.1.2.2.2.1 _ _ _ g2) (by decide)) rfl)))
      have cls : b204_0 L xs zf (dM L xs zf w (j + 6)) w (some C) (some p) (cT τ) h = some (some (.int (cT tr)), h3) := by
        unfold b204_0
        refine bsq (fd_R (o := some px) e6h (by decide)) (bsq c93 (inq (dnl_s K) (bsq (fd_R (o := some q) e2h (by decide)) (bsq c56 (inq (dnl_s M') (bsq c99 (bsq (t_so (k := j + 5) _ h1) ?_)))))))
        dsimp only
        have same : caB (isPl (s0.2.1 44 l)) (cpT τ) ca hm = true → h1 = h2 := by
          intro q
          rw [if_pos q] at f1
          exact Option.some.inj f1
        by_cases o : isO τ = true
        · rw [if_neg (show ¬ mx_f2 .ne (c_so (cT τ)) 5 = true by rw [f2_ne, so.2.2.2.mpr o]; decide)]
          refine bsq (fd_R (o := some px) (bh1.1.1 _ _ _ (by decide) e6) (by decide)) (bsq (t_cp (k := j + 5) _ h1) (bsq (a := (rd_01 (caB (isPl (s0.2.1 44 l)) (cpT τ) ca hm), h1)) ?_ ?_))
          · show (dcV L xs (dM L xs zf w (j + 6)) 205 [13] (some C) [va_rf (some M'), va_rf (some px), .int (c_cp (cT τ))] h1).bind dxI = _
            rw [tcp]
            exact c05
          · dsimp only
            by_cases cb : caB (isPl (s0.2.1 44 l)) (cpT τ) ca hm = true
            · rw [cb, if_pos (by decide), same cb]
              exact f88
            · have cf : caB (isPl (s0.2.1 44 l)) (cpT τ) ca hm = false := by
                cases hh : caB (isPl (s0.2.1 44 l)) (cpT τ) ca hm
                · rfl
                · exact absurd hh cb
              rw [if_neg cb] at f1
              unfold rfz at f1
              rw [if_neg (by decide)] at f1
              rw [cf, if_neg (by decide)]
              exact bsq (fd_R (o := some px) (bh1.1.1 _ _ _ (by decide) e6) (by decide)) (bsq (fd_I (bh1.1.1 _ _ _ (by decide) ex) (by decide)) (bsq f1 f88))
        · rw [if_pos (show mx_f2 .ne (c_so (cT τ)) 5 = true by rw [f2_ne]; exact decide_eq_true (fun z => o (so.2.2.2.mp z))), same (own o)]
          exact f88
      have W3 := wF_trans w1 w2 f3
      have K3 := wK2_trans w2 f4 w1.1.1
      -- the reference
      have r28 : ∀ R, (x = 0 → s363_183 (rM w (j2 + 4)) w (Int32.ofNat n) (Int32.ofNat l) (Int32.ofNat m') (rd_01 (caB (isPl (s0.2.1 44 l)) (cpT τ) ca hm)) s = R) → (x ≠ 0 → some (some (.int (-1)), rfS s x y) = R) → s363_0 (rM w (j2 + 4)) w (Int32.ofNat n) (Int32.ofNat l) (rTp τ) s = R := by
        intro R h0 hx
        refine rhead R ?_
        unfold s363_28
        refine bsq (a := (Int32.ofNat (cpT τ), s)) (by rw [r55]; rfl) (bsq g56 (bsq (a := (Int32.ofNat m', s)) (by rw [r64]; rfl) (itq (kne _ (by omega)) (bsq g51 (bsq (a := (if x = 0 then 1 else 0, rzS s x y)) (by rw [r58 j2]; rfl) ?_)))))
        dsimp only
        by_cases c0 : x = 0
        · have hz : rzS s x y = s := by unfold rzS; rw [if_pos c0]
          rw [if_pos c0, if_pos (by decide), hz]
          refine bsq (a := Int32.ofNat ca) ((aI_at (i := m') (by decide) rfl m72 (by decide)).trans (by rw [rk_A rk (by decide), e72])) (bsq (a := (lkV 1 (Int32.ofNat (cpT τ)) (Int32.ofNat ca), s)) (by rw [r_290 (k := j2 + 3) cp5 ca5]; rfl) ?_)
          rw [← h0 c0]
          refine r_363g (k := j2) (P := isPl (s0.2.1 44 l)) ?_ rfl ca5 cp5
          rw [r_365 (k := j2) rk pm m72 lq hr hw, ← hh]
        · have hz : rzS s x y = rfS s x y := by unfold rzS; rw [if_neg c0]
          rw [if_neg c0, if_neg (by decide), hz]
          exact hx c0
      by_cases ok : x = 0 ∧ caB (isPl (s0.2.1 44 l)) (cpT τ) ca hm = true
      · obtain ⟨x0, cb⟩ := ok
        subst x0
        rw [if_pos cb] at f2 m2
        have k3 : KH L xs cx C Sc M pt vr mv h3 ds (gN G) (gSl G) (gTp G) gn (if lv = 0 then 0 else 1) 0 b u3 A3 B3 := by
          rw [fa_0, fb_0, fa_0, fb_0] at m2
          exact m2
        refine ⟨cT tr, rTp tr, h3, s63 s n m', wrap _ h3 cls, rwrap _ _ (r28 _ (fun _ => ?_) (fun z => absurd rfl z)), gn, 0, b, u3, A3, B3, CK_up e k3 (wF_trans W3 K3 m3) m6 s63_L (by rw [s63_64]; exact (rg rfl).2.2.1), wF_trans W3 K3 m3, wK2_trans K3 m4 W3.1.1, by omega, by omega, s63_r d2, fun _ => ⟨m8, fun _ _ _ _ _ q => q, tr, vtr, rfl, rfl, ?_, ?_, fun SL AA BB f s1' s2' hf g00 ga a00 a0 dg tu => ?_⟩⟩
        · rw [cb]
          unfold s363_183
          have g75 : rs_aI (rs_wA s 53 n (Int32.ofNat m')) 75 (Int32.ofNat m') = some (s0.2.1 75 m') := (aI_at (i := m') (by decide) rfl m72 (by decide)).trans (by show some (s.2.1 75 m') = _; rw [rk_A rk (by decide)])
          refine itq (by decide) (bsq (sI_at (i := n) (by decide) rfl hn (by decide)) (bsq g75 ?_))
          rcases hr with ⟨h1', h2'⟩ | ⟨h1', h2'⟩
          · rw [h1', h2', if_neg (by decide)]
            unfold s363_237
            exact bsq (a := (-1, s63 s n m')) (by rw [r_344]; rfl) rfl
          · have ne : mx_f2 .ne (s0.2.1 75 m') (-1) = true := by
              obtain ⟨kk, k1, k2, _⟩ := h1'
              rw [k2, f2_ne]
              apply decide_eq_true
              intro z
              have := congrArg Int32.toInt z
              rw [of_int (by omega), show (-1 : Int32).toInt = -1 from by decide] at this
              omega
            rw [if_pos ne]
            refine bsq g75 (bsq (a := rTp tr) (tyc_r (rK_trans rk (rL_K (rL_A (Or.inl rfl)))) h1').1 ?_)
            unfold s363_237
            exact bsq (a := (rTp tr, s63 s n m')) (by rw [r_344]; rfl) rfl
        · have dto : oT tr = 0 := by
            rcases hr with ⟨_, h2'⟩ | ⟨h1', _⟩
            · rw [h2']
              rfl
            · exact dT_o _ (gTy_lt vtr.1) (tyc_r rk h1').2
          rw [dto]
          exact fl0_61
        · rw [r44]
          exact pf_0 fl0_60 (by decide)
        · have ui := s2' (u 2) (Nat.le_refl _) (by omega)
          refine ⟨11, r44, by omega, l, τ, τ / 8 - 1, m', a0, u 2, ga, ts, r46, hl.1, hl.2, dg.2 (Or.inl rfl), tu, ⟨ah.1, ah.2, rfl⟩, mt, af rfl, fun _ => caB_T cb e72 ca5 pm hh rs, rs, ?_, m5, by rw [ui.1, m7.1], by rw [ui.2, m7.2]⟩
          rw [s1' n d3 d2, s63_53]
      · -- a fault
        have fin : CKJ L xs cx C Sc M pt vr mv hB s0 nk m h2 (if x = 0 then rzS s (if caB (isPl (s0.2.1 44 l)) (cpT τ) ca hm = true then 0 else 6) (s0.2.1 50 l) else rfS s x y) ds G lv gn (fa (fa 0 x) (if caB (isPl (s0.2.1 44 l)) (cpT τ) ca hm = true then 0 else 6)) (fb (fa 0 x) (fb 0 b x y) (if caB (isPl (s0.2.1 44 l)) (cpT τ) ca hm = true then 0 else 6) (s0.2.1 50 l)) u A B := CK_r2 e k1 w1 f2 f3 xp (by split; exact Or.inl rfl; exact Or.inr (by decide))
        have nz : fa (fa 0 x) (if caB (isPl (s0.2.1 44 l)) (cpT τ) ca hm = true then 0 else 6) ≠ 0 := by
          rw [fa_2]
          show (if x = 0 then (if caB (isPl (s0.2.1 44 l)) (cpT τ) ca hm = true then (0 : Int32) else 6) else x) ≠ 0
          by_cases c0 : x = 0
          · rw [if_pos c0, if_neg (fun cb => ok ⟨c0, cb⟩)]
            decide
          · rw [if_neg c0]
            exact c0
        refine ⟨cT tr, -1, h3, _, wrap _ h3 cls, rwrap _ _ (r28 _ (fun c0 => ?_) (fun c0 => by rw [if_neg c0])), gn, _, _, u3, A3, B3, CK_fk fin nz m2 m3 m6, wF_trans W3 K3 m3, wK2_trans K3 m4 W3.1.1, by omega, by omega, ?_, fun z => absurd z nz⟩
        · have cf : caB (isPl (s0.2.1 44 l)) (cpT τ) ca hm = false := by
            cases hh : caB (isPl (s0.2.1 44 l)) (cpT τ) ca hm
            · rfl
            · exact absurd ⟨c0, hh⟩ ok
          rw [if_pos c0, cf]
          unfold s363_183
          exact inq (by decide) (bsq (a := s0.2.1 50 l) ((aI_at (i := l) (by decide) rfl hl.2 (by decide)).trans (by rw [s50])) (bsq (a := (-1, rfS s 6 (s0.2.1 50 l))) (by rw [r_347 (k := j2 + 2) e57]; rfl) rfl))
        · split
          · exact rzS_r
          · exact fun i _ => ⟨rfl, rfl⟩
    · -- no such method
      obtain ⟨h1, v1, v2, v3, v4⟩ := ck_refA (pl := Pl) (ph := Ph) (zf := zf) (w := w) (k := j + 5) kh 3 (s0.2.1 51 n)
      refine ⟨2, -1, h1, _, wrap 2 h1 ?_, rwrap (-1) _ (rhead _ ?_), ft 3 (s0.2.1 51 n) h1 (by decide) v2 v3 v4⟩
      · unfold b204_0
        exact bsq (fd_R (o := some px) e6h (by decide)) (bsq c93 (inq (dnl_s K) (bsq (fd_R (o := some q) e2h (by decide)) (bsq c56 (itq rfl (bsq (fd_I e3h (by decide)) (bsq v1 rfl)))))))
      · unfold s363_28
        exact bsq (a := (Int32.ofNat (cpT τ), s)) (by rw [r55]; rfl) (bsq g56 (bsq (a := (-1, s)) (by rw [r64]; rfl) (inq (show ¬ mx_f2 .ne (-1 : Int32) (-1) = true by decide) (bsq g51 (bsq (a := (-1, rfS s 3 (s0.2.1 51 n))) (by rw [r_347 (k := j2 + 2) e57]; rfl) rfl)))))
  · rw [if_neg (fun z => ah (so.1.mp z))] at c93
    rw [if_neg ah] at r54
    have px5 : 0 < (owX (cT τ)).toInt := by
      unfold owX
      split <;> decide
    obtain ⟨h1, v1, v2, v3, v4⟩ := ck_refA (pl := Pl) (ph := Ph) (zf := zf) (w := w) (k := j + 4) kh (owX (cT τ)) (s0.2.1 50 l) (ps_ne (by unfold owX; split <;> decide))
    have v1 : (dcV L xs (dM L xs zf w (j + 1 + 4)) 178 [13] (some C) [.int (owX (cT τ)), .int (s0.2.1 50 l)] h).bind dxV = some h1 := by
      rw [show j + 1 + 4 = j + 4 + 1 from by omega]
      exact v1
    rw [v1, Option.bind_some] at c93
    refine ⟨2, -1, h1, _, wrap 2 h1 ?_, rwrap (-1) _ ?_, ft (owX (cT τ)) (s0.2.1 50 l) h1 px5 v2 v3 v4⟩
    · unfold b204_0
      exact bsq (fd_R (o := some px) e6h (by decide)) (bsq c93 (itq rfl rfl))
    · unfold s363_0
      exact bsq (a := (-1, rfS s (owX (cT τ)) (s0.2.1 50 l))) (by rw [r54]; rfl) (inq (show ¬ mx_f2 .ne (-1 : Int32) (-1) = true by decide) rfl)
end JCL
