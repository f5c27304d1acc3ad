/-! BOTH CHECK: new. -/
/-- rights that need what may be sent -/
def capS (c : Nat) : Bool := decide (c = 0) || decide (c = 1) || decide (c = 3)
/-- what new makes, by both -/
def nwJ (hB : rm_H) (s0 : rS) (nk d n : Nat) : Prop := ∃ k τ : Nat, k < nk ∧ s0.2.1 53 n = Int32.ofNat k ∧ fd hB 10 d 7 = some (.int (cT τ)) ∧ ((s0.2.1 66 k = 1 ∧ τ = 8 * (k + 1) + 5) ∨ (s0.2.1 66 k = 0 ∧ ∃ cp, cp < 5 ∧ τ = 8 * (k + 1) + cp ∧ (if s0.2.1 54 n = -1 then 2 else s0.2.1 54 n) = Int32.ofNat cp))
section JNW
variable {L : Nat} {xs : Nat → Int32} {zf : Value} {w C Sc M Pl Ph LO HI nk m lv n p q i d lo hi k k2 z W ke kr K l τ px q0 q1 pl ph : Nat} {cx : Nat → Nat} {hB h h1 h2 : rm_H} {s0 s s1 s2 : rS} {pt vr gn gn1 a b a1 b1 x y rc t v : Int32} {mv : Value} {ds kl ml es ns ts qs : List Nat} {G : List scN} {u u1 u2 : Nat → Nat} {A B A1 B1 : Nat → Int32} {c : Int64} {X : scN} {f : Nat → Int64} {sl ty : Nat → Int32}
theorem c_200 (kh : KH L xs cx C Sc M pt vr mv h ds f sl ty gn rc a b u A B) {cp : Nat} (hc : cp < 5) : (dcV L xs (dM L xs zf w (k + 1)) 200 [13] (some C) [.int (Int32.ofNat cp)] h).bind dxI = some (rd_01 (capS cp), h) := by
  rw [ck_v kh, e200]
  show (b200_0 L xs zf (dM L xs zf w k) w (Int32.ofNat cp) h).bind dxI = _
  have : cp = 0 ∨ cp = 1 ∨ cp = 2 ∨ cp = 3 ∨ cp = 4 := by omega
  rcases this with e | e | e | e | e <;> subst e <;> rfl
theorem new_T {k cp : Nat} (hk : k < 8) (hc : cp ≤ 5) : 8 * (Int32.ofNat k + 1) + Int32.ofNat cp = rTp (8 * (k + 1) + cp) := by
  have : ∀ k, k < 8 → ∀ cp, cp < 6 → 8 * (Int32.ofNat k + 1) + Int32.ofNat cp = rTp (8 * (k + 1) + cp) := by decide +kernel
  exact this k hk cp (by omega)
/-- new -/
theorem j_8 {y1 : Int32} (j0 : JE L xs cx hB s0 nk kl ml) (bj : bJ L xs hB s0 nk kl M m) (e0 : fd hB 12 p 0 = some (.int 8)) (e1 : fd hB 12 p 1 = some (.int (s0.2.1 50 n))) (e5 : fd hB 12 p 5 = some (.ref d)) (e3 : fd hB 12 p 3 = some (.int (s0.2.1 51 n))) (nj : nwJ hB s0 nk d n) (hp : pts hB q0 q1 p es) (hl6 : es.length ≤ 6) (r52 : s0.2.1 52 n = Int32.ofNat es.length) (r44 : s0.2.1 44 n = 8) (hn : n < 4400) (d2 : n < hi) (d3 : lo ≤ n) (hw : 200 ≤ w) (hk : 5 ≤ ke) (hk2 : 3 ≤ kr) (hHI : hi ≤ HI) (hLO : LO ≤ lo) (hpl : pl ≤ p + 1) (sqe : sq s0 (AR L xs zf w cx C Sc M pt vr mv hB s0 nk m LO HI z ke kr kl) hi ph n p (n + 1) (p + 1) es (s0.2.1 45 n)) : JX L xs zf w cx C Sc M pt vr mv hB s0 nk m pl ph LO HI z 174 343 p n lo hi (ke + 3) (kr + 3) := by
  intro j j2 h s ds G lv gn b u A B e hlz fv p53 hz
  obtain ⟨h1, s1, r1, r2, ⟨gn1, a1, b1, u1, A1, B1, ck1, wf1, wk1, u10, u12, r53a, ok1⟩, at1⟩ := j_173 j j2 j0 bj hp e1 hl6 (by omega) hn hHI (by omega) (by omega) hlz hw sqe e (FV_sub fv (by omega) (Nat.le_refl _)) (fun i h1 h2 => p53 i (by omega) h2) (by omega)
  obtain ⟨kh, dl, bh, rk, e57, _, rg, gw⟩ := id e
  obtain ⟨kh1, dl1, bh1, rk1, e571, e581, rg1, gw1⟩ := id ck1
  obtain ⟨k1, hk1⟩ : ∃ k1, ke + 1 + j = k1 + 6 := ⟨ke + 1 + j - 6, by omega⟩
  obtain ⟨k3, hk3⟩ : ∃ k1, kr + 1 + j2 = k1 + 4 := ⟨kr + 1 + j2 - 4, by omega⟩
  rw [hk1] at r1
  rw [hk3] at r2
  rw [show ke + 3 + j = k1 + 7 + 1 from by omega, show kr + 3 + j2 = k3 + 5 + 1 from by omega]
  have uz : u1 2 ≤ 9000 := by omega
  obtain ⟨f, hf, hf2⟩ : ∃ f, hi - lo = f + 1 ∧ hi - (n + 1) ≤ f := ⟨hi - lo - 1, by omega, by omega⟩
  have uz2 : u1 2 + 1 ≤ u 2 + 3 * (hi - lo) := by omega
  obtain ⟨kk, τ, kn, n53, d7, alt⟩ := nj
  have nk8 := j0.2.2.1
  have hτ : vT s0 nk τ := by
    rcases alt with ⟨q1, q2⟩ | ⟨q1, cp, q2, q3, _⟩
    · rw [q2]; exact vT_a kn nk8 (Or.inl rfl) q1
    · rw [q3]; exact vT_o kn nk8 q2 q1
  have t8 : 8 ≤ τ ∧ τ / 8 - 1 = kk ∧ τ % 8 ≠ 6 := by
    rcases alt with ⟨q1, q2⟩ | ⟨q1, cp, q2, q3, _⟩ <;> omega
  obtain ⟨K, kno, hK⟩ := kNo_T hτ t8.1 j0.2.1 nk8
  rw [t8.2.1] at hK
  obtain ⟨⟨ac, f92, r66, ac2⟩, f93, _, mk, _, _, _, _, m0, _, _, f96, r65, _, m72, _, _, mj, m70, _⟩ := j0.2.2.2.2 kk K hK
  have g0 := fd_I (L := L) (xs := xs) (cis := [12]) (bh.1.1 _ _ _ (by decide) e0) (by decide)
  -- the frames
  have cwrap : ∀ t h', (dcV L xs (dM L xs zf w (k1 + 7)) 198 [13] (some C) [va_rf (some p)] h).bind dxI = some (t, h') → (dcV L xs (dM L xs zf w (k1 + 7 + 1)) 174 [13] (some C) [va_rf (some p)] h).bind dxI = some (t, h') := by
    intro t h' hh
    rw [ck_v kh, e174]
    show (b174_0 L xs zf (dM L xs zf w (k1 + 7)) w (some C) (some p) h).bind dxI = _
    refine bsq (a := (some (.int t), h')) ?_ rfl
    unfold b174_0
    exact bsq g0 (inq (by decide) (inq (by decide) (inq (by decide) (inq (by decide) (inq (by decide) (inq (by decide) (inq (by decide) (inq (by decide) (itq rfl (bsq hh rfl))))))))))
  have cw : ∃ cw : Int32, cw = if s0.2.1 54 n = -1 then 2 else s0.2.1 54 n := ⟨_, rfl⟩
  obtain ⟨cw, hcw⟩ := cw
  have rwrap : ∀ r s', s357_34 (rM w (k3 + 4)) w (Int32.ofNat n) (Int32.ofNat kk) (Int32.ofNat m0) cw s = some (some (.int r), s') → rM w (k3 + 5 + 1) 343 [.ref 36, .int (Int32.ofNat n)] s = some (some (.int r), s') := by
    intro r s' hh
    rw [y343]
    show s343_0 (rM w (k3 + 5)) w (Int32.ofNat n) s = _
    unfold s343_0
    refine bsq (a := (8 : Int32)) ((aI_at (i := n) (by decide) rfl hn (by decide)).trans (by rw [rk_A rk (by decide), r44])) (inq (by decide) (inq (by decide) (inq (by decide) (inq (by decide) (inq (by decide) (inq (by decide) (inq (by decide) (inq (by decide) (itq rfl (bsq (a := (r, s')) ?_ rfl))))))))))
    rw [y357]
    show (s357_0 (rM w (k3 + 4)) w (Int32.ofNat n) s).bind rxI = _
    refine bsq (a := (some (.int r), s')) ?_ rfl
    unfold s357_0
    have g54 : rs_aI s 54 (Int32.ofNat n) = some (s0.2.1 54 n) := (aI_at (i := n) (by decide) rfl hn (by decide)).trans (by rw [rk_A rk (by decide)])
    refine bsq (a := Int32.ofNat kk) ((aI_at (i := n) (by decide) rfl hn (by decide)).trans (by rw [p53 n d3 d2, n53])) (bsq (a := Int32.ofNat m0) ((aI_at (i := kk) (by decide) rfl (by omega) (by decide)).trans (by rw [rk_A rk (by decide), r65])) (bsq g54 ?_))
    by_cases c1 : s0.2.1 54 n = -1
    · rw [if_pos c1] at hcw
      rw [hcw] at hh
      rw [c1]
      exact inq (show ¬ mx_f2 .ne (-1 : Int32) (-1) = true by decide) hh
    · rw [if_neg c1] at hcw
      rw [hcw] at hh
      exact itq (show mx_f2 .ne (s0.2.1 54 n) (-1) = true by rw [f2_ne]; exact decide_eq_true c1) (bsq g54 hh)
  have W1 : wF cx C Sc pl ph u h h1 := wF_mono wf1 hpl (Nat.le_refl _)
  by_cases ha : a1 = 0
  · subst ha
    obtain ⟨old1, fv1, ns, ts, ch, aq, _, _, ag⟩ := ok1 rfl
    obtain ⟨x, y, h2, c99, r58, k2', w2, w2', xp, af⟩ := j_199 (Pl := pl) (Ph := ph) (zf := zf) (w := w) (k := k1 + 1) ck1 aq (pts_h bh1 hp) hl6 e1 e3 hn r52 ch mj hw
    obtain ⟨_, _, f11, _, lq', ar', cap', ps', qs, p0, _, _, _, lq6, pm, _, _, _, _, f1112, _⟩ := id mj
    have bh2 := bH_w kh1 w2 bh1
    -- the refusal of a right
    obtain ⟨P, hP⟩ : ∃ P : Bool, P = (isO τ && capS (τ % 8) && ! qs.all sdT) := ⟨_, rfl⟩
    obtain ⟨h3, f1, f2, f3, f4⟩ := ck_rfz (pl := pl) (ph := ph) (zf := zf) (w := w) (k := k1 + 5) k2' (if P = true then 6 else 0) (s0.2.1 50 n)
    have bh3 := bH_w k2' f3 bh2
    obtain ⟨h4, u4, A4, B4, m1, m2, m3, m4, m5, m6, m7, m8⟩ := ck_emit (pl := pl) (ph := ph) (zf := zf) (w := w) (k := k1 + 3) f2 uz (if ac = 0 then 6 else 7) (Int32.ofNat m0)
    have f86 : b198_86 L xs zf (dM L xs zf w (k1 + 6)) w (some C) (cT τ) (some K) h3 = some (some (.int (cT τ)), h4) := by
      have f104 : ∀ op : Int32, (dcV L xs (dM L xs zf w (k1 + 6)) 175 [4] (some (cx 8)) [.int op, .int (Int32.ofNat m0)] h3).bind dxI = some (Int32.ofNat (u1 2), h4) → b198_104 L xs zf (dM L xs zf w (k1 + 6)) w (cT τ) (some K) op (some (cx 8)) h3 = some (some (.int (cT τ)), h4) := by
        intro op m1
        unfold b198_104
        exact bsq (fd_R (o := some mk) (bh3.2.1 _ _ _ f96) (by decide)) (bsq (fd_I (bh3.2.2 _ _ _ f11) (by decide)) (bsq m1 rfl))
      unfold b198_86
      refine bsq (ck_0 f2) (bsq (fd_I (bh3.2.1 _ _ _ f92) (by decide)) ?_)
      rcases ac2 with q | q
      · rw [q, if_pos rfl] at m1
        exact itq (show mx_f1 .eq ac = true by rw [q]; decide) (f104 6 m1)
      · rw [q, if_neg (by decide)] at m1
        exact inq (show ¬ mx_f1 .eq ac = true by rw [q]; decide) (f104 7 m1)
    have same : P = false → h2 = h3 := by
      intro q
      rw [q, if_neg (by decide)] at f1
      exact Option.some.inj f1
    have soO := (so_T τ (gTy_lt hτ.1) hτ.1).2.2.2
    have cls : (dcV L xs (dM L xs zf w (k1 + 7)) 198 [13] (some C) [va_rf (some p)] h).bind dxI = some (cT τ, h4) := by
      rw [ck_v kh, e198]
      show (b198_0 L xs zf (dM L xs zf w (k1 + 6)) w (some C) (some p) h).bind dxI = _
      refine bsq (a := (some (.int (cT τ)), h4)) ?_ rfl
      have kd := ck_kind (zf := zf) (w := w) (k := k1 + 2) kh1 (JE_GE j0 bh1) (c_kd (cT τ))
      rw [kno] at kd
      unfold b198_0
      refine bsq r1 (bsq (fd_R (o := some d) (bh1.1.1 _ _ _ (by decide) e5) (by decide)) (bsq (fd_I (bh1.1.2.2.2.1 _ _ _ d7) (by decide)) (bsq (ck_0 kh1) (bsq (t_kd (k := k1 + 5) _ h1) (bsq (a := (some K, h1)) kd (inq (dnl_s K) (bsq (fd_R (o := some mk) (bh1.2.1 _ _ _ f96) (by decide)) (inq (dnl_s mk) (bsq (fd_R (o := some mk) (bh1.2.1 _ _ _ f96) (by decide)) (bsq c99 (bsq (t_so (k := k1 + 5) _ h2) ?_)))))))))))
      dsimp only
      by_cases o : isO τ = true
      · rw [if_neg (show ¬ mx_f2 .ne (c_so (cT τ)) 5 = true by rw [f2_ne, soO.mpr o]; decide)]
        have cp5' : τ % 8 < 5 := by
          unfold isO at o
          simp at o
          exact o.2
        have tcp : c_cp (cT τ) = Int32.ofNat (τ % 8) := by
          rw [(t_all2 τ (gTy_lt hτ.1) hτ.1 t8.1).2]
          unfold cpT
          rw [if_pos cp5']
        refine bsq (t_cp (k := k1 + 5) _ h2) (bsq (a := (rd_01 (capS (τ % 8)), h2)) ?_ ?_)
        · show (dcV L xs (dM L xs zf w (k1 + 6)) 200 [13] (some C) [.int (c_cp (cT τ))] h2).bind dxI = _
          rw [tcp]
          exact c_200 (k := k1 + 5) k2' cp5'
        · dsimp only
          cases hs : capS (τ % 8) with
          | false =>
            rw [if_pos (by decide), same (by rw [hP, hs]; simp)]
            exact f86
          | true =>
            rw [if_neg (by decide)]
            refine bsq (fd_R (o := some mk) (bh2.2.1 _ _ _ f96) (by decide)) (bsq (fd_I (bh2.2.2 _ _ _ f1112) (by decide)) ?_)
            cases ha : qs.all sdT with
            | true =>
              rw [if_pos rfl, if_pos (by decide), same (by rw [hP, ha]; simp)]
              exact f86
            | false =>
              rw [if_neg (by decide)]
              have pt : P = true := by rw [hP, o, hs, ha]; rfl
              rw [pt, if_pos rfl] at f1
              unfold rfz at f1
              rw [if_neg (by decide)] at f1
              exact bsq (fd_I (bh2.1.1 _ _ _ (by decide) e1) (by decide)) (bsq f1 f86)
      · rw [if_pos (show mx_f2 .ne (c_so (cT τ)) 5 = true by rw [f2_ne]; exact decide_eq_true (fun z => o (soO.mp z)))]
        have of' : isO τ = false := by
          cases hh : isO τ
          · rfl
          · exact absurd hh o
        rw [same (by rw [hP, of']; rfl)]
        exact f86
    have W3 := wF_trans (wF_trans W1 wk1 w2) (wK2_trans wk1 w2' W1.1.1) f3
    have K3 := wK2_trans (wK2_trans wk1 w2' W1.1.1) f4 (wF_trans W1 wk1 w2).1.1
    -- the reference
    have g51 : rs_aI s1 51 (Int32.ofNat n) = some (s0.2.1 51 n) := (aI_at (i := n) (by decide) rfl hn (by decide)).trans (by rw [rk_A rk1 (by decide)])
    have g50 : rs_aI s1 50 (Int32.ofNat n) = some (s0.2.1 50 n) := (aI_at (i := n) (by decide) rfl hn (by decide)).trans (by rw [rk_A rk1 (by decide)])
    have g66 : rs_aB s1 66 (Int32.ofNat kk) = some ac := (aB_at (i := kk) (by decide) rfl (by omega) (by decide)).trans (by rw [rk_A rk1 (by decide), r66])
    have rmid : ∀ R, (x = 0 → (if mx_f1 .eq ac = true then
        if mx_f1 .eq cw = true then
          s357_101 (rM w (k3 + 4)) w (Int32.ofNat n) (Int32.ofNat kk) (Int32.ofNat m0) cw s1
        else
          if mx_f2 .eq cw 1 = true then
            s357_101 (rM w (k3 + 4)) w (Int32.ofNat n) (Int32.ofNat kk) (Int32.ofNat m0) cw s1
          else
            if mx_f2 .ne cw 3 = true then
              s357_106 (rM w (k3 + 4)) w (Int32.ofNat n) (Int32.ofNat kk) (Int32.ofNat m0) cw 0 s1
            else
              s357_101 (rM w (k3 + 4)) w (Int32.ofNat n) (Int32.ofNat kk) (Int32.ofNat m0) cw s1
      else
        ((rM w (k3 + 4) 346 [.ref 36, .int (Int32.ofNat kk)] s1).bind rxI).bind fun x21 =>
        ((rM w (k3 + 4) 344 [.ref 36, .int x21.1] x21.2).bind rxI).bind fun x26 =>
        rrI (some .int) x26.1 x26.2) = R) → (x ≠ 0 → some (some (.int (-1)), rfS s1 x y) = R) → s357_34 (rM w (k3 + 4)) w (Int32.ofNat n) (Int32.ofNat kk) (Int32.ofNat m0) cw s = R := by
      intro R h0 hx
      unfold s357_34
      refine bsq (a := s1) (by rw [r2]; rfl) (inq (show ¬ mx_f1 .gt (s1.1 57) = true by rw [e571]; decide) (bsq g51 (bsq (a := (if x = 0 then 1 else 0, rzS s1 x y)) (by rw [r58 k3]; rfl) ?_)))
      dsimp only
      by_cases c0 : x = 0
      · have hz : rzS s1 x y = s1 := by unfold rzS; rw [if_pos c0]
        rw [if_pos c0, if_pos (by decide), hz]
        exact bsq g66 (h0 c0)
      · have hz : rzS s1 x y = rfS s1 x y := by unfold rzS; rw [if_neg c0]
        rw [if_neg c0, if_neg (by decide), hz]
        exact hx c0
    have r34 : ∀ {cp : Nat}, cp ≤ 5 → τ = 8 * (kk + 1) + cp → s357_134 (rM w (k3 + 4)) w (Int32.ofNat kk) (Int32.ofNat cp) s1 = some (some (.int (rTp τ)), fl0 s1) := by
      intro cp hc ht
      unfold s357_134
      rw [new_T (by omega) hc, ← ht]
      exact bsq (a := (rTp τ, fl0 s1)) (by rw [r_344]; rfl) rfl
    have r06 : ∀ {cp : Nat}, cp < 5 → τ = 8 * (kk + 1) + cp → s357_101 (rM w (k3 + 4)) w (Int32.ofNat n) (Int32.ofNat kk) (Int32.ofNat m0) (Int32.ofNat cp) s1 = if qs.all sdT = true then some (some (.int (rTp τ)), fl0 s1) else some (some (.int (-1)), rfS s1 6 (s0.2.1 50 n)) := by
      intro cp hc ht
      unfold s357_101 s357_106
      refine inq (by decide) (bsq (a := (if qs.all sdT = true then 1 else 0, s1)) (by rw [r_359 (k := k3 + 1) rk1 pm (by omega) lq6 hw]; rfl) ?_)
      dsimp only
      cases ha : qs.all sdT with
      | true =>
        rw [if_pos rfl, if_pos (by decide), if_pos rfl]
        exact r34 (by omega) ht
      | false =>
        rw [if_neg (by decide), if_neg (by decide)]
        exact bsq g50 (bsq (a := (-1, rfS s1 6 (s0.2.1 50 n))) (by rw [r_347 (k := k3 + 2) e571]; rfl) rfl)
    have ref : ∀ R, (x = 0 → P = false → some (some (.int (rTp τ)), fl0 s1) = R) → (x = 0 → P = true → some (some (.int (-1)), rfS s1 6 (s0.2.1 50 n)) = R) → (x ≠ 0 → some (some (.int (-1)), rfS s1 x y) = R) → s357_34 (rM w (k3 + 4)) w (Int32.ofNat n) (Int32.ofNat kk) (Int32.ofNat m0) cw s = R := by
      intro R h0 h6 hx
      refine rmid R (fun c0 => ?_) hx
      rcases alt with ⟨q1, q2⟩ | ⟨q1, cp, q2, q3, q4⟩
      · have ac1 : ac = 1 := by rw [← r66]; exact q1
        have of' : isO τ = false := by
          unfold isO
          rw [decide_eq_false (show ¬ τ % 8 < 5 by omega), Bool.and_false]
        rw [if_neg (show ¬ mx_f1 .eq ac = true by rw [ac1]; decide)]
        rw [← h0 c0 (by rw [hP, of']; rfl)]
        have nT : 8 * (Int32.ofNat kk + 1) + 5 = rTp τ := by
          rw [q2]
          exact new_T (cp := 5) (by omega) (by omega)
        refine bsq (a := (rTp τ, s1)) ?_ (bsq (a := (rTp τ, fl0 s1)) (by rw [r_344]; rfl) rfl)
        rw [y346]
        show some (8 * (Int32.ofNat kk + 1) + 5, s1) = _
        rw [nT]
      · have ac0 : ac = 0 := by rw [← r66]; exact q1
        have t5 : τ % 8 = cp := by omega
        have o : isO τ = true := by
          unfold isO
          rw [decide_eq_true (show τ % 8 < 5 by omega), decide_eq_true t8.1]
          rfl
        have P' : P = (capS cp && ! qs.all sdT) := by rw [hP, o, t5, Bool.true_and]
        have hcp : cw = Int32.ofNat cp := hcw.trans q4
        rw [if_pos (show mx_f1 .eq ac = true by rw [ac0]; decide), hcp]
        have yes : capS cp = true → s357_101 (rM w (k3 + 4)) w (Int32.ofNat n) (Int32.ofNat kk) (Int32.ofNat m0) (Int32.ofNat cp) s1 = R := by
          intro hs
          rw [r06 q2 q3]
          cases ha : qs.all sdT with
          | true =>
            rw [if_pos rfl]
            exact h0 c0 (by rw [P', ha]; simp)
          | false =>
            rw [if_neg (by decide)]
            exact h6 c0 (by rw [P', hs, ha]; rfl)
        have no : capS cp = false → s357_106 (rM w (k3 + 4)) w (Int32.ofNat n) (Int32.ofNat kk) (Int32.ofNat m0) (Int32.ofNat cp) 0 s1 = R := by
          intro hs
          unfold s357_106
          refine itq (by decide) ?_
          rw [r34 (by omega) q3]
          exact h0 c0 (by rw [P', hs]; rfl)
        have c5 : cp = 0 ∨ cp = 1 ∨ cp = 2 ∨ cp = 3 ∨ cp = 4 := by omega
        rcases c5 with z | z | z | z | z <;> subst z
        · exact itq (by decide) (yes (by decide))
        · exact inq (by decide) (itq (by decide) (yes (by decide)))
        · exact inq (by decide) (inq (by decide) (itq (by decide) (no (by decide))))
        · exact inq (by decide) (inq (by decide) (inq (by decide) (yes (by decide))))
        · exact inq (by decide) (inq (by decide) (itq (by decide) (no (by decide))))
    by_cases ok : x = 0 ∧ P = false
    · obtain ⟨x0, pf⟩ := ok
      subst x0
      have k4 : KH L xs cx C Sc M pt vr mv h4 ds (gN G) (gSl G) (gTp G) gn1 (if lv = 0 then 0 else 1) 0 b1 u4 A4 B4 := by
        rw [pf, if_neg (show ¬ false = true by decide), fa_0, fb_0, fa_0, fb_0] at m2
        exact m2
      refine ⟨cT τ, rTp τ, h4, fl0 s1, cwrap _ _ cls, rwrap _ _ (ref _ (fun _ _ => rfl) (fun _ q => by rw [pf] at q; cases q) (fun z => absurd rfl z)), gn1, 0, b1, u4, A4, B4, CK_up ck1 k4 (wF_trans (wF_trans w2 w2' f3) (wK2_trans w2' f4 w2.1.1) m3) m6 fl0_L (by rw [fl0_64]; exact (rg1 rfl).2.2.1), wF_trans W3 K3 m3, wK2_trans K3 m4 W3.1.1, m6.trans u10, by omega, r53_trans (r53_mono r53a (by omega) (Nat.le_refl _)) fl0_r, fun _ => ⟨fun i hi => ?_, fun lo2 hi2 o1 o2 o3 o4 => fv1 lo2 hi2 (by omega) o2 o3 o4, τ, hτ, rfl, rfl, ?_, ?_, fun SL AA BB hSL hAB => ?_⟩⟩
      · have uu : u 2 ≤ u1 2 := wk1.2.2.2.2.1
        exact ⟨(m8 i (by omega)).1.trans (old1 i hi).1, (m8 i (by omega)).2.trans (old1 i hi).2⟩
      · rw [show oT τ = 0 from by unfold oT; rw [if_neg (fun z => t8.2.2 z.2)]]
        exact fl0_61
      · rw [r44]
        exact pf_0 fl0_60 (by decide)
      · have uu : u 2 ≤ u1 2 := wk1.2.2.2.2.1
        have ui := hAB (u1 2) uu (by omega)
        rw [hf, m5]
        refine Or.inr ⟨8, r44, by omega, kk, m0, u1 2, ts, ?_, JE_kR j0 hK, r65, by omega, ag SL AA BB f (fun i h1 h2 => hSL i (Nat.le_trans (Nat.le_trans d3 (Nat.le_succ n)) h1) h2) (fun i h1 h2 => ?_) hf2, af rfl, rfl, by rw [ui.2, m7.2], ?_⟩
        · rw [hSL n d3 d2]
          show s1.2.1 53 n = _
          rw [(r53a n (fun z => by omega)).1, p53 n d3 d2, n53]
        · have q := hAB i h1 (by omega)
          exact ⟨q.1.trans (m8 i h2).1, q.2.trans (m8 i h2).2⟩
        · rcases alt with ⟨q1, q2⟩ | ⟨q1, cp, q2, q3, q4⟩
          · refine Or.inl ⟨q1, q2, ?_⟩
            rw [ui.1, m7.1, ← r66, q1]
            rfl
          · refine Or.inr ⟨q1, ?_, cp, q2, q3, q4, fun hc => ⟨qs, pm, ?_⟩⟩
            · rw [ui.1, m7.1, ← r66, q1]
              rfl
            · have t5 : τ % 8 = cp := by omega
              have o : isO τ = true := by
                unfold isO
                rw [decide_eq_true (show τ % 8 < 5 by omega), decide_eq_true t8.1]
                rfl
              have sc : capS cp = true := by
                rcases hc with z | z | z <;> subst z <;> decide
              have : qs.all sdT = true := by
                rw [hP, o, t5, sc] at pf
                simpa using pf
              exact List.all_eq_true.mp this
    · -- a fault
      have p6 : (if P = true then (6 : Int32) else 0) = 0 ∨ 0 < (if P = true then (6 : Int32) else 0).toInt := by
        cases P
        · exact Or.inl rfl
        · exact Or.inr (by decide)
      have fin := CK_r2 ck1 k2' w2 f2 f3 xp p6
      have nz : fa (fa 0 x) (if P = true then 6 else 0) ≠ 0 := by
        rw [fa_2]
        show (if x = 0 then (if P = true then (6 : Int32) else 0) else x) ≠ 0
        by_cases c0 : x = 0
        · rw [if_pos c0]
          cases hPP : P
          · exact absurd ⟨c0, hPP⟩ ok
          · decide
        · rw [if_neg c0]
          exact c0
      refine ⟨cT τ, -1, h4, (if x = 0 then rzS s1 (if P = true then 6 else 0) (s0.2.1 50 n) else rfS s1 x y), cwrap _ _ cls, rwrap _ _ (ref _ (fun c0 q => absurd ⟨c0, q⟩ ok) (fun c0 q => ?_) (fun c0 => by rw [if_neg c0])), gn1, _, _, u4, A4, B4, CK_fk fin nz m2 m3 m6, wF_trans W3 K3 m3, wK2_trans K3 m4 W3.1.1, m6.trans u10, by omega, r53_trans (r53_mono r53a (by omega) (Nat.le_refl _)) ?_, fun z => absurd z nz⟩
      · rw [if_pos c0, q, if_pos rfl]
        unfold rzS
        rw [if_neg (by decide)]
      · split
        · exact rzS_r
        · exact fun i _ => ⟨rfl, rfl⟩
  · obtain ⟨t', h', u', m1, m2⟩ := zk_198 (c0 := 0) (pl := pl) (ph := ph) (k := k1) (zf := zf) (w := w) (CK_EV j0 bj ck1 ha) uz hp hl6 at1 e1 e3 e5 d7 hw r1 (ck_v kh)
    obtain ⟨gn3, A3, B3, ck3⟩ := CK_ZR ck1 ha m2
    have uu := m2.2.2.2.2
    refine ⟨t', -1, h', s1, cwrap _ _ m1, rwrap _ _ ?_, gn3, a1, b1, u', A3, B3, ck3, wF_trans W1 wk1 m2.2.1, wK2_trans wk1 m2.2.2.1 W1.1.1, m2.2.2.2.1.trans u10, by omega, r53_mono r53a (by omega) (Nat.le_refl _), fun z => absurd z ha⟩
    unfold s357_34
    refine bsq (a := s1) (by rw [r2]; rfl) (itq ?_ rfl)
    rw [e571, f1_gt]
    exact decide_eq_true (e581 ha).2
end JNW
