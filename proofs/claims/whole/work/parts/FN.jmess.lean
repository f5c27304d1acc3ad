/-! BOTH CHECK: messages. -/
theorem so_M : ∀ t, t < 72 → gTy t = true → ((c_so (cT t) = 3 ∨ c_so (cT t) = 4) ↔ (8 ≤ t ∧ 5 ≤ t % 8)) := by decide +kernel
section JMS
variable {L : Nat} {xs : Nat → Int32} {zf : Value} {w C Sc M Pl Ph LO HI nk m lv n p q i d lo hi k k2 z W ke kr K l τ px q0 q1 M' m' kk : Nat} {cx : Nat → Nat} {hB h h1 h2 : rm_H} {s0 s s1 s2 : rS} {pt vr gn gn1 a b a1 b1 x y rc t v : Int32} {mv : Value} {ds kl ml es ns ts qs : List Nat} {G : List scN} {u u1 u2 : Nat → Nat} {A B A1 B1 : Nat → Int32} {c : Int64} {X : scN} {f : Nat → Int64} {sl ty : Nat → Int32}
/-- a message: node l is ahead -/
theorem j_207 {y1 : Int32} (j0 : JE L xs cx hB s0 nk kl ml) (e0 : fd hB 12 p 0 = some (.int 12)) (e1 : fd hB 12 p 1 = some (.int y1)) (e6 : fd hB 12 p 6 = some (.ref px)) (ex : fd hB 12 px 1 = some (.int (s0.2.1 50 l))) (e2 : fd hB 12 p 2 = some (.ref q)) (hq : nS L xs hB q (s0.2.2 56 n)) (e3 : fd hB 12 p 3 = some (.int (s0.2.1 51 n))) (hp : pts hB q0 q1 p es) (hl6 : es.length ≤ 6) (r52 : s0.2.1 52 n = Int32.ofNat es.length) (ch : chR s0 ns (s0.2.1 45 n)) (r44 : s0.2.1 44 n = 12) (r46 : s0.2.1 46 n = Int32.ofNat l) (hl : 1 ≤ l ∧ l < 4400) (hn : n < 4400) (d2 : n < hi) (d3 : lo ≤ n) (hw : 200 ≤ w) (j j2 : Nat) (e : CKJ L xs cx C Sc M pt vr mv hB s0 nk m h s ds G lv gn 0 b u A B) (hz : u 2 + 3 * (hi - n) ≤ 9000) (hτ : vT s0 nk τ) (aq : aQ s0 nk h s es ns ts) : ∃ t' r' h' s', (dcV L xs (dM L xs zf w (8 + j)) 202 [13] (some C) [va_rf (some p), .int (cT τ)] h).bind dxI = some (t', h') ∧ rM w (6 + j2) 361 [.ref 36, .int (Int32.ofNat n), .int (Int32.ofNat l), .int (rTp τ)] s = some (some (.int r'), s') ∧ LXO L xs cx C Sc M pt vr mv hB s0 nk m Pl Ph LO HI lo hi n 12 l τ ts lv G ds gn u A B h s (3 * (hi - n)) t' r' h' s' := by
  obtain ⟨kh, dl, bh, rk, e57, _, rg, gw⟩ := id e
  have ge := JE_GE j0 bh
  have e6h := bh.1.1 _ _ _ (by decide) e6
  have exh := bh.1.1 _ _ _ (by decide) ex
  have e2h := bh.1.1 _ _ _ (by decide) e2
  have e3h := bh.1.1 _ _ _ (by decide) e3
  have s56 : s.2.2 56 n = s0.2.2 56 n := rk_B rk (by decide) n
  have s51 : s.2.1 51 n = s0.2.1 51 n := rk_A rk (by decide) n
  have s50 : s.2.1 50 l = s0.2.1 50 l := rk_A rk (by decide) l
  have g50 : rs_aI s 50 (Int32.ofNat l) = some (s0.2.1 50 l) := (aI_at (i := l) (by decide) rfl hl.2 (by decide)).trans (by rw [s50])
  have g51 : rs_aI s 51 (Int32.ofNat n) = some (s0.2.1 51 n) := (aI_at (i := n) (by decide) rfl hn (by decide)).trans (by rw [s51])
  have g56 : rs_aJ s 56 (Int32.ofNat n) = some (s0.2.2 56 n) := (aJ_at (i := n) (by decide) rfl hn (by decide)).trans (by rw [s56])
  have so := so_M τ (gTy_lt hτ.1) hτ.1
  have so2 := (so_T τ (gTy_lt hτ.1) hτ.1).2.1
  obtain ⟨z1, z2, _⟩ := rTp_1 τ (gTy_lt hτ.1) hτ.1
  have r5 := r_350 (w := w) (k := j2 + 2) e57 hl.2 (rTp τ)
  rw [s50] at r5
  have wrap : ∀ t h2, b207_0 L xs zf (dM L xs zf w (j + 6)) w (some C) (some p) (cT τ) h = some (some (.int t), h2) → (dcV L xs (dM L xs zf w (8 + j)) 202 [13] (some C) [va_rf (some p), .int (cT τ)] h).bind dxI = some (t, h2) := by
    intro t h2 hh
    rw [show 8 + j = j + 7 + 1 from by omega]
    refine c_202 (Or.inr (Or.inr (Or.inl ⟨rfl, rfl⟩))) kh (bh.1.1 _ _ _ (by decide) e0) ?_
    rw [ck_v kh, e207]
    show (b207_0 L xs zf (dM L xs zf w (j + 6)) w (some C) (some p) (cT τ) h).bind dxI = _
    rw [hh]
    rfl
  have rwrap : ∀ r s', s366_0 (rM w (j2 + 4)) w (Int32.ofNat n) (Int32.ofNat l) (rTp τ) s = some (some (.int r), s') → rM w (6 + j2) 361 [.ref 36, .int (Int32.ofNat n), .int (Int32.ofNat l), .int (rTp τ)] s = some (some (.int r), s') := by
    intro r s' hh
    rw [show 6 + j2 = j2 + 5 + 1 from by omega, y361]
    show s361_0 (rM w (j2 + 5)) w (Int32.ofNat n) (Int32.ofNat l) (rTp τ) s = _
    unfold s361_0
    refine bsq (a := (12 : Int32)) ((aI_at (i := n) (by decide) rfl hn (by decide)).trans (by rw [rk_A rk (by decide), r44])) (inq (by decide) (inq (by decide) (inq (by decide) (itq rfl (bsq (a := (r, s')) ?_ rfl)))))
    rw [y366]
    show (s366_0 (rM w (j2 + 4)) w (Int32.ofNat n) (Int32.ofNat l) (rTp τ) s).bind rxI = _
    rw [hh]
    rfl
  have ft : ∀ (x y' : Int32) (h1 : rm_H), 0 < x.toInt → KH L xs cx C Sc M pt vr mv h1 ds (gN G) (gSl G) (gTp G) gn (if lv = 0 then 0 else 1) x y' u A B → wF cx C Sc Pl Ph u h h1 → wK2 u u h h1 → LXO L xs cx C Sc M pt vr mv hB s0 nk m Pl Ph LO HI lo hi n 12 l τ ts lv G ds gn u A B h s (3 * (hi - n)) 0 (-1) h1 (rfS s x y') := fun x y' h1 hx k1 w1 w2 => ⟨gn, x, y', u, A, B, CK_ft e k1 hx w1 rfl rfS_K rfS_57 rfS_58, w1, w2, rfl, by omega, fun i _ => ⟨rfl, rfl⟩, fun z => absurd z (ps_ne hx)⟩
  have kne : ∀ i, i < 100 → mx_f2 .ne (Int32.ofNat i) (-1) = true := by decide +kernel
  by_cases ah : 8 ≤ τ ∧ 5 ≤ τ % 8
  · obtain ⟨K, kn, hK⟩ := kNo_T hτ ah.1 j0.2.1 j0.2.2.1
    have hk8 : τ / 8 - 1 < 8 := by
      have := (hτ.2 ah.1).1
      have := j0.2.2.1
      omega
    have ac : acR (rTp τ) = true := by
      rw [acR_T τ (gTy_lt hτ.1) hτ.1]
      exact decide_eq_true ah
    have t1 : ¬ rTp τ = -1 := fun z => by
      have := z1.mp z
      omega
    rw [if_neg t1, if_neg t1] at r5
    have rk8 := (t_all3 τ (gTy_lt hτ.1) hτ.1 ah.1).2
    -- the class up to the kind
    have kd := ck_kind (zf := zf) (w := w) (k := j + 2) kh ge (c_kd (cT τ))
    rw [kn] at kd
    have chead : ∀ (o : Option Nat) R, (dcV L xs (dM L xs zf w (j + 6)) 156 [9] (some K) [va_rf (some q), .int 2] h).bind dxR = some (o, h) → b207_71 L xs zf (dM L xs zf w (j + 6)) w (some C) (some p) o h = R → b207_0 L xs zf (dM L xs zf w (j + 6)) w (some C) (some p) (cT τ) h = R := by
      intro o R hc hR
      have f42 : b207_42 L xs zf (dM L xs zf w (j + 6)) w (some C) (some p) (cT τ) h = R := by
        unfold b207_42
        exact bsq (ck_0 kh) (bsq (t_kd (k := j + 5) _ h) (bsq (a := (some K, h)) kd (inq (dnl_s K) (bsq (fd_R (o := some q) e2h (by decide)) (bsq hc hR)))))
      unfold b207_0
      refine bsq (t_so (k := j + 5) _ h) ?_
      by_cases c3 : c_so (cT τ) = 3
      · exact itq (show mx_f2 .eq (c_so (cT τ)) 3 = true from decide_eq_true c3) f42
      · have c4 : c_so (cT τ) = 4 := (so.mpr ah).resolve_left c3
        exact inq (show ¬ mx_f2 .eq (c_so (cT τ)) 3 = true from fun z => c3 (of_decide_eq_true z)) (bsq (t_so (k := j + 5) _ h) (itq (show mx_f2 .eq (c_so (cT τ)) 4 = true from decide_eq_true c4) f42))
    have rhead : ∀ (x' : Int32) R, rM w (j2 + 4) 364 [.ref 36, .int (Int32.ofNat (τ / 8 - 1)), .int 2, .long (s0.2.2 56 n)] s = some (some (.int x'), s) → (if mx_f2 .ne x' (-1) = true then
        (rs_aI s 51 (Int32.ofNat n)).bind fun x21 =>
        ((rM w (j2 + 4) 358 [.ref 36, .int (Int32.ofNat n), .int x', .int x21] s).bind rxI).bind fun x23 =>
        if mx_f1 .ne x23.1 = true then
          (rs_sI x23.2 53 (Int32.ofNat n) x').bind fun s29 =>
          ((rM w (j2 + 4) 344 [.ref 36, .int (-1)] s29).bind rxI).bind fun x34 =>
          rrI (some .int) x34.1 x34.2
        else
          rrI (some .int) (-1) x23.2
      else
        (rs_aI s 51 (Int32.ofNat n)).bind fun x39 =>
        ((rM w (j2 + 4) 347 [.ref 36, .int 3, .int x39] s).bind rxI).bind fun x41 =>
        rrI (some .int) x41.1 x41.2) = R → s366_0 (rM w (j2 + 4)) w (Int32.ofNat n) (Int32.ofNat l) (rTp τ) s = R := by
      intro x' R hx hR
      unfold s366_0
      refine bsq (a := (1, s)) (by rw [r5]; rfl) (itq (show mx_f1 .ne (1 : Int32) = true by decide) (bsq (a := (rd_01 true, s)) (by rw [r_332b, ac]; rfl) (itq (show mx_f1 .ne (rd_01 true) = true by decide) (bsq g56 (bsq (a := (x', s)) ?_ hR)))))
      rw [rk8]
      show (rM w (j2 + 4) 364 [.ref 36, .int (Int32.ofNat (τ / 8 - 1)), .int 2, .long (s0.2.2 56 n)] s).bind rxI = _
      rw [hx]
      rfl
    rcases ml_look (zf := zf) (w := w) (k := j + 2) (k2 := j2 + 3) j0 bh hK (bh.1.2.2.1 _ _ hq) rk hw 2 with ⟨M', m', c56, r64, mt, mj, m70, own2⟩ | ⟨c56, r64⟩
    · obtain ⟨x, y, h1, c99, r58, k1, w1, w2, xp, af⟩ := j_199 (Pl := Pl) (Ph := Ph) (zf := zf) (w := w) (k := j + 1) e aq (pts_h bh hp) hl6 e1 e3 hn r52 ch mj hw
      obtain ⟨m72, _, mn, _, _⟩ := id mj
      have bh1 := bH_w kh w1 bh
      obtain ⟨h3, u3, A3, B3, m1, m2, m3, m4, m5, m6, m7, m8⟩ := ck_emit (pl := Pl) (ph := Ph) (zf := zf) (w := w) (k := j + 3) k1 (by omega) 5 (Int32.ofNat m')
      have cls : b207_0 L xs zf (dM L xs zf w (j + 6)) w (some C) (some p) (cT τ) h = some (some (.int 0), h3) := by
        refine chead (some M') _ c56 ?_
        unfold b207_71
        exact inq (dnl_s M') (bsq c99 (bsq (ck_0 k1) (bsq (fd_I (bh1.2.2 _ _ _ mn) (by decide)) (bsq m1 rfl))))
      by_cases c0 : x = 0
      · subst c0
        have k3 : KH L xs cx C Sc M pt vr mv h3 ds (gN G) (gSl G) (gTp G) gn (if lv = 0 then 0 else 1) 0 b u3 A3 B3 := by
          rw [fa_0, fb_0] at m2
          exact m2
        have hz : rzS s 0 y = s := by unfold rzS; rw [if_pos rfl]
        refine ⟨cT 0, rTp 0, h3, s63 s n m', wrap _ h3 cls, rwrap _ _ (rhead _ _ r64 ?_), gn, 0, b, u3, A3, B3, CK_up e k3 (wF_trans w1 w2 m3) m6 s63_L (by rw [s63_64]; exact (rg rfl).2.2.1), wF_trans w1 w2 m3, wK2_trans w2 m4 w1.1.1, by omega, by omega, s63_r d2, fun _ => ⟨m8, fun _ _ _ _ _ q => q, 0, ⟨by decide, fun z => by omega⟩, rfl, rfl, fl0_61, ?_, fun SL AA BB f s1' s2' hf g00 ga a00 a0 dg tu => ?_⟩⟩
        · have r58 := r58 j2
          rw [if_pos rfl, hz] at r58
          refine itq (kne _ (by omega)) (bsq g51 (bsq (a := (1, s)) (by rw [r58]; rfl) (itq (show mx_f1 .ne (1 : Int32) = true by decide) (bsq (sI_at (i := n) (by decide) rfl hn (by decide)) (bsq (a := (-1, s63 s n m')) (by rw [r_344]; rfl) rfl)))))
        · rw [r44]
          exact pf_0 fl0_60 (by decide)
        · have ui := s2' (u 2) (Nat.le_refl _) (by omega)
          refine ⟨12, r44, by omega, l, τ, m', a0, u 2, ga, ts, r46, hl.1, hl.2, dg.2 (Or.inr rfl), tu, ah.1, ah.2, mt, af rfl, rfl, ?_, m5, by rw [ui.1, m7.1], by rw [ui.2, m7.2]⟩
          rw [s1' n d3 d2, s63_53]
      · have px : 0 < x.toInt := xp.resolve_left c0
        have hz : rzS s x y = rfS s x y := by unfold rzS; rw [if_neg c0]
        have nz : fa 0 x ≠ 0 := by
          show (if (0 : Int32) = 0 then x else 0) ≠ 0
          rw [if_pos rfl]
          exact c0
        have fin : CKJ L xs cx C Sc M pt vr mv hB s0 nk m h1 (rfS s x y) ds G lv gn (fa 0 x) (fb 0 b x y) u A B := by
          have k1' : KH L xs cx C Sc M pt vr mv h1 ds (gN G) (gSl G) (gTp G) gn (if lv = 0 then 0 else 1) x y u A B := by
            have q1 : fa 0 x = x := by show (if (0 : Int32) = 0 then x else 0) = x; rw [if_pos rfl]
            have q2 : fb 0 b x y = y := by
              unfold fb
              simp [c0]
            rw [q1, q2] at k1
            exact k1
          have q1 : fa 0 x = x := by show (if (0 : Int32) = 0 then x else 0) = x; rw [if_pos rfl]
          have q2 : fb 0 b x y = y := by
            unfold fb
            simp [c0]
          rw [q1, q2]
          exact CK_ft e k1' px w1 rfl rfS_K rfS_57 rfS_58
        refine ⟨0, -1, h3, rfS s x y, wrap _ h3 cls, rwrap _ _ (rhead _ _ r64 ?_), gn, fa 0 x, fb 0 b x y, u3, A3, B3, CK_fk fin nz m2 m3 m6, wF_trans w1 w2 m3, wK2_trans w2 m4 w1.1.1, by omega, by omega, fun i _ => ⟨rfl, rfl⟩, fun z => absurd z nz⟩
        have r58 := r58 j2
        rw [if_neg c0, hz] at r58
        exact itq (kne _ (by omega)) (bsq g51 (bsq (a := (0, rfS s x y)) (by rw [r58]; rfl) (inq (show ¬ mx_f1 .ne (0 : Int32) = true by decide) rfl)))
    · obtain ⟨h1, v1, v2, v3, v4⟩ := ck_refA (pl := Pl) (ph := Ph) (zf := zf) (w := w) (k := j + 5) kh 3 (s0.2.1 51 n)
      refine ⟨0, -1, h1, _, wrap 0 h1 (chead none _ c56 ?_), rwrap (-1) _ (rhead _ _ r64 ?_), ft 3 (s0.2.1 51 n) h1 (by decide) v2 v3 v4⟩
      · unfold b207_71
        exact itq rfl (bsq (fd_I e3h (by decide)) (bsq v1 rfl))
      · exact inq (show ¬ mx_f2 .ne (-1 : Int32) (-1) = true by decide) (bsq g51 (bsq (a := (-1, rfS s 3 (s0.2.1 51 n))) (by rw [r_347 (k := j2 + 2) e57]; rfl) rfl))
  · have c3 : ¬ c_so (cT τ) = 3 := fun z => ah (so.mp (Or.inl z))
    have c4 : ¬ c_so (cT τ) = 4 := fun z => ah (so.mp (Or.inr z))
    have px5 : 0 < (owX (cT τ)).toInt := by
      unfold owX
      split <;> decide
    obtain ⟨h1, v1, v2, v3, v4⟩ := ck_refA (pl := Pl) (ph := Ph) (zf := zf) (w := w) (k := j + 5) kh (owX (cT τ)) (s0.2.1 50 l) (ps_ne (by unfold owX; split <;> decide))
    have ac : acR (rTp τ) = false := by
      rw [acR_T τ (gTy_lt hτ.1) hτ.1]
      exact decide_eq_false ah
    refine ⟨0, -1, h1, _, wrap 0 h1 ?_, rwrap (-1) _ ?_, ft (owX (cT τ)) (s0.2.1 50 l) h1 px5 v2 v3 v4⟩
    · unfold b207_0
      refine bsq (t_so (k := j + 5) _ h) (inq (show ¬ mx_f2 .eq (c_so (cT τ)) 3 = true from fun z => c3 (of_decide_eq_true z)) (bsq (t_so (k := j + 5) _ h) (inq (show ¬ mx_f2 .eq (c_so (cT τ)) 4 = true from fun z => c4 (of_decide_eq_true z)) (bsq (t_so (k := j + 5) _ h) ?_))))
      dsimp only
      have f30 : b207_30 L xs zf (dM L xs zf w (j + 6)) w (some p) (owX (cT τ)) (some C) h = some (some (.int 0), h1) := by
        unfold b207_30
        exact bsq (fd_R (o := some px) e6h (by decide)) (bsq (fd_I exh (by decide)) (bsq v1 rfl))
      unfold owX at f30
      by_cases c0 : c_so (cT τ) = 0
      · rw [if_pos c0] at f30
        rw [if_neg (show ¬ mx_f1 .ne (c_so (cT τ)) = true by rw [f1_ne, c0]; decide)]
        exact f30
      · rw [if_neg c0] at f30
        rw [if_pos (show mx_f1 .ne (c_so (cT τ)) = true by rw [f1_ne]; exact decide_eq_true c0)]
        exact f30
    · unfold s366_0 owX
      by_cases c0 : τ = 0
      · rw [if_pos (z1.mpr c0), if_pos (z1.mpr c0)] at r5
        rw [if_pos (so2.mpr c0)]
        exact bsq (a := (0, rfS s 8 (s0.2.1 50 l))) (by rw [r5]; rfl) (inq (show ¬ mx_f1 .ne (0 : Int32) = true by decide) rfl)
      · rw [if_neg (fun z => c0 (z1.mp z)), if_neg (fun z => c0 (z1.mp z))] at r5
        rw [if_neg (fun z => c0 (so2.mp z))]
        exact bsq (a := (1, s)) (by rw [r5]; rfl) (itq (show mx_f1 .ne (1 : Int32) = true by decide) (bsq (a := (rd_01 false, s)) (by rw [r_332b, ac]; rfl) (inq (show ¬ mx_f1 .ne (rd_01 false) = true by decide) (bsq g50 (bsq (a := (-1, rfS s 5 (s0.2.1 50 l))) (by rw [r_347 (k := j2 + 2) e57]; rfl) rfl)))))
end JMS
