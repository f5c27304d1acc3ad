/-! BOTH CHECK: consume. -/
section JCN
variable {L : Nat} {xs : Nat → Int32} {zf : Value} {w C Sc M Pl Ph LO HI nk m lv n p q i d lo hi k k2 z : Nat} {cx : Nat → Nat} {hB h h1 h2 : rm_H} {s0 s s1 s2 : rS} {pt vr gn gn1 a b a1 b1 x y rc : Int32} {mv : Value} {ds kl ml : List Nat} {G : List scN} {u u1 u2 : Nat → Nat} {A B A1 B1 : Nat → Int32} {c : Int64} {X : scN}
theorem j_5 (e0 : fd hB 12 p 0 = some (.int 5)) (e2 : fd hB 12 p 2 = some (.ref q)) (hq : nS L xs hB q (s0.2.2 56 n)) (e3 : fd hB 12 p 3 = some (.int (s0.2.1 51 n))) (r44 : s0.2.1 44 n = 5) (hn : n < 4400) (hl1 : lo ≤ n) (hl2 : n < hi) (hw : 200 ≤ w) : JX L xs zf w cx C Sc M pt vr mv hB s0 nk m Pl Ph LO HI z 174 343 p n lo hi 6 4 := by
  intro j j2 h s ds G lv gn b u A B e _ _ _ hz
  obtain ⟨kh, dl, bh, rk, e57, _, rg, gw⟩ := id e
  obtain ⟨r62, r63, r64, ⟨r66, _⟩, rr⟩ := rg rfl
  have g0 := fd_I (L := L) (xs := xs) (cis := [12]) (bh.1.1 _ _ _ (by decide) e0) (by decide)
  have e2h := bh.1.1 _ _ _ (by decide) e2
  have e3h := bh.1.1 _ _ _ (by decide) e3
  have s56 : s.2.2 56 n = s0.2.2 56 n := rk_B rk (by decide) n
  have s51 : s.2.1 51 n = s0.2.1 51 n := rk_A rk (by decide) n
  obtain ⟨l1, l2, l3⟩ := nm_look (zf := zf) (w := w) (k := j) e (bh.1.2.2.1 _ _ hq) hw
  have wrap : ∀ t h2, b184_0 L xs zf (dM L xs zf w (j + 4)) w (some C) (some p) h = some (some (.int t), h2) → (dcV L xs (dM L xs zf w (6 + j)) 174 [13] (some C) [va_rf (some p)] h).bind dxI = some (t, h2) := by
    intro t h2 q
    rw [ck_v kh, show 6 + j = j + 5 + 1 from by omega, e174]
    show (b174_0 L xs zf (dM L xs zf w (j + 5)) w (some C) (some p) h).bind dxI = _
    refine bsq (a := (some (.int t), h2)) ?_ rfl
    unfold b174_0
    refine bsq g0 (inq (by decide) (inq (by decide) (inq (by decide) (inq (by decide) (inq (by decide) (itq (by decide) (bsq (a := (t, h2)) ?_ rfl)))))))
    rw [ck_v kh, e184]
    show (b184_0 L xs zf (dM L xs zf w (j + 4)) w (some C) (some p) h).bind dxI = _
    rw [q]
    rfl
  have rwrap : ∀ r s', rM w (j2 + 3) 348 [.ref 36, .int (Int32.ofNat n), .int (rd_01 true)] s = some (some (.int r), s') → rM w (4 + j2) 343 [.ref 36, .int (Int32.ofNat n)] s = some (some (.int r), s') := by
    intro r s' q
    rw [show 4 + j2 = j2 + 3 + 1 from by omega, y343]
    show s343_0 (rM w (j2 + 3)) w (Int32.ofNat n) s = _
    unfold s343_0
    refine bsq (a := (5 : Int32)) ((aI_at (i := n) (by decide) rfl hn (by decide)).trans (by rw [rk_A rk (by decide), r44])) (inq (by decide) (inq (by decide) (inq (by decide) (inq (by decide) (inq (by decide) (itq rfl (bsq (a := (r, s')) ?_ rfl)))))))
    have q : rM w (j2 + 3) 348 [.ref 36, .int (Int32.ofNat n), .int 1] s = some (some (.int r), s') := q
    rw [q]
    rfl
  rcases l3 with ⟨i, X, d, k1, hi', hX, hd, xc, dn⟩ | ⟨k1, _⟩
  · rw [k1] at l1 l2
    have l1 : (dcV L xs (dM L xs zf w (j + 3)) 181 [13] (some C) [va_rf (some q)] h).bind dxI = some (Int32.ofNat i, h) := l1
    obtain ⟨w1, w2, w3, w4, w5⟩ := gw.2.2.1 i X hX
    obtain ⟨x1, x2, x3, x4⟩ := rr i X hX
    have u80 := c_180 (k := j) kh e2h e3h l1 hi' hd dn w1
    have rr8 := r_348 (w := w) (k := j2) (n := n) (cs := true) (X := X) (t := X.2.2.1) e57 hn (by rw [s56]; exact l2) hi' x2 x3 w3.1
    rw [r64, x4, r63, s51] at rr8
    have ge85 : mx_f2 .ge (Int32.ofNat X.2.2.2) (Int32.ofNat lv) = true ↔ ¬ i < u 0 := by
      have := gw.2.1
      rw [ge_iff (by omega) (by omega), ← w5]
      omega
    have gei : mx_f2 .ge (Int32.ofNat i) (Int32.ofNat (u 0)) = true ↔ ¬ i < u 0 := by
      have := kh.2.2.2.2.2.2.2.2.2
      have := kh.2.2.2.1.1
      rw [ge_iff (by omega) (by omega)]
      omega
    by_cases g0' : gn &&& bt X.2.1 = 0
    · rw [if_pos g0'] at u80 rr8
      -- the bit and the instruction, from any heap of the walk
      have tail : ∀ hh a' b', KH L xs cx C Sc M pt vr mv hh ds (gN G) (gSl G) (gTp G) gn (if lv = 0 then 0 else 1) a' b' u A B → dSn L xs hh d (s0.2.2 56 n) (Int32.ofNat X.2.1) (cT X.2.2.1) → ∃ h' u' A' B', b184_82 L xs zf (dM L xs zf w (j + 4)) w (some C) (some d) hh = some (some (.int (cT X.2.2.1)), h') ∧ KH L xs cx C Sc M pt vr mv h' ds (gN G) (gSl G) (gTp G) (gn ||| bt X.2.1) (if lv = 0 then 0 else 1) a' b' u' A' B' ∧ wF cx C Sc Pl Ph u hh h' ∧ wK2 u u' hh h' ∧ u' 2 = u 2 + 1 ∧ u' 0 = u 0 ∧ (A' (u 2) = 2 ∧ B' (u 2) = Int32.ofNat X.2.1) ∧ ∀ i, i < u 2 → A' i = A i ∧ B' i = B i := by
        intro hh a' b' khh dnn
        obtain ⟨h5, n1, n2, n3, n4⟩ := ck_gone (pl := Pl) (ph := Ph) khh (gn ||| bt X.2.1)
        have dn5 := wF_dSn khh n3 dnn
        obtain ⟨h', u', A', B', m1, m2, m3, m4, m5, m6, m7, m8⟩ := ck_emit (pl := Pl) (ph := Ph) (zf := zf) (w := w) (k := j + 1) n2 (by omega) 2 (Int32.ofNat X.2.1)
        refine ⟨h', u', A', B', ?_, m2, wF_trans n3 n4 m3, wK2_trans n4 m4 n3.1.1, m5, m6, m7, m8⟩
        unfold b184_82
        exact bsq (ck_4 khh) (bsq (fd_I dnn.2.1 (by decide)) (bsq n1 (bsq (ck_0 n2) (bsq (fd_I dn5.2.1 (by decide)) (bsq m1 (bsq (fd_I (wF_dSn n2 m3 dn5).2.2 (by decide)) rfl))))))
      have is0 := iso_T X.2.2.1 (gTy_lt w3.1) w3.1
      have us := us_T X.2.2.1 (gTy_lt w3.1) w3.1
      have hd180 : ∀ R, (if mx_f2 .ge (Int32.ofNat i) (Int32.ofNat (u 0)) = true then b184_82 L xs zf (dM L xs zf w (j + 4)) w (some C) (some d) h else if isO X.2.2.1 = true ∧ X.2.2.1 % 8 = 0 then b184_82 L xs zf (dM L xs zf w (j + 4)) w (some C) (some d) h else if mx_f1 .ne (usO (cT X.2.2.1)) = true then b184_82 L xs zf (dM L xs zf w (j + 4)) w (some C) (some d) h else ((dcV L xs (dM L xs zf w (j + 4)) 178 [13] (some C) [.int 6, .int (s0.2.1 51 n)] h).bind dxV).bind fun h29 => b184_82 L xs zf (dM L xs zf w (j + 4)) w (some C) (some d) h29) = R → b184_0 L xs zf (dM L xs zf w (j + 4)) w (some C) (some p) h = R := by
        intro R hR
        have f46 : ∀ (v : Int32), (mx_f1 .ne v = true ↔ (isO X.2.2.1 = true ∧ X.2.2.1 % 8 = 0)) → b184_46 L xs zf (dM L xs zf w (j + 4)) w (some C) (some p) (Int32.ofNat i) (some d) v h = R := by
          intro v hv
          unfold b184_46
          refine bsq (ck_5 kh) ?_
          rw [← hR]
          by_cases q1 : mx_f2 .ge (Int32.ofNat i) (Int32.ofNat (u 0)) = true
          · rw [if_pos q1, if_pos q1]
          · rw [if_neg q1, if_neg q1]
            by_cases q2 : isO X.2.2.1 = true ∧ X.2.2.1 % 8 = 0
            · rw [if_pos (hv.mpr q2), if_pos q2]
            · rw [if_neg (fun z => q2 (hv.mp z)), if_neg q2, fd_I (cis := [10]) dn.2.2 (by decide), Option.bind_some, ck_use (k := j + 2) kh _, Option.bind_some]
              dsimp only
              by_cases q3 : mx_f1 .ne (usO (cT X.2.2.1)) = true
              · rw [if_pos q3, if_pos q3]
              · rw [if_neg q3, if_neg q3, fd_I (cis := [12]) e3h (by decide), Option.bind_some]
        unfold b184_0
        refine bsq u80 (itq (by rw [f2_ne]; exact decide_eq_true (ofN_m1 hi')) (bsq (ck_1 kh) (bsq (ck_at kh hd) (bsq (fd_I (cis := [10]) dn.2.2 (by decide)) (bsq (t_so (k := j + 3) _ h) ?_)))))
        dsimp only
        by_cases q5 : c_so (cT X.2.2.1) = 5
        · rw [if_neg (show ¬ mx_f2 .ne (c_so (cT X.2.2.1)) 5 = true by rw [f2_ne, q5]; decide), fd_I (cis := [10]) dn.2.2 (by decide), Option.bind_some, t_cp (k := j + 3) _ h, Option.bind_some]
          dsimp only
          by_cases q6 : c_cp (cT X.2.2.1) = 0
          · rw [if_neg (show ¬ mx_f1 .ne (c_cp (cT X.2.2.1)) = true by rw [f1_ne, q6]; decide)]
            exact f46 1 ⟨fun _ => is0.mp ⟨q5, q6⟩, fun _ => by decide⟩
          · rw [if_pos (show mx_f1 .ne (c_cp (cT X.2.2.1)) = true by rw [f1_ne]; exact decide_eq_true q6)]
            exact f46 0 ⟨fun z => absurd z (by decide), fun z => absurd (is0.mpr z).2 q6⟩
        · rw [if_pos (show mx_f2 .ne (c_so (cT X.2.2.1)) 5 = true by rw [f2_ne]; exact decide_eq_true q5)]
          exact f46 0 ⟨fun z => absurd z (by decide), fun z => absurd (is0.mpr z).1 q5⟩
      by_cases good : ¬ i < u 0 ∨ ¬ (isO X.2.2.1 = true ∧ X.2.2.1 % 8 ≠ 3 ∧ X.2.2.1 % 8 ≠ 0)
      · obtain ⟨h', u', A', B', m1, m2, m3, m4, m5, m6, m7, m8⟩ := tail h 0 b kh dn
        rw [if_pos (good.elim (fun z => Or.inl (ge85.mpr z)) (fun z => Or.inr (fun y => z ⟨y.1, y.2.1, fun q => y.2.2 ⟨rfl, q⟩⟩)))] at rr8
        refine ⟨_, _, h', s8R s n X.2.1 true, wrap _ h' (hd180 _ ?_), rwrap _ _ rr8, jx_emit e m2 m3 m4 m5 m6 m8 s8R_L ?_ (s8R_r hl1 hl2) (by omega) (fun _ _ _ _ _ q => FV_or hX w1 q) w3 rfl rfl ?_ ?_ (fun SL AA BB q1 q f => ⟨5, r44, by omega, i, X, hX, xc, rfl, by rw [q1 n hl1 hl2, s8R_53], g0', fun z1 z2 => ?_, rfl, rfl, by rw [q.1, m7.1], by rw [q.2, m7.2, q1 n hl1 hl2, s8R_53]⟩)⟩
        · rcases good with z | z
          · rw [if_pos (gei.mpr z)]
            exact m1
          · by_cases q1 : mx_f2 .ge (Int32.ofNat i) (Int32.ofNat (u 0)) = true
            · rw [if_pos q1]
              exact m1
            · rw [if_neg q1]
              by_cases q2 : isO X.2.2.1 = true ∧ X.2.2.1 % 8 = 0
              · rw [if_pos q2]
                exact m1
              · have us1 : usO (cT X.2.2.1) = 1 := by rw [us]; exact if_neg (fun y => z ⟨y.1, y.2, fun q => q2 ⟨y.1, q⟩⟩)
                rw [if_neg q2, us1, if_pos (by decide)]
                exact m1
        · show (rs_w (rs_w (rs_w (rs_wA s 53 n (Int32.ofNat X.2.1)) 61 0) 60 0) 64 (s.1 64 ||| bt X.2.1)).1 64 = gn ||| bt X.2.1
          rw [w_eq, r64]
        · show (rs_w (rs_w (rs_w (rs_wA s 53 n (Int32.ofNat X.2.1)) 61 0) 60 0) 64 (s.1 64 ||| bt X.2.1)).1 61 = _
          rw [w_ne _ _ (by decide), w_ne _ _ (by decide), w_eq, dT_o _ (gTy_lt w3.1) w2]
        · show pf60 ((rs_w (rs_w (rs_w (rs_wA s 53 n (Int32.ofNat X.2.1)) 61 0) 60 0) 64 (s.1 64 ||| bt X.2.1)).1 60) _
          rw [w_ne _ _ (by decide), w_eq, r44]
          exact pf_0 rfl (by decide)
        · rcases good with z | z
          · exact absurd (w5.mp z1) z
          · by_cases d3 : X.2.2.1 % 8 = 3
            · exact Or.inl d3
            · by_cases d0 : X.2.2.1 % 8 = 0
              · exact Or.inr d0
              · exact absurd ⟨z2, d3, d0⟩ z
      · have q1 : i < u 0 := by
          by_cases q : i < u 0
          · exact q
          · exact absurd (Or.inl q) good
        have q2 : isO X.2.2.1 = true ∧ X.2.2.1 % 8 ≠ 3 ∧ X.2.2.1 % 8 ≠ 0 := by
          by_cases q : isO X.2.2.1 = true ∧ X.2.2.1 % 8 ≠ 3 ∧ X.2.2.1 % 8 ≠ 0
          · exact q
          · exact absurd (Or.inr q) good
        obtain ⟨h1, v1, v2, v3, v4⟩ := ck_refA (pl := Pl) (ph := Ph) (zf := zf) (w := w) (k := j + 3) kh 6 (s0.2.1 51 n)
        obtain ⟨h', u', A', B', m1, m2, m3, m4, m5, m6, m7, m8⟩ := tail h1 6 (s0.2.1 51 n) v2 (wF_dSn kh v3 dn)
        rw [if_neg (fun z => z.elim (fun z => (ge85.mp z) q1) (fun z => z ⟨q2.1, q2.2.1, fun y => q2.2.2 y.2⟩))] at rr8
        refine ⟨cT X.2.2.1, -1, h', rfS s 6 (s0.2.1 51 n), wrap _ h' (hd180 _ ?_), rwrap _ _ rr8, jx_ft e m2 (by decide) (wF_trans v3 v4 m3) (wK2_trans v4 m4 v3.1.1) (by omega) m6 rfS_K rfS_57 rfS_58 (fun i _ => ⟨rfl, rfl⟩)⟩
        have us0 : usO (cT X.2.2.1) = 0 := by rw [us]; exact if_pos ⟨q2.1, q2.2.1⟩
        rw [if_neg (fun z => (gei.mp z) q1), if_neg (fun z => q2.2.2 z.2), us0, if_neg (by decide), v1, Option.bind_some]
        exact m1
    · rw [if_neg g0'] at u80 rr8
      obtain ⟨h1, v1, v2, v3, v4⟩ := ck_refA (pl := Pl) (ph := Ph) (zf := zf) (w := w) (k := j + 2) kh 7 (s0.2.1 51 n)
      have v1 : (dcV L xs (dM L xs zf w (j + 3)) 178 [13] (some C) [.int 7, .int (s0.2.1 51 n)] h).bind dxV = some h1 := v1
      rw [v1, Option.bind_some] at u80
      refine ⟨2, -1, h1, rfS s 7 (s0.2.1 51 n), wrap _ h1 ?_, rwrap _ _ rr8, jx_ft e v2 (by decide) v3 v4 (by omega) rfl rfS_K rfS_57 rfS_58 (fun i _ => ⟨rfl, rfl⟩)⟩
      unfold b184_0
      exact bsq u80 (inq (show ¬ mx_f2 .ne (-1 : Int32) (-1) = true by decide) rfl)
  · rw [k1] at l1 l2
    have l1 : (dcV L xs (dM L xs zf w (j + 3)) 181 [13] (some C) [va_rf (some q)] h).bind dxI = some (-1, h) := l1
    have u80 := c_180n (k := j) kh e2h e3h l1
    have rr8 := r_348n (w := w) (k := j2) (n := n) (cs := true) e57 hn (by rw [s56]; exact l2)
    rw [s51] at rr8
    obtain ⟨h1, v1, v2, v3, v4⟩ := ck_refA (pl := Pl) (ph := Ph) (zf := zf) (w := w) (k := j + 2) kh 3 (s0.2.1 51 n)
    have v1 : (dcV L xs (dM L xs zf w (j + 3)) 178 [13] (some C) [.int 3, .int (s0.2.1 51 n)] h).bind dxV = some h1 := v1
    rw [v1, Option.bind_some] at u80
    refine ⟨2, -1, h1, rfS s 3 (s0.2.1 51 n), wrap _ h1 ?_, rwrap _ _ rr8, jx_ft e v2 (by decide) v3 v4 (by omega) rfl rfS_K rfS_57 rfS_58 (fun i _ => ⟨rfl, rfl⟩)⟩
    unfold b184_0
    exact bsq u80 (inq (show ¬ mx_f2 .ne (-1 : Int32) (-1) = true by decide) rfl)
end JCN
