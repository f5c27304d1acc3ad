/-! BOTH CHECK: this. -/
theorem cT_o : ∀ k, k < 8 → ∀ c, c < 5 → cT (8 * (k + 1) + c) = tO 5 (Int32.ofNat k) (Int32.ofNat c) ∧ rTp (8 * (k + 1) + c) = Int32.ofNat (8 * (k + 1) + c) ∧ oT (8 * (k + 1) + c) = 0 ∧ gTy (8 * (k + 1) + c) = true := by decide +kernel
theorem cT_a : ∀ k, k < 8 → cT (8 * (k + 1) + 5) = tO 3 (Int32.ofNat k) 2 ∧ rTp (8 * (k + 1) + 5) = Int32.ofNat (8 * (k + 1) + 5) ∧ oT (8 * (k + 1) + 5) = 0 ∧ gTy (8 * (k + 1) + 5) = true := by decide +kernel
theorem cT_w : ∀ k, k < 8 → cT (8 * (k + 1) + 6) = tO 4 (Int32.ofNat k) 2 ∧ rTp (8 * (k + 1) + 6) = Int32.ofNat (8 * (k + 1) + 5) ∧ oT (8 * (k + 1) + 6) = 1 ∧ gTy (8 * (k + 1) + 6) = true := by decide +kernel
theorem f1_le (x : Int32) : mx_f1 .le x = decide (x.toInt ≤ 0) := by
  have := f2_le x 0
  rw [i0] at this
  exact this
theorem f1_gt (x : Int32) : mx_f1 .gt x = decide (0 < x.toInt) := by
  have := f2_gt x 0
  rw [i0] at this
  exact this
section JTH
variable {L : Nat} {xs : Nat → Int32} {zf : Value} {w C Sc M Pl Ph LO HI nk m lv n p lo hi k k2 z : Nat} {cx : Nat → Nat} {hB h h1 h2 : rm_H} {s0 s s1 s2 : rS} {pt vr gn gn1 a b a1 b1 x y : Int32} {mv : Value} {ds kl ml : List Nat} {G : List scN} {u u1 u2 : Nat → Nat} {A B A1 B1 : Nat → Int32}
theorem vT_o {k c : Nat} (hk : k < nk) (h8 : nk ≤ 8) (hc : c < 5) (ha : s0.2.1 66 k = 0) : vT s0 nk (8 * (k + 1) + c) := by
  refine ⟨(cT_o k (by omega) c hc).2.2.2, fun _ => ?_⟩
  rw [show (8 * (k + 1) + c) / 8 - 1 = k from by omega]
  exact ⟨hk, Or.inl ⟨by omega, ha⟩⟩
theorem vT_a {k c : Nat} (hk : k < nk) (h8 : nk ≤ 8) (hc : c = 5 ∨ c = 6) (ha : s0.2.1 66 k = 1) : vT s0 nk (8 * (k + 1) + c) := by
  refine ⟨?_, fun _ => ?_⟩
  · rcases hc with e | e <;> subst e
    · exact (cT_a k (by omega)).2.2.2
    · exact (cT_w k (by omega)).2.2.2
  · rw [show (8 * (k + 1) + c) / 8 - 1 = k from by omega]
    exact ⟨hk, Or.inr ⟨by omega, ha⟩⟩
theorem j_3 (j0 : JE L xs cx hB s0 nk kl ml) (bj : bJ L xs hB s0 nk kl M m) (e0 : fd hB 12 p 0 = some (.int 3)) (e1 : fd hB 12 p 1 = some (.int (s0.2.1 50 n))) (r44 : s0.2.1 44 n = 3) (hn : n < 4400) (hlo : lo < hi) : JX L xs zf w cx C Sc M pt vr mv hB s0 nk m Pl Ph LO HI z 174 343 p n lo hi 5 4 := by
  intro j j2 h s ds G lv gn b u A B e _ _ _ hz
  obtain ⟨kh, _, bh, rk, e57, _, rg, gw⟩ := id e
  obtain ⟨⟨m72, ⟨so, b1, b2⟩, b3, ⟨c, c5, b4, b5, b6⟩, _⟩, k, K, b7, b8, b9, b10⟩ := id bj
  obtain ⟨⟨ac, k1, k2, k3⟩, k4, _⟩ := j0.2.2.2.2 k K b7
  have nk8 : nk ≤ 8 := j0.2.2.1
  have knk : k < nk := by
    have := (List.getElem?_eq_some_iff.mp b7).1
    have := j0.2.1
    omega
  obtain ⟨r62, r63, r64, ⟨r66, _⟩, rr⟩ := rg rfl
  have lv60 := gw.2.1
  have g0 := fd_I (L := L) (xs := xs) (cis := [12]) (bh.1.1 _ _ _ (by decide) e0) (by decide)
  obtain ⟨h', u', A', B', m1, m2, m3, m4, m5, m6, m7, m8⟩ := ck_emit (pl := Pl) (ph := Ph) (zf := zf) (w := w) (k := j) kh (by omega) 1 0
  have bh' := bH_w kh m3 bh
  have fM := fd_R (L := L) (xs := xs) (o := some K) (cis := [11]) (bh'.2.2 _ _ _ b8) (by decide)
  have fK2 := fd_I (L := L) (xs := xs) (cis := [9]) (bh'.2.1 _ _ _ k1) (by decide)
  have fK3 := fd_I (L := L) (xs := xs) (cis := [9]) (bh'.2.1 _ _ _ k4) (by decide)
  have fM6 := fd_I (L := L) (xs := xs) (cis := [11]) (bh'.2.2 _ _ _ b4) (by decide)
  have f1 := fd_I (L := L) (xs := xs) (cis := [12]) (bh'.1.1 _ _ _ (by decide) e1) (by decide)
  -- the class's frame
  have wrap : ∀ t h2, b177_0 L xs zf (dM L xs zf w (j + 3)) w (some C) (some p) h = some (some (.int t), h2) → (dcV L xs (dM L xs zf w (5 + j)) 174 [13] (some C) [va_rf (some p)] h).bind dxI = some (t, h2) := by
    intro t h2 q
    rw [ck_v kh, show 5 + j = j + 4 + 1 from by omega, e174]
    show (b174_0 L xs zf (dM L xs zf w (j + 4)) w (some C) (some p) h).bind dxI = _
    refine bsq (a := (some (.int t), h2)) ?_ rfl
    unfold b174_0
    refine bsq g0 (inq (by decide) (inq (by decide) (inq (by decide) (itq (by decide) (bsq (a := (t, h2)) ?_ rfl)))))
    rw [ck_v kh, e177]
    show (b177_0 L xs zf (dM L xs zf w (j + 3)) w (some C) (some p) h).bind dxI = _
    rw [q]
    rfl
  have head : ∀ R, (if mx_f1 .eq ac = true then ((dgI L xs h' 6 [13] (some C)).bind fun x23 => if mx_f1 .eq x23 = true then b177_80 L xs zf (dM L xs zf w (j + 3)) w (some C) (Int32.ofNat k) h' else (dgR L xs h' 2 [13] (some C)).bind fun p26 => (dgI L xs h' 6 [11] p26).bind fun x28 => if mx_f2 .eq x28 3 = true then b177_80 L xs zf (dM L xs zf w (j + 3)) w (some C) (Int32.ofNat k) h' else (dgI L xs h' 1 [12] (some p)).bind fun x31 => ((dcV L xs (dM L xs zf w (j + 3)) 178 [13] (some C) [.int 6, .int x31] h').bind dxV).bind fun h33 => b177_80 L xs zf (dM L xs zf w (j + 3)) w (some C) (Int32.ofNat k) h33) else ((dgI L xs h' 6 [13] (some C)).bind fun x37 => if mx_f1 .eq x37 = true then b177_46 L xs zf (dM L xs zf w (j + 3)) w (Int32.ofNat k) 4 h' else b177_46 L xs zf (dM L xs zf w (j + 3)) w (Int32.ofNat k) 3 h')) = R → b177_0 L xs zf (dM L xs zf w (j + 3)) w (some C) (some p) h = R := by
    intro R q
    unfold b177_0
    exact bsq (ck_0 kh) (bsq m1 (bsq (ck_2 m2) (bsq fM (bsq fK3 (bsq (ck_2 m2) (bsq fM (bsq fK2 q)))))))
  have f46 : ∀ x : Int32, b177_46 L xs zf (dM L xs zf w (j + 3)) w (Int32.ofNat k) x h' = some (some (.int (tO x (Int32.ofNat k) 2)), h') := by
    intro x
    unfold b177_46
    exact bsq (t_of (k := j + 2) _ _ _ h') rfl
  -- the reference's frame
  have rwrap : ∀ r s', s345_0 (rM w (j2 + 2)) w (Int32.ofNat n) s = some (some (.int r), s') → rM w (4 + j2) 343 [.ref 36, .int (Int32.ofNat n)] s = some (some (.int r), s') := by
    intro r s' q
    rw [show 4 + j2 = j2 + 3 + 1 from by omega, y343]
    show s343_0 (rM w (j2 + 3)) w (Int32.ofNat n) s = _
    unfold s343_0
    refine bsq (a := (3 : Int32)) ((aI_at (i := n) (by decide) rfl hn (by decide)).trans (by rw [rk_A rk (by decide), r44])) (inq (by decide) (inq (by decide) (inq (by decide) (itq rfl (bsq (a := (r, s')) ?_ rfl)))))
    rw [y345]
    show (s345_0 (rM w (j2 + 2)) w (Int32.ofNat n) s).bind rxI = _
    rw [q]
    rfl
  have rhead : ∀ R, s345_42 (rM w (j2 + 2)) w (Int32.ofNat n) (Int32.ofNat k) ac (if s0.2.1 70 m = 0 then 2 else s0.2.1 72 m) s = R → s345_0 (rM w (j2 + 2)) w (Int32.ofNat n) s = R := by
    intro R q
    unfold s345_0
    rw [r66]
    refine bsq (a := Int32.ofNat k) ((aI_at (i := m) (by decide) rfl m72 (by decide)).trans (by rw [rk_A rk (by decide), b9])) (bsq (a := ac) ((aB_at (i := k) (by decide) rfl (by omega) (by decide)).trans (by rw [rk_A rk (by decide), k2])) (bsq (a := s0.2.1 70 m) ((aI_at (i := m) (by decide) rfl m72 (by decide)).trans (by rw [rk_A rk (by decide)])) ?_))
    by_cases c0 : s0.2.1 70 m = 0
    · rw [if_pos c0] at q
      exact inq (by rw [f1_ne, c0]; decide) q
    · rw [if_neg c0] at q
      exact itq (by rw [f1_ne]; exact decide_eq_true c0) (bsq (a := s0.2.1 72 m) ((aI_at (i := m) (by decide) rfl m72 (by decide)).trans (by rw [rk_A rk (by decide)])) q)
  have l63 : ∀ q, (rs_w (rs_w s 60 1) 61 q).1 63 = Int32.ofNat lv := fun q => by rw [w_ne _ _ (by decide), w_ne _ _ (by decide)]; exact r63
  have l631 : (rs_w s 60 1).1 63 = Int32.ofNat lv := by rw [w_ne _ _ (by decide)]; exact r63
  have lvz : (Int32.ofNat lv = 0) ↔ lv = 0 := by
    constructor
    · intro q
      have := congrArg Int32.toInt q
      rw [of_int (by omega), i0] at this
      omega
    · intro q
      rw [q]
      rfl
  have g50 : ∀ q, rs_aI (rs_w (rs_w s 60 1) 61 q) 50 (Int32.ofNat n) = some (s0.2.1 50 n) := fun q => (aI_at (i := n) (by decide) rfl hn (by decide)).trans (by show some (s.2.1 50 n) = _; rw [rk_A rk (by decide)])
  have good : ∀ (q : Int32) (t : Nat), vT s0 nk t → thT s0 m lv t → oT t = q → EXO L xs cx C Sc M pt vr mv hB s0 nk m Pl Ph LO HI lo hi n lv G ds gn u A B h s (3 * (hi - lo)) (cT t) (rTp t) h' (rs_w (rs_w s 60 1) 61 q) := by
    intro q t vt tht ot
    refine jx_emit e m2 m3 m4 m5 m6 m8 (rL_trans (rL_w (by omega)) (rL_w (by omega))) (by rw [w_ne _ _ (by decide), w_ne _ _ (by decide)]; exact r64) (fun i _ => ⟨rfl, rfl⟩) hlo (fun _ _ _ _ _ q => q) vt rfl rfl (by rw [w_eq]; exact ot.symm) ?_ (fun SL AA BB _ q f => ⟨3, r44, by omega, tht, rfl, rfl, by rw [q.1, m7.1], by rw [q.2, m7.2]⟩)
    rw [r44, w_ne _ _ (by decide), w_eq]
    exact pf_1 (by decide) (by decide)
  by_cases ca : ac = 0
  · -- of an object
    have c72 : (if s0.2.1 70 m = 0 then 2 else s0.2.1 72 m) = Int32.ofNat c := by
      rcases b10 (by rw [k2, ca]) with q | q
      · rw [if_pos q, b6 q]
        rfl
      · rw [if_neg (by rw [q]; decide)]
        exact b5 q
    have f80 : ∀ hh, bH L xs hB hh → dgR L xs hh 2 [13] (some C) = some (some M) → b177_80 L xs zf (dM L xs zf w (j + 3)) w (some C) (Int32.ofNat k) hh = some (some (.int (tO 5 (Int32.ofNat k) (Int32.ofNat c))), hh) := by
      intro hh q q2
      unfold b177_80
      exact bsq q2 (bsq (fd_I (q.2.2 _ _ _ b4) (by decide)) (bsq (t_of (k := j + 2) _ _ _ hh) rfl))
    obtain ⟨q1, q2, q3, q4⟩ := cT_o k (by omega) c c5
    have r42 : ∀ R, s345_66 (rM w (j2 + 2)) w (Int32.ofNat n) (Int32.ofNat k) ac (Int32.ofNat c) 0 (rs_w s 60 1) = R → s345_0 (rM w (j2 + 2)) w (Int32.ofNat n) s = R := by
      intro R q
      refine rhead R ?_
      rw [c72]
      unfold s345_42
      exact bsq (a := rs_w s 60 1) rfl (itq (by rw [ca]; decide) q)
    have r105 : s345_105 (rM w (j2 + 2)) w (Int32.ofNat k) (Int32.ofNat c) (rs_w (rs_w s 60 1) 61 0) = some (some (.int (rTp (8 * (k + 1) + c))), rs_w (rs_w s 60 1) 61 0) := by
      unfold s345_105
      rw [t8, q2]
      rfl
    by_cases cl : lv = 0 ∨ c = 3
    · refine ⟨_, _, h', rs_w (rs_w s 60 1) 61 0, wrap (cT (8 * (k + 1) + c)) h' (head _ ?_), rwrap (rTp (8 * (k + 1) + c)) _ (r42 _ ?_), good 0 (8 * (k + 1) + c) (vT_o knk nk8 c5 (by rw [k2, ca])) ⟨k, by omega, b9, Or.inr ⟨by rw [k2, ca], c, c5, c72, rfl, fun q => by omega⟩⟩ q3⟩
      · rw [q1]
        refine itq (by rw [ca]; decide) (bsq (ck_6 m2) ?_)
        by_cases l0 : lv = 0
        · exact itq (by rw [if_pos l0]; decide) (f80 h' bh' (ck_2 m2))
        · refine inq (by rw [if_neg l0]; decide) (bsq (ck_2 m2) (bsq fM6 (itq ?_ (f80 h' bh' (ck_2 m2)))))
          rw [show c = 3 by omega]
          decide
      · unfold s345_66
        refine bsq (a := rs_w (rs_w s 60 1) 61 0) rfl (itq (by rw [ca]; decide) ?_)
        rw [l63]
        by_cases l0 : lv = 0
        · exact itq (by rw [l0]; decide) r105
        · refine inq ?_ (itq (by rw [show c = 3 by omega]; decide) r105)
          rw [f1_le, of_int (by omega)]
          simp
          omega
    · have l0 : lv ≠ 0 := fun q => cl (Or.inl q)
      have c3 : c ≠ 3 := fun q => cl (Or.inr q)
      obtain ⟨h2, v1, v2, v3, v4⟩ := ck_refA (pl := Pl) (ph := Ph) (zf := zf) (w := w) (k := j + 2) m2 6 (s0.2.1 50 n)
      have nc3 : ¬ mx_f2 .eq (Int32.ofNat c) 3 = true := by
        intro q
        have := congrArg Int32.toInt (of_decide_eq_true q)
        rw [of_int (by omega), show (3 : Int32).toInt = 3 from by decide] at this
        omega
      refine ⟨_, -1, h2, rfS (rs_w (rs_w s 60 1) 61 0) 6 (s0.2.1 50 n), wrap (cT (8 * (k + 1) + c)) h2 (head _ ?_), rwrap (-1) _ (r42 _ ?_), jx_ft e v2 (by decide) (wF_trans m3 m4 v3) (wK2_trans m4 v4 m3.1.1) (by omega) m6 (rK_trans (rL_K (rL_trans (rL_w (by omega)) (rL_w (by omega)))) rfS_K) rfS_57 rfS_58 (fun i _ => ⟨rfl, rfl⟩)⟩
      · rw [q1]
        exact itq (by rw [ca]; decide) (bsq (ck_6 m2) (inq (by rw [if_neg l0]; decide) (bsq (ck_2 m2) (bsq fM6 (inq nc3 (bsq f1 (bsq v1 (f80 h2 (bH_w m2 v3 bh') (ck_2 v2)))))))))
      · unfold s345_66
        refine bsq (a := rs_w (rs_w s 60 1) 61 0) rfl (itq (by rw [ca]; decide) ?_)
        rw [l63]
        refine inq ?_ (inq nc3 (bsq (g50 0) (bsq (a := (-1, rfS (rs_w (rs_w s 60 1) 61 0) 6 (s0.2.1 50 n))) (by rw [r_347 (k := j2) (by rw [w_ne _ _ (by decide), w_ne _ _ (by decide)]; exact e57)]; rfl) rfl)))
        rw [f1_le, of_int (by omega)]
        simp
        omega
  · -- of an actor
    have ca1 : ac = 1 := k3.resolve_left ca
    by_cases l0 : lv = 0
    · obtain ⟨q1, q2, q3, q4⟩ := cT_w k (by omega)
      refine ⟨_, _, h', rs_w (rs_w s 60 1) 61 1, wrap (cT (8 * (k + 1) + 6)) h' (head _ ?_), rwrap (rTp (8 * (k + 1) + 6)) _ (rhead _ ?_), good 1 (8 * (k + 1) + 6) (vT_a knk nk8 (Or.inr rfl) (by rw [k2, ca1])) ⟨k, by omega, b9, Or.inl ⟨by rw [k2, ca1], by rw [if_pos l0]⟩⟩ q3⟩
      · rw [q1]
        exact inq (by rw [ca1]; decide) (bsq (ck_6 m2) (itq (by rw [if_pos l0]; decide) (f46 4)))
      · unfold s345_42
        refine bsq (a := rs_w s 60 1) rfl (inq (by rw [ca1]; decide) (inq (by rw [l631, l0]; decide) ?_))
        unfold s345_66
        refine bsq (a := rs_w (rs_w s 60 1) 61 1) rfl (inq (by rw [ca1]; decide) (bsq (a := (rTp (8 * (k + 1) + 6), rs_w (rs_w s 60 1) 61 1)) ?_ rfl))
        rw [y346]
        show (some (some (Value.int ((8 * (Int32.ofNat k + 1)) + 5)), rs_w (rs_w s 60 1) 61 1) : Option rA).bind rxI = _
        rw [q2, ← t8 k 5]
        rfl
    · obtain ⟨q1, q2, q3, q4⟩ := cT_a k (by omega)
      refine ⟨_, _, h', rs_w (rs_w s 60 1) 61 0, wrap (cT (8 * (k + 1) + 5)) h' (head _ ?_), rwrap (rTp (8 * (k + 1) + 5)) _ (rhead _ ?_), good 0 (8 * (k + 1) + 5) (vT_a knk nk8 (Or.inl rfl) (by rw [k2, ca1])) ⟨k, by omega, b9, Or.inl ⟨by rw [k2, ca1], by rw [if_neg l0]⟩⟩ q3⟩
      · rw [q1]
        exact inq (by rw [ca1]; decide) (bsq (ck_6 m2) (inq (by rw [if_neg l0]; decide) (f46 3)))
      · unfold s345_42
        refine bsq (a := rs_w s 60 1) rfl (inq (by rw [ca1]; decide) (itq ?_ ?_))
        · rw [l631, f1_ne]
          exact decide_eq_true (fun q => l0 (lvz.mp q))
        · unfold s345_65 s345_66
          refine bsq (a := rs_w (rs_w s 60 1) 61 0) rfl (inq (by rw [ca1]; decide) (bsq (a := (rTp (8 * (k + 1) + 5), rs_w (rs_w s 60 1) 61 0)) ?_ rfl))
          rw [y346]
          show (some (some (Value.int ((8 * (Int32.ofNat k + 1)) + 5)), rs_w (rs_w s 60 1) 61 0) : Option rA).bind rxI = _
          rw [q2, ← t8 k 5]
          rfl
end JTH
