/-! BOTH CHECK: a field behind a dot. -/
section JFE
variable {L : Nat} {xs : Nat → Int32} {zf : Value} {w C Sc M Pl Ph LO HI nk m lv n p q i d lo hi k k2 z W ke kr K l τ px : Nat} {cx : Nat → Nat} {hB h h1 h2 : rm_H} {s0 s s1 s2 : rS} {pt vr gn gn1 a b a1 b1 x y rc t v : Int32} {mv : Value} {ds kl ml : List Nat} {G : List scN} {u u1 u2 : Nat → Nat} {A B A1 B1 : Nat → Int32} {c : Int64} {X : scN} {f : Nat → Int64} {sl ty : Nat → Int32}
/-- both look a field up -/
theorem JE_kR {kk : Nat} (j0 : JE L xs cx hB s0 nk kl ml) (hK : kl[kk]? = some K) : kRl s0 kk := by
  have l1 := (List.getElem?_eq_some_iff.mp hK).1
  have l2 := j0.2.1
  have l3 := j0.2.2.1
  have l4 := j0.2.2.2.1
  refine ⟨by omega, ?_⟩
  rw [l4, of_int (by omega)]
  omega
theorem fl_look {kk : Nat} (j0 : JE L xs cx hB s0 nk kl ml) (bh : bH L xs hB h) (hK : kl[kk]? = some K) (hq : nS L xs h q c) (rk : rK s0 s) (hw : 200 ≤ w) : ∃ f0 : Nat, s0.2.1 64 kk = Int32.ofNat f0 ∧ f0 ≤ 64 ∧ ((∃ i d τf, (dcV L xs (dM L xs zf w (k + 4)) 195 [9] (some K) [va_rf (some q)] h).bind dxR = some (some d, h) ∧ rM w (k2 + 1) 356 [.ref 36, .int (Int32.ofNat kk), .long c] s = some (some (.int (Int32.ofNat (f0 + i))), s) ∧ f0 + i < 64 ∧ i < 8 ∧ dSn L xs h d c (Int32.ofNat i) (cT τf) ∧ fdT s0 kk c f0 (f0 + i) τf ∧ vT s0 nk τf ∧ tyc s0 (s0.2.1 69 (f0 + i)) τf) ∨ ((dcV L xs (dM L xs zf w (k + 4)) 195 [9] (some K) [va_rf (some q)] h).bind dxR = some (none, h) ∧ rM w (k2 + 1) 356 [.ref 36, .int (Int32.ofNat kk), .long c] s = some (some (.int (-1)), s))) := by
  have k8 : kk < 8 := by
    have := (List.getElem?_eq_some_iff.mp hK).1
    have := j0.2.1
    have := j0.2.2.1
    omega
  obtain ⟨_, _, ⟨fl, ar, cap, fs, f0, k3, k4, k5, k6, k7, k8', k9, k10⟩, _⟩ := j0.2.2.2.2 kk K hK
  have fls : ∃ ty, fLs L xs h fl ar cap fs (fun i => s0.2.2 67 (f0 + i)) (fun i => Int32.ofNat i) ty := by
    refine ⟨fun i => (fs[i]?).elim 0 (fun d => ((fd h 10 d 7).elim 0 (fun v => match v with | .int x => x | _ => 0))), bh.1.2.1 _ _ _ _ k4, by omega, fun i d hd => ?_⟩
    obtain ⟨t, t1, _⟩ := k10 i d hd
    have t2 := bH_dSn bh t1
    have t3 : (fs[i]?).elim 0 (fun d => ((fd h 10 d 7).elim 0 (fun v => match v with | .int x => x | _ => (0 : Int32)))) = cT t := by
      rw [hd]
      show ((fd h 10 d 7).elim 0 (fun v => match v with | .int x => x | _ => (0 : Int32))) = cT t
      rw [t2.2.2]
      rfl
    show dSn L xs h d (s0.2.2 67 (f0 + i)) (Int32.ofNat i) ((fs[i]?).elim 0 (fun d => ((fd h 10 d 7).elim 0 (fun v => match v with | .int x => x | _ => (0 : Int32)))))
    rw [t3]
    exact t2
  obtain ⟨ty, fls⟩ := fls
  have cf := ck_field (zf := zf) (w := w) (k := k) (bh.2.1 _ _ _ k3) fls hq hw
  have rf := r_356 (w := w) (k := k2) (c := c) (s := s) k8 (by rw [rk_A rk (by decide)]; exact k5) (by rw [rk_A rk (by decide)]; exact k6) (by omega) (by omega) hw
  rw [rk.2.2 67 (by decide), show f0 + fs.length - f0 = fs.length from by omega] at rf
  have sh := kF_sh (f := s0.2.2 67) (d := f0) (c := c) fs.length 0
  rw [Nat.add_zero] at sh
  refine ⟨f0, k5, by omega, ?_⟩
  cases hk : kF (s0.2.2 67) c fs.length f0 with
  | none =>
    rw [hk] at rf sh
    rw [sh] at cf
    exact Or.inr ⟨cf, rf⟩
  | some j =>
    obtain ⟨q1, q2, q3, _⟩ := kF_some hk
    rw [hk] at rf sh
    rw [sh] at cf
    obtain ⟨d, hd⟩ : ∃ d, fs[j - f0]? = some d := ⟨fs[j - f0]'(by omega), List.getElem?_eq_getElem (by omega)⟩
    obtain ⟨t, t1, t2, t3⟩ := k10 _ d hd
    have ej : f0 + (j - f0) = j := by omega
    rw [ej] at t1 t2
    refine Or.inl ⟨j - f0, d, t, ?_, ?_, by omega, by omega, ?_, ⟨f0 + fs.length, k5, k6, by omega, by omega, by omega, by omega, by rw [ej]; exact q3, by rw [ej]; exact t2, JE_kR j0 hK⟩, t3, by rw [ej]; exact t2⟩
    · have : kO fs (Option.map (fun j => j - f0) (some j)) = some d := hd
      rw [this] at cf
      exact cf
    · rw [ej]
      exact rf
    · rw [← q3]
      exact bH_dSn bh t1
theorem slB_T : ∀ t, t < 72 → gTy t = true → (c_so (cT t) = 4 ↔ oT t = 1) ∧ (oT t = 0 ∨ oT t = 1) := by decide +kernel
theorem slB_o {x : Int32} (hτ : gTy τ = true) : slB (cT τ) x = x * 2 + oT τ := by
  obtain ⟨q1, q2⟩ := slB_T τ (gTy_lt hτ) hτ
  unfold slB
  by_cases c4 : c_so (cT τ) = 4
  · rw [if_pos c4, q1.mp c4]
  · rw [if_neg c4, q2.resolve_right (fun z => c4 (q1.mpr z))]
/-- the reference's state behind a field -/
def s62 (s : rS) (n i : Nat) : rS := rs_w (rs_w (rs_wA s 53 n (Int32.ofNat i)) 60 3) 61 0
theorem s62_L : rL s (s62 s n i) := rL_trans (rL_trans (rL_A (by omega)) (rL_w (by omega))) (rL_w (by omega))
theorem s62_53 : (s62 s n i).2.1 53 n = Int32.ofNat i := by
  show (rs_wA s 53 n (Int32.ofNat i)).2.1 53 n = _
  rw [wA_get, if_pos ⟨rfl, rfl⟩]
theorem s62_r (h2 : n < hi) : r53 n hi s (s62 s n i) := by
  intro j hj
  have ne : j ≠ n := fun z => hj ⟨by omega, by omega⟩
  show (rs_wA s 53 n (Int32.ofNat i)).2.1 53 j = _ ∧ (rs_wA s 53 n (Int32.ofNat i)).2.1 86 j = _
  rw [wA_get, if_neg (fun z => ne z.2), wA_get, if_neg (fun z => by omega)]
  exact ⟨rfl, rfl⟩
theorem tyc_r {y' : Int32} (rk : rK s0 s) (e : tyc s0 y' τ) : rs_aI s 60 y' = some (rTp τ) ∧ dTy τ = true := by
  obtain ⟨k, k1, k2, k3, k4⟩ := e
  subst k2
  exact ⟨(aI_at (i := k) (by decide) rfl k1 (by decide)).trans (by rw [rk_A rk (by decide), k3]), k4⟩
theorem vT_bh {q' a' tf : Nat} (hq : q' = 3 ∨ q' = 4) (ha : a' < 5) (hd : dTy tf = true) (hv : vT s0 nk tf) (h7 : bhN q' a' tf ≠ 72) : vT s0 nk (bhN q' a' tf) := by
  obtain ⟨b1, b2, b3, b4⟩ := bhD hq ha (gTy_lt hv.1) hd h7
  refine ⟨dTy_g b1, fun h8 => ?_⟩
  rw [b2]
  obtain ⟨v1, v2⟩ := hv.2 (b4.mp h8)
  refine ⟨v1, ?_⟩
  rcases v2 with ⟨v2, v3⟩ | ⟨v2, v3⟩
  · exact Or.inl ⟨b3.mpr v2, v3⟩
  · refine Or.inr ⟨?_, v3⟩
    have : ¬ bhN q' a' tf % 8 < 5 := fun z => by have := b3.mp z; omega
    omega
/-- a field: node l is ahead -/
theorem j_203 (j0 : JE L xs cx hB s0 nk kl ml) (e0 : fd hB 12 p 0 = some (.int 10)) (e6 : fd hB 12 p 6 = some (.ref px)) (ex : fd hB 12 px 1 = some (.int (s0.2.1 50 l))) (e2 : fd hB 12 p 2 = some (.ref q)) (hq : nS L xs hB q (s0.2.2 56 n)) (e3 : fd hB 12 p 3 = some (.int (s0.2.1 51 n))) (r44 : s0.2.1 44 n = 10) (r45 : s0.2.1 45 n = Int32.ofNat l) (hl : 1 ≤ l ∧ l < 4400) (hn : n < 4400) (d2 : n < hi) (d3 : lo ≤ n) (hw : 200 ≤ w) (j j2 : Nat) (e : CKJ L xs cx C Sc M pt vr mv hB s0 nk m h s ds G lv gn 0 b u A B) (hz : u 2 + 3 * (hi - n) ≤ 9000) (hτ : vT s0 nk τ) (h61 : s.1 61 = oT τ) : ∃ t' r' h' s', (dcV L xs (dM L xs zf w (8 + j)) 202 [13] (some C) [va_rf (some p), .int (cT τ)] h).bind dxI = some (t', h') ∧ rM w (5 + j2) 361 [.ref 36, .int (Int32.ofNat n), .int (Int32.ofNat l), .int (rTp τ)] s = some (some (.int r'), s') ∧ LXO L xs cx C Sc M pt vr mv hB s0 nk m Pl Ph LO HI lo hi n 10 l τ [] lv G ds gn u A B h s (3 * (hi - n)) t' r' h' s' := by
  obtain ⟨kh, dl, bh, rk, e57, _, rg, gw⟩ := id e
  have ge := JE_GE j0 bh
  have e6h := bh.1.1 _ _ _ (by decide) e6
  have exh := bh.1.1 _ _ _ (by decide) ex
  have e2h := bh.1.1 _ _ _ (by decide) e2
  have e3h := bh.1.1 _ _ _ (by decide) e3
  have s56 : s.2.2 56 n = s0.2.2 56 n := rk_B rk (by decide) n
  have s51 : s.2.1 51 n = s0.2.1 51 n := rk_A rk (by decide) n
  have s50 : s.2.1 50 l = s0.2.1 50 l := rk_A rk (by decide) l
  have so := so_T τ (gTy_lt hτ.1) hτ.1
  have c93 := c_193 (zf := zf) (w := w) (k := j) kh ge exh (cT τ)
  have r54 := r_354 (w := w) (k := j2) (l := l) e57 hl.2 hτ.1 h61
  rw [s50] at r54
  -- frames
  have wrap : ∀ t h2, b203_0 L xs zf (dM L xs zf w (j + 6)) w (some C) (some p) (cT τ) h = some (some (.int t), h2) → (dcV L xs (dM L xs zf w (8 + j)) 202 [13] (some C) [va_rf (some p), .int (cT τ)] h).bind dxI = some (t, h2) := by
    intro t h2 hh
    rw [show 8 + j = j + 7 + 1 from by omega]
    refine c_202 (Or.inl ⟨rfl, rfl⟩) kh (bh.1.1 _ _ _ (by decide) e0) ?_
    rw [ck_v kh, e203]
    show (b203_0 L xs zf (dM L xs zf w (j + 6)) w (some C) (some p) (cT τ) h).bind dxI = _
    rw [hh]
    rfl
  have rwrap : ∀ r s', s362_0 (rM w (j2 + 3)) w (Int32.ofNat n) (Int32.ofNat l) (rTp τ) s = some (some (.int r), s') → rM w (5 + j2) 361 [.ref 36, .int (Int32.ofNat n), .int (Int32.ofNat l), .int (rTp τ)] s = some (some (.int r), s') := by
    intro r s' hh
    rw [show 5 + j2 = j2 + 4 + 1 from by omega, y361]
    show s361_0 (rM w (j2 + 4)) w (Int32.ofNat n) (Int32.ofNat l) (rTp τ) s = _
    unfold s361_0
    refine bsq (a := (10 : Int32)) ((aI_at (i := n) (by decide) rfl hn (by decide)).trans (by rw [rk_A rk (by decide), r44])) (inq (by decide) (itq rfl (bsq (a := (r, s')) ?_ rfl)))
    rw [y362]
    show (s362_0 (rM w (j2 + 3)) w (Int32.ofNat n) (Int32.ofNat l) (rTp τ) s).bind rxI = _
    rw [hh]
    rfl
  have ft : ∀ (x y' : Int32) (h1 : rm_H), 0 < x.toInt → KH L xs cx C Sc M pt vr mv h1 ds (gN G) (gSl G) (gTp G) gn (if lv = 0 then 0 else 1) x y' u A B → wF cx C Sc Pl Ph u h h1 → wK2 u u h h1 → LXO L xs cx C Sc M pt vr mv hB s0 nk m Pl Ph LO HI lo hi n 10 l τ [] lv G ds gn u A B h s (3 * (hi - n)) 2 (-1) h1 (rfS s x y') := fun x y' h1 hx k1 w1 w2 => ⟨gn, x, y', u, A, B, CK_ft e k1 hx w1 rfl rfS_K rfS_57 rfS_58, w1, w2, rfl, by omega, fun i _ => ⟨rfl, rfl⟩, fun z => absurd z (ps_ne hx)⟩
  by_cases ah : 8 ≤ τ ∧ τ % 8 ≠ 5
  · rw [if_pos (so.1.mpr ah)] at c93
    rw [if_pos ah] at r54
    obtain ⟨K, kn, hK⟩ := kNo_T hτ ah.1 j0.2.1 j0.2.2.1
    rw [kn] at c93
    have hk8 : τ / 8 - 1 < 8 := by
      have := (hτ.2 ah.1).1
      have := j0.2.2.1
      omega
    have kne : ∀ i, i < 100 → mx_f2 .ne (Int32.ofNat i) (-1) = true := by
      intro i hi
      have : ∀ i, i < 100 → mx_f2 .ne (Int32.ofNat i) (-1) = true := by decide +kernel
      exact this i hi
    obtain ⟨f0, g1, g2, g3⟩ := fl_look (zf := zf) (w := w) (k := j + 1) (k2 := j2 + 2) j0 bh hK (bh.1.2.2.1 _ _ hq) rk hw
    rcases g3 with ⟨i, d, τf, c95, r56, i64, i8, dn, fdt, vf, tf⟩ | ⟨c95, r56⟩
    · have c92 : (dcV L xs (dM L xs zf w (j + 6)) 192 [13] (some C) [va_rf (some p), .int (cT τ)] h).bind dxR = some (some d, h) := by
        rw [ck_v kh, e192]
        show (b192_0 L xs zf (dM L xs zf w (j + 5)) w (some C) (some p) (cT τ) h).bind dxR = _
        refine bsq (a := (some (va_rf (some d)), h)) ?_ rfl
        unfold b192_0
        exact bsq (fd_R (o := some px) e6h (by decide)) (bsq c93 (inq (dnl_s K) (bsq (fd_R (o := some q) e2h (by decide)) (bsq c95 (inq (dnl_s d) rfl)))))
      obtain ⟨r60, dtf⟩ := tyc_r rk tf
      have r69 : rs_aI s 69 (Int32.ofNat (f0 + i)) = some (s0.2.1 69 (f0 + i)) := (aI_at (i := f0 + i) (by decide) rfl i64 (by decide)).trans (by rw [rk_A rk (by decide)])
      have tcp := (t_all2 τ (gTy_lt hτ.1) hτ.1 ah.1).2
      have r55 := r_355 (w := w) (k := j2 + 2) hτ.1 ah h61
      have bh4 := bhN_4 (cpT τ) cp5 τf (gTy_lt vf.1) dtf
      have chead : ∀ R, (if mx_f2 .ne (bhC 4 (Int32.ofNat (cpT τ)) (cT τf)) (-1) = true then (dgR L xs h 0 [13] (some C)).bind fun p26 => ((dcV L xs (dM L xs zf w (j + 6)) 196 [13] (some C) [.int (cT τ), va_rf (some d)] h).bind dxI).bind fun x28 => ((dcV L xs (dM L xs zf w (j + 6)) 175 [4] p26 [.int 3, .int x28.1] x28.2).bind dxI).bind fun x32 => drI (some .int) (bhC 4 (Int32.ofNat (cpT τ)) (cT τf)) x32.2 else (dgI L xs h 3 [12] (some p)).bind fun x36 => ((dcV L xs (dM L xs zf w (j + 6)) 178 [13] (some C) [.int 6, .int x36] h).bind dxV).bind fun h38 => drI (some .int) 2 h38) = R → b203_0 L xs zf (dM L xs zf w (j + 6)) w (some C) (some p) (cT τ) h = R := by
        intro R hR
        unfold b203_0
        refine bsq c92 (inq (dnl_s d) (bsq (t_cp (k := j + 5) _ h) (bsq (fd_I (cis := [10]) dn.2.2 (by decide)) (bsq (a := (bhC 4 (Int32.ofNat (cpT τ)) (cT τf), h)) ?_ hR))))
        show (dM L xs zf w (j + 6) 197 [.ref 4, .int (c_cp (cT τ)), .int (cT τf)] h).bind dxI = _
        rw [tcp]
        exact t_bh (k := j + 4) (q := 4) (by decide) _ _ h
      have rhead : ∀ x30 R, (isO τf = true → x30 = lkV 4 (Int32.ofNat (cpT τ)) (Int32.ofNat (τf % 8))) → (isO τf = false → x30 = 0) → s362_87 (rM w (j2 + 3)) w (Int32.ofNat n) (Int32.ofNat (τ / 8 - 1)) (Int32.ofNat (f0 + i)) (rTp τf) x30 s = R → s362_0 (rM w (j2 + 3)) w (Int32.ofNat n) (Int32.ofNat l) (rTp τ) s = R := by
        intro x30 R h1 h2 hR
        unfold s362_0
        refine bsq (a := (Int32.ofNat (τ / 8 - 1), s)) (by rw [r54]; rfl) (itq (kne _ (by omega)) (bsq (a := s0.2.2 56 n) ((aJ_at (i := n) (by decide) rfl hn (by decide)).trans (by rw [s56])) (bsq (a := (Int32.ofNat (f0 + i), s)) (by rw [r56]; rfl) (itq (kne _ (by omega)) (bsq r69 (bsq r60 (bsq (a := (rd_01 (isO τf), s)) (by rw [r_333b, clR_T τf (gTy_lt vf.1) vf.1]; rfl) ?_)))))))
        have o2 : isO τf = true ∨ isO τf = false := by cases isO τf <;> simp
        rcases o2 with o | o
        · rw [o]
          obtain ⟨m1, m5⟩ := rm8 vf.1 o
          rw [h1 o] at hR
          exact inq (show ¬ mx_f1 .eq (rd_01 true) = true by decide) (bsq (a := (Int32.ofNat (cpT τ), s)) (by rw [r55]; rfl) (bsq (a := (lkV 4 (Int32.ofNat (cpT τ)) (Int32.ofNat (τf % 8)), s)) (by rw [m1, r_291 (k := j2 + 2) cp5 m5]; rfl) hR))
        · rw [o]
          rw [h2 o] at hR
          exact itq (show mx_f1 .eq (rd_01 false) = true by decide) hR
      by_cases b7 : bhN 4 (cpT τ) τf = 72
      · -- no right to see it
        have of : isO τf = true := by
          by_cases o : isO τf = true
          · exact o
          · unfold bhN at b7
            rw [if_neg o] at b7
            have := gTy_lt vf.1
            omega
        have lk1 := (bhR (q := 4) (Or.inr rfl) (cp5 (τ := τ)) (gTy_lt vf.1) dtf of).1.mp b7
        rw [if_pos b7] at bh4
        obtain ⟨h1, v1, v2, v3, v4⟩ := ck_refA (pl := Pl) (ph := Ph) (zf := zf) (w := w) (k := j + 5) kh 6 (s0.2.1 51 n)
        refine ⟨2, -1, h1, _, wrap 2 h1 (chead _ ?_), rwrap (-1) _ (rhead (-1) _ (fun _ => lk1.symm) (fun z => by rw [of] at z; cases z) ?_), ft 6 (s0.2.1 51 n) h1 (by decide) v2 v3 v4⟩
        · rw [bh4]
          exact inq (by decide) (bsq (fd_I e3h (by decide)) (bsq v1 rfl))
        · unfold s362_87
          exact inq (by decide) (bsq (a := s0.2.1 51 n) ((aI_at (i := n) (by decide) rfl hn (by decide)).trans (by rw [s51])) (bsq (a := (-1, rfS s 6 (s0.2.1 51 n))) (by rw [r_347 (k := j2 + 1) e57]; rfl) rfl))
      · rw [if_neg b7] at bh4
        have vb := vT_bh (Or.inr rfl) (cp5 (τ := τ)) dtf vf b7
        have nb : mx_f2 .ne (bhC 4 (Int32.ofNat (cpT τ)) (cT τf)) (-1) = true := by
          rw [bh4, f2_ne]
          exact decide_eq_true (cT_m1 _ (gTy_lt vb.1))
        obtain ⟨h1, u', A', B', m1, m2, m3, m4, m5, m6, m7, m8⟩ := ck_emit (pl := Pl) (ph := Ph) (zf := zf) (w := w) (k := j + 3) kh (by omega) 3 (slB (cT τ) (Int32.ofNat i))
        have dtb := (bhD (Or.inr rfl) (cp5 (τ := τ)) (gTy_lt vf.1) dtf b7).1
        refine ⟨cT (bhN 4 (cpT τ) τf), rTp (bhN 4 (cpT τ) τf), h1, s62 s n i, wrap _ h1 (chead _ ?_), rwrap _ _ ?_, gn, 0, b, u', A', B', CK_up e m2 m3 m6 s62_L ?_, m3, m4, m6, by omega, s62_r d2, fun _ => ⟨m8, fun _ _ _ _ _ q => q, bhN 4 (cpT τ) τf, vb, rfl, rfl, ?_, ?_, fun SL AA BB f s1' s2' hf g00 ga a00 a0 dg tu => ?_⟩⟩
        · refine itq nb (bsq (ck_0 kh) (bsq (ck_slB (k := j + 4) ⟨gn, A, B, kh⟩ dn (cT τ)) (bsq m1 ?_)))
          rw [bh4]
          rfl
        · have o2 : isO τf = true ∨ isO τf = false := by cases isO τf <;> simp
          have x64 : rs_aI s 64 (Int32.ofNat (τ / 8 - 1)) = some (Int32.ofNat f0) := (aI_at (i := τ / 8 - 1) (by decide) rfl (by omega) (by decide)).trans (by rw [rk_A rk (by decide), g1])
          rcases o2 with o | o
          · have br := bhR (q := 4) (Or.inr rfl) (cp5 (τ := τ)) (gTy_lt vf.1) dtf o
            refine rhead (lkV 4 (Int32.ofNat (cpT τ)) (Int32.ofNat (τf % 8))) _ (fun _ => rfl) (fun z => by rw [o] at z; cases z) ?_
            unfold s362_87
            refine itq ?_ (bsq x64 (bsq (a := rs_wA s 53 n (Int32.ofNat i)) (by rw [of_dif f0 i (by omega)]; exact sI_at (i := n) (by decide) rfl hn (by decide)) (bsq (a := rs_w (rs_wA s 53 n (Int32.ofNat i)) 60 3) rfl (bsq (a := s62 s n i) rfl (bsq (a := (rd_01 true, s62 s n i)) (by rw [r_333b, clR_T τf (gTy_lt vf.1) vf.1, o]; rfl) (inq (show ¬ mx_f1 .eq (rd_01 true) = true by decide) ?_))))))
            · rw [f2_ne]
              exact decide_eq_true (fun z => b7 (br.1.mpr z))
            · unfold s362_158
              rw [br.2 b7]
              rfl
          · refine rhead 0 _ (fun z => by rw [o] at z; cases z) (fun _ => rfl) ?_
            unfold s362_87
            refine itq (by decide) (bsq x64 (bsq (a := rs_wA s 53 n (Int32.ofNat i)) (by rw [of_dif f0 i (by omega)]; exact sI_at (i := n) (by decide) rfl hn (by decide)) (bsq (a := rs_w (rs_wA s 53 n (Int32.ofNat i)) 60 3) rfl (bsq (a := s62 s n i) rfl (bsq (a := (rd_01 false, s62 s n i)) (by rw [r_333b, clR_T τf (gTy_lt vf.1) vf.1, o]; rfl) (itq (show mx_f1 .eq (rd_01 false) = true by decide) ?_))))))
            unfold s362_158
            rw [show bhN 4 (cpT τ) τf = τf from by unfold bhN; rw [o]; rfl]
            rfl
        · show (rs_w (rs_w (rs_wA s 53 n (Int32.ofNat i)) 60 3) 61 0).1 64 = gn
          rw [w_ne _ _ (by decide), w_ne _ _ (by decide)]
          exact (rg rfl).2.2.1
        · show (rs_w (rs_w (rs_wA s 53 n (Int32.ofNat i)) 60 3) 61 0).1 61 = _
          rw [w_eq, dT_o _ (gTy_lt vb.1) dtb]
        · show pf60 ((rs_w (rs_w (rs_wA s 53 n (Int32.ofNat i)) 60 3) 61 0).1 60) _
          rw [w_ne _ _ (by decide), w_eq, r44]
          exact pf_1 (by decide) (by decide)
        · obtain ⟨dg1, dg2⟩ := dg.1 (Or.inl rfl)
          subst dg1
          subst dg2
          have ui := s2' (u 2) (Nat.le_refl _) (by omega)
          refine ⟨10, r44, by omega, l, τ, τ / 8 - 1, f0, f0 + i, τf, u 2, r45, hl.1, hl.2, tu, ⟨ah.1, ah.2, rfl⟩, fdt, bhN_T (Or.inr rfl) cp5 ?_ b7, ?_, m5, by rw [ui.1, m7.1], ?_⟩
          · by_cases o : isO τf = true
            · exact Or.inl (rm8 vf.1 o).2
            · refine Or.inr ?_
              cases hh : isO τf
              · rfl
              · exact absurd hh o
          · rw [s1' n d3 d2, s62_53, show f0 + i - f0 = i from by omega]
          · rw [ui.2, m7.2, slB_o hτ.1, show f0 + i - f0 = i from by omega]
    · -- no such field
      obtain ⟨h1, v1, v2, v3, v4⟩ := ck_refA (pl := Pl) (ph := Ph) (zf := zf) (w := w) (k := j + 4) kh 3 (s0.2.1 51 n)
      refine ⟨2, -1, h1, _, wrap 2 h1 ?_, rwrap (-1) _ ?_, ft 3 (s0.2.1 51 n) h1 (by decide) v2 v3 v4⟩
      · have c92 : (dcV L xs (dM L xs zf w (j + 6)) 192 [13] (some C) [va_rf (some p), .int (cT τ)] h).bind dxR = some (none, h1) := by
          rw [ck_v kh, e192]
          show (b192_0 L xs zf (dM L xs zf w (j + 5)) w (some C) (some p) (cT τ) h).bind dxR = _
          refine bsq (a := (some (va_rf none), h1)) ?_ rfl
          unfold b192_0
          exact bsq (fd_R (o := some px) e6h (by decide)) (bsq c93 (inq (dnl_s K) (bsq (fd_R (o := some q) e2h (by decide)) (bsq c95 (itq rfl (bsq (fd_I e3h (by decide)) (bsq v1 rfl)))))))
        unfold b203_0
        exact bsq c92 (itq rfl rfl)
      · unfold s362_0
        exact bsq (a := (Int32.ofNat (τ / 8 - 1), s)) (by rw [r54]; rfl) (itq (kne _ (by omega)) (bsq (a := s0.2.2 56 n) ((aJ_at (i := n) (by decide) rfl hn (by decide)).trans (by rw [s56])) (bsq (a := (-1, s)) (by rw [r56]; rfl) (inq (show ¬ mx_f2 .ne (-1 : Int32) (-1) = true by decide) (bsq (a := s0.2.1 51 n) ((aI_at (i := n) (by decide) rfl hn (by decide)).trans (by rw [s51])) (bsq (a := (-1, rfS s 3 (s0.2.1 51 n))) (by rw [r_347 (k := j2 + 1) e57]; rfl) rfl))))))
  · -- nothing that has fields
    rw [if_neg (fun z => ah (so.1.mp z))] at c93
    rw [if_neg ah] at r54
    have px5 : 0 < (owX (cT τ)).toInt := by
      unfold owX
      split <;> decide
    obtain ⟨h1, v1, v2, v3, v4⟩ := ck_refA (pl := Pl) (ph := Ph) (zf := zf) (w := w) (k := j + 3) kh (owX (cT τ)) (s0.2.1 50 l) (ps_ne (by unfold owX; split <;> decide))
    have v1 : (dcV L xs (dM L xs zf w (j + 4)) 178 [13] (some C) [.int (owX (cT τ)), .int (s0.2.1 50 l)] h).bind dxV = some h1 := v1
    rw [v1, Option.bind_some] at c93
    refine ⟨2, -1, h1, _, wrap 2 h1 ?_, rwrap (-1) _ ?_, ft (owX (cT τ)) (s0.2.1 50 l) h1 px5 v2 v3 v4⟩
    · have c92 : (dcV L xs (dM L xs zf w (j + 6)) 192 [13] (some C) [va_rf (some p), .int (cT τ)] h).bind dxR = some (none, h1) := by
        rw [ck_v kh, e192]
        show (b192_0 L xs zf (dM L xs zf w (j + 5)) w (some C) (some p) (cT τ) h).bind dxR = _
        refine bsq (a := (some (va_rf none), h1)) ?_ rfl
        unfold b192_0
        exact bsq (fd_R (o := some px) e6h (by decide)) (bsq c93 (itq rfl rfl))
      unfold b203_0
      exact bsq c92 (itq rfl rfl)
    · unfold s362_0
      exact bsq (a := (-1, rfS s (owX (cT τ)) (s0.2.1 50 l))) (by rw [r54]; rfl) (inq (show ¬ mx_f2 .ne (-1 : Int32) (-1) = true by decide) rfl)
end JFE
