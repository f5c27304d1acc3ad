/-! BOTH CHECK: a field is given a value. -/
/-- the class behind what is ahead -/
def b191r (L : Nat) (xs : Nat → Int32) (zf : Value) (D : dD) (w : Nat) (o0 o1 o2 : Option Nat) (i3 i4 t : Int32) (h : rm_H) : Option dR :=
  ((dcV L xs D 192 [13] o0 [va_rf o1, .int t] h).bind dxR).bind fun p13 =>
  if dnl p13.1 = true then
    drI (some .int) 2 p13.2
  else
    ((D 160 [.int t] p13.2).bind dxI).bind fun x25 =>
    if mx_f2 .eq x25.1 3 = true then
      b191_45 L xs zf D w o0 o1 o2 i3 i4 t p13.1 x25.1 x25.2
    else
      if mx_f2 .ne x25.1 4 = true then
        b191_55 L xs zf D w o0 o1 o2 i3 i4 t p13.1 x25.1 x25.2
      else
        b191_45 L xs zf D w o0 o1 o2 i3 i4 t p13.1 x25.1 x25.2
/-- and the reference -/
def s351r (E : rE) (w : Nat) (i1 i2 i3 l v t : Int32) (s : rS) : Option rA :=
  ((E 354 [.ref 36, .int l, .int t] s).bind rxI).bind fun x23 =>
  if mx_f2 .ne x23.1 (-1) = true then
    ((E 355 [.ref 36, .int t] x23.2).bind rxI).bind fun x29 =>
    (rs_aJ x29.2 56 i1).bind fun y34 =>
    ((E 356 [.ref 36, .int x23.1, .long y34] x29.2).bind rxI).bind fun x36 =>
    if mx_f2 .ne x36.1 (-1) = true then
      if mx_f2 .eq x29.1 3 = true then
        s351_155 E w i1 x36.2
      else
        if mx_f2 .ne x29.1 4 = true then
          (rs_aI x36.2 69 x36.1).bind fun x44 =>
          (rs_aI x36.2 60 x44).bind fun x46 =>
          ((E 353 [.ref 36, .int i2, .int v, .int x46] x36.2).bind rxI).bind fun x48 =>
          if mx_f1 .ne x48.1 = true then
            if mx_f2 .eq v 1 = true then
              s351_223 E w i1 i2 i3 x23.1 x29.1 x36.1 x46 x48.2
            else
              ((E 331 [.int v] x48.2).bind rxI).bind fun x55 =>
              if mx_f1 .ne x55.1 = true then
                s351_223 E w i1 i2 i3 x23.1 x29.1 x36.1 x46 x55.2
              else
                ((E 293 [.int x29.1, .int (v - v / 8 * 8)] x55.2).bind rxI).bind fun x61 =>
                if mx_f1 .eq x61.1 = true then
                  s351_228 E w i1 i2 i3 x23.1 x29.1 x36.1 x46 0 x61.2
                else
                  s351_223 E w i1 i2 i3 x23.1 x29.1 x36.1 x46 x61.2
          else
            rrI (some .int) (-1) x48.2
        else
          s351_155 E w i1 x36.2
    else
      (rs_aI x36.2 51 i1).bind fun x67 =>
      ((E 347 [.ref 36, .int 3, .int x67] x36.2).bind rxI).bind fun x69 =>
      rrI (some .int) x69.1 x69.2
  else
    rrI (some .int) (-1) x23.2
theorem lk_sd : ∀ a, a < 5 → a ≠ 3 → a ≠ 4 → lkV 2 (Int32.ofNat a) (Int32.ofNat 0) = 1 ∧ lkV 2 (Int32.ofNat a) (Int32.ofNat 3) = 1 := by decide +kernel
theorem sdw_T (t : Nat) (_ : t < 72) (h : gTy t = true) (h6 : t % 8 ≠ 6) (h0 : t ≠ 0) : (isO t = true ∧ t % 8 ≠ 0 ∧ t % 8 ≠ 3) ∨ t = 2 ∨ t = 1 ∨ (8 ≤ t ∧ (5 ≤ t % 8 ∨ t % 8 = 0 ∨ t % 8 = 3)) := by
  unfold gTy at h
  unfold isO
  simp at h ⊢
  omega
section JPF
variable {L : Nat} {xs : Nat → Int32} {zf : Value} {w C Sc M Pl Ph LO HI nk m lv n p q i d lo hi k k2 z W ke kr K l τ px q0 q1 pl ph ne pe tv : Nat} {cx : Nat → Nat} {hB h h1 h2 : rm_H} {s0 s s1 s2 : rS} {pt vr gn gn1 a b a1 b1 x y rc t v : Int32} {mv : Value} {ds kl ml es ns ts qs : List Nat} {G : List scN} {u u1 u2 : Nat → Nat} {A B A1 B1 : Nat → Int32} {c : Int64} {X : scN} {f : Nat → Int64} {sl ty : Nat → Int32} {sw : Bool}
/-- a refusal or none, behind a fault or none -/
theorem CK_rg (e : CKJ L xs cx C Sc M pt vr mv hB s0 nk m h s ds G lv gn a b u A B) (kh : KH L xs cx C Sc M pt vr mv h1 ds (gN G) (gSl G) (gTp G) gn (if lv = 0 then 0 else 1) (fa a x) (fb a b x y) u A B) (wf : wF cx C Sc Pl Ph u h h1) (hp : x = 0 ∨ 0 < x.toInt) : CKJ L xs cx C Sc M pt vr mv hB s0 nk m h1 (if a = 0 then rzS s x y else s) ds G lv gn (fa a x) (fb a b x y) u A B := by
  by_cases ha : a = 0
  · subst ha
    rw [if_pos rfl]
    exact CK_rz e kh wf hp
  · rw [if_neg ha]
    rw [fa_n ha, fb_n ha] at kh ⊢
    exact CK_fk e ha kh wf rfl
/-- an instruction -/
theorem CK_e0 (e : CKJ L xs cx C Sc M pt vr mv hB s0 nk m h s ds G lv gn a b u A B) (kh : KH L xs cx C Sc M pt vr mv h1 ds (gN G) (gSl G) (gTp G) gn (if lv = 0 then 0 else 1) a b u1 A1 B1) (wf : wF cx C Sc Pl Ph u h h1) (u0 : u1 0 = u 0) : CKJ L xs cx C Sc M pt vr mv hB s0 nk m h1 s ds G lv gn a b u1 A1 B1 := by
  by_cases ha : a = 0
  · subst ha
    exact CK_up e kh wf u0 ⟨fun _ _ _ _ _ => rfl, fun _ _ _ => rfl, rfl⟩ (e.2.2.2.2.2.2.1 rfl).2.2.1
  · exact CK_fk e ha kh wf u0
/-- a slot of a node -/
theorem CK_w5 (e : CKJ L xs cx C Sc M pt vr mv hB s0 nk m h s ds G lv gn a b u A B) (i : Nat) (v : Int32) : CKJ L xs cx C Sc M pt vr mv hB s0 nk m h (if a = 0 then rs_wA s 53 i v else s) ds G lv gn a b u A B := by
  by_cases ha : a = 0
  · subst ha
    rw [if_pos rfl]
    exact CK_up e e.1 (wF_refl (pl := 0) (ph := 0)) rfl (rL_A (Or.inl rfl)) (e.2.2.2.2.2.2.1 rfl).2.2.1
  · rw [if_neg ha]
    exact e
/-- what it leaves -/
def PFP (s0 : rS) (nk : Nat) (sw : Bool) (n tv τ : Nat) (gn : Int32) (u : Nat → Nat) (t r : Int32) (s' : rS) : Int32 → (Nat → Nat) → (Nat → Int32) → (Nat → Int32) → Prop := fun gn' u' A' B' => gn' = gn ∧ u' 2 = u 2 + 1 ∧ ∃ k f0 f tf : Nat, ahT τ k ∧ fdT s0 k (s0.2.2 56 n) f0 f tf ∧ cpT τ ≠ 3 ∧ cpT τ ≠ 4 ∧ fitC (cT tv) (cT tf) = 0 ∧ (isO tv = true → lkV 2 (Int32.ofNat (cpT τ)) (Int32.ofNat (tv % 8)) = 1) ∧ (sw = true → ∃ τ', vT s0 nk τ' ∧ dTy τ' = true ∧ t = cT τ' ∧ r = rTp τ' ∧ bhT 3 (cpT τ) tf τ') ∧ A' (u 2) = (if sw = true then 10 else 12) ∧ B' (u 2) = Int32.ofNat (f - f0) * 2 + oT τ ∧ s'.2.1 53 n = Int32.ofNat (f - f0)
theorem j_191 (j0 : JE L xs cx hB s0 nk kl ml) (e6 : fd hB 12 p 6 = some (.ref px)) (ex : fd hB 12 px 1 = some (.int (s0.2.1 50 l))) (e2 : fd hB 12 p 2 = some (.ref q)) (hq : nS L xs hB q (s0.2.2 56 n)) (e3 : fd hB 12 p 3 = some (.int (s0.2.1 51 n))) (hl : l < 4400) (hn : n < 4400) (hl1 : lo ≤ n) (hl2 : n < hi) (pe1 : fd hB 12 pe 1 = some (.int (s0.2.1 50 ne))) (hne : ne < 4400) (htv : vT s0 nk tv) (h6 : tv % 8 ≠ 6) (ht0 : tv ≠ 0) (hw : 200 ≤ w) (j j2 : Nat) (sw : Bool) (e : CKJ L xs cx C Sc M pt vr mv hB s0 nk m h s ds G lv gn 0 b u A B) (hz : u 2 ≤ 9000) (hτ : vT s0 nk τ) (h61 : s.1 61 = oT τ) : ∃ t r h' s', b191r L xs zf (dM L xs zf w (j + 6)) w (some C) (some p) (some pe) (cT tv) (rd_01 sw) (cT τ) h = some (some (.int t), h') ∧ s351r (rM w (j2 + 3)) w (Int32.ofNat n) (Int32.ofNat ne) (rd_01 sw) (Int32.ofNat l) (rTp tv) (rTp τ) s = some (some (.int r), s') ∧ OUT L xs cx C Sc M pt vr mv hB s0 nk m Pl Ph LO HI lo hi lv G ds gn u A B h s 1 h' s' (PFP s0 nk sw n tv τ gn u t r s') := by
  obtain ⟨kh, dl, bh, rk, e57, _, rg, gw⟩ := id e
  have ge := JE_GE j0 bh
  have e6h := bh.1.1 _ _ _ (by decide) e6
  have exh := bh.1.1 _ _ _ (by decide) ex
  have e2h := bh.1.1 _ _ _ (by decide) e2
  have e3h := bh.1.1 _ _ _ (by decide) e3
  have s56 : s.2.2 56 n = s0.2.2 56 n := rk_B rk (by decide) n
  have s51 : s.2.1 51 n = s0.2.1 51 n := rk_A rk (by decide) n
  have s50 : s.2.1 50 l = s0.2.1 50 l := rk_A rk (by decide) l
  have s50e : s.2.1 50 ne = s0.2.1 50 ne := rk_A rk (by decide) ne
  have g51 : rs_aI s 51 (Int32.ofNat n) = some (s0.2.1 51 n) := (aI_at (i := n) (by decide) rfl hn (by decide)).trans (by rw [s51])
  have g50e : rs_aI s 50 (Int32.ofNat ne) = some (s0.2.1 50 ne) := (aI_at (i := ne) (by decide) rfl hne (by decide)).trans (by rw [s50e])
  have g56 : rs_aJ s 56 (Int32.ofNat n) = some (s0.2.2 56 n) := (aJ_at (i := n) (by decide) rfl hn (by decide)).trans (by rw [s56])
  have so := so_T τ (gTy_lt hτ.1) hτ.1
  have c93 := c_193 (zf := zf) (w := w) (k := j) kh ge exh (cT τ)
  have r54 := r_354 (w := w) (k := j2) (l := l) e57 hl hτ.1 h61
  rw [s50] at r54
  have ft : ∀ (x y' : Int32) (h1 : rm_H), 0 < x.toInt → KH L xs cx C Sc M pt vr mv h1 ds (gN G) (gSl G) (gTp G) gn (if lv = 0 then 0 else 1) x y' u A B → wF cx C Sc Pl Ph u h h1 → wK2 u u h h1 → OUT L xs cx C Sc M pt vr mv hB s0 nk m Pl Ph LO HI lo hi lv G ds gn u A B h s 1 h1 (rfS s x y') (PFP s0 nk sw n tv τ gn u 2 (-1) (rfS s x y')) := fun x y' h1 hx k1 w1 w2 => ⟨gn, x, y', u, A, B, CK_ft e k1 hx w1 rfl rfS_K rfS_57 rfS_58, w1, w2, rfl, by omega, fun i _ => ⟨rfl, rfl⟩, fun z => absurd z (ps_ne hx)⟩
  by_cases ah : 8 ≤ τ ∧ τ % 8 ≠ 5
  · rw [if_pos (so.1.mpr ah)] at c93
    rw [if_pos ah] at r54
    obtain ⟨K, kn, hK⟩ := kNo_T hτ ah.1 j0.2.1 j0.2.2.1
    rw [kn] at c93
    have hk8 : τ / 8 - 1 < 8 := by
      have := (hτ.2 ah.1).1
      have := j0.2.2.1
      omega
    have kne : ∀ i, i < 100 → mx_f2 .ne (Int32.ofNat i) (-1) = true := by
      intro i hi
      have : ∀ i, i < 100 → mx_f2 .ne (Int32.ofNat i) (-1) = true := by decide +kernel
      exact this i hi
    obtain ⟨f0, g1, g2, g3⟩ := fl_look (zf := zf) (w := w) (k := j + 1) (k2 := j2 + 2) j0 bh hK (bh.1.2.2.1 _ _ hq) rk hw
    have r55 := r_355 (w := w) (k := j2 + 2) hτ.1 ah h61
    rcases g3 with ⟨i, d, τf, c95, r56, i64, i8, dn, fdt, vf, tf⟩ | ⟨c95, r56⟩
    · have c92 : (dcV L xs (dM L xs zf w (j + 6)) 192 [13] (some C) [va_rf (some p), .int (cT τ)] h).bind dxR = some (some d, h) := by
        rw [ck_v kh, e192]
        show (b192_0 L xs zf (dM L xs zf w (j + 5)) w (some C) (some p) (cT τ) h).bind dxR = _
        refine bsq (a := (some (va_rf (some d)), h)) ?_ rfl
        unfold b192_0
        exact bsq (fd_R (o := some px) e6h (by decide)) (bsq c93 (inq (dnl_s K) (bsq (fd_R (o := some q) e2h (by decide)) (bsq c95 (inq (dnl_s d) rfl)))))
      obtain ⟨r60, dtf⟩ := tyc_r rk tf
      have r69 : rs_aI s 69 (Int32.ofNat (f0 + i)) = some (s0.2.1 69 (f0 + i)) := (aI_at (i := f0 + i) (by decide) rfl i64 (by decide)).trans (by rw [rk_A rk (by decide)])
      have tcp := (t_all2 τ (gTy_lt hτ.1) hτ.1 ah.1).2
      have bh3 := bhN_3 (cpT τ) cp5 τf (gTy_lt vf.1) dtf
      -- the four refusals
      obtain ⟨x1, hx1⟩ : ∃ x1 : Int32, x1 = if cpT τ = 3 ∨ cpT τ = 4 then 6 else 0 := ⟨_, rfl⟩
      obtain ⟨x2, hx2⟩ : ∃ x2 : Int32, x2 = fitC (cT tv) (cT τf) := ⟨_, rfl⟩
      obtain ⟨x3, hx3⟩ : ∃ x3 : Int32, x3 = if isO tv = true ∧ lkV 2 (Int32.ofNat (cpT τ)) (Int32.ofNat (tv % 8)) ≠ 1 then 6 else 0 := ⟨_, rfl⟩
      obtain ⟨x4, hx4⟩ : ∃ x4 : Int32, x4 = if sw = true ∧ bhN 3 (cpT τ) τf = 72 then 6 else 0 := ⟨_, rfl⟩
      have six : ∀ (P : Prop) [Decidable P], (if P then (6 : Int32) else 0) = 0 ∨ 0 < (if P then (6 : Int32) else 0).toInt := by
        intro P _
        split
        · exact Or.inr (by decide)
        · exact Or.inl rfl
      have p1 : x1 = 0 ∨ 0 < x1.toInt := by rw [hx1]; exact six _
      have p2 : x2 = 0 ∨ 0 < x2.toInt := by rw [hx2]; exact fitC_p _ _
      have p3 : x3 = 0 ∨ 0 < x3.toInt := by rw [hx3]; exact six _
      have p4 : x4 = 0 ∨ 0 < x4.toInt := by rw [hx4]; exact six _
      obtain ⟨hA, a1, a2, a3, a4⟩ := ck_rfz (pl := Pl) (ph := Ph) (zf := zf) (w := w) (k := j + 5) kh x1 (s0.2.1 51 n)
      obtain ⟨hF, b1, b2, b3, b4⟩ := ck_rfz (pl := Pl) (ph := Ph) (zf := zf) (w := w) (k := j + 4) a2 x2 (s0.2.1 50 ne)
      obtain ⟨hS, c1, c2, c3, c4⟩ := ck_rfz (pl := Pl) (ph := Ph) (zf := zf) (w := w) (k := j + 5) b2 x3 (s0.2.1 50 ne)
      obtain ⟨h4, u4, A4, B4, m1, m2, m3, m4, m5, m6, m7, m8⟩ := ck_emit (pl := Pl) (ph := Ph) (zf := zf) (w := w) (k := j + 3) c2 hz (if sw = true then 10 else 12) (slB (cT τ) (Int32.ofNat i))
      obtain ⟨h5, d1, d2, d3, d4⟩ := ck_rfz (pl := Pl) (ph := Ph) (zf := zf) (w := w) (k := j + 5) m2 x4 (s0.2.1 51 n)
      have dA := wF_dSn kh a3 dn
      have dF := wF_dSn a2 b3 dA
      have dS := wF_dSn b2 c3 dF
      have dE := wF_dSn c2 m3 dS
      have W1 := wF_trans a3 a4 b3
      have K1 := wK2_trans a4 b4 a3.1.1
      have W2 := wF_trans W1 K1 c3
      have K2 := wK2_trans K1 c4 W1.1.1
      have W3 := wF_trans W2 K2 m3
      have K3 := wK2_trans K2 m4 W2.1.1
      have W4 := wF_trans W3 K3 d3
      have K4 := wK2_trans K3 d4 W3.1.1
      -- the class
      obtain ⟨tr, htr⟩ : ∃ tr : Int32, tr = if bhN 3 (cpT τ) τf = 72 then 2 else cT (bhN 3 (cpT τ) τf) := ⟨_, rfl⟩
      have f116 : b191_116 L xs zf (dM L xs zf w (j + 6)) w (some C) (some p) (rd_01 sw) (cT τ) (some d) (Int32.ofNat (cpT τ)) (if sw = true then 10 else 12) (some (cx 8)) hS = some (some (.int tr), h5) := by
        unfold b191_116
        refine bsq (ck_slB (k := j + 4) ⟨_, _, _, c2⟩ dS (cT τ)) (bsq m1 (bsq (fd_I dE.2.2 (by decide)) (bsq (a := (bhC 3 (Int32.ofNat (cpT τ)) (cT τf), h4)) (t_bh (k := j + 4) (q := 3) (by decide) _ _ h4) ?_)))
        dsimp only
        rw [bh3]
        by_cases b7 : bhN 3 (cpT τ) τf = 72
        · rw [if_pos b7] at htr
          rw [if_pos b7, if_neg (show ¬ mx_f2 .ne (-1 : Int32) (-1) = true by decide), htr]
          unfold rfz at d1
          cases hs : sw with
          | false =>
            rw [hs, if_neg (fun z => by cases z.1)] at hx4
            rw [hx4, if_pos rfl] at d1
            have : h4 = h5 := Option.some.inj d1
            rw [this]
            exact itq (by decide) rfl
          | true =>
            rw [hs, if_pos ⟨rfl, b7⟩] at hx4
            rw [hx4, if_neg (by decide)] at d1
            exact inq (by decide) (bsq (fd_I (wF_12 W3 (by decide) e3h) (by decide)) (bsq d1 rfl))
        · have vb := vT_bh (Or.inl rfl) (cp5 (τ := τ)) dtf vf b7
          rw [if_neg b7] at htr
          rw [if_neg (fun z => b7 z.2)] at hx4
          unfold rfz at d1
          rw [hx4, if_pos rfl] at d1
          have : h4 = h5 := Option.some.inj d1
          rw [if_neg b7, if_pos (show mx_f2 .ne (cT (bhN 3 (cpT τ) τf)) (-1) = true by rw [f2_ne]; exact decide_eq_true (cT_m1 _ (gTy_lt vb.1))), htr, this]
          rfl
      have f100 : b191_100 L xs zf (dM L xs zf w (j + 6)) w (some C) (some p) (rd_01 sw) (cT τ) (some d) (Int32.ofNat (cpT τ)) hS = some (some (.int tr), h5) := by
        unfold b191_100
        refine bsq (ck_0 c2) ?_
        cases hs : sw with
        | false =>
          rw [hs, if_neg (by decide)] at f116
          exact itq (by decide) f116
        | true =>
          rw [hs, if_pos rfl] at f116
          exact inq (by decide) f116
      have soT := (so_T tv (gTy_lt htv.1) htv.1).2.2.2
      have f55 : b191_55 L xs zf (dM L xs zf w (j + 6)) w (some C) (some p) (some pe) (cT tv) (rd_01 sw) (cT τ) (some d) (Int32.ofNat (cpT τ)) hA = some (some (.int tr), h5) := by
        unfold b191_55
        refine bsq (fd_I dA.2.2 (by decide)) (bsq (a := hF) ?_ (bsq (t_so (k := j + 5) _ hF) ?_))
        · rw [c_188 (k := j + 3) a2 (wF_12 a3 (by decide) (bh.1.1 _ _ _ (by decide) pe1)) _ _, ← hx2]
          exact b1
        · dsimp only
          unfold rfz at c1
          by_cases o : isO tv = true
          · obtain ⟨_, o5⟩ := rm8 htv.1 o
            have o8 : 8 ≤ tv := by
              unfold isO at o
              simp at o
              exact o.1
            have tcv : c_cp (cT tv) = Int32.ofNat (tv % 8) := by
              rw [(t_all2 tv (gTy_lt htv.1) htv.1 o8).2]
              unfold cpT
              rw [if_pos o5]
            rw [if_neg (show ¬ mx_f2 .ne (c_so (cT tv)) 5 = true by rw [f2_ne, soT.mpr o]; decide)]
            refine bsq (t_cp (k := j + 5) _ hF) (bsq (a := (lkV 2 (Int32.ofNat (cpT τ)) (Int32.ofNat (tv % 8)), hF)) ?_ ?_)
            · show (dM L xs zf w (j + 6) 190 [.ref 2, .int (Int32.ofNat (cpT τ)), .int (c_cp (cT tv))] hF).bind dxI = _
              rw [tcv]
              exact lk_tb (k := j + 5) (by decide) _ _ hF
            · dsimp only
              by_cases l1 : lkV 2 (Int32.ofNat (cpT τ)) (Int32.ofNat (tv % 8)) = 1
              · rw [if_neg (fun z => z.2 l1)] at hx3
                rw [hx3, if_pos rfl] at c1
                have : hF = hS := Option.some.inj c1
                rw [if_pos (show mx_f2 .eq (lkV 2 (Int32.ofNat (cpT τ)) (Int32.ofNat (tv % 8))) 1 = true from decide_eq_true l1), this]
                exact f100
              · rw [if_pos ⟨o, l1⟩] at hx3
                rw [hx3, if_neg (by decide)] at c1
                rw [if_neg (show ¬ mx_f2 .eq (lkV 2 (Int32.ofNat (cpT τ)) (Int32.ofNat (tv % 8))) 1 = true from fun z => l1 (of_decide_eq_true z))]
                exact bsq (fd_I (wF_12 W1 (by decide) (bh.1.1 _ _ _ (by decide) pe1)) (by decide)) (bsq c1 f100)
          · rw [if_neg (fun z => o z.1)] at hx3
            rw [hx3, if_pos rfl] at c1
            have : hF = hS := Option.some.inj c1
            rw [if_pos (show mx_f2 .ne (c_so (cT tv)) 5 = true by rw [f2_ne]; exact decide_eq_true (fun z => o (soT.mp z))), this]
            exact f100
      have cls : b191r L xs zf (dM L xs zf w (j + 6)) w (some C) (some p) (some pe) (cT tv) (rd_01 sw) (cT τ) h = some (some (.int tr), h5) := by
        unfold b191r
        refine bsq c92 (inq (dnl_s d) (bsq (t_cp (k := j + 5) _ h) ?_))
        show (if mx_f2 .eq (c_cp (cT τ)) 3 = true then b191_45 L xs zf (dM L xs zf w (j + 6)) w (some C) (some p) (some pe) (cT tv) (rd_01 sw) (cT τ) (some d) (c_cp (cT τ)) h else if mx_f2 .ne (c_cp (cT τ)) 4 = true then b191_55 L xs zf (dM L xs zf w (j + 6)) w (some C) (some p) (some pe) (cT tv) (rd_01 sw) (cT τ) (some d) (c_cp (cT τ)) h else b191_45 L xs zf (dM L xs zf w (j + 6)) w (some C) (some p) (some pe) (cT tv) (rd_01 sw) (cT τ) (some d) (c_cp (cT τ)) h) = _
        rw [tcp]
        unfold rfz at a1
        have no : cpT τ = 3 ∨ cpT τ = 4 → b191_45 L xs zf (dM L xs zf w (j + 6)) w (some C) (some p) (some pe) (cT tv) (rd_01 sw) (cT τ) (some d) (Int32.ofNat (cpT τ)) h = some (some (.int tr), h5) := by
          intro hc
          rw [if_pos hc] at hx1
          rw [hx1, if_neg (by decide)] at a1
          unfold b191_45
          exact bsq (fd_I e3h (by decide)) (bsq a1 f55)
        have yes : ¬ (cpT τ = 3 ∨ cpT τ = 4) → b191_55 L xs zf (dM L xs zf w (j + 6)) w (some C) (some p) (some pe) (cT tv) (rd_01 sw) (cT τ) (some d) (Int32.ofNat (cpT τ)) h = some (some (.int tr), h5) := by
          intro hc
          rw [if_neg hc] at hx1
          rw [hx1, if_pos rfl] at a1
          have : h = hA := Option.some.inj a1
          rw [this]
          exact f55
        have c5 := cp5 (τ := τ)
        have : cpT τ = 0 ∨ cpT τ = 1 ∨ cpT τ = 2 ∨ cpT τ = 3 ∨ cpT τ = 4 := by omega
        rcases this with z | z | z | z | z
        · have yes := yes (by omega)
          rw [z] at yes ⊢
          exact inq (by decide) (itq (by decide) yes)
        · have yes := yes (by omega)
          rw [z] at yes ⊢
          exact inq (by decide) (itq (by decide) yes)
        · have yes := yes (by omega)
          rw [z] at yes ⊢
          exact inq (by decide) (itq (by decide) yes)
        · have no := no (by omega)
          rw [z] at no ⊢
          exact itq (by decide) no
        · have no := no (by omega)
          rw [z] at no ⊢
          exact inq (by decide) (inq (by decide) no)
      -- the reference
      have r53' := r_353 (w := w) (k := j2) (t := tv) (q := τf) e57 hne htv.1 h6 dtf
      rw [← hx2, s50e] at r53'
      have x64 : rs_aI s 64 (Int32.ofNat (τ / 8 - 1)) = some (Int32.ofNat f0) := (aI_at (i := τ / 8 - 1) (by decide) rfl (by omega) (by decide)).trans (by rw [rk_A rk (by decide), g1])
      obtain ⟨rr, hrr⟩ : ∃ rr : Int32, rr = if sw = true then (if bhN 3 (cpT τ) τf = 72 then -1 else rTp (bhN 3 (cpT τ) τf)) else rTp τf := ⟨_, rfl⟩
      have g51w : rs_aI (rs_wA s 53 n (Int32.ofNat i)) 51 (Int32.ofNat n) = some (s0.2.1 51 n) := (aI_at (i := n) (by decide) rfl hn (by decide)).trans (by show some ((rs_wA s 53 n (Int32.ofNat i)).2.1 51 n) = _; rw [wA_get, if_neg (fun z => by omega), s51])
      have r228 : s351_228 (rM w (j2 + 3)) w (Int32.ofNat n) (Int32.ofNat ne) (rd_01 sw) (Int32.ofNat (τ / 8 - 1)) (Int32.ofNat (cpT τ)) (Int32.ofNat (f0 + i)) (rTp τf) 1 s = some (some (.int rr), rzS (rs_wA s 53 n (Int32.ofNat i)) x4 (s0.2.1 51 n)) := by
        have z4 : x4 = 0 → rzS (rs_wA s 53 n (Int32.ofNat i)) x4 (s0.2.1 51 n) = rs_wA s 53 n (Int32.ofNat i) := fun z => by unfold rzS; rw [if_pos z]
        unfold s351_228
        refine itq (by decide) (bsq x64 (bsq (a := rs_wA s 53 n (Int32.ofNat i)) (by rw [of_dif f0 i (by omega)]; exact sI_at (i := n) (by decide) rfl hn (by decide)) ?_))
        cases hs : sw with
        | false =>
          rw [hs, if_neg (by decide)] at hrr
          rw [hs, if_neg (fun z => by cases z.1)] at hx4
          rw [z4 hx4, hrr]
          exact itq (by decide) rfl
        | true =>
          rw [hs, if_pos rfl] at hrr
          refine inq (by decide) (bsq (a := (rd_01 (isO τf), rs_wA s 53 n (Int32.ofNat i))) (by rw [r_333b, clR_T τf (gTy_lt vf.1) vf.1]; rfl) ?_)
          have o2 : isO τf = true ∨ isO τf = false := by cases isO τf <;> simp
          rcases o2 with o | o
          · obtain ⟨q1, q5⟩ := rm8 vf.1 o
            have br := bhR (q := 3) (Or.inl rfl) (cp5 (τ := τ)) (gTy_lt vf.1) dtf o
            rw [o]
            refine itq (show mx_f1 .ne (rd_01 true) = true by decide) (bsq (a := (lkV 3 (Int32.ofNat (cpT τ)) (Int32.ofNat (τf % 8)), rs_wA s 53 n (Int32.ofNat i))) (by rw [q1, r_292 (k := j2 + 1) cp5 q5]; rfl) ?_)
            dsimp only
            by_cases b7 : bhN 3 (cpT τ) τf = 72
            · rw [if_pos b7] at hrr
              rw [hs, if_pos ⟨rfl, b7⟩] at hx4
              have l1 := br.1.mp b7
              rw [if_neg (show ¬ mx_f2 .ne (lkV 3 (Int32.ofNat (cpT τ)) (Int32.ofNat (τf % 8))) (-1) = true by rw [l1]; decide)]
              have z5 : rzS (rs_wA s 53 n (Int32.ofNat i)) x4 (s0.2.1 51 n) = rfS (rs_wA s 53 n (Int32.ofNat i)) 6 (s0.2.1 51 n) := by
                unfold rzS
                rw [hx4, if_neg (by decide)]
              rw [z5, hrr]
              exact bsq g51w (bsq (a := (-1, rfS (rs_wA s 53 n (Int32.ofNat i)) 6 (s0.2.1 51 n))) (by rw [r_347 (k := j2 + 1) (s := rs_wA s 53 n (Int32.ofNat i)) e57]; rfl) rfl)
            · rw [if_neg b7] at hrr
              rw [if_neg (fun z => b7 z.2)] at hx4
              rw [if_pos (show mx_f2 .ne (lkV 3 (Int32.ofNat (cpT τ)) (Int32.ofNat (τf % 8))) (-1) = true by rw [f2_ne]; exact decide_eq_true (fun z => b7 (br.1.mpr z))), z4 hx4, hrr]
              unfold s351_323
              rw [br.2 b7]
              rfl
          · have b7 : ¬ bhN 3 (cpT τ) τf = 72 := by
              unfold bhN
              rw [o, if_neg (by decide)]
              have := gTy_lt vf.1
              omega
            rw [if_neg b7, show bhN 3 (cpT τ) τf = τf from by unfold bhN; rw [o]; rfl] at hrr
            rw [if_neg (fun z => b7 z.2)] at hx4
            rw [o, z4 hx4, hrr]
            exact inq (show ¬ mx_f1 .ne (rd_01 false) = true by decide) rfl
      have ref : ∀ R, (x1 ≠ 0 → some (some (.int (-1)), rfS s x1 (s0.2.1 51 n)) = R) → (x1 = 0 → x2 ≠ 0 → some (some (.int (-1)), rfS s x2 (s0.2.1 50 ne)) = R) → (x1 = 0 → x2 = 0 → x3 ≠ 0 → some (some (.int (-1)), rfS s x3 (s0.2.1 50 ne)) = R) → (x1 = 0 → x2 = 0 → x3 = 0 → some (some (.int rr), rzS (rs_wA s 53 n (Int32.ofNat i)) x4 (s0.2.1 51 n)) = R) → s351r (rM w (j2 + 3)) w (Int32.ofNat n) (Int32.ofNat ne) (rd_01 sw) (Int32.ofNat l) (rTp tv) (rTp τ) s = R := by
        intro R q1 q2 q3 q4
        unfold s351r
        refine bsq (a := (Int32.ofNat (τ / 8 - 1), s)) (by rw [r54]; rfl) (itq (kne _ (by omega)) (bsq (a := (Int32.ofNat (cpT τ), s)) (by rw [r55]; rfl) (bsq g56 (bsq (a := (Int32.ofNat (f0 + i), s)) (by rw [r56]; rfl) (itq (kne _ (by omega)) ?_)))))
        dsimp only
        have no : cpT τ = 3 ∨ cpT τ = 4 → s351_155 (rM w (j2 + 3)) w (Int32.ofNat n) s = R := by
          intro hc
          rw [if_pos hc] at hx1
          rw [← q1 (by rw [hx1]; decide), hx1]
          unfold s351_155
          exact bsq g51 (bsq (a := (-1, rfS s 6 (s0.2.1 51 n))) (by rw [r_347 (k := j2 + 1) e57]; rfl) rfl)
        have yes : ¬ (cpT τ = 3 ∨ cpT τ = 4) → ((rs_aI s 69 (Int32.ofNat (f0 + i))).bind fun x44 =>
          (rs_aI s 60 x44).bind fun x46 =>
          ((rM w (j2 + 3) 353 [.ref 36, .int (Int32.ofNat ne), .int (rTp tv), .int x46] s).bind rxI).bind fun x48 =>
          if mx_f1 .ne x48.1 = true then
            if mx_f2 .eq (rTp tv) 1 = true then
              s351_223 (rM w (j2 + 3)) w (Int32.ofNat n) (Int32.ofNat ne) (rd_01 sw) (Int32.ofNat (τ / 8 - 1)) (Int32.ofNat (cpT τ)) (Int32.ofNat (f0 + i)) x46 x48.2
            else
              ((rM w (j2 + 3) 331 [.int (rTp tv)] x48.2).bind rxI).bind fun x55 =>
              if mx_f1 .ne x55.1 = true then
                s351_223 (rM w (j2 + 3)) w (Int32.ofNat n) (Int32.ofNat ne) (rd_01 sw) (Int32.ofNat (τ / 8 - 1)) (Int32.ofNat (cpT τ)) (Int32.ofNat (f0 + i)) x46 x55.2
              else
                ((rM w (j2 + 3) 293 [.int (Int32.ofNat (cpT τ)), .int (rTp tv - rTp tv / 8 * 8)] x55.2).bind rxI).bind fun x61 =>
                if mx_f1 .eq x61.1 = true then
                  s351_228 (rM w (j2 + 3)) w (Int32.ofNat n) (Int32.ofNat ne) (rd_01 sw) (Int32.ofNat (τ / 8 - 1)) (Int32.ofNat (cpT τ)) (Int32.ofNat (f0 + i)) x46 0 x61.2
                else
                  s351_223 (rM w (j2 + 3)) w (Int32.ofNat n) (Int32.ofNat ne) (rd_01 sw) (Int32.ofNat (τ / 8 - 1)) (Int32.ofNat (cpT τ)) (Int32.ofNat (f0 + i)) x46 x61.2
          else
            rrI (some .int) (-1) x48.2) = R := by
          intro hc
          rw [if_neg hc] at hx1
          have n3 : cpT τ ≠ 3 := fun z => hc (Or.inl z)
          have n4 : cpT τ ≠ 4 := fun z => hc (Or.inr z)
          refine bsq r69 (bsq r60 (bsq (a := (if x2 = 0 then 1 else 0, rzS s x2 (s0.2.1 50 ne))) (by rw [r53']; rfl) ?_))
          dsimp only
          by_cases c2 : x2 = 0
          · have hz2 : rzS s x2 (s0.2.1 50 ne) = s := by unfold rzS; rw [if_pos c2]
            rw [if_pos c2, if_pos (by decide), hz2]
            have good : x3 = 0 → s351_223 (rM w (j2 + 3)) w (Int32.ofNat n) (Int32.ofNat ne) (rd_01 sw) (Int32.ofNat (τ / 8 - 1)) (Int32.ofNat (cpT τ)) (Int32.ofNat (f0 + i)) (rTp τf) s = R := by
              intro h3
              rw [← q4 hx1 c2 h3, ← r228]
              rfl
            obtain ⟨y1, y2, y3⟩ := rTp_1 tv (gTy_lt htv.1) htv.1
            by_cases t2 : tv = 2
            · rw [if_pos (show mx_f2 .eq (rTp tv) 1 = true from decide_eq_true (y3.mpr t2))]
              refine good ?_
              rw [hx3, if_neg (fun z => by have := z.1; rw [t2] at this; exact absurd this (by decide))]
            · rw [if_neg (show ¬ mx_f2 .eq (rTp tv) 1 = true from fun z => t2 (y3.mp (of_decide_eq_true z))), r_331 (k := j2 + 1)]
              have sd := sd_T tv (gTy_lt htv.1) htv.1
              by_cases cs : tv = 1 ∨ (8 ≤ tv ∧ (5 ≤ tv % 8 ∨ tv % 8 = 0 ∨ tv % 8 = 3))
              · rw [if_pos (sd.mpr cs)]
                refine bsq (a := (1, s)) rfl (itq (show mx_f1 .ne (1 : Int32) = true by decide) (good ?_))
                rw [hx3, if_neg ?_]
                rintro ⟨z1, z2⟩
                have l2 := lk_sd (cpT τ) cp5 n3 n4
                obtain ⟨_, o5⟩ := rm8 htv.1 z1
                have o8 : 8 ≤ tv := by
                  unfold isO at z1
                  simp at z1
                  exact z1.1
                rcases cs with c | ⟨_, c | c | c⟩
                · omega
                · omega
                · rw [c] at z2
                  exact z2 l2.1
                · rw [c] at z2
                  exact z2 l2.2
              · rw [if_neg (fun z => cs (sd.mp z))]
                have o : isO tv = true := by
                  rcases sdw_T tv (gTy_lt htv.1) htv.1 h6 ht0 with c | c | c | c
                  · exact c.1
                  · exact absurd c t2
                  · exact absurd (Or.inl c) cs
                  · exact absurd (Or.inr c) cs
                obtain ⟨o1, o5⟩ := rm8 htv.1 o
                refine bsq (a := (0, s)) rfl (inq (show ¬ mx_f1 .ne (0 : Int32) = true by decide) (bsq (a := (lkV 2 (Int32.ofNat (cpT τ)) (Int32.ofNat (tv % 8)), s)) (by rw [o1, r_293 (k := j2 + 1) cp5 o5]; rfl) ?_))
                dsimp only
                rcases lk_02 (cpT τ) cp5 (tv % 8) o5 with l0 | l1
                · rw [if_pos ⟨o, by rw [l0]; decide⟩] at hx3
                  rw [if_pos (show mx_f1 .eq (lkV 2 (Int32.ofNat (cpT τ)) (Int32.ofNat (tv % 8))) = true from decide_eq_true l0), ← q3 hx1 c2 (by rw [hx3]; decide), hx3]
                  unfold s351_228
                  exact inq (by decide) (bsq g50e (bsq (a := (-1, rfS s 6 (s0.2.1 50 ne))) (by rw [r_347 (k := j2 + 1) e57]; rfl) rfl))
                · rw [if_neg (show ¬ mx_f1 .eq (lkV 2 (Int32.ofNat (cpT τ)) (Int32.ofNat (tv % 8))) = true by rw [l1]; decide)]
                  refine good ?_
                  rw [hx3, if_neg (fun z => z.2 l1)]
          · have hz2 : rzS s x2 (s0.2.1 50 ne) = rfS s x2 (s0.2.1 50 ne) := by unfold rzS; rw [if_neg c2]
            rw [if_neg c2, if_neg (by decide), hz2]
            exact q2 hx1 c2
        have c5 := cp5 (τ := τ)
        have : cpT τ = 0 ∨ cpT τ = 1 ∨ cpT τ = 2 ∨ cpT τ = 3 ∨ cpT τ = 4 := by omega
        rcases this with z | z | z | z | z
        · have yes := yes (by omega)
          rw [z] at yes ⊢
          exact inq (by decide) (itq (by decide) yes)
        · have yes := yes (by omega)
          rw [z] at yes ⊢
          exact inq (by decide) (itq (by decide) yes)
        · have yes := yes (by omega)
          rw [z] at yes ⊢
          exact inq (by decide) (itq (by decide) yes)
        · have no := no (by omega)
          rw [z]
          exact itq (by decide) no
        · have no := no (by omega)
          rw [z]
          exact inq (by decide) (inq (by decide) no)
      -- the end
      have E1 := CK_rg e a2 a3 p1
      have E2 := CK_rg E1 b2 b3 p2
      have E3 := CK_rg E2 c2 c3 p3
      have E4 := CK_e0 E3 m2 m3 m6
      have E5 := CK_w5 E4 n (Int32.ofNat i)
      have E6 := CK_rg E5 d2 d3 p4
      by_cases ok : x1 = 0 ∧ x2 = 0 ∧ x3 = 0
      · obtain ⟨z1, z2, z3⟩ := ok
        have hS' : (if (fa (fa (fa 0 x1) x2) x3) = 0 then rzS (if (fa (fa (fa 0 x1) x2) x3) = 0 then rs_wA (if fa (fa 0 x1) x2 = 0 then rzS (if fa 0 x1 = 0 then rzS (if (0 : Int32) = 0 then rzS s x1 (s0.2.1 51 n) else s) x2 (s0.2.1 50 ne) else (if (0 : Int32) = 0 then rzS s x1 (s0.2.1 51 n) else s)) x3 (s0.2.1 50 ne) else (if fa 0 x1 = 0 then rzS (if (0 : Int32) = 0 then rzS s x1 (s0.2.1 51 n) else s) x2 (s0.2.1 50 ne) else (if (0 : Int32) = 0 then rzS s x1 (s0.2.1 51 n) else s))) 53 n (Int32.ofNat i) else (if fa (fa 0 x1) x2 = 0 then rzS (if fa 0 x1 = 0 then rzS (if (0 : Int32) = 0 then rzS s x1 (s0.2.1 51 n) else s) x2 (s0.2.1 50 ne) else (if (0 : Int32) = 0 then rzS s x1 (s0.2.1 51 n) else s)) x3 (s0.2.1 50 ne) else (if fa 0 x1 = 0 then rzS (if (0 : Int32) = 0 then rzS s x1 (s0.2.1 51 n) else s) x2 (s0.2.1 50 ne) else (if (0 : Int32) = 0 then rzS s x1 (s0.2.1 51 n) else s)))) x4 (s0.2.1 51 n) else (if (fa (fa (fa 0 x1) x2) x3) = 0 then rs_wA (if fa (fa 0 x1) x2 = 0 then rzS (if fa 0 x1 = 0 then rzS (if (0 : Int32) = 0 then rzS s x1 (s0.2.1 51 n) else s) x2 (s0.2.1 50 ne) else (if (0 : Int32) = 0 then rzS s x1 (s0.2.1 51 n) else s)) x3 (s0.2.1 50 ne) else (if fa 0 x1 = 0 then rzS (if (0 : Int32) = 0 then rzS s x1 (s0.2.1 51 n) else s) x2 (s0.2.1 50 ne) else (if (0 : Int32) = 0 then rzS s x1 (s0.2.1 51 n) else s))) 53 n (Int32.ofNat i) else (if fa (fa 0 x1) x2 = 0 then rzS (if fa 0 x1 = 0 then rzS (if (0 : Int32) = 0 then rzS s x1 (s0.2.1 51 n) else s) x2 (s0.2.1 50 ne) else (if (0 : Int32) = 0 then rzS s x1 (s0.2.1 51 n) else s)) x3 (s0.2.1 50 ne) else (if fa 0 x1 = 0 then rzS (if (0 : Int32) = 0 then rzS s x1 (s0.2.1 51 n) else s) x2 (s0.2.1 50 ne) else (if (0 : Int32) = 0 then rzS s x1 (s0.2.1 51 n) else s))))) = rzS (rs_wA s 53 n (Int32.ofNat i)) x4 (s0.2.1 51 n) := by
          have r0 : ∀ (s : rS) (y : Int32), rzS s 0 y = s := fun s y => by unfold rzS; rw [if_pos rfl]
          rw [z1, z2, z3, fa_0, fa_0, fa_0]
          simp only [if_true, r0]
        rw [hS'] at E6
        have rA : r53 lo hi s (rzS (rs_wA s 53 n (Int32.ofNat i)) x4 (s0.2.1 51 n)) := by
          refine r53_trans (s1 := rs_wA s 53 n (Int32.ofNat i)) ?_ rzS_r
          intro j' hj
          have ne' : j' ≠ n := fun z => hj ⟨by omega, by omega⟩
          rw [wA_get, if_neg (fun z => ne' z.2), wA_get, if_neg (fun z => by omega)]
          exact ⟨rfl, rfl⟩
        refine ⟨tr, rr, h5, _, cls, ref _ (fun y => absurd z1 y) (fun _ y => absurd z2 y) (fun _ _ y => absurd z3 y) (fun _ _ _ => rfl), gn, _, _, u4, A4, B4, E6, W4, K4, m6, by omega, rA, fun hz0 => ⟨m8, fun _ _ _ _ _ q => q, rfl, m5, τ / 8 - 1, f0, f0 + i, τf, ⟨ah.1, ah.2, rfl⟩, fdt, ?_, ?_, by rw [← hx2]; exact z2, ?_, ?_, m7.1, ?_, ?_⟩⟩
        · intro z
          rw [if_pos (Or.inl z)] at hx1
          rw [hx1] at z1
          exact absurd z1 (by decide)
        · intro z
          rw [if_pos (Or.inr z)] at hx1
          rw [hx1] at z1
          exact absurd z1 (by decide)
        · intro o
          refine Decidable.byContradiction (fun l1 => ?_)
          rw [if_pos ⟨o, l1⟩] at hx3
          rw [hx3] at z3
          exact absurd z3 (by decide)
        · intro hs
          have z4 : x4 = 0 := by
            rw [z1, z2, z3, fa_0, fa_0, fa_0] at hz0
            exact hz0
          have b7 : ¬ bhN 3 (cpT τ) τf = 72 := fun z => by
            rw [if_pos ⟨hs, z⟩] at hx4
            rw [hx4] at z4
            exact absurd z4 (by decide)
          rw [if_neg b7] at htr
          rw [if_pos hs, if_neg b7] at hrr
          refine ⟨bhN 3 (cpT τ) τf, vT_bh (Or.inl rfl) (cp5 (τ := τ)) dtf vf b7, (bhD (Or.inl rfl) (cp5 (τ := τ)) (gTy_lt vf.1) dtf b7).1, htr, hrr, bhN_T (Or.inl rfl) cp5 ?_ b7⟩
          by_cases o : isO τf = true
          · exact Or.inl (rm8 vf.1 o).2
          · refine Or.inr ?_
            cases hh : isO τf
            · rfl
            · exact absurd hh o
        · rw [m7.2, slB_o hτ.1, show f0 + i - f0 = i from by omega]
        · rw [show f0 + i - f0 = i from by omega, rzS_53, wA_get, if_pos ⟨rfl, rfl⟩]
      · have nz : fa (fa (fa 0 x1) x2) x3 ≠ 0 := by
          intro z
          by_cases c1 : x1 = 0
          · subst c1
            rw [fa_0] at z
            by_cases c2 : x2 = 0
            · subst c2
              rw [fa_0] at z
              exact ok ⟨rfl, rfl, z⟩
            · have : fa 0 x2 = x2 := rfl
              rw [this, fa_n c2] at z
              exact c2 z
          · have : fa 0 x1 = x1 := rfl
            rw [this, fa_n c1, fa_n c1] at z
            exact c1 z
        have E6' := CK_fk E4 nz (by rw [fa_n nz, fb_n nz] at d2; exact d2) d3 rfl
        refine ⟨tr, -1, h5, _, cls, ref _ (fun y => ?_) (fun y1 y2 => ?_) (fun y1 y2 y3 => ?_) (fun y1 y2 y3 => absurd ⟨y1, y2, y3⟩ ok), gn, _, _, u4, A4, B4, E6', W4, K4, m6, by omega, ?_, fun z => absurd z nz⟩
        · have f1 : fa 0 x1 = x1 := rfl
          rw [f1, fa_n y, if_neg y, if_neg y, if_pos rfl]
          unfold rzS
          rw [if_neg y]
        · have r0 : ∀ (s : rS) (y : Int32), rzS s 0 y = s := fun s y => by unfold rzS; rw [if_pos rfl]
          have f1 : fa 0 x2 = x2 := rfl
          rw [y1, fa_0, f1, if_neg y2, if_pos rfl, if_pos rfl, r0]
          unfold rzS
          rw [if_neg y2]
        · have r0 : ∀ (s : rS) (y : Int32), rzS s 0 y = s := fun s y => by unfold rzS; rw [if_pos rfl]
          rw [y1, y2, fa_0, fa_0, if_pos rfl, if_pos rfl, if_pos rfl, r0, r0]
          unfold rzS
          rw [if_neg y3]
        · have rz : ∀ (P : Prop) [Decidable P] (s' s1 : rS), r53 lo hi s s' → r53 lo hi s s1 → r53 lo hi s (if P then s' else s1) := fun P _ s' s1 h1 h2 => by
            split
            · exact h1
            · exact h2
          have t1 : r53 lo hi s (if (0 : Int32) = 0 then rzS s x1 (s0.2.1 51 n) else s) := rz _ _ _ rzS_r r53_refl
          have t2 : r53 lo hi s (if fa 0 x1 = 0 then rzS (if (0 : Int32) = 0 then rzS s x1 (s0.2.1 51 n) else s) x2 (s0.2.1 50 ne) else (if (0 : Int32) = 0 then rzS s x1 (s0.2.1 51 n) else s)) := rz _ _ _ (r53_trans t1 rzS_r) t1
          exact rz _ _ _ (r53_trans t2 rzS_r) t2
    · -- no such field
      obtain ⟨h1, v1, v2, v3, v4⟩ := ck_refA (pl := Pl) (ph := Ph) (zf := zf) (w := w) (k := j + 4) kh 3 (s0.2.1 51 n)
      refine ⟨2, -1, h1, _, ?_, ?_, ft 3 (s0.2.1 51 n) h1 (by decide) v2 v3 v4⟩
      · have c92 : (dcV L xs (dM L xs zf w (j + 6)) 192 [13] (some C) [va_rf (some p), .int (cT τ)] h).bind dxR = some (none, h1) := by
          rw [ck_v kh, e192]
          show (b192_0 L xs zf (dM L xs zf w (j + 5)) w (some C) (some p) (cT τ) h).bind dxR = _
          refine bsq (a := (some (va_rf none), h1)) ?_ rfl
          unfold b192_0
          exact bsq (fd_R (o := some px) e6h (by decide)) (bsq c93 (inq (dnl_s K) (bsq (fd_R (o := some q) e2h (by decide)) (bsq c95 (itq rfl (bsq (fd_I e3h (by decide)) (bsq v1 rfl)))))))
        unfold b191r
        exact bsq c92 (itq rfl rfl)
      · unfold s351r
        exact bsq (a := (Int32.ofNat (τ / 8 - 1), s)) (by rw [r54]; rfl) (itq (kne _ (by omega)) (bsq (a := (Int32.ofNat (cpT τ), s)) (by rw [r55]; rfl) (bsq g56 (bsq (a := (-1, s)) (by rw [r56]; rfl) (inq (show ¬ mx_f2 .ne (-1 : Int32) (-1) = true by decide) (bsq g51 (bsq (a := (-1, rfS s 3 (s0.2.1 51 n))) (by rw [r_347 (k := j2 + 1) e57]; rfl) rfl)))))))
  · rw [if_neg (fun z => ah (so.1.mp z))] at c93
    rw [if_neg ah] at r54
    have px5 : 0 < (owX (cT τ)).toInt := by
      unfold owX
      split <;> decide
    obtain ⟨h1, v1, v2, v3, v4⟩ := ck_refA (pl := Pl) (ph := Ph) (zf := zf) (w := w) (k := j + 3) kh (owX (cT τ)) (s0.2.1 50 l) (ps_ne (by unfold owX; split <;> decide))
    have v1 : (dcV L xs (dM L xs zf w (j + 4)) 178 [13] (some C) [.int (owX (cT τ)), .int (s0.2.1 50 l)] h).bind dxV = some h1 := v1
    rw [v1, Option.bind_some] at c93
    refine ⟨2, -1, h1, _, ?_, ?_, ft (owX (cT τ)) (s0.2.1 50 l) h1 px5 v2 v3 v4⟩
    · have c92 : (dcV L xs (dM L xs zf w (j + 6)) 192 [13] (some C) [va_rf (some p), .int (cT τ)] h).bind dxR = some (none, h1) := by
        rw [ck_v kh, e192]
        show (b192_0 L xs zf (dM L xs zf w (j + 5)) w (some C) (some p) (cT τ) h).bind dxR = _
        refine bsq (a := (some (va_rf none), h1)) ?_ rfl
        unfold b192_0
        exact bsq (fd_R (o := some px) e6h (by decide)) (bsq c93 (itq rfl rfl))
      unfold b191r
      exact bsq c92 (itq rfl rfl)
    · unfold s351r
      exact bsq (a := (-1, rfS s (owX (cT τ)) (s0.2.1 50 l))) (by rw [r54]; rfl) (inq (show ¬ mx_f2 .ne (-1 : Int32) (-1) = true by decide) rfl)
end JPF
