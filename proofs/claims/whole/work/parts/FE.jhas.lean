/-! BOTH CHECK: has. -/
def hsX (t : Int32) : Int32 := if c_so t = 0 then 8 else if c_so t = 1 then 5 else 0
theorem hs_T : ∀ t, t < 72 → gTy t = true → hsX (cT t) = if t = 0 then 8 else if t = 1 then 5 else 0 := by decide +kernel
theorem hsX_p (t : Int32) : hsX t = 0 ∨ 0 < (hsX t).toInt := by
  unfold hsX
  split
  · exact Or.inr (by decide)
  · split
    · exact Or.inr (by decide)
    · exact Or.inl rfl
section JHS
variable {L : Nat} {xs : Nat → Int32} {zf : Value} {w C Sc M Pl Ph LO HI nk m lv n p q i d lo hi k k2 z W ke kr : Nat} {cx : Nat → Nat} {hB h h1 h2 : rm_H} {s0 s s1 s2 : rS} {pt vr gn gn1 a b a1 b1 x y rc t v : Int32} {mv : Value} {ds kl ml : List Nat} {G : List scN} {u u1 u2 : Nat → Nat} {A B A1 B1 : Nat → Int32} {c : Int64} {X : scN}
theorem FV_sub {lo' hi' : Nat} (e : FV s0 G gn lo hi) (h1 : lo ≤ lo') (h2 : hi' ≤ hi) : FV s0 G gn lo' hi' := fun j j1 j2 j3 => e j (by omega) (by omega) j3
/-- behind a fault the reference changes flags -/
theorem CK_fs (e : CKJ L xs cx C Sc M pt vr mv hB s0 nk m h s ds G lv gn a b u A B) (ha : a ≠ 0) (l : rL s s1) : CKJ L xs cx C Sc M pt vr mv hB s0 nk m h s1 ds G lv gn a b u A B := by
  obtain ⟨e1, e2, e3, e4, e5, e6, e7, e8⟩ := e
  exact ⟨e1, e2, e3, rK_trans e4 (rL_K l), (l.1 57 (by decide) (by decide) (by decide) (by decide)).trans e5, fun z => ⟨(l.1 58 (by decide) (by decide) (by decide) (by decide)).trans (e6 z).1, (e6 z).2⟩, fun z => absurd z ha, e8⟩
/-- the flags of what is no place -/
def fl0 (s : rS) : rS := rs_w (rs_w s 60 0) 61 0
theorem fl0_L : rL s (fl0 s) := rL_trans (rL_w (by omega)) (rL_w (by omega))
theorem fl0_60 : (fl0 s).1 60 = 0 := by unfold fl0; rw [w_ne _ _ (by decide), w_eq]
theorem fl0_61 : (fl0 s).1 61 = 0 := by unfold fl0; rw [w_eq]
theorem fl0_64 : (fl0 s).1 64 = s.1 64 := by unfold fl0; rw [w_ne _ _ (by decide), w_ne _ _ (by decide)]
theorem fl0_r : r53 lo hi s (fl0 s) := fun i _ => ⟨rfl, rfl⟩
/-- a fault or none, flags, and an instruction behind it: by both -/
theorem jx_end (e : CKJ L xs cx C Sc M pt vr mv hB s0 nk m h s ds G lv gn 0 b u A B) (kh : KH L xs cx C Sc M pt vr mv h1 ds (gN G) (gSl G) (gTp G) gn (if lv = 0 then 0 else 1) (fa 0 x) (fb 0 b x y) u A B) (wf : wF cx C Sc Pl Ph u h h1) (kh2 : KH L xs cx C Sc M pt vr mv h2 ds (gN G) (gSl G) (gTp G) gn (if lv = 0 then 0 else 1) (fa 0 x) (fb 0 b x y) u1 A1 B1) (wf2 : wF cx C Sc Pl Ph u h1 h2) (u0 : u1 0 = u 0) (hp : x = 0 ∨ 0 < x.toInt) : CKJ L xs cx C Sc M pt vr mv hB s0 nk m h2 (fl0 (rzS s x y)) ds G lv gn (fa 0 x) (fb 0 b x y) u1 A1 B1 := by
  have e1 := CK_rz (Pl := Pl) (Ph := Ph) e kh wf hp
  have f0 : fa 0 x = x := if_pos rfl
  rw [f0] at e1 kh kh2 ⊢
  by_cases hx : x = 0
  · subst hx
    exact CK_up e1 kh2 wf2 u0 fl0_L (by rw [fl0_64]; exact (e1.2.2.2.2.2.2.1 rfl).2.2.1)
  · exact CK_fs (CK_fk e1 hx kh2 wf2 u0) hx fl0_L
theorem j_6 {pr l lo' hi' W' : Nat} (IH : JX L xs zf w cx C Sc M pt vr mv hB s0 nk m Pl Ph LO HI z 172 339 pr l lo' hi' ke kr) (e0 : fd hB 12 p 0 = some (.int 6)) (e8 : fd hB 12 p 8 = some (.ref pr)) (e1 : fd hB 12 pr 1 = some (.int (s0.2.1 50 l))) (r44 : s0.2.1 44 n = 6) (r45 : s0.2.1 45 n = Int32.ofNat l) (hl : 1 ≤ l ∧ l < 4400) (hn : n < 4400) (hk : 3 ≤ ke) (hk2 : 2 ≤ kr) (h1 : lo ≤ lo') (h2 : hi' ≤ hi) (h3 : hi' - lo' < hi - lo) : JX L xs zf w cx C Sc M pt vr mv hB s0 nk m Pl Ph LO HI z 174 343 p n lo hi (ke + 2) (kr + 1) := by
  intro j j2 h s ds G lv gn b u A B e hl' fv p53 hz
  obtain ⟨t, r, h1', s1, q1, q2, gn', a', b', u', A', B', o1, o2, o3, o4, o5, o6, o7⟩ := IH j j2 h s ds G lv gn b u A B e hl' (FV_sub fv h1 h2) (fun i i1 i2 => p53 i (by omega) (by omega)) (by omega)
  obtain ⟨kh, dl, bh, rk, e57, _, rg, gw⟩ := id e
  obtain ⟨kh1, dl1, bh1, rk1, e571, e581, rg1, gw1⟩ := id o1
  obtain ⟨k1, hk1⟩ : ∃ k1, ke + j = k1 + 3 := ⟨ke + j - 3, by omega⟩
  obtain ⟨k3, hk3⟩ : ∃ k1, kr + j2 = k1 + 2 := ⟨kr + j2 - 2, by omega⟩
  rw [hk1] at q1
  rw [hk3] at q2
  rw [show ke + 2 + j = k1 + 4 + 1 from by omega, show kr + 1 + j2 = k3 + 2 + 1 from by omega]
  obtain ⟨h2', f1, f2, f3, f4⟩ := ck_rfz (pl := Pl) (ph := Ph) (zf := zf) (w := w) (k := k1 + 2) kh1 (hsX t) (s0.2.1 50 l)
  obtain ⟨h3', u3, A3, B3, m1, m2, m3, m4, m5, m6, m7, m8⟩ := ck_emit (pl := Pl) (ph := Ph) (zf := zf) (w := w) (k := k1) f2 (by omega) 8 0
  have g0 := fd_I (L := L) (xs := xs) (cis := [12]) (bh.1.1 _ _ _ (by decide) e0) (by decide)
  have g8 := fd_R (L := L) (xs := xs) (o := some pr) (cis := [12]) (bh.1.1 _ _ _ (by decide) e8) (by decide)
  have g81 := fd_R (L := L) (xs := xs) (o := some pr) (cis := [12]) (bh1.1.1 _ _ _ (by decide) e8) (by decide)
  have g1 := fd_I (L := L) (xs := xs) (cis := [12]) (bh1.1.1 _ _ _ (by decide) e1) (by decide)
  have f48 : b185_48 L xs zf (dM L xs zf w (k1 + 3)) w (some C) h2' = some (some (.int 1), h3') := by
    unfold b185_48
    exact bsq (ck_0 f2) (bsq m1 rfl)
  have f38 : ∀ x : Int32, hsX t = x → x ≠ 0 → b185_38 L xs zf (dM L xs zf w (k1 + 3)) w (some C) (some p) x (some C) h1' = some (some (.int 1), h3') := by
    intro x hx hx0
    rw [hx] at f1
    unfold rfz at f1
    rw [if_neg hx0] at f1
    unfold b185_38
    exact bsq g81 (bsq g1 (bsq f1 f48))
  have cls : (dcV L xs (dM L xs zf w (k1 + 4 + 1)) 174 [13] (some C) [va_rf (some p)] h).bind dxI = some (1, h3') := by
    rw [ck_v kh, e174]
    show (b174_0 L xs zf (dM L xs zf w (k1 + 4)) w (some C) (some p) h).bind dxI = _
    refine bsq (a := (some (.int 1), h3')) ?_ rfl
    unfold b174_0
    refine bsq g0 (inq (by decide) (inq (by decide) (inq (by decide) (inq (by decide) (inq (by decide) (inq (by decide) (itq (by decide) (bsq (a := (1, h3')) ?_ rfl))))))))
    rw [ck_v kh, e185]
    show (b185_0 L xs zf (dM L xs zf w (k1 + 3)) w (some C) (some p) h).bind dxI = _
    refine bsq (a := (some (.int 1), h3')) ?_ rfl
    have f24 : b185_24 L xs zf (dM L xs zf w (k1 + 3)) w (some C) (some p) t h1' = b185_38 L xs zf (dM L xs zf w (k1 + 3)) w (some C) (some p) (if c_so t = 0 then 8 else 5) (some C) h1' := by
      unfold b185_24
      rw [t_so (k := k1 + 2) t h1', Option.bind_some]
      dsimp only
      by_cases c0 : c_so t = 0
      · rw [if_neg (show ¬ mx_f1 .ne (c_so t) = true by rw [f1_ne, c0]; decide), if_pos c0]
      · rw [if_pos (show mx_f1 .ne (c_so t) = true by rw [f1_ne]; exact decide_eq_true c0), if_neg c0]
    unfold b185_0
    refine bsq g8 (bsq q1 (bsq (t_so (k := k1 + 2) t h1') ?_))
    dsimp only
    by_cases c0 : c_so t = 0
    · rw [if_pos (show mx_f1 .eq (c_so t) = true from decide_eq_true c0), f24, if_pos c0]
      exact f38 8 (if_pos c0) (by decide)
    · rw [if_neg (show ¬ mx_f1 .eq (c_so t) = true from fun z => c0 (of_decide_eq_true z)), t_so (k := k1 + 2) t h1', Option.bind_some]
      dsimp only
      by_cases c1 : c_so t = 1
      · rw [if_neg (show ¬ mx_f2 .ne (c_so t) 1 = true by rw [f2_ne, c1]; decide), f24, if_neg c0]
        exact f38 5 (by unfold hsX; rw [if_neg c0, if_pos c1]) (by decide)
      · rw [if_pos (show mx_f2 .ne (c_so t) 1 = true by rw [f2_ne]; exact decide_eq_true c1)]
        have hx : hsX t = 0 := by unfold hsX; rw [if_neg c0, if_neg c1]
        rw [hx] at f1
        have : h1' = h2' := Option.some.inj f1
        rw [this]
        exact f48
  have a45 : ∀ s', rK s0 s' → rs_aI s' 45 (Int32.ofNat n) = some (Int32.ofNat l) := fun s' r' => (aI_at (i := n) (by decide) rfl hn (by decide)).trans (by rw [rk_A r' (by decide), r45])
  have s50 : s1.2.1 50 l = s0.2.1 50 l := rk_A rk1 (by decide) l
  have rhead : ∀ R, (((rM w (k3 + 2) 350 [.ref 36, .int (Int32.ofNat l), .int r] s1).bind rxI).bind fun x49 => if mx_f1 .eq x49.1 = true then s343_129 (rM w (k3 + 2)) w x49.2 else if mx_f1 .ne r = true then s343_129 (rM w (k3 + 2)) w x49.2 else (rs_aI x49.2 45 (Int32.ofNat n)).bind fun x56 => (rs_aI x49.2 50 x56).bind fun x58 => ((rM w (k3 + 2) 305 [.ref 36, .int 5, .int x58] x49.2).bind rxV).bind fun s60 => s343_129 (rM w (k3 + 2)) w s60) = R → rM w (k3 + 2 + 1) 343 [.ref 36, .int (Int32.ofNat n)] s = R := by
    intro R hR
    rw [y343]
    show s343_0 (rM w (k3 + 2)) w (Int32.ofNat n) s = _
    unfold s343_0
    exact bsq (a := (6 : Int32)) ((aI_at (i := n) (by decide) rfl hn (by decide)).trans (by rw [rk_A rk (by decide), r44])) (inq (by decide) (inq (by decide) (inq (by decide) (inq (by decide) (inq (by decide) (inq (by decide) (itq rfl (bsq (a45 s rk) (bsq (a := (r, s1)) (by rw [q2]; rfl) (bsq (a45 s1 rk1) hR))))))))))
  have f129 : ∀ s', s343_129 (rM w (k3 + 2)) w s' = some (some (.int 0), fl0 s') := by
    intro s'
    unfold s343_129
    exact bsq (a := (0, fl0 s')) (by rw [r_344]; rfl) rfl
  by_cases ha : a' = 0
  · subst ha
    obtain ⟨p1, p2, τ, p3, p4, p5, p6, p7, p8⟩ := o7 rfl
    subst p4
    subst p5
    obtain ⟨z1, z2, _⟩ := rTp_1 τ (gTy_lt p3.1) p3.1
    have hx := hs_T τ (gTy_lt p3.1) p3.1
    have r5 := r_350 (w := w) (k := k3) e571 hl.2 (rTp τ)
    have ref : rM w (k3 + 2 + 1) 343 [.ref 36, .int (Int32.ofNat n)] s = some (some (.int 0), fl0 (rzS s1 (hsX (cT τ)) (s0.2.1 50 l))) := by
      refine rhead _ ?_
      by_cases c0 : τ = 0
      · rw [if_pos (z1.mpr c0), if_pos (z1.mpr c0), s50] at r5
        rw [hx, if_pos c0]
        exact bsq (a := (0, rfS s1 8 (s0.2.1 50 l))) (by rw [r5]; rfl) (itq (show mx_f1 .eq (0 : Int32) = true by decide) (f129 _))
      · rw [if_neg (fun z => c0 (z1.mp z)), if_neg (fun z => c0 (z1.mp z))] at r5
        refine bsq (a := (1, s1)) (by rw [r5]; rfl) (inq (show ¬ mx_f1 .eq (1 : Int32) = true by decide) ?_)
        by_cases c1 : τ = 1
        · rw [if_neg (show ¬ mx_f1 .ne (rTp τ) = true by rw [f1_ne, z2.mpr c1]; decide), hx, if_neg c0, if_pos c1]
          exact bsq (a45 s1 rk1) (bsq (a := s0.2.1 50 l) ((aI_at (i := l) (by decide) rfl hl.2 (by decide)).trans (by rw [s50])) (bsq (a := rfS s1 5 (s0.2.1 50 l)) (by rw [r_305 e571]; rfl) (f129 _)))
        · rw [if_pos (show mx_f1 .ne (rTp τ) = true by rw [f1_ne]; exact decide_eq_true (fun z => c1 (z2.mp z))), hx, if_neg c0, if_neg c1]
          exact f129 _
    refine ⟨1, 0, h3', _, cls, ref, gn', fa 0 (hsX (cT τ)), fb 0 b' (hsX (cT τ)) (s0.2.1 50 l), u3, A3, B3, jx_end o1 f2 f3 m2 m3 m6 (hsX_p _), wF_trans (wF_trans o2 o3 f3) (wK2_trans o3 f4 o2.1.1) m3, wK2_trans (wK2_trans o3 f4 o2.1.1) m4 (wF_trans o2 o3 f3).1.1, by omega, by omega, r53_trans (r53_trans (r53_mono o6 h1 h2) rzS_r) fl0_r, fun hz0 => ?_⟩
    have x0 : hsX (cT τ) = 0 := hz0
    rw [x0] at hx
    have t2 : 2 ≤ τ := by
      by_cases c0 : τ = 0
      · rw [if_pos c0] at hx; exact absurd hx (by decide)
      · by_cases c1 : τ = 1
        · rw [if_neg c0, if_pos c1] at hx; exact absurd hx (by decide)
        · omega
    refine ⟨fun i i1 => ?_, fun lo2 hi2 d1 d2 d3 d4 => p2 lo2 hi2 (by omega) d2 d3 d4, 1, vT_1, rfl, rfl, fl0_61, ?_, fun SL AA BB s1' s2' => ?_⟩
    · have := o3.2.2.2.2.1
      exact ⟨(m8 i (by omega)).1.trans (p1 i i1).1, (m8 i (by omega)).2.trans (p1 i i1).2⟩
    · rw [r44]
      exact pf_0 fl0_60 (by decide)
    · have ul := o3.2.2.2.2.1
      obtain ⟨f, hf⟩ : ∃ f, hi - lo = f + 1 := ⟨hi - lo - 1, by omega⟩
      rw [hf, m5]
      refine Or.inr ⟨6, r44, by omega, l, τ, u' 2, r45, hl.1, hl.2, TU_e (p8 SL AA BB (fun i i1 i2 => (s1' i (by omega) (by omega)).trans ?_) (fun i i1 i2 => ?_)) (by omega), t2, rfl, rfl, ?_, ?_⟩
      · show (rzS s1 (hsX (cT τ)) (s0.2.1 50 l)).2.1 53 i = _
        exact rzS_53 i
      · obtain ⟨y1, y2⟩ := s2' i i1 (by omega)
        exact ⟨y1.trans (m8 i i2).1, y2.trans (m8 i i2).2⟩
      · rw [(s2' (u' 2) (by omega) (by omega)).1, m7.1]
      · rw [(s2' (u' 2) (by omega) (by omega)).2, m7.2]
  · rw [fa_n ha, fb_n ha] at f2 m2
    have ref : rM w (k3 + 2 + 1) 343 [.ref 36, .int (Int32.ofNat n)] s = some (some (.int 0), fl0 s1) := by
      refine rhead _ (bsq (a := (0, s1)) (by rw [r_350f (by rw [e571]; exact ha)]; rfl) (itq (show mx_f1 .eq (0 : Int32) = true by decide) (f129 _)))
    exact ⟨1, 0, h3', _, cls, ref, gn', a', b', u3, A3, B3, CK_fs (CK_fk (CK_fk o1 ha f2 f3 rfl) ha m2 m3 m6) ha fl0_L, wF_trans (wF_trans o2 o3 f3) (wK2_trans o3 f4 o2.1.1) m3, wK2_trans (wK2_trans o3 f4 o2.1.1) m4 (wF_trans o2 o3 f3).1.1, by omega, by omega, r53_trans (r53_mono o6 h1 h2) fl0_r, fun z => absurd z ha⟩
end JHS
