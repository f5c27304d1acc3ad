/-! BOTH CHECK: values. -/
/-- what a value of both leaves -/
def VXO (L : Nat) (xs : Nat → Int32) (cx : Nat → Nat) (C Sc M : Nat) (pt vr : Int32) (mv : Value) (hB : rm_H) (s0 : rS) (nk m Pl Ph LO HI lo hi n lv : Nat) (G : List scN) (ds : List Nat) (gn : Int32) (u : Nat → Nat) (A B : Nat → Int32) (h : rm_H) (s : rS) (cst : Nat) (t r : Int32) (h' : rm_H) (s' : rS) : Prop :=
  OUT L xs cx C Sc M pt vr mv hB s0 nk m Pl Ph LO HI lo hi lv G ds gn u A B h s cst h' s' (fun gn' u' A' B' => ∃ τ, vT s0 nk τ ∧ τ % 8 ≠ 6 ∧ τ ≠ 0 ∧ t = cT τ ∧ r = rTp τ ∧ ∀ SL AA BB : Nat → Int32, (∀ i, lo ≤ i → i < hi → SL i = s'.2.1 53 i) → (∀ i, u 2 ≤ i → i < u' 2 → AA i = A' i ∧ BB i = B' i) → VL s0 (TU s0 SL AA BB m (hi - lo)).1 lv G gn n τ gn' (u 2) (u' 2))
def JV (L : Nat) (xs : Nat → Int32) (zf : Value) (w : Nat) (cx : Nat → Nat) (C Sc M : Nat) (pt vr : Int32) (mv : Value) (hB : rm_H) (s0 : rS) (nk m Pl Ph LO HI z p n lo hi ke kr : Nat) : Prop := ∀ (j j2 : Nat) (h : rm_H) (s : rS) (ds : List Nat) (G : List scN) (lv : Nat) (gn b : Int32) (u : Nat → Nat) (A B : Nat → Int32), CKJ L xs cx C Sc M pt vr mv hB s0 nk m h s ds G lv gn 0 b u A B → lv + z ≤ 55 → FV s0 G gn lo hi → (∀ i, lo ≤ i → i < hi → s.2.1 53 i = s0.2.1 53 i) → u 2 + 3 * (hi - lo) ≤ 9000 → ∃ t r h' s', (dcV L xs (dM L xs zf w (ke + j)) 171 [13] (some C) [va_rf (some p)] h).bind dxI = some (t, h') ∧ rM w (kr + j2) 338 [.ref 36, .int (Int32.ofNat n)] s = some (some (.int r), s') ∧ VXO L xs cx C Sc M pt vr mv hB s0 nk m Pl Ph LO HI lo hi n lv G ds gn u A B h s (3 * (hi - lo)) t r h' s'
theorem vlX_p (t K : Int32) : vlX t K = 0 ∨ 0 < (vlX t K).toInt := by
  unfold vlX
  split
  · exact Or.inr (by decide)
  · split
    · split
      · exact Or.inl rfl
      · split
        · exact Or.inr (by decide)
        · exact Or.inl rfl
    · exact Or.inl rfl
section JVL
variable {L : Nat} {xs : Nat → Int32} {zf : Value} {w C Sc M Pl Ph LO HI nk m lv n p q i d lo hi k k2 z W ke kr : Nat} {cx : Nat → Nat} {hB h h1 h2 : rm_H} {s0 s s1 s2 : rS} {pt vr gn gn1 a b a1 b1 x y rc t v : Int32} {mv : Value} {ds kl ml : List Nat} {G : List scN} {u u1 u2 : Nat → Nat} {A B A1 B1 : Nat → Int32} {c : Int64} {X : scN}
theorem r_350f {i : Int32} (hs : s.1 57 ≠ 0) (t : Int32) : rM w (k + 1) 350 [.ref 36, .int i, .int t] s = some (some (.int 0), s) := by
  rw [y350]
  show s350_0 (rM w k) w i t s = _
  unfold s350_0
  refine itq (by rw [f1_ne]; exact decide_eq_true hs) ?_
  unfold s350_24
  exact itq (by rw [f1_ne]; exact decide_eq_true hs) rfl
theorem r_338f {i : Int32} (r : rM w (k + 2) 339 [.ref 36, .int i] s = some (some (.int v), s1)) (hs : s1.1 57 ≠ 0) : rM w (k + 3) 338 [.ref 36, .int i] s = some (some (.int (-1)), s1) := by
  rw [y338]
  show s338_0 (rM w (k + 2)) w i s = _
  unfold s338_0
  exact bsq (a := (v, s1)) (by rw [r]; rfl) (bsq (a := (0, s1)) (by rw [r_350f hs]; rfl) (inq (show ¬ mx_f1 .ne (0 : Int32) = true by decide) rfl))
/-- behind a fault the class goes on -/
theorem CK_fk (e : CKJ L xs cx C Sc M pt vr mv hB s0 nk m h s ds G lv gn a b u A B) (ha : a ≠ 0) (kh : KH L xs cx C Sc M pt vr mv h1 ds (gN G) (gSl G) (gTp G) gn1 (if lv = 0 then 0 else 1) a b u1 A1 B1) (wf : wF cx C Sc Pl Ph u h h1) (u0 : u1 0 = u 0) : CKJ L xs cx C Sc M pt vr mv hB s0 nk m h1 s ds G lv gn1 a b u1 A1 B1 := by
  obtain ⟨e1, e2, e3, e4, e5, e6, e7, e8⟩ := e
  exact ⟨kh, e2, bH_w e1 wf e3, e4, e5, e6, fun z => absurd z ha, by rw [u0]; exact e8⟩
theorem rzS_r : r53 lo hi s (rzS s x y) := by
  unfold rzS
  split
  · exact r53_refl
  · exact fun i _ => ⟨rfl, rfl⟩
theorem rzS_53 (i : Nat) : (rzS s x y).2.1 53 i = s.2.1 53 i := by
  unfold rzS
  split <;> rfl
theorem vT_vl {pl : Bool} {t : Nat} (e : vT s0 nk t) (h0 : (vlF pl t).1 = 0) : vT s0 nk (vlF pl t).2 := by
  obtain ⟨e1, e2⟩ := e
  refine ⟨(vl_T3 t (gTy_lt e1) e1 pl h0).1, fun h8 => ?_⟩
  have t0 : t ≠ 0 := by
    intro q
    subst q
    cases pl <;> exact absurd h0 (by decide)
  unfold vlF at h0 h8 ⊢
  rw [if_neg t0] at h0 h8 ⊢
  by_cases c6 : 8 ≤ t ∧ t % 8 = 6
  · rw [if_pos c6] at h8 ⊢
    have h8 : 8 ≤ t - 1 := h8
    obtain ⟨q1, q2⟩ := e2 c6.1
    show (t - 1) / 8 - 1 < nk ∧ (((t - 1) % 8 < 5 ∧ s0.2.1 66 ((t - 1) / 8 - 1) = 0) ∨ (5 ≤ (t - 1) % 8 ∧ s0.2.1 66 ((t - 1) / 8 - 1) = 1))
    rw [show (t - 1) / 8 = t / 8 from by omega]
    refine ⟨q1, Or.inr ⟨by omega, ?_⟩⟩
    rcases q2 with q | q
    · omega
    · exact q.2
  · rw [if_neg c6] at h0 h8 ⊢
    by_cases co : (isO t && pl) = true
    · rw [if_pos co] at h0 h8 ⊢
      have o1 : isO t = true := by
        cases h : isO t
        · rw [h] at co; simp at co
        · rfl
      have t8 : 8 ≤ t ∧ t % 8 < 5 := by
        unfold isO at o1
        simp at o1
        exact o1
      by_cases d0 : t % 8 = 0
      · rw [if_pos d0] at h0
        exact absurd (show (6 : Int32) = 0 from h0) (by decide)
      · rw [if_neg d0] at h8 ⊢
        by_cases d1 : t % 8 = 1
        · rw [if_pos d1] at h8 ⊢
          obtain ⟨q1, q2⟩ := e2 t8.1
          show (t + 3) / 8 - 1 < nk ∧ (((t + 3) % 8 < 5 ∧ s0.2.1 66 ((t + 3) / 8 - 1) = 0) ∨ (5 ≤ (t + 3) % 8 ∧ s0.2.1 66 ((t + 3) / 8 - 1) = 1))
          rw [show (t + 3) / 8 = t / 8 from by omega]
          refine ⟨q1, Or.inl ⟨by omega, ?_⟩⟩
          rcases q2 with q | q
          · exact q.2
          · omega
        · rw [if_neg d1] at h8 ⊢
          exact e2 t8.1
    · rw [if_neg co] at h8 ⊢
      exact e2 h8
theorem j_171 (IH : JX L xs zf w cx C Sc M pt vr mv hB s0 nk m Pl Ph LO HI z 172 339 p n lo hi ke kr) (e0 : fd hB 12 p 0 = some (.int (Int32.ofNat W))) (e1 : fd hB 12 p 1 = some (.int (s0.2.1 50 n))) (r44 : s0.2.1 44 n = Int32.ofNat W) (hW : W < 14) (hn : n < 4400) (hk : 2 ≤ ke) (hk2 : 2 ≤ kr) : JV L xs zf w cx C Sc M pt vr mv hB s0 nk m Pl Ph LO HI z p n lo hi (ke + 1) (kr + 1) := by
  intro j j2 h s ds G lv gn b u A B e hl fv p53 hz
  obtain ⟨t, r, h1, s1, q1, q2, gn', a', b', u', A', B', o1, o2, o3, o4, o5, o6, o7⟩ := IH j j2 h s ds G lv gn b u A B e hl fv p53 hz
  obtain ⟨kh1, dl1, bh1, rk1, e571, e581, rg1, gw1⟩ := id o1
  obtain ⟨k1, hk1⟩ : ∃ k1, ke + j = k1 + 2 := ⟨ke + j - 2, by omega⟩
  obtain ⟨k3, hk3⟩ : ∃ k1, kr + j2 = k1 + 2 := ⟨kr + j2 - 2, by omega⟩
  rw [hk1] at q1
  rw [hk3] at q2
  rw [show ke + 1 + j = k1 + 3 from by omega, show kr + 1 + j2 = k3 + 3 from by omega]
  have cls := c_171 (Sc := Sc) (pl := Pl) (ph := Ph) (u := u') (ck_v e.1) q1 (fun h' wf => wF_12 wf (by decide) (bh1.1.1 _ _ _ (by decide) e0)) (bh1.1.1 _ _ _ (by decide) e1) kh1
  obtain ⟨h2, f1, f2, f3, f4⟩ := ck_rfz (pl := Pl) (ph := Ph) (zf := zf) (w := w) (k := k1 + 1) kh1 (vlX t (Int32.ofNat W)) (s0.2.1 50 n)
  rw [f1] at cls
  have s50 : s1.2.1 50 n = s0.2.1 50 n := rk_A rk1 (by decide) n
  by_cases ha : a' = 0
  · subst ha
    obtain ⟨p1, p2, τ, p3, p4, p5, p6, p7, p8⟩ := o7 rfl
    subst p4
    subst p5
    have hx := vl_T1 W hW τ (gTy_lt p3.1) p3.1
    rw [r44] at p7
    obtain ⟨r', y1, y2⟩ := r_338 (k := k3) hn q2 e571 p3.1 (pf_iff p7)
    rw [s50, ← hx] at y1
    refine ⟨_, r', h2, _, cls, y1, gn', fa 0 (vlX (cT τ) (Int32.ofNat W)), fb 0 b' (vlX (cT τ) (Int32.ofNat W)) (s0.2.1 50 n), u', A', B', CK_rz (Pl := Pl) (Ph := Ph) o1 f2 f3 (vlX_p _ _), wF_trans o2 o3 f3, wK2_trans o3 f4 o2.1.1, o4, o5, r53_trans o6 rzS_r, fun hz0 => ?_⟩
    have x0 : vlX (cT τ) (Int32.ofNat W) = 0 := hz0
    rw [x0] at hx
    have hv := vl_T3 τ (gTy_lt p3.1) p3.1 _ hx.symm
    refine ⟨p1, p2, (vlF (isPl (Int32.ofNat W)) τ).2, vT_vl p3 hx.symm, hv.2.1, hv.2.2, vl_T2 W hW τ (gTy_lt p3.1) p3.1 hx.symm, y2 hx.symm, fun SL AA BB h1 h2 => ⟨τ, p8 SL AA BB (fun i i1 i2 => (h1 i i1 i2).trans (rzS_53 i)) h2, ?_⟩⟩
    rw [r44]
    exact Prod.ext hx.symm rfl
  · rw [fa_n ha, fb_n ha] at f2
    have y1 := r_338f (k := k3) q2 (by rw [e571]; exact ha)
    exact ⟨_, -1, h2, s1, cls, y1, gn', a', b', u', A', B', CK_fk o1 ha f2 f3 rfl, wF_trans o2 o3 f3, wK2_trans o3 f4 o2.1.1, o4, o5, o6, fun z => absurd z ha⟩
end JVL
