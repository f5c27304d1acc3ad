/-! BOTH CHECK: links of a chain; operators. -/
/-- what lies between the beginning of a link's code and the code of what is ahead: arguments, or nothing -/
def DAG (s0 : rS) (SL AA BB : Nat → Int32) (m W : Nat) (ts : List Nat) (f lv : Nat) (G : List scN) (g00 x ga : Int32) (a00 a0 : Nat) : Prop := (W = 10 ∨ W = 13 → ga = g00 ∧ a0 = a00) ∧ (W = 11 ∨ W = 12 → AG s0 (TU s0 SL AA BB m f).1 lv G ts g00 x ga a00 a0)
/-- what a link of both leaves, behind what is ahead (node l, type τ) -/
def LXO (L : Nat) (xs : Nat → Int32) (cx : Nat → Nat) (C Sc M : Nat) (pt vr : Int32) (mv : Value) (hB : rm_H) (s0 : rS) (nk m Pl Ph LO HI lo hi n W l τ : Nat) (ts : List Nat) (lv : Nat) (G : List scN) (ds : List Nat) (gn : Int32) (u : Nat → Nat) (A B : Nat → Int32) (h : rm_H) (s : rS) (cst : Nat) (t r : Int32) (h' : rm_H) (s' : rS) : Prop :=
  OUT L xs cx C Sc M pt vr mv hB s0 nk m Pl Ph LO HI n hi lv G ds gn u A B h s cst h' s' (fun gn' u' A' B' => ∃ τ', vT s0 nk τ' ∧ t = cT τ' ∧ r = rTp τ' ∧ s'.1 61 = oT τ' ∧ pf60 (s'.1 60) (isPl (s0.2.1 44 n)) ∧ ∀ (SL AA BB : Nat → Int32) (f : Nat), (∀ i, lo ≤ i → i < hi → SL i = s'.2.1 53 i) → (∀ i, u 2 ≤ i → i < u' 2 → AA i = A' i ∧ BB i = B' i) → hi - lo ≤ f + 1 → ∀ (g00 ga : Int32) (a00 a0 : Nat), DAG s0 SL AA BB m W ts f lv G g00 (s0.2.1 45 n) ga a00 a0 → (TU s0 SL AA BB m f).1 lv G ga l τ gn a0 (u 2) → XE s0 SL AA BB m (TU s0 SL AA BB m f).1 (TU s0 SL AA BB m f).2 lv G g00 n τ' gn' a00 (u' 2))
theorem niC_p (t : Int32) : niC t = 0 ∨ 0 < (niC t).toInt := by
  unfold niC
  split
  · exact Or.inl rfl
  · split
    · exact Or.inr (by decide)
    · exact Or.inr (by decide)
theorem le_ps {a : Int32} (hx : 0 < a.toInt) : ¬ mx_f1 .le a = true := by
  rw [f1_le]
  simp
  omega
section JLK
variable {L : Nat} {xs : Nat → Int32} {zf : Value} {w C Sc M Pl Ph LO HI nk m lv n p q i d lo hi k k2 z W ke kr : Nat} {cx : Nat → Nat} {hB h h1 h2 : rm_H} {s0 s s1 s2 : rS} {pt vr gn gn1 a b a1 b1 x y rc t v : Int32} {mv : Value} {ds kl ml : List Nat} {G : List scN} {u u1 u2 : Nat → Nat} {A B A1 B1 : Nat → Int32} {c : Int64} {X : scN} {f : Nat → Int64} {sl ty : Nat → Int32}
/-- a link by its sort -/
theorem c_202 {W mi : Nat} {h' : rm_H} {t t' : Int32} (hW : (W = 10 ∧ mi = 203) ∨ (W = 11 ∧ mi = 204) ∨ (W = 12 ∧ mi = 207) ∨ (W = 13 ∧ mi = 208)) (kh : KH L xs cx C Sc M pt vr mv h ds f sl ty gn rc a b u A B) (e0 : fd h 12 p 0 = some (.int (Int32.ofNat W))) (r1 : (dcV L xs (dM L xs zf w k) mi [13] (some C) [va_rf (some p), .int t] h).bind dxI = some (t', h')) : (dcV L xs (dM L xs zf w (k + 1)) 202 [13] (some C) [va_rf (some p), .int t] h).bind dxI = some (t', h') := by
  rw [ck_v kh, e202]
  show (b202_0 L xs zf (dM L xs zf w k) w (some C) (some p) t h).bind dxI = _
  refine bsq (a := (some (.int t'), h')) ?_ rfl
  unfold b202_0
  refine bsq (fd_I e0 (by decide)) ?_
  rcases hW with ⟨e, e'⟩ | ⟨e, e'⟩ | ⟨e, e'⟩ | ⟨e, e'⟩ <;> subst e <;> subst e'
  · exact inq (by decide) (itq (by decide) (bsq r1 rfl))
  · exact inq (by decide) (inq (by decide) (itq (by decide) (bsq r1 rfl)))
  · exact inq (by decide) (inq (by decide) (inq (by decide) (itq (by decide) (bsq r1 rfl))))
  · exact itq (by decide) (bsq r1 rfl)
/-- an instruction and the flags, before a fault or behind it -/
theorem CK_em (e : CKJ L xs cx C Sc M pt vr mv hB s0 nk m h s ds G lv gn a b u A B) (kh : KH L xs cx C Sc M pt vr mv h1 ds (gN G) (gSl G) (gTp G) gn (if lv = 0 then 0 else 1) a b u1 A1 B1) (wf : wF cx C Sc Pl Ph u h h1) (u0 : u1 0 = u 0) : CKJ L xs cx C Sc M pt vr mv hB s0 nk m h1 (fl0 s) ds G lv gn a b u1 A1 B1 := by
  by_cases ha : a = 0
  · subst ha
    exact CK_up e kh wf u0 fl0_L (by rw [fl0_64]; exact (e.2.2.2.2.2.2.1 rfl).2.2.1)
  · exact CK_fs (CK_fk e ha kh wf u0) ha fl0_L
theorem r_367f {i : Int32} (hs : s.1 57 ≠ 0) (t : Int32) : rM w (k + 2) 367 [.ref 36, .int i, .int t] s = some (none, s) := by
  rw [y367]
  show s367_0 (rM w (k + 1)) w i t s = _
  unfold s367_0
  exact bsq (a := (0, s)) (by rw [r_350f hs]; rfl) (itq (show mx_f1 .eq (0 : Int32) = true by decide) rfl)
/-- both ask for int, once and again -/
theorem CK_r2 {x2 y2 : Int32} (e : CKJ L xs cx C Sc M pt vr mv hB s0 nk m h s ds G lv gn 0 b u A B) (k1 : KH L xs cx C Sc M pt vr mv h1 ds (gN G) (gSl G) (gTp G) gn (if lv = 0 then 0 else 1) (fa 0 x) (fb 0 b x y) u A B) (w1 : wF cx C Sc Pl Ph u h h1) (k2 : KH L xs cx C Sc M pt vr mv h2 ds (gN G) (gSl G) (gTp G) gn (if lv = 0 then 0 else 1) (fa (fa 0 x) x2) (fb (fa 0 x) (fb 0 b x y) x2 y2) u A B) (w2 : wF cx C Sc Pl Ph u h1 h2) (hp : x = 0 ∨ 0 < x.toInt) (hp2 : x2 = 0 ∨ 0 < x2.toInt) : CKJ L xs cx C Sc M pt vr mv hB s0 nk m h2 (if x = 0 then rzS s x2 y2 else rfS s x y) ds G lv gn (fa (fa 0 x) x2) (fb (fa 0 x) (fb 0 b x y) x2 y2) u A B := by
  have e1 := CK_rz (Pl := Pl) (Ph := Ph) e k1 w1 hp
  by_cases hx : x = 0
  · subst hx
    rw [if_pos rfl]
    exact CK_rz (Pl := Pl) (Ph := Ph) e1 k2 w2 hp2
  · rw [if_neg hx]
    have f0 : fa 0 x = x := if_pos rfl
    rw [f0] at e1 k2 ⊢
    rw [fa_n hx, fb_n hx] at k2 ⊢
    unfold rzS at e1
    rw [if_neg hx] at e1
    exact CK_fk e1 hx k2 w2 rfl
/-- an operator: node l is ahead -/
theorem j_208 {pr px l rr τ lo' hi' : Nat} {op : Int32} (IH : JX L xs zf w cx C Sc M pt vr mv hB s0 nk m Pl Ph LO HI z 172 339 pr rr lo' hi' ke kr) (e0 : fd hB 12 p 0 = some (.int 13)) (e6 : fd hB 12 p 6 = some (.ref px)) (e8 : fd hB 12 p 8 = some (.ref pr)) (ex : fd hB 12 px 1 = some (.int (s0.2.1 50 l))) (er : fd hB 12 pr 1 = some (.int (s0.2.1 50 rr))) (e4 : fd hB 12 p 4 = some (.int op)) (ho : opS op (s0.2.1 54 n)) (r44 : s0.2.1 44 n = 13) (r45 : s0.2.1 45 n = Int32.ofNat l) (r46 : s0.2.1 46 n = Int32.ofNat rr) (hl : 1 ≤ l ∧ l < 4400) (hr : 1 ≤ rr ∧ rr < 4400) (hn : n < 4400) (hk : 3 ≤ ke) (hk2 : 3 ≤ kr) (d1 : n < lo') (d2 : hi' ≤ hi) (d3 : lo ≤ n) (d4 : lo' < hi') (j j2 : Nat) (e : CKJ L xs cx C Sc M pt vr mv hB s0 nk m h s ds G lv gn 0 b u A B) (hlv : lv + z ≤ 55) (fv : FV s0 G gn n hi) (p53 : ∀ i, n ≤ i → i < hi → s.2.1 53 i = s0.2.1 53 i) (hz : u 2 + 3 * (hi - n) ≤ 9000) (hτ : vT s0 nk τ) : ∃ t' r' h' s', (dcV L xs (dM L xs zf w (ke + 2 + j)) 202 [13] (some C) [va_rf (some p), .int (cT τ)] h).bind dxI = some (t', h') ∧ rM w (kr + 1 + j2) 361 [.ref 36, .int (Int32.ofNat n), .int (Int32.ofNat l), .int (rTp τ)] s = some (some (.int r'), s') ∧ LXO L xs cx C Sc M pt vr mv hB s0 nk m Pl Ph LO HI lo hi n 13 l τ [] lv G ds gn u A B h s (3 * (hi - n)) t' r' h' s' := by
  obtain ⟨t2, r2, h1, s1, q1, q2, gn', a', b', u', A', B', o1, o2, o3, o4, o5, o6, o7⟩ := IH j j2 h s ds G lv gn b u A B e hlv (FV_sub fv (by omega) d2) (fun i i1 i2 => p53 i (by omega) (by omega)) (by omega)
  obtain ⟨kh, dl, bh, rk, e57, _, rg, gw⟩ := id e
  obtain ⟨kh1, dl1, bh1, rk1, e571, e581, rg1, gw1⟩ := id o1
  obtain ⟨k1, hk1⟩ : ∃ k1, ke + j = k1 + 3 := ⟨ke + j - 3, by omega⟩
  obtain ⟨k3, hk3⟩ : ∃ k1, kr + j2 = k1 + 3 := ⟨kr + j2 - 3, by omega⟩
  rw [hk1] at q1
  rw [hk3] at q2
  rw [show ke + 2 + j = k1 + 4 + 1 from by omega, show kr + 1 + j2 = k3 + 3 + 1 from by omega]
  obtain ⟨h2, f1, f2, f3, f4⟩ := ck_rfz (pl := Pl) (ph := Ph) (zf := zf) (w := w) (k := k1 + 1) kh1 (niC (cT τ)) (s0.2.1 50 l)
  obtain ⟨h3, v1, v2, v3, v4⟩ := ck_rfz (pl := Pl) (ph := Ph) (zf := zf) (w := w) (k := k1 + 1) f2 (niC t2) (s0.2.1 50 rr)
  have bh2 := bH_w kh1 f3 bh1
  have bh3 := bH_w f2 v3 bh2
  obtain ⟨h4, u4, A4, B4, m1, m2, m3, m4, m5, m6, m7, m8⟩ := ck_emit (pl := Pl) (ph := Ph) (zf := zf) (w := w) (k := k1) v2 (by omega) 13 op
  have cls : (dcV L xs (dM L xs zf w (k1 + 4 + 1)) 202 [13] (some C) [va_rf (some p), .int (cT τ)] h).bind dxI = some (1, h4) := by
    refine c_202 (Or.inr (Or.inr (Or.inr ⟨rfl, rfl⟩))) kh (bh.1.1 _ _ _ (by decide) e0) ?_
    rw [ck_v kh, e208]
    show (b208_0 L xs zf (dM L xs zf w (k1 + 3)) w (some C) (some p) (cT τ) h).bind dxI = _
    refine bsq (a := (some (.int 1), h4)) ?_ rfl
    unfold b208_0
    refine bsq (fd_R (o := some pr) (bh.1.1 _ _ _ (by decide) e8) (by decide)) (bsq q1 (bsq (fd_R (o := some px) (bh1.1.1 _ _ _ (by decide) e6) (by decide)) (bsq (a := h2) ?_ (bsq (fd_R (o := some pr) (bh2.1.1 _ _ _ (by decide) e8) (by decide)) (bsq (a := h3) ?_ (bsq (ck_0 v2) (bsq (fd_I (bh3.1.1 _ _ _ (by decide) e4) (by decide)) (bsq m1 rfl))))))))
    · exact (c_209 kh1 (bh1.1.1 _ _ _ (by decide) ex) (cT τ)).trans f1
    · exact (c_209 f2 (bh2.1.1 _ _ _ (by decide) er) t2).trans v1
  have a46 : ∀ s', rK s0 s' → rs_aI s' 46 (Int32.ofNat n) = some (Int32.ofNat rr) := fun s' r' => (aI_at (i := n) (by decide) rfl hn (by decide)).trans (by rw [rk_A r' (by decide), r46])
  have W12 := wF_trans o2 o3 (wF_trans f3 f4 v3)
  have K12 := wK2_trans o3 (wK2_trans f4 v4 f3.1.1) o2.1.1
  have rhead : ∀ R, (if mx_f1 .le (s1.1 57) = true then ((rM w (k3 + 3) 367 [.ref 36, .int (Int32.ofNat l), .int (rTp τ)] s1).bind rxV).bind fun s12 => (rs_aI s12 46 (Int32.ofNat n)).bind fun x17 => ((rM w (k3 + 3) 367 [.ref 36, .int x17, .int r2] s12).bind rxV).bind fun s19 => ((rM w (k3 + 3) 344 [.ref 36, .int 0] s19).bind rxI).bind fun x24 => rrI (some .int) x24.1 x24.2 else rrI (some .int) (-1) s1) = R → rM w (k3 + 3 + 1) 361 [.ref 36, .int (Int32.ofNat n), .int (Int32.ofNat l), .int (rTp τ)] s = R := by
    intro R hR
    rw [y361]
    show s361_0 (rM w (k3 + 3)) w (Int32.ofNat n) (Int32.ofNat l) (rTp τ) s = _
    unfold s361_0
    exact bsq (a := (13 : Int32)) ((aI_at (i := n) (by decide) rfl hn (by decide)).trans (by rw [rk_A rk (by decide), r44])) (itq (by decide) (bsq (a46 s rk) (bsq (a := (r2, s1)) (by rw [q2]; rfl) hR)))
  by_cases ha : a' = 0
  · subst ha
    obtain ⟨p1, p2, τ2, p3, p4, p5, p6, p7, p8⟩ := o7 rfl
    subst p4
    subst p5
    have sl50 : s1.2.1 50 l = s0.2.1 50 l := rk_A rk1 (by decide) l
    have sr50 : s1.2.1 50 rr = s0.2.1 50 rr := rk_A rk1 (by decide) rr
    have ref : rM w (k3 + 3 + 1) 361 [.ref 36, .int (Int32.ofNat n), .int (Int32.ofNat l), .int (rTp τ)] s = some (some (.int 0), fl0 (if niC (cT τ) = 0 then rzS s1 (niC (cT τ2)) (s0.2.1 50 rr) else rfS s1 (niC (cT τ)) (s0.2.1 50 l))) := by
      refine rhead _ (itq (by rw [e571]; decide) ?_)
      have r1 := r_367 (w := w) (k := k3) e571 hl.2 hτ.1
      rw [sl50] at r1
      by_cases hx : niC (cT τ) = 0
      · rw [hx] at r1
        rw [if_pos hx]
        have r1 : rM w (k3 + 3) 367 [.ref 36, .int (Int32.ofNat l), .int (rTp τ)] s1 = some (none, s1) := r1
        have r3 := r_367 (w := w) (k := k3) e571 hr.2 p3.1
        rw [sr50] at r3
        exact bsq (a := s1) (by rw [r1]; rfl) (bsq (a46 s1 rk1) (bsq (a := rzS s1 (niC (cT τ2)) (s0.2.1 50 rr)) (by rw [r3]; rfl) (bsq (a := (0, fl0 (rzS s1 (niC (cT τ2)) (s0.2.1 50 rr)))) (by rw [r_344]; rfl) rfl)))
      · rw [if_neg hx]
        unfold rzS at r1
        rw [if_neg hx] at r1
        exact bsq (a := rfS s1 (niC (cT τ)) (s0.2.1 50 l)) (by rw [r1]; rfl) (bsq (a46 _ (rK_trans rk1 rfS_K)) (bsq (a := rfS s1 (niC (cT τ)) (s0.2.1 50 l)) (by rw [r_367f (k := k3 + 1) (by rw [rfS_57]; exact hx)]; rfl) (bsq (a := (0, fl0 (rfS s1 (niC (cT τ)) (s0.2.1 50 l)))) (by rw [r_344]; rfl) rfl)))
    have fin := CK_em (CK_r2 o1 f2 f3 v2 v3 (niC_p _) (niC_p _)) m2 m3 m6
    refine ⟨1, 0, h4, _, cls, ref, gn', _, _, u4, A4, B4, fin, wF_trans W12 K12 m3, wK2_trans K12 m4 W12.1.1, by omega, by omega, r53_trans (r53_trans (r53_mono o6 (by omega) d2) ?_) fl0_r, fun hz0 => ?_⟩
    · split
      · exact rzS_r
      · exact fun i _ => ⟨rfl, rfl⟩
    have x1 : niC (cT τ) = 0 := by
      by_cases hx : niC (cT τ) = 0
      · exact hx
      · have f0 : fa 0 (niC (cT τ)) = niC (cT τ) := if_pos rfl
        rw [f0, fa_n hx] at hz0
        exact absurd hz0 hx
    have x2 : niC (cT τ2) = 0 := by
      rw [x1] at hz0
      exact hz0
    have t1 : τ = 1 := by
      rw [niC_T τ (gTy_lt hτ.1) hτ.1] at x1
      by_cases c : τ = 1
      · exact c
      · rw [if_neg c] at x1
        by_cases c0 : τ = 0
        · rw [if_pos c0] at x1; exact absurd x1 (by decide)
        · rw [if_neg c0] at x1; exact absurd x1 (by decide)
    have t2 : τ2 = 1 := by
      rw [niC_T τ2 (gTy_lt p3.1) p3.1] at x2
      by_cases c : τ2 = 1
      · exact c
      · rw [if_neg c] at x2
        by_cases c0 : τ2 = 0
        · rw [if_pos c0] at x2; exact absurd x2 (by decide)
        · rw [if_neg c0] at x2; exact absurd x2 (by decide)
    refine ⟨fun i i1 => ?_, fun lo2 hi2 c1 c2 c3 c4 => p2 lo2 hi2 (by omega) c2 c3 c4, 1, vT_1, rfl, rfl, fl0_61, ?_, fun SL AA BB f s1' s2' hf g00 ga a00 a0 dg tu => ?_⟩
    · have := o3.2.2.2.2.1
      exact ⟨(m8 i (by omega)).1.trans (p1 i i1).1, (m8 i (by omega)).2.trans (p1 i i1).2⟩
    · rw [r44]
      exact pf_0 fl0_60 (by decide)
    · have ul := o3.2.2.2.2.1
      obtain ⟨dg1, dg2⟩ := dg.1 (Or.inr rfl)
      subst dg1
      subst dg2
      subst t1
      subst t2
      refine ⟨13, r44, by omega, l, rr, u 2, u' 2, gn, r45, r46, hl.1, hl.2, hr.1, hr.2, tu, TU_e (p8 SL AA BB (fun i i1 i2 => (s1' i (by omega) (by omega)).trans ?_) (fun i i1 i2 => ?_)) (by omega), rfl, m5, ?_, ?_⟩
      · show (if niC (cT 1) = 0 then rzS s1 (niC (cT 1)) (s0.2.1 50 rr) else rfS s1 (niC (cT 1)) (s0.2.1 50 l)).2.1 53 i = _
        split
        · exact rzS_53 i
        · rfl
      · obtain ⟨y1, y2⟩ := s2' i i1 (by omega)
        exact ⟨y1.trans (m8 i i2).1, y2.trans (m8 i i2).2⟩
      · rw [(s2' (u' 2) (by omega) (by omega)).1, m7.1]
      · rw [(s2' (u' 2) (by omega) (by omega)).2, m7.2]
        exact ho
  · rw [fa_n ha, fb_n ha] at f2 v2
    rw [fa_n ha, fb_n ha] at v2
    rw [fa_n ha, fb_n ha, fa_n ha, fb_n ha] at m2
    have ref := rhead (some (some (.int (-1)), s1)) (inq (by rw [e571]; exact le_ps (e581 ha).2) rfl)
    exact ⟨1, -1, h4, s1, cls, ref, gn', a', b', u4, A4, B4, CK_fk (CK_fk (CK_fk o1 ha f2 f3 rfl) ha v2 v3 rfl) ha m2 m3 m6, wF_trans W12 K12 m3, wK2_trans K12 m4 W12.1.1, by omega, by omega, r53_mono o6 (by omega) d2, fun z => absurd z ha⟩
end JLK
