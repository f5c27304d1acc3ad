/-! BOTH CHECK: numbers, none, this. -/
/-- both check Node p, node n, by methods mi and mr -/
def JX (L : Nat) (xs : Nat → Int32) (zf : Value) (w : Nat) (cx : Nat → Nat) (C Sc M : Nat) (pt vr : Int32) (mv : Value) (hB : rm_H) (s0 : rS) (nk m Pl Ph LO HI z mi mr p n lo hi ke kr : Nat) : Prop := ∀ (j j2 : Nat) (h : rm_H) (s : rS) (ds : List Nat) (G : List scN) (lv : Nat) (gn b : Int32) (u : Nat → Nat) (A B : Nat → Int32), CKJ L xs cx C Sc M pt vr mv hB s0 nk m h s ds G lv gn 0 b u A B → lv + z ≤ 55 → FV s0 G gn lo hi → (∀ i, lo ≤ i → i < hi → s.2.1 53 i = s0.2.1 53 i) → u 2 + 3 * (hi - lo) ≤ 9000 → ∃ t r h' s', (dcV L xs (dM L xs zf w (ke + j)) mi [13] (some C) [va_rf (some p)] h).bind dxI = some (t, h') ∧ rM w (kr + j2) mr [.ref 36, .int (Int32.ofNat n)] s = some (some (.int r), s') ∧ EXO L xs cx C Sc M pt vr mv hB s0 nk m Pl Ph LO HI lo hi n lv G ds gn u A B h s (3 * (hi - lo)) t r h' s'
section JLF
variable {L : Nat} {xs : Nat → Int32} {zf : Value} {w C Sc M Pl Ph LO HI nk m lv n p lo hi k k2 z : Nat} {cx : Nat → Nat} {hB h h1 h2 : rm_H} {s0 s s1 s2 : rS} {pt vr gn gn1 a b a1 b1 x y : Int32} {mv : Value} {ds kl ml : List Nat} {G : List scN} {u u1 u2 : Nat → Nat} {A B A1 B1 : Nat → Int32}
/-- a row that the checks leave alone -/
theorem rk_A (e : rK s0 s) {q : Nat} (hq : q ≠ 53 ∧ q ≠ 83 ∧ q ≠ 84 ∧ q ≠ 85 ∧ q ≠ 86) (i : Nat) : s.2.1 q i = s0.2.1 q i := by rw [e.2.1 q hq.1 hq.2.1 hq.2.2.1 hq.2.2.2.1 hq.2.2.2.2]
theorem rk_B (e : rK s0 s) {q : Nat} (hq : q ≠ 82) (i : Nat) : s.2.2 q i = s0.2.2 q i := by rw [e.2.2 q hq]
/-- one instruction is emitted, the reference changes flags -/
theorem jx_emit (e : CKJ L xs cx C Sc M pt vr mv hB s0 nk m h s ds G lv gn 0 b u A B) (kh : KH L xs cx C Sc M pt vr mv h1 ds (gN G) (gSl G) (gTp G) gn1 (if lv = 0 then 0 else 1) 0 b u1 A1 B1) (wf : wF cx C Sc Pl Ph u h h1) (wk : wK2 u u1 h h1) (u2' : u1 2 = u 2 + 1) (u0 : u1 0 = u 0) (old : ∀ i, i < u 2 → A1 i = A i ∧ B1 i = B i) (l : rL s s1) (hg : s1.1 64 = gn1) (r : r53 lo hi s s1) (hlo : lo < hi) (fv : ∀ lo2 hi2, (hi2 ≤ lo ∨ hi ≤ lo2) → LO ≤ lo2 → hi2 ≤ HI → FV s0 G gn lo2 hi2 → FV s0 G gn1 lo2 hi2) {t r' : Int32} {τ : Nat} (v : vT s0 nk τ) (e1 : t = cT τ) (e2 : r' = rTp τ) (e61 : s1.1 61 = oT τ) (e60 : pf60 (s1.1 60) (isPl (s0.2.1 44 n))) (tx : ∀ SL AA BB : Nat → Int32, (∀ i, lo ≤ i → i < hi → SL i = s1.2.1 53 i) → (AA (u 2) = A1 (u 2) ∧ BB (u 2) = B1 (u 2)) → ∀ f, XE s0 SL AA BB m (TU s0 SL AA BB m f).1 (TU s0 SL AA BB m f).2 lv G gn n τ gn1 (u 2) (u 2 + 1)) : EXO L xs cx C Sc M pt vr mv hB s0 nk m Pl Ph LO HI lo hi n lv G ds gn u A B h s (3 * (hi - lo)) t r' h1 s1 := by
  refine ⟨gn1, 0, b, u1, A1, B1, CK_up e kh wf u0 l hg, wf, wk, u0, by omega, r, fun _ => ⟨old, fv, τ, v, e1, e2, e61, e60, fun SL AA BB h1 h2 => ?_⟩⟩
  obtain ⟨f, hf⟩ : ∃ f, hi - lo = f + 1 := ⟨hi - lo - 1, by omega⟩
  rw [hf, u2']
  exact Or.inr (tx SL AA BB h1 (h2 (u 2) (Nat.le_refl _) (by omega)) f)
/-- both have refused -/
theorem jx_ft (e : CKJ L xs cx C Sc M pt vr mv hB s0 nk m h s ds G lv gn 0 b u A B) (kh : KH L xs cx C Sc M pt vr mv h1 ds (gN G) (gSl G) (gTp G) gn1 (if lv = 0 then 0 else 1) x y u1 A1 B1) (hx : 0 < x.toInt) (wf : wF cx C Sc Pl Ph u h h1) (wk : wK2 u u1 h h1) (u2' : u1 2 ≤ u 2 + 3 * (hi - lo)) (u0 : u1 0 = u 0) (l : rK s s1) (e57 : s1.1 57 = x) (e58 : s1.1 58 = y) (r : r53 lo hi s s1) {t r' : Int32} : EXO L xs cx C Sc M pt vr mv hB s0 nk m Pl Ph LO HI lo hi n lv G ds gn u A B h s (3 * (hi - lo)) t r' h1 s1 := ⟨gn1, x, y, u1, A1, B1, CK_ft e kh hx wf u0 l e57 e58, wf, wk, u0, u2', r, fun z => absurd z (ps_ne hx)⟩
theorem vT_1 : vT s0 nk 1 := ⟨by decide, fun z => by omega⟩
theorem vT_2 : vT s0 nk 2 := ⟨by decide, fun z => by omega⟩
/-- a number -/
theorem j_1 (e0 : fd hB 12 p 0 = some (.int 1)) (e4 : fd hB 12 p 4 = some (.int (s0.2.1 54 n))) (r44 : s0.2.1 44 n = 1) (hn : n < 4400) (hlo : lo < hi) : JX L xs zf w cx C Sc M pt vr mv hB s0 nk m Pl Ph LO HI z 174 343 p n lo hi 4 2 := by
  intro j j2 h s ds G lv gn b u A B e _ _ _ hz
  obtain ⟨kh, _, bh, rk, e57, _, rg, gw⟩ := id e
  have g0 := fd_I (L := L) (xs := xs) (cis := [12]) (bh.1.1 _ _ _ (by decide) e0) (by decide)
  obtain ⟨h', u', A', B', m1, m2, m3, m4, m5, m6, m7, m8⟩ := ck_emit (pl := Pl) (ph := Ph) (zf := zf) (w := w) (k := j) kh (by omega) 0 (s0.2.1 54 n)
  refine ⟨1, 0, h', rs_w (rs_w s 60 0) 61 0, ?_, ?_, jx_emit e m2 m3 m4 m5 m6 m8 (rL_trans (rL_w (by omega)) (rL_w (by omega))) (by rw [w_ne _ _ (by decide), w_ne _ _ (by decide)]; exact (rg rfl).2.2.1) (fun i _ => ⟨rfl, rfl⟩) hlo (fun _ _ _ _ _ q => q) vT_1 rfl rfl rfl ?_ (fun SL AA BB _ q f => ⟨1, r44, by omega, rfl, rfl, rfl, by rw [q.1, m7.1], by rw [q.2, m7.2]⟩)⟩
  · rw [ck_v kh, show 4 + j = j + 3 + 1 from by omega, e174]
    show (b174_0 L xs zf (dM L xs zf w (j + 3)) w (some C) (some p) h).bind dxI = _
    refine bsq (a := (some (.int 1), h')) ?_ rfl
    unfold b174_0
    exact bsq g0 (inq (by decide) (itq (by decide) (bsq (ck_0 kh) (bsq (fd_I (bh.1.1 _ _ _ (by decide) e4) (by decide)) (bsq m1 rfl)))))
  · rw [show 2 + j2 = j2 + 1 + 1 from by omega, y343]
    show s343_0 (rM w (j2 + 1)) w (Int32.ofNat n) s = _
    unfold s343_0
    refine bsq (a := (1 : Int32)) ((aI_at (i := n) (by decide) rfl hn (by decide)).trans (by rw [rk_A rk (by decide), r44])) (inq (by decide) (itq rfl (bsq (a := (0, rs_w (rs_w s 60 0) 61 0)) (by rw [r_344]; rfl) rfl)))
  · rw [r44]
    exact pf_0 (by rw [w_ne _ _ (by decide), w_eq]) (by decide)
/-- none -/
theorem j_2 (e0 : fd hB 12 p 0 = some (.int 2)) (r44 : s0.2.1 44 n = 2) (hn : n < 4400) (hlo : lo < hi) : JX L xs zf w cx C Sc M pt vr mv hB s0 nk m Pl Ph LO HI z 174 343 p n lo hi 4 2 := by
  intro j j2 h s ds G lv gn b u A B e _ _ _ hz
  obtain ⟨kh, _, bh, rk, e57, _, rg, gw⟩ := id e
  have g0 := fd_I (L := L) (xs := xs) (cis := [12]) (bh.1.1 _ _ _ (by decide) e0) (by decide)
  obtain ⟨h', u', A', B', m1, m2, m3, m4, m5, m6, m7, m8⟩ := ck_emit (pl := Pl) (ph := Ph) (zf := zf) (w := w) (k := j) kh (by omega) 0 0
  refine ⟨2, 1, h', rs_w (rs_w s 60 0) 61 0, ?_, ?_, jx_emit e m2 m3 m4 m5 m6 m8 (rL_trans (rL_w (by omega)) (rL_w (by omega))) (by rw [w_ne _ _ (by decide), w_ne _ _ (by decide)]; exact (rg rfl).2.2.1) (fun i _ => ⟨rfl, rfl⟩) hlo (fun _ _ _ _ _ q => q) vT_2 rfl rfl rfl ?_ (fun SL AA BB _ q f => ⟨2, r44, by omega, rfl, rfl, rfl, by rw [q.1, m7.1], by rw [q.2, m7.2]⟩)⟩
  · rw [ck_v kh, show 4 + j = j + 3 + 1 from by omega, e174]
    show (b174_0 L xs zf (dM L xs zf w (j + 3)) w (some C) (some p) h).bind dxI = _
    refine bsq (a := (some (.int 2), h')) ?_ rfl
    unfold b174_0
    exact bsq g0 (inq (by decide) (inq (by decide) (itq (by decide) (bsq (ck_0 kh) (bsq m1 rfl)))))
  · rw [show 2 + j2 = j2 + 1 + 1 from by omega, y343]
    show s343_0 (rM w (j2 + 1)) w (Int32.ofNat n) s = _
    unfold s343_0
    refine bsq (a := (2 : Int32)) ((aI_at (i := n) (by decide) rfl hn (by decide)).trans (by rw [rk_A rk (by decide), r44])) (inq (by decide) (inq (by decide) (itq rfl (bsq (a := (1, rs_w (rs_w s 60 0) 61 0)) (by rw [r_344]; rfl) rfl))))
  · rw [r44]
    exact pf_0 (by rw [w_ne _ _ (by decide), w_eq]) (by decide)
end JLF
