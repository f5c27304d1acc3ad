/-! BOTH CHECK: a name is given a value. -/
section JPN
variable {L : Nat} {xs : Nat → Int32} {zf : Value} {w C Sc M Pl Ph LO HI nk m lv n p q i d lo hi k k2 z W ke kr K l τ px q0 q1 pl ph ne pe tv : Nat} {cx : Nat → Nat} {hB h h1 h2 : rm_H} {s0 s s1 s2 : rS} {pt vr gn gn1 a b a1 b1 x y rc t v : Int32} {mv : Value} {ds kl ml es ns ts qs : List Nat} {G : List scN} {u u1 u2 : Nat → Nat} {A B A1 B1 : Nat → Int32} {c : Int64} {X : scN} {f : Nat → Int64} {sl ty : Nat → Int32} {sw : Bool}
/-- what it leaves -/
def PNP (s0 : rS) (sw : Bool) (n tv lv : Nat) (G : List scN) (gn : Int32) (u : Nat → Nat) (t r : Int32) (s' : rS) : Int32 → (Nat → Nat) → (Nat → Int32) → (Nat → Int32) → Prop := fun gn' u' A' B' => u' 2 = u 2 + 1 ∧ ∃ (i : Nat) (X : scN), G[i]? = some X ∧ X.1 = s0.2.2 56 n ∧ t = cT X.2.2.1 ∧ r = rTp X.2.2.1 ∧ (sw = true → gn &&& bt X.2.1 = 0) ∧ X.2.2.2 = lv ∧ fitC (cT tv) (cT X.2.2.1) = 0 ∧ gn' = gn &&& (bt X.2.1 ^^^ (-1)) ∧ A' (u 2) = (if sw = true then 9 else 11) ∧ B' (u 2) = Int32.ofNat X.2.1 ∧ s'.2.1 53 n = Int32.ofNat X.2.1
/-- the reference's state behind it -/
def s52 (s : rS) (n sl : Nat) : rS := rs_wA (rs_w s 64 (s.1 64 &&& (bt sl ^^^ (-1)))) 53 n (Int32.ofNat sl)
theorem s52_L {sl : Nat} : rL s (s52 s n sl) := rL_trans (rL_w (by omega)) (rL_A (Or.inl rfl))
theorem s52_53 {sl : Nat} : (s52 s n sl).2.1 53 n = Int32.ofNat sl := by
  unfold s52
  rw [wA_get, if_pos ⟨rfl, rfl⟩]
theorem s52_r {sl : Nat} (h1 : lo ≤ n) (h2 : n < hi) : r53 lo hi s (s52 s n sl) := by
  intro j hj
  have ne : j ≠ n := fun z => hj ⟨by omega, by omega⟩
  unfold s52
  rw [wA_get, if_neg (fun z => ne z.2), wA_get, if_neg (fun z => by omega)]
  exact ⟨rfl, rfl⟩
theorem j_187 (e2 : fd hB 12 p 2 = some (.ref q)) (hq : nS L xs hB q (s0.2.2 56 n)) (e3 : fd hB 12 p 3 = some (.int (s0.2.1 51 n))) (r51 : s0.2.1 51 n = s0.2.1 50 n) (hn : n < 4400) (hl1 : lo ≤ n) (hl2 : n < hi) (pe1 : fd hB 12 pe 1 = some (.int (s0.2.1 50 ne))) (hne : ne < 4400) (htv : vT s0 nk tv) (h6 : tv % 8 ≠ 6) (hw : 200 ≤ w) (k k2 : Nat) (sw : Bool) (e : CKJ L xs cx C Sc M pt vr mv hB s0 nk m h s ds G lv gn 0 b u A B) (hz : u 2 ≤ 9000) : ∃ t r h' s', (dcV L xs (dM L xs zf w (k + 5)) 187 [13] (some C) [va_rf (some p), va_rf (some pe), .int (cT tv), .int (rd_01 sw)] h).bind dxI = some (t, h') ∧ rM w (k2 + 4) 352 [.ref 36, .int (Int32.ofNat n), .int (Int32.ofNat ne), .int (rTp tv), .int (rd_01 sw)] s = some (some (.int r), s') ∧ OUT L xs cx C Sc M pt vr mv hB s0 nk m Pl Ph LO HI lo hi lv G ds gn u A B h s 1 h' s' (PNP s0 sw n tv lv G gn u t r s') := by
  obtain ⟨kh, dl, bh, rk, e57, _, rg, gw⟩ := id e
  obtain ⟨r62, r63, r64, ⟨r66, _⟩, rr⟩ := rg rfl
  have e2h := bh.1.1 _ _ _ (by decide) e2
  have e3h := bh.1.1 _ _ _ (by decide) e3
  have s56 : s.2.2 56 n = s0.2.2 56 n := rk_B rk (by decide) n
  have s50 : s.2.1 50 n = s0.2.1 51 n := (rk_A rk (by decide) n).trans r51.symm
  have s50e : s.2.1 50 ne = s0.2.1 50 ne := rk_A rk (by decide) ne
  have g50 : rs_aI s 50 (Int32.ofNat n) = some (s0.2.1 51 n) := (aI_at (i := n) (by decide) rfl hn (by decide)).trans (by rw [s50])
  have g56 : rs_aJ s 56 (Int32.ofNat n) = some (s0.2.2 56 n) := (aJ_at (i := n) (by decide) rfl hn (by decide)).trans (by rw [s56])
  obtain ⟨l1, l2, l3⟩ := nm_look (zf := zf) (w := w) (k := k + 1) e (bh.1.2.2.1 _ _ hq) hw
  obtain ⟨l1', _, _⟩ := nm_look (zf := zf) (w := w) (k := k) e (bh.1.2.2.1 _ _ hq) hw
  have wrap : ∀ t h2, b187_0 L xs zf (dM L xs zf w (k + 4)) w (some C) (some p) (some pe) (cT tv) (rd_01 sw) h = some (some (.int t), h2) → (dcV L xs (dM L xs zf w (k + 5)) 187 [13] (some C) [va_rf (some p), va_rf (some pe), .int (cT tv), .int (rd_01 sw)] h).bind dxI = some (t, h2) := by
    intro t h2 hh
    rw [ck_v kh, e187]
    show (b187_0 L xs zf (dM L xs zf w (k + 4)) w (some C) (some p) (some pe) (cT tv) (rd_01 sw) h).bind dxI = _
    rw [hh]
    rfl
  have rwrap : ∀ r s', s352_0 (rM w (k2 + 3)) w (Int32.ofNat n) (Int32.ofNat ne) (rTp tv) (rd_01 sw) s = some (some (.int r), s') → rM w (k2 + 4) 352 [.ref 36, .int (Int32.ofNat n), .int (Int32.ofNat ne), .int (rTp tv), .int (rd_01 sw)] s = some (some (.int r), s') := by
    intro r s' hh
    rw [y352]
    exact hh
  -- an end that is refused at once
  have ft : ∀ (x : Int32) (h1 : rm_H), 0 < x.toInt → KH L xs cx C Sc M pt vr mv h1 ds (gN G) (gSl G) (gTp G) gn (if lv = 0 then 0 else 1) x (s0.2.1 51 n) u A B → wF cx C Sc Pl Ph u h h1 → wK2 u u h h1 → OUT L xs cx C Sc M pt vr mv hB s0 nk m Pl Ph LO HI lo hi lv G ds gn u A B h s 1 h1 (rfS s x (s0.2.1 51 n)) (PNP s0 sw n tv lv G gn u 2 (-1) (rfS s x (s0.2.1 51 n))) := fun x h1 hx k1 w1 w2 => ⟨gn, x, s0.2.1 51 n, u, A, B, CK_ft e k1 hx w1 rfl rfS_K rfS_57 rfS_58, w1, w2, rfl, by omega, fun i _ => ⟨rfl, rfl⟩, fun z => absurd z (ps_ne hx)⟩
  have no21 : ∀ (h1 : rm_H) (x : Int32), x ≠ 0 → KH L xs cx C Sc M pt vr mv h1 ds (gN G) (gSl G) (gTp G) gn (if lv = 0 then 0 else 1) x (s0.2.1 51 n) u A B → wF cx C Sc Pl Ph u h h1 → b187_21 L xs zf (dM L xs zf w (k + 4)) w (some C) (some p) (some pe) (cT tv) (rd_01 sw) (-1) h1 = some (some (.int 2), h1) := by
    intro h1 x hx k1 w1
    unfold b187_21
    exact inq (show ¬ mx_f2 .ne (-1 : Int32) (-1) = true by decide) (bsq (fd_I (wF_12 w1 (by decide) e3h) (by decide)) (bsq (ck_refB (k := k + 3) k1 hx 3 _) rfl))
  rcases l3 with ⟨i, X, d, k1, hi', hX, hd, xc, dn⟩ | ⟨k1, _⟩
  · rw [k1] at l1 l2 l1'
    have l1 : (dcV L xs (dM L xs zf w (k + 4)) 181 [13] (some C) [va_rf (some q)] h).bind dxI = some (Int32.ofNat i, h) := l1
    have l1' : (dcV L xs (dM L xs zf w (k + 3)) 181 [13] (some C) [va_rf (some q)] h).bind dxI = some (Int32.ofNat i, h) := l1'
    have l2 : ∀ k2, rM w (k2 + 1) 349 [.ref 36, .long (s0.2.2 56 n)] s = some (some (.int (Int32.ofNat i)), s) := l2
    obtain ⟨w1, w2, w3, w4, w5⟩ := gw.2.2.1 i X hX
    obtain ⟨x1, x2, x3, x4⟩ := rr i X hX
    have u80 := c_180 (zf := zf) (w := w) (k := k) kh e2h e3h l1' hi' hd dn w1
    have g83 : rs_aI s 83 (Int32.ofNat i) = some (Int32.ofNat X.2.1) := (aI_at (by decide) rfl hi' (by decide)).trans (by rw [x2])
    have im1 : mx_f2 .ne (Int32.ofNat i) (-1) = true := by rw [f2_ne]; exact decide_eq_true (ofN_m1 hi')
    have ge85 : mx_f2 .ge (Int32.ofNat X.2.2.2) (Int32.ofNat lv) = true ↔ ¬ i < u 0 := by
      have := gw.2.1
      rw [ge_iff (by omega) (by omega), ← w5]
      omega
    have gei : mx_f2 .ge (Int32.ofNat i) (Int32.ofNat (u 0)) = true ↔ ¬ i < u 0 := by
      have := kh.2.2.2.2.2.2.2.2.2
      have := kh.2.2.2.1.1
      rw [ge_iff (by omega) (by omega)]
      omega
    by_cases gg : sw = true ∧ ¬ gn &&& bt X.2.1 = 0
    · -- swapped, and gone
      obtain ⟨g1, g2⟩ := gg
      subst g1
      rw [if_neg g2] at u80
      obtain ⟨h1, v1, v2, v3, v4⟩ := ck_refA (pl := Pl) (ph := Ph) (zf := zf) (w := w) (k := k + 2) kh 7 (s0.2.1 51 n)
      rw [v1, Option.bind_some] at u80
      refine ⟨2, -1, h1, _, wrap 2 h1 ?_, rwrap (-1) _ ?_, ft 7 h1 (by decide) v2 v3 v4⟩
      · unfold b187_0
        exact inq (by decide) (bsq u80 (no21 h1 7 (by decide) v2 v3))
      · unfold s352_0
        refine bsq g56 (bsq (a := (Int32.ofNat i, s)) (by rw [l2 (k2 + 2)]; rfl) (itq im1 (bsq g83 (inq (by decide) (inq ?_ (bsq g50 (bsq (a := (-1, rfS s 7 (s0.2.1 51 n))) (by rw [r_347 (k := k2 + 1) e57]; rfl) rfl)))))))
        show ¬ mx_f1 .eq (s.1 64 &&& bt X.2.1) = true
        rw [r64]
        exact fun z => g2 (of_decide_eq_true z)
    · have ng : sw = true → gn &&& bt X.2.1 = 0 := fun z => Decidable.byContradiction (fun y => gg ⟨z, y⟩)
      -- the heads
      have chead : b187_0 L xs zf (dM L xs zf w (k + 4)) w (some C) (some p) (some pe) (cT tv) (rd_01 sw) h = b187_21 L xs zf (dM L xs zf w (k + 4)) w (some C) (some p) (some pe) (cT tv) (rd_01 sw) (Int32.ofNat i) h := by
        unfold b187_0
        cases hs : sw with
        | false => exact itq (by decide) (bsq (fd_R (o := some q) e2h (by decide)) (bsq l1 rfl))
        | true =>
          rw [if_pos (ng hs)] at u80
          exact inq (by decide) (bsq u80 rfl)
      have rhead : s352_0 (rM w (k2 + 3)) w (Int32.ofNat n) (Int32.ofNat ne) (rTp tv) (rd_01 sw) s = s352_69 (rM w (k2 + 3)) w (Int32.ofNat n) (Int32.ofNat ne) (rTp tv) (Int32.ofNat i) (bt X.2.1) s := by
        unfold s352_0
        refine bsq g56 (bsq (a := (Int32.ofNat i, s)) (by rw [l2 (k2 + 2)]; rfl) (itq im1 (bsq g83 ?_)))
        cases hs : sw with
        | false => exact itq (by decide) rfl
        | true =>
          refine inq (by decide) (itq ?_ rfl)
          show mx_f1 .eq (s.1 64 &&& bt X.2.1) = true
          rw [r64]
          exact decide_eq_true (ng hs)
      -- the class
      obtain ⟨xl, hxl⟩ : ∃ xl : Int32, xl = if i < u 0 then 6 else 0 := ⟨_, rfl⟩
      obtain ⟨xf, hxf⟩ : ∃ xf : Int32, xf = fitC (cT tv) (cT X.2.2.1) := ⟨_, rfl⟩
      obtain ⟨hA, a1, a2, a3, a4⟩ := ck_rfz (pl := Pl) (ph := Ph) (zf := zf) (w := w) (k := k + 3) kh xl (s0.2.1 51 n)
      obtain ⟨hF, b1, b2, b3, b4⟩ := ck_rfz (pl := Pl) (ph := Ph) (zf := zf) (w := w) (k := k + 2) a2 xf (s0.2.1 50 ne)
      obtain ⟨hG, c1, c2, c3, c4⟩ := ck_gone (pl := Pl) (ph := Ph) b2 (gn &&& (bt X.2.1 ^^^ (-1)))
      obtain ⟨h4, u4, A4, B4, m1, m2, m3, m4, m5, m6, m7, m8⟩ := ck_emit (pl := Pl) (ph := Ph) (zf := zf) (w := w) (k := k + 1) c2 hz (if sw = true then 9 else 11) (Int32.ofNat X.2.1)
      have dA := wF_dSn kh a3 dn
      have dF := wF_dSn a2 b3 dA
      have dG := wF_dSn b2 c3 dF
      have d4 := wF_dSn c2 m3 dG
      have f68 : b187_68 L xs zf (dM L xs zf w (k + 4)) w (some C) (some pe) (cT tv) (rd_01 sw) (some d) hA = some (some (.int (cT X.2.2.1)), h4) := by
        have f113 : ∀ op : Int32, (dcV L xs (dM L xs zf w (k + 4)) 175 [4] (some (cx 8)) [.int op, .int (Int32.ofNat X.2.1)] hG).bind dxI = some (Int32.ofNat (u 2), h4) → b187_113 L xs zf (dM L xs zf w (k + 4)) w (some d) op (some (cx 8)) hG = some (some (.int (cT X.2.2.1)), h4) := by
          intro op m1
          unfold b187_113
          exact bsq (fd_I dG.2.1 (by decide)) (bsq m1 (bsq (fd_I d4.2.2 (by decide)) rfl))
        unfold b187_68
        refine bsq (fd_I dA.2.2 (by decide)) (bsq (a := hF) ?_ (bsq (ck_4 b2) (bsq (fd_I dF.2.1 (by decide)) (bsq c1 (bsq (ck_0 c2) ?_)))))
        · rw [c_188 (k := k + 1) a2 (wF_12 a3 (by decide) (bh.1.1 _ _ _ (by decide) pe1)) _ _, ← hxf]
          exact b1
        · cases hs : sw with
          | false =>
            rw [hs, if_neg (by decide)] at m1
            exact itq (by decide) (f113 11 m1)
          | true =>
            rw [hs, if_pos rfl] at m1
            exact inq (by decide) (f113 9 m1)
      have cls : b187_0 L xs zf (dM L xs zf w (k + 4)) w (some C) (some p) (some pe) (cT tv) (rd_01 sw) h = some (some (.int (cT X.2.2.1)), h4) := by
        rw [chead]
        unfold b187_21
        refine itq im1 (bsq (ck_1 kh) (bsq (ck_at kh hd) (bsq (ck_5 kh) ?_)))
        unfold rfz at a1
        by_cases c0 : i < u 0
        · rw [if_pos c0] at hxl
          rw [hxl, if_neg (by decide)] at a1
          exact inq (fun z => gei.mp z c0) (bsq (fd_I e3h (by decide)) (bsq a1 f68))
        · rw [if_neg c0] at hxl
          rw [hxl, if_pos rfl] at a1
          have ea : h = hA := Option.some.inj a1
          exact itq (gei.mpr c0) (by rw [ea]; exact f68)
      have W1 := wF_trans a3 a4 b3
      have K1 := wK2_trans a4 b4 a3.1.1
      have W2 := wF_trans W1 K1 c3
      have K2 := wK2_trans K1 c4 W1.1.1
      have W3 := wF_trans W2 K2 m3
      have K3 := wK2_trans K2 m4 W2.1.1
      -- the reference
      have r53' := r_353 (w := w) (k := k2) (t := tv) (q := X.2.2.1) e57 hne htv.1 h6 w2
      rw [← hxf, s50e] at r53'
      have ref : ∀ R, (xl ≠ 0 → some (some (.int (-1)), rfS s xl (s0.2.1 51 n)) = R) → (xl = 0 → xf ≠ 0 → some (some (.int (-1)), rzS s xf (s0.2.1 50 ne)) = R) → (xl = 0 → xf = 0 → some (some (.int (rTp X.2.2.1)), s52 s n X.2.1) = R) → s352_0 (rM w (k2 + 3)) w (Int32.ofNat n) (Int32.ofNat ne) (rTp tv) (rd_01 sw) s = R := by
        intro R q1 q2 q3
        rw [rhead]
        unfold s352_69
        refine bsq (a := Int32.ofNat X.2.2.2) ((aI_at (by decide) rfl hi' (by decide)).trans (by rw [x4])) ?_
        have r63' : s.1 63 = Int32.ofNat lv := r63
        rw [r63']
        by_cases c0 : i < u 0
        · rw [if_pos c0] at hxl
          rw [if_neg (fun z => ge85.mp z c0), ← q1 (by rw [hxl]; decide), hxl]
          exact bsq g50 (bsq (a := (-1, rfS s 6 (s0.2.1 51 n))) (by rw [r_347 (k := k2 + 1) e57]; rfl) rfl)
        · rw [if_neg c0] at hxl
          rw [if_pos (ge85.mpr c0)]
          refine bsq (a := rTp X.2.2.1) ((aI_at (by decide) rfl hi' (by decide)).trans (by rw [x3])) (bsq (a := (if xf = 0 then 1 else 0, rzS s xf (s0.2.1 50 ne))) (by rw [r53']; rfl) ?_)
          dsimp only
          by_cases c9 : xf = 0
          · have hz : rzS s xf (s0.2.1 50 ne) = s := by unfold rzS; rw [if_pos c9]
            rw [if_pos c9, if_pos (by decide), hz, ← q3 hxl c9]
            refine bsq (a := rs_w s 64 (s.1 64 &&& (bt X.2.1 ^^^ (-1)))) rfl (bsq (a := Int32.ofNat X.2.1) ((aI_at (by decide) rfl hi' (by decide)).trans (by show some (s.2.1 83 i) = _; rw [x2])) (bsq (a := s52 s n X.2.1) (sI_at (i := n) (by decide) rfl hn (by decide)) (bsq (a := rTp X.2.2.1) ((aI_at (i := i) (by decide) rfl hi' (by decide)).trans ?_) rfl)))
            unfold s52
            rw [wA_get, if_neg (fun z => by omega)]
            show some (s.2.1 84 i) = _
            rw [x3]
          · rw [if_neg c9, if_neg (by decide)]
            exact q2 hxl c9
      have p6 : xl = 0 ∨ 0 < xl.toInt := by
        rw [hxl]
        split
        · exact Or.inr (by decide)
        · exact Or.inl rfl
      have pf : xf = 0 ∨ 0 < xf.toInt := by
        rw [hxf]
        unfold fitC
        have f7 : ∀ t w, fit7 t w = 0 ∨ 0 < (fit7 t w).toInt := by
          intro t w
          unfold fit7
          split
          · split
            · exact Or.inl rfl
            · exact Or.inr (by decide)
          · exact Or.inl rfl
        split
        · split
          · exact Or.inl rfl
          · split
            · exact Or.inl rfl
            · exact Or.inr (by decide)
        · split
          · split
            · exact f7 _ _
            · split
              · exact f7 _ _
              · exact Or.inr (by decide)
          · exact Or.inr (by decide)
      by_cases ok : xl = 0 ∧ xf = 0
      · obtain ⟨z1, z2⟩ := ok
        have nl : ¬ i < u 0 := fun z => by
          rw [if_pos z] at hxl
          rw [hxl] at z1
          exact absurd z1 (by decide)
        have k4 : KH L xs cx C Sc M pt vr mv h4 ds (gN G) (gSl G) (gTp G) (gn &&& (bt X.2.1 ^^^ (-1))) (if lv = 0 then 0 else 1) 0 b u4 A4 B4 := by
          rw [z1, z2, fa_0, fb_0, fa_0, fb_0] at m2
          exact m2
        refine ⟨_, _, h4, s52 s n X.2.1, wrap _ _ cls, rwrap _ _ (ref _ (fun y => absurd z1 y) (fun _ y => absurd z2 y) (fun _ _ => rfl)), _, 0, b, u4, A4, B4, CK_up e k4 W3 m6 s52_L ?_, W3, K3, m6, by omega, s52_r hl1 hl2, fun _ => ⟨m8, fun _ _ _ _ _ q => FV_an q, m5, i, X, hX, xc, rfl, rfl, ng, ?_, by rw [← hxf]; exact z2, rfl, m7.1, m7.2, s52_53⟩⟩
        · show (rs_w s 64 (s.1 64 &&& (bt X.2.1 ^^^ (-1)))).1 64 = _
          rw [w_eq, r64]
        · omega
      · have fin := CK_r2 e a2 a3 b2 b3 p6 pf
        have nz : fa (fa 0 xl) xf ≠ 0 := by
          rw [fa_2]
          show (if xl = 0 then xf else xl) ≠ 0
          by_cases c0 : xl = 0
          · rw [if_pos c0]
            exact fun z => ok ⟨c0, z⟩
          · rw [if_neg c0]
            exact c0
        refine ⟨_, -1, h4, (if xl = 0 then rzS s xf (s0.2.1 50 ne) else rfS s xl (s0.2.1 51 n)), wrap _ _ cls, rwrap _ _ (ref _ (fun y => by rw [if_neg y]) (fun y _ => by rw [if_pos y]) (fun y1 y2 => absurd ⟨y1, y2⟩ ok)), _, _, _, u4, A4, B4, CK_fk (CK_fk fin nz c2 c3 rfl) nz m2 m3 m6, W3, K3, m6, by omega, ?_, fun z => absurd z nz⟩
        split
        · exact rzS_r
        · exact fun i _ => ⟨rfl, rfl⟩
  · rw [k1] at l1 l2 l1'
    obtain ⟨h1, v1, v2, v3, v4⟩ := ck_refA (pl := Pl) (ph := Ph) (zf := zf) (w := w) (k := k + 2) kh 3 (s0.2.1 51 n)
    obtain ⟨h1b, v1b, v2b, v3b, v4b⟩ := ck_refA (pl := Pl) (ph := Ph) (zf := zf) (w := w) (k := k + 3) kh 3 (s0.2.1 51 n)
    have ref : s352_0 (rM w (k2 + 3)) w (Int32.ofNat n) (Int32.ofNat ne) (rTp tv) (rd_01 sw) s = some (some (.int (-1)), rfS s 3 (s0.2.1 51 n)) := by
      unfold s352_0
      exact bsq g56 (bsq (a := (-1, s)) (by rw [l2 (k2 + 2)]; rfl) (inq (show ¬ mx_f2 .ne (-1 : Int32) (-1) = true by decide) (bsq g50 (bsq (a := (-1, rfS s 3 (s0.2.1 51 n))) (by rw [r_347 (k := k2 + 1) e57]; rfl) rfl))))
    cases hs : sw with
    | false =>
      rw [hs] at wrap rwrap ref ft
      refine ⟨2, -1, h1b, _, wrap 2 h1b ?_, rwrap (-1) _ ref, ft 3 h1b (by decide) v2b v3b v4b⟩
      unfold b187_0
      refine itq (by decide) (bsq (fd_R (o := some q) e2h (by decide)) (bsq (a := (-1, h)) l1 ?_))
      unfold b187_21
      exact inq (show ¬ mx_f2 .ne (-1 : Int32) (-1) = true by decide) (bsq (fd_I e3h (by decide)) (bsq v1b rfl))
    | true =>
      rw [hs] at wrap rwrap ref ft no21
      have u80 := c_180n (zf := zf) (w := w) (k := k) kh e2h e3h l1'
      rw [v1, Option.bind_some] at u80
      refine ⟨2, -1, h1, _, wrap 2 h1 ?_, rwrap (-1) _ ref, ft 3 h1 (by decide) v2 v3 v4⟩
      unfold b187_0
      exact inq (by decide) (bsq u80 (no21 h1 3 (by decide) v2 v3))
end JPN
