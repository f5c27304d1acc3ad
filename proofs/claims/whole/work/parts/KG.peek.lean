/-! PEEK BY BOTH (280 / 412). -/
/-- Method M of number m, as it is shown -/
def mS1 (L : Nat) (xs : Nat → Int32) (sB : rS) (h : rm_H) (Z : Nat → Prop) (m M : Nat) : Prop := ∃ (fs : List Value) (q pl ar cap : Nat) (ds ts : List Nat), hc h M = some (.inr (11, fs)) ∧ fs[3]? = some (.ref q) ∧ fs[5]? = some (.ref pl) ∧ aL h pl ar cap ds ∧ ¬ Z M ∧ ¬ Z pl ∧ ¬ Z ar ∧ nSz L xs h Z q (if sB.2.1 70 m = 0 then sB.2.2 39 2 else sB.2.2 78 m) ∧ pmT sB m ts ∧ ds.length = ts.length ∧ ts.length ≤ 6 ∧ ∀ (i d t : Nat), ds[i]? = some d → ts[i]? = some t → ∃ dfs, hc h d = some (.inr (10, dfs)) ∧ dfs[7]? = some (.int (cT t)) ∧ ¬ Z d ∧ dTy t = true
def mSh (L : Nat) (xs : Nat → Int32) (sB : rS) (h : rm_H) (Z : Nat → Prop) (es : List Nat) : Prop := ∀ m, mRl sB m → m < 72 → ∃ M, es[m]? = some M ∧ mS1 L xs sB h Z m M
section PEE
variable {L : Nat} {xs : Nat → Int32} {zf : Value} {w k k2 n P b m c N cn sn a M e0 bt0 np p0 s0 sz : Nat} {st dep i1 i2 : Int32} {h h1 h2 h' : rm_H} {s s' sB sA0 : rS} {Zx Z1 Z2 : Nat → Prop} {kc : kCi} {sg : cS} {ka : kAp} {om : oMg} {la : lAy} {ms : mSg} {mk mk' sa sc A B : Nat → Int32} {mi : Nat → Nat × Nat × Nat × Nat × Nat} {D : Nat → Nat} {x : Nat → Nat → fDs} {v : Int64} {es ts : List Nat}
theorem mS1_m (z5 : ¬ Z2 5) (f : sFx h1 Z1 h2 Z2) (y : mS1 L xs sB h1 Z1 m M) : mS1 L xs sB h2 Z2 m M := by
  obtain ⟨fs, q, pl, ar, cap, ds, ts, a1, a2, a3, a4, a5, a6, a7, a8, a9, a10, a11, a12⟩ := y
  obtain ⟨b1, b2, b3⟩ := aL_m z5 f a4 a6 a7
  refine ⟨fs, q, pl, ar, cap, ds, ts, (f _ _ a1 a5).1, a2, a3, b1, (f _ _ a1 a5).2, b2, b3, nSz_m f a8, a9, a10, a11, fun i d t hd ht => ?_⟩
  obtain ⟨dfs, c1, c2, c3, c4⟩ := a12 i d t hd ht
  exact ⟨dfs, (f _ _ c1 c3).1, c2, (f _ _ c1 c3).2, c4⟩
theorem mSh_m (z5 : ¬ Z2 5) (f : sFx h1 Z1 h2 Z2) (y : mSh L xs sB h1 Z1 es) : mSh L xs sB h2 Z2 es := fun m hm h72 => by
  obtain ⟨M, e1, e2⟩ := y m hm h72
  exact ⟨M, e1, mS1_m z5 f e2⟩
/-- the arguments by both -/
theorem pk_l (hw : 500 ≤ w) (z5 : ¬ Zx 5) (hz : ∀ y, Zr n sg y → y < 30 ∨ 35 < y) (ls : lSh kc om ka la sg sA0 (om.2.2.2.1 (12 + s0)) 107 (400 * s0)) (wa : ∀ a, a < ka.2.2.2 → ka.2.1 a < 8 ∧ (kc (ka.2.1 a)).1 ≤ 8 ∧ sA0.2.1 89 a = Int32.ofNat (ka.2.1 a)) (ob4 : ka.2.2.1 ≤ 400) (ac : ka.2.2.2 ≤ 12) (fx0 : fxR sB sA0) (tot : sU (fun i => (kc (ka.1 (i + 1))).1 + 1) ka.2.2.1 ≤ 400) (m72 : m < 72) (pm : pmT sB m ts) (t6 : ts.length ≤ 6) (s72 : s0 < 72) (an : a < n) (hf : sg.2.2.1 a 11 = Int32.ofNat e0) (f6 : e0 < 6) (j6 : bt0 ≤ 6)
    (arg : ∀ i t, ts[i]? = some t → vAl om ka (12 + s0) t (om.1 (pM s0 i)) ∧ sg.2.2.2.1 a 10 ((e0 + bt0) % 6 * 7 + 1 + i) = cvl (om.1 (pM s0 i)) ∧ sA0.2.2 106 (6 * s0 + i) = om.1 (pM s0 i)) :
    ∀ (r i : Nat) (h : rm_H) (s : rS) (b mm c : Nat) (dep : Int32) (mk sa sc : Nat → Int32) (N N2 : Nat), i + r = ts.length → oL4 sA0 s → kSh L xs sB kc h (Zb Zx b) P → mS1 L xs sB h (Zb Zx b) m M → RH (.ref P) n sg (Zr n sg) h h → oTx h s b mm c st dep mk sa sc → (∀ o, o ≤ 400 → s.2.1 112 o = if mk o = st then 1 else 0) → c + 31000 * r ≤ 300000 → r < N → r < N2 →
    ∃ (h' : rm_H) (s' : rS) (b' m' c' : Nat) (dep' : Int32) (mk' sa' sc' : Nat → Int32), b281_49 L xs zf (dM L xs zf w (k + 10)) w N (some 30) (some 24) (some (sg.2.2.2.2 a 0)) (Int32.ofNat bt0) (some M) (Int32.ofNat i) h = some (none, h') ∧ s412_87 (rM w (k2 + 4)) w N2 (Int32.ofNat s0) (Int32.ofNat m) (Int32.ofNat i) s = some (some (.int (Int32.ofNat c')), s') ∧ oTx h' s' b' m' c' st dep' mk' sa' sc' ∧ tCh h b mm h' b' m' ∧ oL4 s s' ∧ (∀ o, mk' o = mk o ∨ mk' o = st) ∧ c' ≤ c + 31000 * r + 1 := by
  obtain ⟨p0, p1, p2, p3, p4⟩ := id pm
  intro r
  induction r with
  | zero =>
    intro i h s b mm c dep mk sa sc N N2 hi l4 ks mz rh ot mr hcc hN hN2
    obtain ⟨N, rfl⟩ : ∃ x, N = x + 1 := ⟨N - 1, by omega⟩
    obtain ⟨N2, rfl⟩ : ∃ x, N2 = x + 1 := ⟨N2 - 1, by omega⟩
    have fx := fxR_4 fx0 l4
    obtain ⟨fs, q, pl, ar, cap, ds, ts', a1, a2, a3, a4, a5, a6, a7, a8, a9, a10, a11, a12⟩ := id mz
    have et := pm_u a9 pm
    subst et
    obtain ⟨h1, s1, b1, m1, g1, g2, g3, g4, g5⟩ := l_cl (L := L) (xs := xs) (zf := zf) (w := w) (k := k + 3) (k2 := k2 + 3) (d := 41) ot (by omega) (by decide)
    refine ⟨h1, s1, b1, m1, c + 1, dep, mk, sa, sc, ?_, ?_, g3, g4, oL4_s g5, fun _ => Or.inl rfl, by omega⟩
    · unfold b281_49
      refine bse (hc_gR (p := some pl) a1 a3 (by decide)) (bse (a := (Int32.ofNat ds.length, h)) (by rw [al_v a4, al_size a4]; rfl) (ift ?_ (bse g1 rfl)))
      rw [f2_ge, of_int (by omega), of_int (by omega)]
      exact decide_eq_true (by omega)
    · unfold s412_87
      refine bse (a := Int32.ofNat (p0 + ts'.length)) ?_ (bse (a := Int32.ofNat p0) ?_ (ift ?_ (bse g2 ?_)))
      · rw [of_inc, aI_at (by decide) rfl (by omega) (by decide), fx.1 77 (by decide)]
        exact congrArg some p2
      · rw [aI_at (by decide) rfl (by omega) (by decide), fx.1 77 (by decide)]
        exact congrArg some p1
      · rw [show Int32.ofNat (p0 + ts'.length) - Int32.ofNat p0 = Int32.ofNat ts'.length from by rw [Nat.add_comm, Int32.ofNat_add, Int32.add_sub_cancel], f2_ge, of_int (by omega), of_int (by omega)]
        exact decide_eq_true (by omega)
      · rw [g3.2.2.2.2.1]
        rfl
  | succ r ih =>
    intro i h s b mm c dep mk sa sc N N2 hi l4 ks mz rh ot mr hcc hN hN2
    obtain ⟨N, rfl⟩ : ∃ x, N = x + 1 := ⟨N - 1, by omega⟩
    obtain ⟨N2, rfl⟩ : ∃ x, N2 = x + 1 := ⟨N2 - 1, by omega⟩
    have fx := fxR_4 fx0 l4
    obtain ⟨fs, q, pl, ar, cap, ds, ts', a1, a2, a3, a4, a5, a6, a7, a8, a9, a10, a11, a12⟩ := id mz
    have et := pm_u a9 pm
    subst et
    obtain ⟨t, ht⟩ : ∃ t, ts'[i]? = some t := ⟨ts'[i]'(by omega), List.getElem?_eq_getElem (by omega)⟩
    obtain ⟨vt, hcv, h106⟩ := arg i t ht
    -- the comma
    obtain ⟨h6, s6, b6, m6, c6, ot6, tc6, ol6, hc6, cl6, rl6⟩ : ∃ (h6 : rm_H) (s6 : rS) (b6 m6 c6 : Nat), oTx h6 s6 b6 m6 c6 st dep mk sa sc ∧ tCh h b mm h6 b6 m6 ∧ oLs s s6 ∧ c6 ≤ c + 1 ∧ (∀ X, b281_75 L xs zf (dM L xs zf w (k + 10)) w (b281_49 L xs zf (dM L xs zf w (k + 10)) w N) (some 30) (some 24) (some (sg.2.2.2.2 a 0)) (Int32.ofNat bt0) (some M) (Int32.ofNat i) h6 = some X → (if mx_f1 .le (Int32.ofNat i) = true then b281_75 L xs zf (dM L xs zf w (k + 10)) w (b281_49 L xs zf (dM L xs zf w (k + 10)) w N) (some 30) (some 24) (some (sg.2.2.2.2 a 0)) (Int32.ofNat bt0) (some M) (Int32.ofNat i) h else ((dcV L xs (dM L xs zf w (k + 10)) 276 [3] (some 30) [.int 44] h).bind dxV).bind fun h13 => b281_75 L xs zf (dM L xs zf w (k + 10)) w (b281_49 L xs zf (dM L xs zf w (k + 10)) w N) (some 30) (some 24) (some (sg.2.2.2.2 a 0)) (Int32.ofNat bt0) (some M) (Int32.ofNat i) h13) = some X) ∧ (∀ X, s412_120 (rM w (k2 + 4)) w (s412_87 (rM w (k2 + 4)) w N2) (Int32.ofNat s0) (Int32.ofNat m) (Int32.ofNat i) s6 = some X → (if mx_f1 .le (Int32.ofNat i) = true then s412_120 (rM w (k2 + 4)) w (s412_87 (rM w (k2 + 4)) w N2) (Int32.ofNat s0) (Int32.ofNat m) (Int32.ofNat i) s else ((rM w (k2 + 4) 410 [.ref 36, .int 44] s).bind rxV).bind fun s12 => s412_120 (rM w (k2 + 4)) w (s412_87 (rM w (k2 + 4)) w N2) (Int32.ofNat s0) (Int32.ofNat m) (Int32.ofNat i) s12) = some X) := by
      by_cases fz : i = 0
      · have le0 : mx_f1 .le (Int32.ofNat i) = true := by rw [fz]; decide
        exact ⟨h, s, b, mm, c, ot, tCh_r _ _ _, oLs_r _, by omega, fun X hX => ift le0 hX, fun X hX => ift le0 hX⟩
      · have le0 : ¬ mx_f1 .le (Int32.ofNat i) = true := by
          rw [f1_le, of_int (by omega)]
          exact fun z => absurd (of_decide_eq_true z) (by omega)
        obtain ⟨h6, s6, b6, m6, g1, g2, g3, g4, g5⟩ := l_cl (L := L) (xs := xs) (zf := zf) (w := w) (k := k + 3) (k2 := k2 + 3) (d := 44) ot (by omega) (by decide)
        exact ⟨h6, s6, b6, m6, c + 1, g3, g4, g5, Nat.le_refl _, fun X hX => ifn le0 (bse g1 hX), fun X hX => ifn le0 (bse g2 hX)⟩
    have z56 : ¬ Zb Zx b6 5 := Zb_5 z5 (oTx_b ot6).1
    have ks6 := kSh_m z56 (tCh_f (Zx := Zx) tc6) ks
    have mz6 := mS1_m z56 (tCh_f (Zx := Zx) tc6) mz
    have rh6 := RH_tl rh hz ot tc6
    obtain ⟨fs', q', pl', ar', cap', ds', ts2, b1, b2, b3, b4, b5, b6', b7, b8, b9, b10, b11, b12⟩ := id mz6
    have et2 := pm_u b9 pm
    subst et2
    obtain ⟨d, hd⟩ : ∃ d, ds'[i]? = some d := ⟨ds'[i]'(by omega), List.getElem?_eq_getElem (by omega)⟩
    obtain ⟨dfs, d1, d2, d3, d4⟩ := b12 i d t hd ht
    obtain ⟨h9, s9, b9', m9, c9, mk9, sa9, sc9, i1', i2', i3, i4, i5, ⟨i6, i6b⟩, i7⟩ := b_273 (L := L) (xs := xs) (zf := zf) (w := w) (k := k) (k2 := k2) (v := om.1 (pM s0 i)) hw z5 hz ls wa ob4 ac fx0 tot (oL4_t l4 (oL4_s ol6)) ks6 rh6 ot6 (fun o ho => by rw [ol6.2.1 112 (by decide)]; exact mr o ho) (by omega) d4 (vTy_z d4 vt.1) vt.2
    have tc9 := tCh_t tc6 i4
    have z59 : ¬ Zb Zx b9' 5 := Zb_5 z5 (oTx_b i3).1
    obtain ⟨hE, sE, bE, mE, cE, dE, mkE, saE, scE, g1, g2, g3, g4, g5, g6, g7⟩ := ih (i + 1) h9 s9 b9' m9 c9 0 mk9 sa9 sc9 N N2 (by omega) (oL4_t l4 (oL4_t (oL4_s ol6) i5)) (kSh_m z59 (tCh_f (Zx := Zx) tc9) ks) (mS1_m z59 (tCh_f (Zx := Zx) tc9) mz) (RH_tl rh hz ot tc9) i3 i6 (by omega) (by omega) (by omega)
    refine ⟨hE, sE, bE, mE, cE, dE, mkE, saE, scE, ?_, ?_, g3, tCh_t tc9 g4, oL4_t (oL4_s ol6) (oL4_t i5 g5), fun o => ?_, by omega⟩
    · unfold b281_49
      refine bse (hc_gR (p := some pl) a1 a3 (by decide)) (bse (a := (Int32.ofNat ds.length, h)) (by rw [al_v a4, al_size a4]; rfl) (ifn ?_ (cl6 _ ?_)))
      · rw [f2_ge, of_int (by omega), of_int (by omega)]
        exact fun z => absurd (of_decide_eq_true z) (by omega)
      unfold b281_75
      refine bse (hc_gR (p := some pl') b1 b3 (by decide)) (bse (a := (some d, h6)) (by rw [al_v b4, al_get (k := k + 7) b4 i hd]; rfl) (ifn (by rw [ck_of d1]; decide) (bse (hc_gI d1 d2 (by decide)) (bse (a := (cvl (om.1 (pM s0 i)), h6)) ?_ (bse (a := h9) ?_ ?_)))))
      · have ea : hc h6 (sg.2.2.2.2 a 0) = some (aCel sg a) := RH_a (r := 0) rh6 an (by decide)
        rw [hc_v ea (by decide), k_ma (k := k + 7) rh6 an hf f6 j6 (by omega), hcv]
        rfl
      · rw [hc_v ot6.1 (by decide)]
        show (dM L xs zf w (k + 10) 273 [.ref 30, .ref 24, .int (cT t), .int (cvl (om.1 (pM s0 i)))] h6).bind dxV = _
        rw [i1']
        rfl
      · rw [of_inc]
        exact g1
    · unfold s412_87
      refine bse (a := Int32.ofNat (p0 + ts2.length)) ?_ (bse (a := Int32.ofNat p0) ?_ (ifn ?_ (rl6 _ ?_)))
      · rw [of_inc, aI_at (by decide) rfl (by omega) (by decide), fx.1 77 (by decide)]
        exact congrArg some p2
      · rw [aI_at (by decide) rfl (by omega) (by decide), fx.1 77 (by decide)]
        exact congrArg some p1
      · rw [show Int32.ofNat (p0 + ts2.length) - Int32.ofNat p0 = Int32.ofNat ts2.length from by rw [Nat.add_comm, Int32.ofNat_add, Int32.add_sub_cancel], f2_ge, of_int (by omega), of_int (by omega)]
        exact fun z => absurd (of_decide_eq_true z) (by omega)
      unfold s412_120
      refine bse (a := om.1 (pM s0 i)) ?_ (bse (a := s9) ?_ ?_)
      · rw [show (6 : Int32) = Int32.ofNat 6 from rfl, ← Int32.ofNat_mul, ← Int32.ofNat_add, aJ_at (by decide) rfl (by omega) (by decide), ol6.2.2, l4.2.2, h106]
      · rw [show (400 : Int32) * Int32.ofNat s0 = Int32.ofNat (400 * s0) from by rw [Int32.ofNat_mul]; rfl, i2']
        rfl
      · rw [of_inc]
        exact g2
    · rcases g6 o with z | z
      · rw [z]
        exact i6b o
      · exact Or.inr z
end PEE
