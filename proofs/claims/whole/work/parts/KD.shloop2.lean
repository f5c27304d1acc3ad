/-! THE LOOP OF SHOW BY BOTH (273 / 407). -/
/-- where the loop stands -/
def lSt (kc : kCi) (ka : kAp) (Kp : Nat → Prop) (st : Int32) (s : rS) (dn : Nat) (mk sa sc : Nat → Int32) (O F : Nat → Nat) : Prop := (∀ j, j < dn → sa j = Int32.ofNat (O j) ∧ sc j = Int32.ofNat (F j) ∧ s.2.1 113 j = Int32.ofNat (O j) ∧ s.2.1 114 j = Int32.ofNat (F j) ∧ Kp (O j) ∧ F j ≤ (kc (ka.1 (O j))).1) ∧ ∀ o, o ≤ 400 → s.2.1 112 o = if mk o = st then 1 else 0
/-- how many turns are left -/
def lPo (kc : kCi) (ka : kAp) (st : Int32) (dn : Nat) (mk : Nat → Int32) (O F : Nat → Nat) : Nat := sU (fun i => if mk (i + 1) = st then 0 else (kc (ka.1 (i + 1))).1 + 1) ka.2.2.1 + sU (fun j => (kc (ka.1 (O j))).1 - F j + 1) dn
section SL2
variable {L : Nat} {xs : Nat → Int32} {zf : Value} {w k k2 n P bs row : Nat} {st : Int32} {s0 sB : rS} {Zx Kp : Nat → Prop} {kc : kCi} {sg : cS} {ka : kAp} {om : oMg} {la : lAy}
theorem of_m1 (m : Nat) : Int32.ofNat (m + 1) + (-1) = Int32.ofNat m := by
  rw [← Int32.sub_eq_add_neg]
  exact of_dec m
theorem fxR_4 {s : rS} (fx : fxR sB s0) (l : oL4 s0 s) : fxR sB s := ⟨fun p hp => (l.2.1 p (by omega)).trans (fx.1 p hp), fun p hp => by rw [l.2.2]; exact fx.2 p hp⟩
theorem mk_u {mk mk9 : Nat → Int32} {o' : Nat} (e : ∀ o, mk9 o = upd mk o' st o ∨ mk9 o = st) : ∀ o, mk9 o = mk o ∨ mk9 o = st := fun o => by
  rcases e o with z | z
  · by_cases q : o = o'
    · rw [q, upd_eq'] at z
      exact Or.inr (by rw [q]; exact z)
    · rw [upd_ne' q] at z
      exact Or.inl z
  · exact Or.inr z
/-- THE LOOP BY BOTH -/
theorem b_lp (hw : 20 ≤ w) (z5 : ¬ Zx 5) (hz : ∀ y, Zr n sg y → y < 30 ∨ 35 < y) (ls : lSh kc om ka la sg s0 Kp row bs) (wa : ∀ a, a < ka.2.2.2 → ka.2.1 a < 8 ∧ (kc (ka.2.1 a)).1 ≤ 8 ∧ s0.2.1 89 a = Int32.ofNat (ka.2.1 a)) (ob4 : ka.2.2.1 ≤ 400) (ac : ka.2.2.2 ≤ 12) (fx0 : fxR sB s0) :
    ∀ (U : Nat) (h : rm_H) (s : rS) (b m c dn : Nat) (mk sa sc : Nat → Int32) (O F : Nat → Nat) (tn N N2 : Nat), oL4 s0 s → kSh L xs sB kc h (Zb Zx b) P → RH (.ref P) n sg (Zr n sg) h h → oTx h s b m c st (Int32.ofNat dn) mk sa sc → lSt kc ka Kp st s dn mk sa sc O F → lPo kc ka st dn mk O F ≤ U → tn + U ≤ 400 → U < N → U < N2 → c + 70 * U ≤ 900000 →
    ∃ (h' : rm_H) (s' : rS) (b' m' c' : Nat) (mk' sa' sc' : Nat → Int32), b273_15 L xs zf (dM L xs zf w (k + 9)) w N (some 30) (some 24) (Int32.ofNat tn) h = some (none, h') ∧ s407_29 (rM w (k2 + 3)) w N2 (some row) (Int32.ofNat bs) (Int32.ofNat dn) s = some (none, s') ∧ oTx h' s' b' m' c' st 0 mk' sa' sc' ∧ tCh h b m h' b' m' ∧ oL4 s s' ∧ ((∀ o, o ≤ 400 → s'.2.1 112 o = if mk' o = st then 1 else 0) ∧ ∀ o, mk' o = mk o ∨ mk' o = st) ∧ c' ≤ c + 70 * U := by
  have dnb : ∀ (dn : Nat) (mk : Nat → Int32) (O F : Nat → Nat), dn ≤ lPo kc ka st dn mk O F := fun dn mk O F => by
    have := sU_ge (f := fun j => (kc (ka.1 (O j))).1 - F j + 1) dn (fun j _ => Nat.le_add_left _ _)
    unfold lPo
    omega
  have stop : ∀ (U : Nat) (h : rm_H) (s : rS) (b m c : Nat) (mk sa sc : Nat → Int32) (O F : Nat → Nat) (tn N N2 : Nat), oTx h s b m c st (Int32.ofNat 0) mk sa sc → lSt kc ka Kp st s 0 mk sa sc O F → tn ≤ 400 → U < N → U < N2 → ∃ (h' : rm_H) (s' : rS) (b' m' c' : Nat) (mk' sa' sc' : Nat → Int32), b273_15 L xs zf (dM L xs zf w (k + 9)) w N (some 30) (some 24) (Int32.ofNat tn) h = some (none, h') ∧ s407_29 (rM w (k2 + 3)) w N2 (some row) (Int32.ofNat bs) (Int32.ofNat 0) s = some (none, s') ∧ oTx h' s' b' m' c' st 0 mk' sa' sc' ∧ tCh h b m h' b' m' ∧ oL4 s s' ∧ ((∀ o, o ≤ 400 → s'.2.1 112 o = if mk' o = st then 1 else 0) ∧ ∀ o, mk' o = mk o ∨ mk' o = st) ∧ c' ≤ c + 70 * U := by
    intro U h s b m c mk sa sc O F tn N N2 ot lst htn hN hN2
    obtain ⟨N, rfl⟩ : ∃ x, N = x + 1 := ⟨N - 1, by omega⟩
    obtain ⟨N2, rfl⟩ : ∃ x, N2 = x + 1 := ⟨N2 - 1, by omega⟩
    refine ⟨h, s, b, m, c, mk, sa, sc, ?_, ?_, ot, tCh_r h b m, oL4_r s, ⟨lst.2, fun _ => Or.inl rfl⟩, by omega⟩
    · unfold b273_15
      refine ifn (by rw [f2_ge, of_int (by omega), show (800 : Int32).toInt = 800 from by decide]; exact fun z => absurd (of_decide_eq_true z) (by omega)) ?_
      exact bse (hc_gI ot.1 rfl (by decide)) (ift (by decide) rfl)
    · unfold s407_29
      exact ift (by decide) rfl
  intro U
  induction U with
  | zero =>
    intro h s b m c dn mk sa sc O F tn N N2 l4 ks rh ot lst po ht hN hN2 hcc
    have := dnb dn mk O F
    have e0 : dn = 0 := by omega
    subst e0
    exact stop 0 h s b m c mk sa sc O F tn N N2 ot lst (by omega) hN hN2
  | succ U ih =>
    intro h s b m c dn mk sa sc O F tn N N2 l4 ks rh ot lst po ht hN hN2 hcc
    cases dn with
    | zero => exact stop (U + 1) h s b m c mk sa sc O F tn N N2 ot lst (by omega) hN hN2
    | succ dn =>
    have dnp := dnb (dn + 1) mk O F
    obtain ⟨N, rfl⟩ : ∃ x, N = x + 1 := ⟨N - 1, by omega⟩
    obtain ⟨N2, rfl⟩ : ∃ x, N2 = x + 1 := ⟨N2 - 1, by omega⟩
    obtain ⟨esa, esc, r113, r114, kp, ffl⟩ := lst.1 dn (by omega)
    obtain ⟨o1, o2, kno⟩ := ls.2.1 (O dn) kp
    obtain ⟨⟨k8, f8⟩, p1, p2, p3, p4, p5, p6, p7⟩ := ls.1 (O dn) o1 o2
    have fx := fxR_4 fx0 l4
    obtain ⟨K, kz, cF, cP⟩ := lp_c (L := L) (xs := xs) (zf := zf) (w := w) (k := k) (N := N) (tn := tn) ot rh ks esa esc (by omega) (by omega) (by omega) p1 (by omega) p2 k8 f8 ffl
    obtain ⟨fs, nq, fl, af, cf, f0, ds, q1, q2, q3, q4, q5, q6, q7, q8, q9, q10, q11, q12, q13⟩ := id kz
    -- the reference's turn begins
    have r87 : s.2.1 87 (O dn) = Int32.ofNat (ka.1 (O dn)) := by rw [l4.2.1 87 (by decide)]; exact p3
    have r373 : (rM w (k2 + 3) 373 [.ref 36, .int (Int32.ofNat (ka.1 (O dn)))] s).bind rxI = some (Int32.ofNat (kc (ka.1 (O dn))).1, s) := by
      rw [r_373 (k := k2 + 2) (nf := (kc (ka.1 (O dn))).1) (f0 := f0) k8 (by rw [fx.1 64 (by decide)]; exact q10) (by rw [fx.1 64 (by decide), ← q9]; exact q11) (by omega)]
      rfl
    have rhd : ∀ X, (if mx_f2 .ne (Int32.ofNat (F dn)) (Int32.ofNat (kc (ka.1 (O dn))).1) = true then (rs_aI s 114 (Int32.ofNat (dn + 1) - 1)).bind fun x14 => (rs_sI s 114 (Int32.ofNat (dn + 1) - 1) (x14 + 1)).bind fun s16 => if mx_f1 .le (Int32.ofNat (F dn)) = true then s407_112 (rM w (k2 + 3)) w (s407_29 (rM w (k2 + 3)) w N2) (some row) (Int32.ofNat bs) (Int32.ofNat (dn + 1)) (Int32.ofNat (O dn)) (Int32.ofNat (F dn)) (Int32.ofNat (ka.1 (O dn))) s16 else ((rM w (k2 + 3) 410 [.ref 36, .int 44] s16).bind rxV).bind fun s22 => s407_112 (rM w (k2 + 3)) w (s407_29 (rM w (k2 + 3)) w N2) (some row) (Int32.ofNat bs) (Int32.ofNat (dn + 1)) (Int32.ofNat (O dn)) (Int32.ofNat (F dn)) (Int32.ofNat (ka.1 (O dn))) s22 else ((rM w (k2 + 3) 410 [.ref 36, .int 125] s).bind rxV).bind fun s27 => s407_29 (rM w (k2 + 3)) w N2 (some row) (Int32.ofNat bs) (Int32.ofNat (dn + 1) + (-1)) s27) = some X → s407_29 (rM w (k2 + 3)) w (N2 + 1) (some row) (Int32.ofNat bs) (Int32.ofNat (dn + 1)) s = some X := by
      intro X hX
      unfold s407_29
      refine ifn (by rw [f1_le, of_int (by omega)]; exact fun z => absurd (of_decide_eq_true z) (by omega)) ?_
      refine bse (a := Int32.ofNat (O dn)) ?_ (bse (a := Int32.ofNat (F dn)) ?_ (bse (a := Int32.ofNat (ka.1 (O dn))) ?_ (bse r373 hX)))
      · rw [of_dec, aI_at (by decide) rfl (by omega) (by decide), r113]
      · rw [of_dec, aI_at (by decide) rfl (by omega) (by decide), r114]
      · rw [aI_at (by decide) rfl (by omega) (by decide), r87]
    by_cases lt : F dn < (kc (ka.1 (O dn))).1
    · -- a field
      obtain ⟨h5, w1, ot5, tc5⟩ := oT_35 (i := dn) ot (by omega) (Int32.ofNat (F dn) + 1)
      have ot5' : oTx h5 (rs_wA s 114 dn (Int32.ofNat (F dn) + 1)) b m c st (Int32.ofNat (dn + 1)) mk sa (upd sc dn (Int32.ofNat (F dn) + 1)) := oTx_s ot5 rfl (wA_ne _ _ _ (by decide))
      have l5 : oL4 s (rs_wA s 114 dn (Int32.ofNat (F dn) + 1)) := oL4_w (by decide)
      obtain ⟨h6, s6, b6, m6, c6, ot6, tc6, ol6, hc6, cl6, rl6⟩ : ∃ (h6 : rm_H) (s6 : rS) (b6 m6 c6 : Nat), oTx h6 s6 b6 m6 c6 st (Int32.ofNat (dn + 1)) mk sa (upd sc dn (Int32.ofNat (F dn) + 1)) ∧ tCh h5 b m h6 b6 m6 ∧ oLs (rs_wA s 114 dn (Int32.ofNat (F dn) + 1)) s6 ∧ c6 ≤ c + 1 ∧ (∀ X, b273_142 L xs zf (dM L xs zf w (k + 9)) w (b273_15 L xs zf (dM L xs zf w (k + 9)) w N) (some 30) (some 24) (Int32.ofNat tn) (Int32.ofNat (O dn)) (Int32.ofNat (F dn)) (some K) h6 = some X → (if mx_f1 .le (Int32.ofNat (F dn)) = true then b273_142 L xs zf (dM L xs zf w (k + 9)) w (b273_15 L xs zf (dM L xs zf w (k + 9)) w N) (some 30) (some 24) (Int32.ofNat tn) (Int32.ofNat (O dn)) (Int32.ofNat (F dn)) (some K) h5 else ((dcV L xs (dM L xs zf w (k + 9)) 276 [3] (some 30) [.int 44] h5).bind dxV).bind fun h61 => b273_142 L xs zf (dM L xs zf w (k + 9)) w (b273_15 L xs zf (dM L xs zf w (k + 9)) w N) (some 30) (some 24) (Int32.ofNat tn) (Int32.ofNat (O dn)) (Int32.ofNat (F dn)) (some K) h61) = some X) ∧ (∀ X, s407_112 (rM w (k2 + 3)) w (s407_29 (rM w (k2 + 3)) w N2) (some row) (Int32.ofNat bs) (Int32.ofNat (dn + 1)) (Int32.ofNat (O dn)) (Int32.ofNat (F dn)) (Int32.ofNat (ka.1 (O dn))) s6 = some X → (if mx_f1 .le (Int32.ofNat (F dn)) = true then s407_112 (rM w (k2 + 3)) w (s407_29 (rM w (k2 + 3)) w N2) (some row) (Int32.ofNat bs) (Int32.ofNat (dn + 1)) (Int32.ofNat (O dn)) (Int32.ofNat (F dn)) (Int32.ofNat (ka.1 (O dn))) (rs_wA s 114 dn (Int32.ofNat (F dn) + 1)) else ((rM w (k2 + 3) 410 [.ref 36, .int 44] (rs_wA s 114 dn (Int32.ofNat (F dn) + 1))).bind rxV).bind fun s22 => s407_112 (rM w (k2 + 3)) w (s407_29 (rM w (k2 + 3)) w N2) (some row) (Int32.ofNat bs) (Int32.ofNat (dn + 1)) (Int32.ofNat (O dn)) (Int32.ofNat (F dn)) (Int32.ofNat (ka.1 (O dn))) s22) = some X) := by
        by_cases fz : F dn = 0
        · have le0 : mx_f1 .le (Int32.ofNat (F dn)) = true := by rw [fz]; decide
          exact ⟨h5, _, b, m, c, ot5', tCh_r _ _ _, oLs_r _, by omega, fun X hX => ift le0 hX, fun X hX => ift le0 hX⟩
        · have le0 : ¬ mx_f1 .le (Int32.ofNat (F dn)) = true := by
            rw [f1_le, of_int (by omega)]
            exact fun z => absurd (of_decide_eq_true z) (by omega)
          obtain ⟨h6, s6, b6, m6, a1, a2, a3, a4, a5⟩ := l_cl (L := L) (xs := xs) (zf := zf) (w := w) (k := k + 2) (k2 := k2 + 2) (d := 44) ot5' (by omega) (by decide)
          exact ⟨h6, s6, b6, m6, c + 1, a3, a4, a5, Nat.le_refl _, fun X hX => ifn le0 (bse a1 hX), fun X hX => ifn le0 (bse a2 hX)⟩
      have tc06 := tCh_t tc5 tc6
      have l6 : oL4 s s6 := oL4_t l5 (oL4_s ol6)
      have rh6 := RH_tl rh hz ot tc06
      have z56 : ¬ Zb Zx b6 5 := Zb_5 z5 (oTx_b ot6).1
      have kz6 := kS1_m z56 (tCh_f (Zx := Zx) tc06) kz
      have ks6 := kSh_m z56 (tCh_f (Zx := Zx) tc06) ks
      obtain ⟨vt, hcv⟩ := p7 (F dn) lt
      obtain ⟨hsv, kcl⟩ := kno (F dn) lt
      obtain ⟨h2, s2, b2, m2, c2, ot2, tc2, ol2, hc2, cl2, rl2⟩ := lp_f (L := L) (xs := xs) (zf := zf) (w := w) (k := k) (k2 := k2) (i4 := Int32.ofNat tn) (i5 := Int32.ofNat (dn + 1)) hw z5 hz ot6 (by omega) rh6 kz6 (fxR_4 fx l6) k8 f8 lt (by omega) p1 p5 hcv (by rw [l6.2.1 88 (by decide), l4.2.1 88 (by decide)]; exact p4) p6 ls.2.2 (by rw [l6.2.2, l4.2.2]; exact hsv) (b273_15 L xs zf (dM L xs zf w (k + 9)) w N) (s407_29 (rM w (k2 + 3)) w N2)
      have tc02 := tCh_t tc06 tc2
      have l2 : oL4 s s2 := oL4_t l6 (oL4_s ol2)
      have l02 := oL4_t l4 l2
      have rh2 := RH_tl rh hz ot tc02
      have z52 : ¬ Zb Zx b2 5 := Zb_5 z5 (oTx_b ot2).1
      have ks2 := kSh_m z52 (tCh_f (Zx := Zx) tc02) ks
      have dty : dTy ((kc (ka.1 (O dn))).2.1 (F dn)) = true := by
        obtain ⟨d, hd⟩ : ∃ d, ds[F dn]? = some d := ⟨ds[F dn]'(by omega), List.getElem?_eq_getElem (by omega)⟩
        obtain ⟨_, _, _, _, _, _, _, d6⟩ := q13 _ d hd
        exact d6
      have ws2 : wSh kc ka s2 := ⟨fun o h1 h2 => ⟨(ls.1 o h1 h2).1.1, (ls.1 o h1 h2).1.2, by rw [l02.2.1 87 (by decide)]; exact (ls.1 o h1 h2).2.2.2.1⟩, fun a ha => ⟨(wa a ha).1, (wa a ha).2.1, by rw [l02.2.1 89 (by decide)]; exact (wa a ha).2.2⟩, ob4, ac⟩
      have mr2 : ∀ o, o ≤ 400 → s2.2.1 112 o = if mk o = st then 1 else 0 := fun o ho => by
        rw [ol2.2.1 112 (by decide), ol6.2.1 112 (by decide)]
        exact lst.2 o ho
      have r3 : ∀ p, p = 113 ∨ p = 114 → s2.2.1 p = (rs_wA s 114 dn (Int32.ofNat (F dn) + 1)).2.1 p := fun p hp => by
        rw [ol2.2.1 p (by omega), ol6.2.1 p (by omega)]
      have n2e : mx_f2 .ne (Int32.ofNat (F dn)) (Int32.ofNat (kc (ka.1 (O dn))).1) = true := by
        rw [f2_ne]
        refine decide_eq_true (fun z => ?_)
        have := ofn_inj (by omega) (by omega) z
        omega
      have cgo : ∀ h' X, dM L xs zf w (k + 9) 274 [.ref 30, .ref 24, .int (cT ((kc (ka.1 (O dn))).2.1 (F dn))), .int (cvl (om.1 (pO (O dn) (F dn))))] h2 = some (none, h') → b273_15 L xs zf (dM L xs zf w (k + 9)) w N (some 30) (some 24) (Int32.ofNat (tn + 1)) h' = some X → b273_15 L xs zf (dM L xs zf w (k + 9)) w (N + 1) (some 30) (some 24) (Int32.ofNat tn) h = some X := fun h' X e1 e2 => cF lt X (bse w1 (cl6 X (cl2 h' X e1 (by rw [of_inc]; exact e2))))
      have rgo : ∀ (r : Int32) (s' : rS) X, rM w (k2 + 3) 408 [.ref 36, .long (om.1 (pO (O dn) (F dn)))] s2 = some (some (.int r), s') → (if mx_f1 .eq r = true then s407_29 (rM w (k2 + 3)) w N2 (some row) (Int32.ofNat bs) (Int32.ofNat (dn + 1)) s' else (rs_sI s' 113 (Int32.ofNat (dn + 1)) (Int64.toInt32 (om.1 (pO (O dn) (F dn))))).bind fun s25 => (rs_sI s25 114 (Int32.ofNat (dn + 1)) 0).bind fun s30 => s407_29 (rM w (k2 + 3)) w N2 (some row) (Int32.ofNat bs) (Int32.ofNat (dn + 1) + 1) s30) = some X → s407_29 (rM w (k2 + 3)) w (N2 + 1) (some row) (Int32.ofNat bs) (Int32.ofNat (dn + 1)) s = some X := by
        intro r s' X e1 e2
        refine rhd X (ift n2e (bse (a := Int32.ofNat (F dn)) ?_ (bse (a := rs_wA s 114 dn (Int32.ofNat (F dn) + 1)) ?_ (rl6 X (rl2 r s' X e1 e2)))))
        · rw [of_dec, aI_at (by decide) rfl (by omega) (by decide), r114]
        · rw [of_dec]
          exact sI_at (by decide) rfl (by omega) (by decide)
      rcases b_val (L := L) (xs := xs) (zf := zf) (w := w) (k := k) (k2 := k2) (dn := dn + 1) hw ks2 rh2 (fxR_4 fx0 l02) ws2 ot2 (by omega) (by omega) dty vt mr2 with ⟨h', s', v1, v2, b', m', c', v3, v4, v5, v6⟩ | ⟨o', h', s', b', m', c', ⟨g1, g2, g3, g4⟩, v1, v2, v3, v4, v5, v6⟩
      · -- the loop goes on at the same depth
        have z5' : ¬ Zb Zx b' 5 := Zb_5 z5 (oTx_b v3).1
        have tc' := tCh_t tc02 v4
        have lst' : lSt kc ka Kp st s' (dn + 1) mk sa (upd sc dn (Int32.ofNat (F dn) + 1)) O (fun j => if j = dn then F dn + 1 else F j) := by
          refine ⟨fun j hj => ?_, fun o ho => by rw [v5.2.1 112 (by decide)]; exact mr2 o ho⟩
          obtain ⟨j1, j2, j3, j4, j5, j6⟩ := lst.1 j hj
          dsimp only
          refine ⟨j1, ?_, ?_, ?_, j5, ?_⟩
          · by_cases e : j = dn
            · rw [e, upd_eq', if_pos rfl, of_inc]
            · rw [upd_ne' e, if_neg e]
              exact j2
          · rw [v5.2.1 113 (by decide), r3 113 (Or.inl rfl)]
            exact j3
          · rw [v5.2.1 114 (by decide), r3 114 (Or.inr rfl), wA_get]
            by_cases e : j = dn
            · rw [if_pos ⟨rfl, e⟩, if_pos e, of_inc]
            · rw [if_neg (fun z => e z.2), if_neg e]
              exact j4
          · show (if j = dn then F dn + 1 else F j) ≤ _
            by_cases e : j = dn
            · rw [if_pos e, e]
              exact lt
            · rw [if_neg e]
              exact j6
        have po' : lPo kc ka st (dn + 1) mk O (fun j => if j = dn then F dn + 1 else F j) ≤ U := by
          have e1 : sU (fun j => (kc (ka.1 (O j))).1 - (if j = dn then F dn + 1 else F j) + 1) (dn + 1) + 1 = sU (fun j => (kc (ka.1 (O j))).1 - F j + 1) (dn + 1) := by
            show sU (fun j => (kc (ka.1 (O j))).1 - (if j = dn then F dn + 1 else F j) + 1) dn + ((kc (ka.1 (O dn))).1 - (if dn = dn then F dn + 1 else F dn) + 1) + 1 = sU (fun j => (kc (ka.1 (O j))).1 - F j + 1) dn + ((kc (ka.1 (O dn))).1 - F dn + 1)
            rw [sU_c dn (f := fun j => (kc (ka.1 (O j))).1 - F j + 1) (fun j hj => by show _ - (if j = dn then F dn + 1 else F j) + 1 = _; rw [if_neg (by omega)]), if_pos rfl]
            omega
          unfold lPo at po
          show sU (fun i => if mk (i + 1) = st then 0 else (kc (ka.1 (i + 1))).1 + 1) ka.2.2.1 + sU (fun j => (kc (ka.1 (O j))).1 - (if j = dn then F dn + 1 else F j) + 1) (dn + 1) ≤ U
          omega
        obtain ⟨h9, s9, b9, m9, c9, mk9, sa9, sc9, i1, i2, i3, i4, i5, i6, i7⟩ := ih h' s' b' m' c' (dn + 1) mk sa (upd sc dn (Int32.ofNat (F dn) + 1)) O (fun j => if j = dn then F dn + 1 else F j) (tn + 1) N N2 (oL4_t l02 (oL4_s v5)) (kSh_m z5' (tCh_f (Zx := Zx) tc') ks) (RH_tl rh hz ot tc') v3 lst' po' (by omega) (by omega) (by omega) (by omega)
        refine ⟨h9, s9, b9, m9, c9, mk9, sa9, sc9, cgo h' _ v1 i1, rgo 0 s' _ v2 (ift (by decide) i2), i3, tCh_t tc' i4, oL4_t l2 (oL4_t (oL4_s v5) i5), i6, by omega⟩
      · -- an object is entered
        have z5' : ¬ Zb Zx b' 5 := Zb_5 z5 (oTx_b v3).1
        have tc' := tCh_t tc02 v4
        have eo : oV (om.1 (pO (O dn) (F dn))) = o' := by rw [g3]; exact oV_2 (by omega)
        have kp' : Kp o' := by
          have := kcl (by omega)
          rw [eo] at this
          exact this
        have nmo : ∀ j, j < dn + 1 → True := fun _ _ => trivial
        have lst' : lSt kc ka Kp st (rs_wA (rs_wA s' 113 (dn + 1) (Int32.ofNat o')) 114 (dn + 1) 0) (dn + 2) (upd mk o' st) (upd sa (dn + 1) (Int32.ofNat o')) (upd (upd sc dn (Int32.ofNat (F dn) + 1)) (dn + 1) 0) (fun j => if j = dn + 1 then o' else O j) (fun j => if j = dn + 1 then 0 else if j = dn then F dn + 1 else F j) := by
          refine ⟨fun j hj => ?_, fun o ho => ?_⟩
          · have a113 : (rs_wA (rs_wA s' 113 (dn + 1) (Int32.ofNat o')) 114 (dn + 1) 0).2.1 113 j = if j = dn + 1 then Int32.ofNat o' else s'.2.1 113 j := by
              rw [wA_ne _ _ _ (by decide), wA_get]
              by_cases e : j = dn + 1
              · rw [if_pos ⟨rfl, e⟩, if_pos e]
              · rw [if_neg (fun z => e z.2), if_neg e]
            have a114 : (rs_wA (rs_wA s' 113 (dn + 1) (Int32.ofNat o')) 114 (dn + 1) 0).2.1 114 j = if j = dn + 1 then 0 else s'.2.1 114 j := by
              rw [wA_get]
              by_cases e : j = dn + 1
              · rw [if_pos ⟨rfl, e⟩, if_pos e]
              · rw [if_neg (fun z => e z.2), if_neg e, wA_ne _ _ _ (by decide)]
            rw [a113, a114]
            dsimp only
            by_cases e1 : j = dn + 1
            · simp only [if_pos e1]
              rw [e1, upd_eq', upd_eq']
              exact ⟨by first | rfl | trivial, by first | rfl | trivial, by first | rfl | trivial, by first | rfl | trivial, kp', Nat.zero_le _⟩
            · obtain ⟨j1, j2, j3, j4, j5, j6⟩ := lst.1 j (by omega)
              simp only [if_neg e1]
              rw [upd_ne' e1, upd_ne' e1, v5.2.1 113 (by decide) (by decide), v5.2.1 114 (by decide) (by decide), r3 113 (Or.inl rfl), r3 114 (Or.inr rfl), wA_ne _ _ _ (by decide), wA_get]
              refine ⟨j1, ?_, j3, ?_, j5, ?_⟩
              · by_cases e : j = dn
                · rw [e, upd_eq', if_pos rfl, of_inc]
                · rw [upd_ne' e, if_neg e]
                  exact j2
              · by_cases e : j = dn
                · rw [if_pos ⟨rfl, e⟩, if_pos e, of_inc]
                · rw [if_neg (fun z => e z.2), if_neg e]
                  exact j4
              · by_cases e : j = dn
                · rw [if_pos e, e]
                  exact lt
                · rw [if_neg e]
                  exact j6
          · rw [wA_ne _ _ _ (by decide), wA_ne _ _ _ (by decide), v5.2.2.2]
            by_cases e : o = o'
            · rw [e, upd_eq', upd_eq', if_pos rfl]
            · rw [upd_ne' e, upd_ne' e]
              exact mr2 o ho
        have po' : lPo kc ka st (dn + 2) (upd mk o' st) (fun j => if j = dn + 1 then o' else O j) (fun j => if j = dn + 1 then 0 else if j = dn then F dn + 1 else F j) ≤ U := by
          have e1 : sU (fun j => (kc (ka.1 (if j = dn + 1 then o' else O j))).1 - (if j = dn + 1 then 0 else if j = dn then F dn + 1 else F j) + 1) (dn + 2) + 1 = sU (fun j => (kc (ka.1 (O j))).1 - F j + 1) (dn + 1) + ((kc (ka.1 o')).1 + 1) := by
            show sU (fun j => (kc (ka.1 (if j = dn + 1 then o' else O j))).1 - (if j = dn + 1 then 0 else if j = dn then F dn + 1 else F j) + 1) dn + ((kc (ka.1 (if dn = dn + 1 then o' else O dn))).1 - (if dn = dn + 1 then 0 else if dn = dn then F dn + 1 else F dn) + 1) + ((kc (ka.1 (if dn + 1 = dn + 1 then o' else O (dn + 1)))).1 - (if dn + 1 = dn + 1 then 0 else if dn + 1 = dn then F dn + 1 else F (dn + 1)) + 1) + 1 = sU (fun j => (kc (ka.1 (O j))).1 - F j + 1) dn + ((kc (ka.1 (O dn))).1 - F dn + 1) + ((kc (ka.1 o')).1 + 1)
            rw [sU_c dn (f := fun j => (kc (ka.1 (O j))).1 - F j + 1) (fun j hj => by show (kc (ka.1 (if j = dn + 1 then o' else O j))).1 - (if j = dn + 1 then 0 else if j = dn then F dn + 1 else F j) + 1 = _; rw [if_neg (by omega), if_neg (by omega), if_neg (by omega)]), if_neg (by omega), if_neg (by omega), if_pos rfl, if_pos rfl, if_pos rfl]
            omega
          have e2 := sU_1 (f := fun i => if mk (i + 1) = st then 0 else (kc (ka.1 (i + 1))).1 + 1) (g := fun i => if upd mk o' st (i + 1) = st then 0 else (kc (ka.1 (i + 1))).1 + 1) (i := o' - 1) ka.2.2.1 (by omega) (fun j hj ne => by
            show (if upd mk o' st (j + 1) = st then 0 else _) = _
            rw [upd_ne' (by omega)])
          have e3 : (if mk (o' - 1 + 1) = st then 0 else (kc (ka.1 (o' - 1 + 1))).1 + 1) = (kc (ka.1 o')).1 + 1 := by
            rw [show o' - 1 + 1 = o' from by omega, if_neg g4]
          have e4 : (if upd mk o' st (o' - 1 + 1) = st then 0 else (kc (ka.1 (o' - 1 + 1))).1 + 1) = 0 := by
            rw [show o' - 1 + 1 = o' from by omega, upd_eq', if_pos rfl]
          rw [e3, e4] at e2
          unfold lPo at po
          show sU (fun i => if upd mk o' st (i + 1) = st then 0 else (kc (ka.1 (i + 1))).1 + 1) ka.2.2.1 + sU (fun j => (kc (ka.1 (if j = dn + 1 then o' else O j))).1 - (if j = dn + 1 then 0 else if j = dn then F dn + 1 else F j) + 1) (dn + 2) ≤ U
          omega
        obtain ⟨h9, s9, b9, m9, c9, mk9, sa9, sc9, i1, i2, i3, i4, i5, i6, i7⟩ := ih h' (rs_wA (rs_wA s' 113 (dn + 1) (Int32.ofNat o')) 114 (dn + 1) 0) b' m' c' (dn + 2) (upd mk o' st) (upd sa (dn + 1) (Int32.ofNat o')) (upd (upd sc dn (Int32.ofNat (F dn) + 1)) (dn + 1) 0) (fun j => if j = dn + 1 then o' else O j) (fun j => if j = dn + 1 then 0 else if j = dn then F dn + 1 else F j) (tn + 1) N N2 (oL4_t l02 (oL4_t (oL4_2 v5) (oL4_t (oL4_w (by decide)) (oL4_w (by decide))))) (kSh_m z5' (tCh_f (Zx := Zx) tc') ks) (RH_tl rh hz ot tc') (oTx_s v3 rfl ((wA_ne _ _ _ (by decide)).trans (wA_ne _ _ _ (by decide)))) lst' po' (by omega) (by omega) (by omega) (by omega)
        refine ⟨h9, s9, b9, m9, c9, mk9, sa9, sc9, cgo h' _ v1 i1, rgo 1 s' _ v2 (ifn (by decide) ?_), i3, tCh_t tc' i4, oL4_t l2 (oL4_t (oL4_2 v5) (oL4_t (oL4_t (oL4_w (by decide)) (oL4_w (by decide))) i5)), ⟨i6.1, mk_u i6.2⟩, by omega⟩
        rw [g3, md_lo]
        refine bse (sI_at (by decide) rfl (by omega) (by decide)) (bse (sI_at (by decide) rfl (by omega) (by decide)) ?_)
        rw [of_inc]
        exact i2
    · -- an object ends
      obtain ⟨h1, s1, b1, m1, a1, a2, a3, a4, a5⟩ := l_cl (L := L) (xs := xs) (zf := zf) (w := w) (k := k + 2) (k2 := k2 + 2) (d := 125) ot (by omega) (by decide)
      obtain ⟨h2, d1, d2, d3⟩ := oT_d a3 (Int32.ofNat dn)
      have tc' := tCh_t a4 d3
      have z5' : ¬ Zb Zx b1 5 := Zb_5 z5 (oTx_b d2).1
      have feq : F dn = (kc (ka.1 (O dn))).1 := by omega
      obtain ⟨h9, s9, b9, m9, c9, mk9, sa9, sc9, i1, i2, i3, i4, i5, i6, i7⟩ := ih h2 s1 b1 m1 (c + 1) dn mk sa sc O F (tn + 1) N N2 (oL4_t l4 (oL4_s a5)) (kSh_m z5' (tCh_f (Zx := Zx) tc') ks) (RH_tl rh hz ot tc') d2 ⟨fun j hj => by rw [a5.2.1 113 (by decide), a5.2.1 114 (by decide)]; exact lst.1 j (by omega), fun o ho => by rw [a5.2.1 112 (by decide)]; exact lst.2 o ho⟩ (by
        unfold lPo at po ⊢
        have : sU (fun j => (kc (ka.1 (O j))).1 - F j + 1) (dn + 1) = sU (fun j => (kc (ka.1 (O j))).1 - F j + 1) dn + ((kc (ka.1 (O dn))).1 - F dn + 1) := rfl
        omega) (by omega) (by omega) (by omega) (by omega)
      refine ⟨h9, s9, b9, m9, c9, mk9, sa9, sc9, cP lt _ ?_, rhd _ (ifn ?_ (bse a2 ?_)), i3, tCh_t tc' i4, oL4_t (oL4_s a5) i5, i6, by omega⟩
      · unfold b273_97
        refine bse a1 (bse (hc_gI a3.1 rfl (by decide)) (bse (a := h2) ?_ ?_))
        · rw [of_dec]
          exact d1
        · show b273_15 L xs zf (dM L xs zf w (k + 9)) w N (some 30) (some 24) (Int32.ofNat tn + 1) h2 = _
          rw [of_inc]
          exact i1
      · rw [f2_ne, feq]
        exact fun z => absurd rfl (of_decide_eq_true z)
      · rw [of_m1]
        exact i2
end SL2
