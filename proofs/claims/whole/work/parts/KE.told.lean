/-! A VALUE AND ALL THAT IT LEADS TO, BY BOTH (273 / 407). -/
section SL3
variable {L : Nat} {xs : Nat → Int32} {zf : Value} {w k k2 n P bs row b m c t : Nat} {st dep : Int32} {h : rm_H} {s s0 sB : rS} {Zx Kp : Nat → Prop} {kc : kCi} {sg : cS} {ka : kAp} {om : oMg} {la : lAy} {mk sa sc : Nat → Int32} {v : Int64}
/-- all objects together -/
theorem tot_le (dj : ∀ o o', 1 ≤ o → o < o' → o' ≤ ka.2.2.1 → la.1 o + (kc (ka.1 o)).1 + 1 ≤ la.1 o') : ∀ j, j + 1 ≤ ka.2.2.1 → sU (fun i => (kc (ka.1 (i + 1))).1 + 1) (j + 1) ≤ la.1 (j + 1) + (kc (ka.1 (j + 1))).1 + 1 := by
  intro j
  induction j with
  | zero =>
    intro _
    show 0 + ((kc (ka.1 (0 + 1))).1 + 1) ≤ _
    omega
  | succ j ih =>
    intro hj
    show sU (fun i => (kc (ka.1 (i + 1))).1 + 1) (j + 1) + ((kc (ka.1 (j + 1 + 1))).1 + 1) ≤ _
    have := ih (by omega)
    have := dj (j + 1) (j + 1 + 1) (by omega) (by omega) hj
    omega
theorem tot_4 (dj : ∀ o o', 1 ≤ o → o < o' → o' ≤ ka.2.2.1 → la.1 o + (kc (ka.1 o)).1 + 1 ≤ la.1 o') (l4 : ∀ o, 1 ≤ o → o ≤ ka.2.2.1 → la.1 o + (kc (ka.1 o)).1 + 1 ≤ 400) : sU (fun i => (kc (ka.1 (i + 1))).1 + 1) ka.2.2.1 ≤ 400 := by
  cases e : ka.2.2.1 with
  | zero => exact Nat.zero_le _
  | succ j =>
    have := tot_le dj j (by omega)
    have := l4 (j + 1) (by omega) (by omega)
    omega
theorem sU_le {f g : Nat → Nat} : ∀ n, (∀ j, j < n → f j ≤ g j) → sU f n ≤ sU g n := by
  intro n
  induction n with
  | zero => intro _; exact Nat.le_refl _
  | succ n ih =>
    intro h
    show sU f n + f n ≤ sU g n + g n
    have := ih (fun j hj => h j (by omega))
    have := h n (by omega)
    omega
/-- A VALUE AND ALL THAT IT LEADS TO -/
theorem b_273 (hw : 500 ≤ w) (z5 : ¬ Zx 5) (hz : ∀ y, Zr n sg y → y < 30 ∨ 35 < y) (ls : lSh kc om ka la sg s0 Kp row bs) (wa : ∀ a, a < ka.2.2.2 → ka.2.1 a < 8 ∧ (kc (ka.2.1 a)).1 ≤ 8 ∧ s0.2.1 89 a = Int32.ofNat (ka.2.1 a)) (ob4 : ka.2.2.1 ≤ 400) (ac : ka.2.2.2 ≤ 12) (fx0 : fxR sB s0) (tot : sU (fun i => (kc (ka.1 (i + 1))).1 + 1) ka.2.2.1 ≤ 400) (l4 : oL4 s0 s) (ks : kSh L xs sB kc h (Zb Zx b) P) (rh : RH (.ref P) n sg (Zr n sg) h h) (ot : oTx h s b m c st dep mk sa sc) (mr : ∀ o, o ≤ 400 → s.2.1 112 o = if mk o = st then 1 else 0) (hcc : c ≤ 800000) (dt : dTy t = true) (vt : vTy ka 0 t v) (kv : oV v ≠ 0 → Kp (oV v)) :
    ∃ (h' : rm_H) (s' : rS) (b' m' c' : Nat) (mk' sa' sc' : Nat → Int32), dM L xs zf w (k + 10) 273 [.ref 30, .ref 24, .int (cT t), .int (cvl v)] h = some (none, h') ∧ rM w (k2 + 4) 407 [.ref 36, .long v, .ref row, .int (Int32.ofNat bs)] s = some (none, s') ∧ oTx h' s' b' m' c' st 0 mk' sa' sc' ∧ tCh h b m h' b' m' ∧ oL4 s s' ∧ ((∀ o, o ≤ 400 → s'.2.1 112 o = if mk' o = st then 1 else 0) ∧ ∀ o, mk' o = mk o ∨ mk' o = st) ∧ c' ≤ c + 30000 := by
  obtain ⟨h1, d1, ot1, tc1⟩ := oT_d ot 0
  have z51 : ¬ Zb Zx b 5 := Zb_5 z5 (oTx_b ot).1
  have ks1 := kSh_m z51 (tCh_f (Zx := Zx) tc1) ks
  have rh1 := RH_tl rh hz ot tc1
  have ws : wSh kc ka s := ⟨fun o h1 h2 => ⟨(ls.1 o h1 h2).1.1, (ls.1 o h1 h2).1.2, by rw [l4.2.1 87 (by decide)]; exact (ls.1 o h1 h2).2.2.2.1⟩, fun a ha => ⟨(wa a ha).1, (wa a ha).2.1, by rw [l4.2.1 89 (by decide)]; exact (wa a ha).2.2⟩, ob4, ac⟩
  have hdc : ∀ h3 X, dM L xs zf w (k + 9) 274 [.ref 30, .ref 24, .int (cT t), .int (cvl v)] h1 = some (none, h3) → b273_15 L xs zf (dM L xs zf w (k + 9)) w w (some 30) (some 24) (Int32.ofNat 0) h3 = some X → dM L xs zf w (k + 10) 273 [.ref 30, .ref 24, .int (cT t), .int (cvl v)] h = some X := by
    intro h3 X e1 e2
    rw [e273]
    show b273_0 L xs zf (dM L xs zf w (k + 9)) w (some 30) (some 24) (cT t) (cvl v) h = _
    unfold b273_0
    refine bse d1 (bse (a := h3) ?_ e2)
    rw [hc_v ot1.1 (by decide)]
    show (dM L xs zf w (k + 9) 274 [.ref 30, .ref 24, .int (cT t), .int (cvl v)] h1).bind dxV = _
    rw [e1]
    rfl
  have hdr : ∀ (r : Int32) (s3 : rS) X, rM w (k2 + 3) 408 [.ref 36, .long v] s = some (some (.int r), s3) → (if mx_f1 .eq r = true then s407_29 (rM w (k2 + 3)) w w (some row) (Int32.ofNat bs) 0 s3 else (rs_sI s3 113 0 (Int64.toInt32 v)).bind fun s7 => (rs_sI s7 114 0 0).bind fun s12 => s407_29 (rM w (k2 + 3)) w w (some row) (Int32.ofNat bs) 1 s12) = some X → rM w (k2 + 4) 407 [.ref 36, .long v, .ref row, .int (Int32.ofNat bs)] s = some X := by
    intro r s3 X e1 e2
    rw [y407]
    show s407_0 (rM w (k2 + 3)) w v (some row) (Int32.ofNat bs) s = _
    unfold s407_0
    exact bse (a := (r, s3)) (by rw [e1]; rfl) e2
  rcases b_val (L := L) (xs := xs) (zf := zf) (w := w) (k := k) (k2 := k2) (dn := 0) (by omega) ks1 rh1 (fxR_4 fx0 l4) ws ot1 (by omega) (by omega) dt vt mr with ⟨h3, s3, v1, v2, b3, m3, c3, v3, v4, v5, v6⟩ | ⟨o', h3, s3, b3, m3, c3, ⟨g1, g2, g3, g4⟩, v1, v2, v3, v4, v5, v6⟩
  · have tc3 := tCh_t tc1 v4
    obtain ⟨h9, s9, b9, m9, c9, mk9, sa9, sc9, i1, i2, i3, i4, i5, i6, i7⟩ := b_lp (L := L) (xs := xs) (zf := zf) (w := w) (k := k) (k2 := k2) (st := st) (by omega) z5 hz ls wa ob4 ac fx0 400 h3 s3 b3 m3 c3 0 mk sa sc (fun _ => 0) (fun _ => 0) 0 w w (oL4_t l4 (oL4_s v5)) (kSh_m (Zb_5 z5 (oTx_b v3).1) (tCh_f (Zx := Zx) tc3) ks) (RH_tl rh hz ot tc3) v3 ⟨fun j hj => absurd hj (by omega), fun o ho => by rw [v5.2.1 112 (by decide)]; exact mr o ho⟩ (by
      unfold lPo
      have := sU_le (f := fun i => if mk (i + 1) = st then 0 else (kc (ka.1 (i + 1))).1 + 1) (g := fun i => (kc (ka.1 (i + 1))).1 + 1) ka.2.2.1 (fun j _ => by
        show (if mk (j + 1) = st then 0 else (kc (ka.1 (j + 1))).1 + 1) ≤ (kc (ka.1 (j + 1))).1 + 1
        split <;> omega)
      show _ + 0 ≤ 400
      omega) (by omega) (by omega) (by omega) (by omega)
    exact ⟨h9, s9, b9, m9, c9, mk9, sa9, sc9, hdc h3 _ v1 i1, hdr 0 s3 _ v2 (ift (by decide) i2), i3, tCh_t tc3 i4, oL4_t (oL4_s v5) i5, i6, by omega⟩
  · have tc3 := tCh_t tc1 v4
    have eo : oV v = o' := by rw [g3]; exact oV_2 (by omega)
    have kp' : Kp o' := by
      have := kv (by omega)
      rw [eo] at this
      exact this
    have e2 := sU_1 (f := fun i => if mk (i + 1) = st then 0 else (kc (ka.1 (i + 1))).1 + 1) (g := fun i => if upd mk o' st (i + 1) = st then 0 else (kc (ka.1 (i + 1))).1 + 1) (i := o' - 1) ka.2.2.1 (by omega) (fun j hj ne => by
      show (if upd mk o' st (j + 1) = st then 0 else _) = _
      rw [upd_ne' (by omega)])
    have e3 : (if mk (o' - 1 + 1) = st then 0 else (kc (ka.1 (o' - 1 + 1))).1 + 1) = (kc (ka.1 o')).1 + 1 := by
      rw [show o' - 1 + 1 = o' from by omega, if_neg g4]
    have e4 : (if upd mk o' st (o' - 1 + 1) = st then 0 else (kc (ka.1 (o' - 1 + 1))).1 + 1) = 0 := by
      rw [show o' - 1 + 1 = o' from by omega, upd_eq', if_pos rfl]
    rw [e3, e4] at e2
    obtain ⟨h9, s9, b9, m9, c9, mk9, sa9, sc9, i1, i2, i3, i4, i5, i6, i7⟩ := b_lp (L := L) (xs := xs) (zf := zf) (w := w) (k := k) (k2 := k2) (st := st) (by omega) z5 hz ls wa ob4 ac fx0 400 h3 (rs_wA (rs_wA s3 113 0 (Int32.ofNat o')) 114 0 0) b3 m3 c3 1 (upd mk o' st) (upd sa 0 (Int32.ofNat o')) (upd sc 0 0) (fun _ => o') (fun _ => 0) 0 w w (oL4_t l4 (oL4_t (oL4_2 v5) (oL4_t (oL4_w (by decide)) (oL4_w (by decide))))) (kSh_m (Zb_5 z5 (oTx_b v3).1) (tCh_f (Zx := Zx) tc3) ks) (RH_tl rh hz ot tc3) (oTx_s v3 rfl ((wA_ne _ _ _ (by decide)).trans (wA_ne _ _ _ (by decide)))) ⟨fun j hj => (by
        have j0 : j = 0 := by omega
        subst j0
        rw [upd_eq', upd_eq', wA_ne _ _ _ (by decide), wA_get, wA_get, if_pos ⟨rfl, rfl⟩, if_pos ⟨rfl, rfl⟩]
        exact ⟨rfl, rfl, rfl, rfl, kp', Nat.zero_le _⟩), fun o ho => (by
        rw [wA_ne _ _ _ (by decide), wA_ne _ _ _ (by decide), v5.2.2.2]
        by_cases e : o = o'
        · rw [e, upd_eq', upd_eq', if_pos rfl]
        · rw [upd_ne' e, upd_ne' e]
          exact mr o ho)⟩ (by
      unfold lPo
      have := sU_le (f := fun i => if mk (i + 1) = st then 0 else (kc (ka.1 (i + 1))).1 + 1) (g := fun i => (kc (ka.1 (i + 1))).1 + 1) ka.2.2.1 (fun j _ => by
        show (if mk (j + 1) = st then 0 else (kc (ka.1 (j + 1))).1 + 1) ≤ (kc (ka.1 (j + 1))).1 + 1
        split <;> omega)
      show _ + (0 + ((kc (ka.1 o')).1 - 0 + 1)) ≤ 400
      omega) (by omega) (by omega) (by omega) (by omega)
    refine ⟨h9, s9, b9, m9, c9, mk9, sa9, sc9, hdc h3 _ v1 i1, hdr 1 s3 _ v2 (ifn (by decide) ?_), i3, tCh_t tc3 i4, oL4_t (oL4_2 v5) (oL4_t (oL4_t (oL4_w (by decide)) (oL4_w (by decide))) i5), ⟨i6.1, mk_u i6.2⟩, by omega⟩
    rw [g3, md_lo]
    exact bse (sI_at (i := 0) (by decide) rfl (by decide) (by decide)) (bse (sI_at (i := 0) (by decide) rfl (by decide) (by decide)) i2)
end SL3
