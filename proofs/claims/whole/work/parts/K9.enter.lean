/-! INTO AN OBJECT (278), and Told's own cells. -/
section ENT
variable {L : Nat} {xs : Nat → Int32} {zf : Value} {w k k2 b m c i o dn a : Nat} {st dep x : Int32} {mk sa sc : Nat → Int32} {h h1 h2 h' : rm_H} {s s1 s2 s' : rS}
theorem tCh_1 (e : st1 a h h1) (ha : 30 ≤ a ∧ a ≤ 35 ∧ a ≠ 32) : tCh h b m h1 b m := ⟨fun y e' he hy _ => (st1_ne e (by omega)).trans he, Nat.le_refl _, by rw [e.2.2]; exact Nat.le_refl _, by rw [e.2.1]; exact Nat.le_refl _, by rw [e.2.1]; exact Nat.le_refl _, Or.inl rfl⟩
theorem oTx_s (o : oTx h s b m c st dep mk sa sc) (e1 : s'.1 111 = s.1 111) (e2 : s'.2.1 111 = s.2.1 111) : oTx h s' b m c st dep mk sa sc := by
  obtain ⟨h30, h33, h34, h35, s111, n, ml, f, hS, hl⟩ := o
  refine ⟨h30, h33, h34, h35, e1.trans s111, n, ml, f, hS, ?_⟩
  unfold iL at hl ⊢
  rw [e1, e2]
  exact hl
theorem oT_33 (o : oTx h s b m c st dep mk sa sc) (hi : i < 401) (x : Int32) : ∃ h1, dsI h (some 33) (Int32.ofNat i) x = some h1 ∧ oTx h1 s b m c st dep (upd mk i x) sa sc ∧ tCh h b m h1 b m := by
  obtain ⟨h30, h33, h34, h35, s111, n, ml, f, hS, hl⟩ := o
  have s1 : st1 33 h (h.set (33 - 21) (iaA 401 (upd mk i x))) := st_ia h33
  exact ⟨_, sI_of (hc_ge h33) (hc_at h33) hi (by decide), ⟨st1_old s1 h30 (by decide), hc_set h33, st1_old s1 h34 (by decide), st1_old s1 h35 (by decide), s111, n, ml, f, sB_fr s1.1 (by decide) hS, hl⟩, tCh_1 s1 (by decide)⟩
theorem oT_34 (o : oTx h s b m c st dep mk sa sc) (hi : i < 401) (x : Int32) : ∃ h1, dsI h (some 34) (Int32.ofNat i) x = some h1 ∧ oTx h1 s b m c st dep mk (upd sa i x) sc ∧ tCh h b m h1 b m := by
  obtain ⟨h30, h33, h34, h35, s111, n, ml, f, hS, hl⟩ := o
  have s1 : st1 34 h (h.set (34 - 21) (iaA 401 (upd sa i x))) := st_ia h34
  exact ⟨_, sI_of (hc_ge h34) (hc_at h34) hi (by decide), ⟨st1_old s1 h30 (by decide), st1_old s1 h33 (by decide), hc_set h34, st1_old s1 h35 (by decide), s111, n, ml, f, sB_fr s1.1 (by decide) hS, hl⟩, tCh_1 s1 (by decide)⟩
theorem oT_35 (o : oTx h s b m c st dep mk sa sc) (hi : i < 401) (x : Int32) : ∃ h1, dsI h (some 35) (Int32.ofNat i) x = some h1 ∧ oTx h1 s b m c st dep mk sa (upd sc i x) ∧ tCh h b m h1 b m := by
  obtain ⟨h30, h33, h34, h35, s111, n, ml, f, hS, hl⟩ := o
  have s1 : st1 35 h (h.set (35 - 21) (iaA 401 (upd sc i x))) := st_ia h35
  exact ⟨_, sI_of (hc_ge h35) (hc_at h35) hi (by decide), ⟨st1_old s1 h30 (by decide), st1_old s1 h33 (by decide), st1_old s1 h34 (by decide), hc_set h35, s111, n, ml, f, sB_fr s1.1 (by decide) hS, hl⟩, tCh_1 s1 (by decide)⟩
theorem oT_d (o : oTx h s b m c st dep mk sa sc) (x : Int32) : ∃ h1, dpF h 6 [3] (some 30) (.int x) = some h1 ∧ oTx h1 s b m c st x mk sa sc ∧ tCh h b m h1 b m := by
  obtain ⟨h30, h33, h34, h35, s111, n, ml, f, hS, hl⟩ := o
  obtain ⟨h1, a1, a2, a3⟩ := pF_ex (v := .int x) (j := 6) (cis := [3]) h30 rfl (by decide) rfl (by decide)
  exact ⟨h1, a1, ⟨a2, st1_old a3 h33 (by decide), st1_old a3 h34 (by decide), st1_old a3 h35 (by decide), s111, n, ml, f, sB_fr a3.1 (by decide) hS, hl⟩, tCh_1 a3 (by decide)⟩
/-- an object that was seen -/
theorem c_278s (ot : oTx h s b m c st dep mk sa sc) (ho : o ≤ 400) (hm : mk o = st) : dM L xs zf w (k + 8) 278 [.ref 30, .int (Int32.ofNat o)] h = some (none, h) := by
  obtain ⟨h30, h33, h34, h35, _⟩ := id ot
  rw [e278]
  show b278_0 L xs zf (dM L xs zf w (k + 7)) w (some 30) (Int32.ofNat o) h = _
  unfold b278_0
  refine ifn (by rw [f1_lt, of_int (by omega)]; exact fun z => absurd (of_decide_eq_true z) (by omega)) ?_
  refine bse (hc_gR (p := some 33) h30 rfl (by decide)) (bse (hc_aN h33 (by decide)) (ifn (by rw [f2_ge, of_int (by omega), of_int (by omega)]; exact fun z => absurd (of_decide_eq_true z) (by omega)) (bse (hc_gR (p := some 33) h30 rfl (by decide)) (bse (rI_at h33 (by omega) (by decide)) (bse (hc_gI h30 rfl (by decide)) (ift ?_ rfl))))))
  rw [f2_eqd, hm]
  exact decide_eq_true rfl
/-- AN OBJECT IS ENTERED -/
theorem c_278 (ot : oTx h s b m c st (Int32.ofNat dn) mk sa sc) (ho : o ≤ 400) (hd : dn ≤ 400) (hm : mk o ≠ st) (hc6 : c ≤ 1000000) : ∃ (h' : rm_H) (s' : rS) (b' m' : Nat), dM L xs zf w (k + 8) 278 [.ref 30, .int (Int32.ofNat o)] h = some (none, h') ∧ (rM w (k2 + 1) 410 [.ref 36, .int 123] s).bind rxV = some s' ∧ oTx h' s' b' m' (c + 1) st (Int32.ofNat (dn + 1)) (upd mk o st) (upd sa dn (Int32.ofNat o)) (upd sc dn 0) ∧ tCh h b m h' b' m' ∧ oLs s s' := by
  obtain ⟨h1, a1, a2, a3⟩ := oT_33 (i := o) ot (by omega) st
  obtain ⟨h2, s', b', m', b1, b2, b3, b4, b5⟩ := l_cl (L := L) (xs := xs) (zf := zf) (w := w) (k := k) (k2 := k2) (d := 123) a2 hc6 (by decide)
  obtain ⟨h3, c1, c2, c3⟩ := oT_34 (i := dn) b3 (by omega) (Int32.ofNat o)
  obtain ⟨h4, d1, d2, d3⟩ := oT_35 (i := dn) c2 (by omega) 0
  obtain ⟨h5, e1, e2, e3⟩ := oT_d d2 (Int32.ofNat (dn + 1))
  refine ⟨h5, s', b', m', ?_, b2, e2, tCh_t a3 (tCh_t b4 (tCh_t c3 (tCh_t d3 e3))), b5⟩
  obtain ⟨h30, h33, h34, h35, _⟩ := id ot
  rw [e278]
  show b278_0 L xs zf (dM L xs zf w (k + 7)) w (some 30) (Int32.ofNat o) h = _
  unfold b278_0
  refine ifn (by rw [f1_lt, of_int (by omega)]; exact fun z => absurd (of_decide_eq_true z) (by omega)) ?_
  refine bse (hc_gR (p := some 33) h30 rfl (by decide)) (bse (hc_aN h33 (by decide)) (ifn (by rw [f2_ge, of_int (by omega), of_int (by omega)]; exact fun z => absurd (of_decide_eq_true z) (by omega)) (bse (hc_gR (p := some 33) h30 rfl (by decide)) (bse (rI_at h33 (by omega) (by decide)) (bse (hc_gI h30 rfl (by decide)) (ifn ?_ ?_))))))
  · rw [f2_eqd]
    exact fun z => hm (of_decide_eq_true z)
  refine bse (hc_gI h30 rfl (by decide)) (bse (hc_gR (p := some 34) h30 rfl (by decide)) (bse (hc_aN h34 (by decide)) (ift (by rw [f2_lt, of_int (by omega), of_int (by omega)]; exact decide_eq_true (by omega)) ?_)))
  refine bse (hc_gR (p := some 33) h30 rfl (by decide)) (bse (hc_gI h30 rfl (by decide)) (bse a1 (bse b1 ?_)))
  refine bse (hc_gR (p := some 34) b3.1 rfl (by decide)) (bse (hc_gI b3.1 rfl (by decide)) (bse c1 ?_))
  refine bse (hc_gR (p := some 35) c2.1 rfl (by decide)) (bse (hc_gI c2.1 rfl (by decide)) (bse d1 ?_))
  refine bse (hc_gI d2.1 rfl (by decide)) (bse ?_ rfl)
  rw [of_inc]
  exact e1
end ENT
