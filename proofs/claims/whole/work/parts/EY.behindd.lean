/-! BEHIND A FAULT: the chain of an expression. -/
/-- the walk down from Node p and up to it again: len links, n instructions -/
def DW (L : Nat) (xs : Nat → Int32) (zf : Value) (w : Nat) (cx : Nat → Nat) (C Sc M pl ph : Nat) (pt vr : Int32) (mv : Value) (ds : List Nat) (f : Nat → Int64) (sl ty : Nat → Int32) (rc a b : Int32) (kl : List Nat) (hB : rm_H) (p len n ke : Nat) : Prop := ∀ (la j : Nat) (h : rm_H) (u : Nat → Nat) (N : Nat), p ≤ la → EV L xs cx C Sc M pt vr mv ds f sl ty rc a b kl hB h u → u 2 + n ≤ 9000 → len < N → ∃ t h' u', b172_2 L xs zf (dM L xs zf w (ke + j)) w N (some C) (some la) (some p) h = b172_46 L xs zf (dM L xs zf w (ke + j)) w (w - len) (some C) (some la) (some p) t h' ∧ ZR L xs cx C Sc M pl ph pt vr mv ds f sl ty rc a b h u n h' u'
section ZY
variable {L : Nat} {xs : Nat → Int32} {zf : Value} {w k C Sc M pl ph K p p0 n n1 n2 m ke len q0 q1 : Nat} {cx : Nat → Nat} {hB h h1 h2 : rm_H} {pt vr gn rc a b x y t : Int32} {mv : Value} {ds kl es : List Nat} {f : Nat → Int64} {sl ty : Nat → Int32} {u u1 u2 : Nat → Nat} {A B : Nat → Int32}
theorem aTy_w (at' : aTy h es) (e : wF cx C Sc pl ph u h h1) : aTy h1 es := by
  intro e0 he0
  obtain ⟨s, t, y1, y2⟩ := at' e0 he0
  obtain ⟨t2, y3⟩ := wF_t e y2
  exact ⟨s, t2, wF_12 e (by decide) y1, y3⟩
/-- the head -/
theorem dw_0 (e : ZX L xs zf w cx C Sc M pl ph pt vr mv ds f sl ty rc a b kl hB 174 p n ke) (e6 : fd hB 12 p 6 = some .null) : DW L xs zf w cx C Sc M pl ph pt vr mv ds f sl ty rc a b kl hB p 0 n ke := by
  intro la j h u N _ ev hz hN
  obtain ⟨N, rfl⟩ : ∃ M, N = M + 1 := ⟨N - 1, by omega⟩
  obtain ⟨t, h', u', r1, r2⟩ := e j h u ev hz
  refine ⟨t, h', u', ?_, r2⟩
  rw [b172_2]
  exact bsq (fd_R (o := none) (ev.2.2.2.1.1 _ _ _ (by decide) e6) (by decide)) (itq rfl (bsq r1 rfl))
/-- one link more; what is done at it on the way down (n1) and on the way up (n2), with what the way down leaves -/
theorem dw_s {xc W : Nat} {Q : rm_H → Prop} (hQ : ∀ h h1 u, Q h → wF cx C Sc pl ph u h h1 → Q h1) (IH : DW L xs zf w cx C Sc M pl ph pt vr mv ds f sl ty rc a b kl hB xc len n ke) (e0 : fd hB 12 p 0 = some (.int (Int32.ofNat W))) (e6 : fd hB 12 p 6 = some (.ref xc)) (e7 : fd hB 12 xc 7 = some (.ref p)) (lt : xc < p) (hlen : len + 1 < w) (dn : ∀ j h u, EV L xs cx C Sc M pt vr mv ds f sl ty rc a b kl hB h u → u 2 + n1 ≤ 9000 → ∃ h' u', ((W = 11 ∨ W = 12) → (dcV L xs (dM L xs zf w (ke + j)) 173 [13] (some C) [va_rf (some p)] h).bind dxV = some h') ∧ (¬ (W = 11 ∨ W = 12) → h' = h) ∧ ZR L xs cx C Sc M pl ph pt vr mv ds f sl ty rc a b h u n1 h' u' ∧ Q h') (hW : W < 23) (up : ∀ j h u t, EV L xs cx C Sc M pt vr mv ds f sl ty rc a b kl hB h u → Q h → u 2 + n2 ≤ 9000 → ∃ t' h' u', (dcV L xs (dM L xs zf w (ke + j)) 202 [13] (some C) [va_rf (some p), .int t] h).bind dxI = some (t', h') ∧ ZR L xs cx C Sc M pl ph pt vr mv ds f sl ty rc a b h u n2 h' u') : DW L xs zf w cx C Sc M pl ph pt vr mv ds f sl ty rc a b kl hB p (len + 1) (n1 + n + n2) ke := by
  intro la j h u N hla ev hz hN
  obtain ⟨N, rfl⟩ : ∃ M, N = M + 1 := ⟨N - 1, by omega⟩
  obtain ⟨h1, u1, a1, a1', a2, a3⟩ := dn j h u ev (by omega)
  have ev1 := EV_s ev a2
  have u1b : u1 2 ≤ u 2 + n1 := a2.2.2.2.2
  obtain ⟨t, h2, u2, b1, b2⟩ := IH la j h1 u1 N (by omega) ev1 (by omega) (by omega)
  have ev2 := EV_s ev1 b2
  have u2b : u2 2 ≤ u1 2 + n := b2.2.2.2.2
  obtain ⟨t', h3, u3, c1, c2⟩ := up j h2 u2 t ev2 (hQ _ _ _ a3 b2.2.1) (by omega)
  refine ⟨t', h3, u3, ?_, ZR_trans (ZR_trans a2 b2) c2⟩
  have nb := ev.2.2.2.1
  have nb2 := ev2.2.2.2.1
  have gx : dgR L xs h 6 [12] (some p) = some (some xc) := fd_R (o := some xc) (nb.1 _ _ _ (by decide) e6) (by decide)
  have gx1 : dgR L xs h1 6 [12] (some p) = some (some xc) := fd_R (o := some xc) (ev1.2.2.2.1.1 _ _ _ (by decide) e6) (by decide)
  have g0 : dgI L xs h 0 [12] (some p) = some (Int32.ofNat W) := fd_I (nb.1 _ _ _ (by decide) e0) (by decide)
  have g7 : dgR L xs h2 7 [12] (some xc) = some (some p) := fd_R (o := some p) (nb2.1 _ _ _ (by decide) e7) (by decide)
  have px := (fd_lt e7).2
  -- up
  have upw : b172_46 L xs zf (dM L xs zf w (ke + j)) w (w - len) (some C) (some la) (some xc) t h2 = b172_46 L xs zf (dM L xs zf w (ke + j)) w (w - (len + 1)) (some C) (some la) (some p) t' h3 := by
    obtain ⟨v, hv⟩ : ∃ v, w - len = v + 1 := ⟨w - len - 1, by omega⟩
    rw [hv, show w - (len + 1) = v from by omega, b172_46]
    refine itq (dcm_o (fun q hq => by cases hq; exact px) (by omega)) (inq (fun z => ?_) (bsq g7 (inq (dnl_s p) (bsq g7 (bsq c1 rfl)))))
    have : some xc = some la := of_decide_eq_true z
    cases this
    omega
  -- down
  have w11 : ∀ W, W < 23 → (mx_f2 .eq (Int32.ofNat W) 11 = decide (W = 11)) ∧ (mx_f2 .ne (Int32.ofNat W) 12 = decide (¬ W = 12)) := by decide +kernel
  obtain ⟨m11, m12⟩ := w11 W hW
  have nxt : ∀ hh, dgR L xs hh 6 [12] (some p) = some (some xc) → b172_32 L xs zf (dM L xs zf w (ke + j)) w (b172_2 L xs zf (dM L xs zf w (ke + j)) w N) (some C) (some la) (some p) hh = b172_2 L xs zf (dM L xs zf w (ke + j)) w N (some C) (some la) (some xc) hh := by
    intro hh e
    unfold b172_32
    exact bsq e rfl
  rw [b172_2]
  refine bsq gx (inq (dnl_s xc) (bsq g0 ?_))
  rw [m11]
  by_cases q1 : W = 11
  · rw [if_pos (decide_eq_true q1)]
    unfold b172_27
    exact bsq (a1 (Or.inl q1)) ((nxt h1 gx1).trans (b1.trans upw))
  · rw [if_neg (fun z => q1 (of_decide_eq_true z))]
    refine bsq g0 ?_
    rw [m12]
    by_cases q2 : W = 12
    · rw [if_neg (fun z => absurd q2 (of_decide_eq_true z))]
      unfold b172_27
      exact bsq (a1 (Or.inr q2)) ((nxt h1 gx1).trans (b1.trans upw))
    · rw [if_pos (decide_eq_true q2)]
      have := a1' (fun z => z.elim q1 q2)
      subst this
      exact (nxt h1 gx1).trans (b1.trans upw)
/-- the whole expression -/
theorem zx_172 (d : DW L xs zf w cx C Sc M pl ph pt vr mv ds f sl ty rc a b kl hB p len n ke) (hlen : len + 1 < w) {s : Int32} (e1 : fd hB 12 p 1 = some (.int s)) : ZX L xs zf w cx C Sc M pl ph pt vr mv ds f sl ty rc a b kl hB 172 p n (ke + 1) := by
  intro j h u ev hz
  obtain ⟨t, h', u', r1, r2⟩ := d p j h u w (Nat.le_refl _) ev hz (by omega)
  refine ⟨t, h', u', ?_, r2⟩
  rw [zk_v ev.1, show ke + 1 + j = ke + j + 1 from by omega, e172]
  show (b172_2 L xs zf (dM L xs zf w (ke + j)) w w (some C) (some p) (some p) h).bind dxI = _
  rw [r1]
  obtain ⟨v, hv⟩ : ∃ v, w - len = v + 1 := ⟨w - len - 1, by omega⟩
  rw [hv]
  refine bsq (a := (some (.int t), h')) ?_ rfl
  rw [b172_46]
  exact itq (dcm_o (fun q hq => by cases hq; exact (fd_lt e1).2) (fd_lt e1).2) (itq (decide_eq_true rfl) rfl)
end ZY
