/-! BOTH CHECK: the chain of an expression. -/
section JCH
variable {L : Nat} {xs : Nat → Int32} {zf : Value} {w C Sc M Pl Ph LO HI nk m lv n p q i d lo hi k k2 z W ke kr K l τ px pl ph xc lo' hi' pl' ph' hl : Nat} {cx : Nat → Nat} {hB h h1 h2 : rm_H} {s0 s s1 s2 : rS} {pt vr gn gn1 a b a1 b1 x y rc t v : Int32} {mv : Value} {ds kl ml es ns ts qs : List Nat} {G : List scN} {u u1 u2 : Nat → Nat} {A B A1 B1 : Nat → Int32} {c : Int64} {X : scN} {f : Nat → Int64} {sl ty : Nat → Int32} {sw : Bool}
/-- the walk down from Node p, node n, and up to it again, by both -/
def JW (L : Nat) (xs : Nat → Int32) (zf : Value) (w : Nat) (cx : Nat → Nat) (C Sc M : Nat) (pt vr : Int32) (mv : Value) (hB : rm_H) (s0 : rS) (nk m Pl Ph LO HI z p n lo hi ke kr : Nat) : Prop := ∀ (la lan j j2 : Nat) (h : rm_H) (s : rS) (ds : List Nat) (G : List scN) (lv : Nat) (gn b : Int32) (u : Nat → Nat) (A B : Nat → Int32) (N N2 : Nat), p ≤ la → n ≤ lan → lan < 4400 → hi - lo ≤ N → hi - lo ≤ N2 → CKJ L xs cx C Sc M pt vr mv hB s0 nk m h s ds G lv gn 0 b u A B → lv + z ≤ 55 → FV s0 G gn lo hi → (∀ i, lo ≤ i → i < hi → s.2.1 53 i = s0.2.1 53 i) → u 2 + 3 * (hi - lo) ≤ 9000 → ∃ t r h' s' v v2, w < v + (hi - lo) ∧ w < v2 + (hi - lo) ∧ b172_2 L xs zf (dM L xs zf w (ke + j)) w N (some C) (some la) (some p) h = b172_46 L xs zf (dM L xs zf w (ke + j)) w v (some C) (some la) (some p) t h' ∧ (s339_2 (rM w (kr + j2)) w N2 (Int32.ofNat lan) (Int32.ofNat n) s = if s'.1 57 = 0 then s339_70 (rM w (kr + j2)) w v2 (Int32.ofNat lan) (Int32.ofNat n) r s' else some (some (.int (-1)), s')) ∧ EXO L xs cx C Sc M pt vr mv hB s0 nk m Pl Ph LO HI lo hi n lv G ds gn u A B h s (3 * (hi - lo)) t r h' s'
/-- a link by both -/
def LK (L : Nat) (xs : Nat → Int32) (zf : Value) (w : Nat) (cx : Nat → Nat) (C Sc M : Nat) (pt vr : Int32) (mv : Value) (hB : rm_H) (s0 : rS) (nk m Pl Ph LO HI z p n W l lo hi : Nat) (es : List Nat) (ke kr : Nat) : Prop := ∀ (j j2 : Nat) (h : rm_H) (s : rS) (ds : List Nat) (G : List scN) (lv : Nat) (gn b : Int32) (u : Nat → Nat) (A B : Nat → Int32) (τ : Nat) (ns ts : List Nat), CKJ L xs cx C Sc M pt vr mv hB s0 nk m h s ds G lv gn 0 b u A B → lv + z ≤ 55 → FV s0 G gn n hi → (∀ i, n ≤ i → i < hi → s.2.1 53 i = s0.2.1 53 i) → u 2 + 3 * (hi - n) ≤ 9000 → vT s0 nk τ → s.1 61 = oT τ → pf60 (s.1 60) (isPl (s0.2.1 44 l)) → (W = 11 ∨ W = 12 → chR s0 ns (s0.2.1 45 n) ∧ aQ s0 nk h s es ns ts) → ∃ t' r' h' s', (dcV L xs (dM L xs zf w (ke + j)) 202 [13] (some C) [va_rf (some p), .int (cT τ)] h).bind dxI = some (t', h') ∧ rM w (kr + j2) 361 [.ref 36, .int (Int32.ofNat n), .int (Int32.ofNat l), .int (rTp τ)] s = some (some (.int r'), s') ∧ LXO L xs cx C Sc M pt vr mv hB s0 nk m Pl Ph LO HI lo hi n W l τ ts lv G ds gn u A B h s (3 * (hi - n)) t' r' h' s'
/-- arguments on the way down, by both -/
def AO (L : Nat) (xs : Nat → Int32) (zf : Value) (w : Nat) (cx : Nat → Nat) (C Sc M : Nat) (pt vr : Int32) (mv : Value) (hB : rm_H) (s0 : rS) (nk m Pl Ph LO HI z p n lo hi : Nat) (es : List Nat) (ke kr : Nat) : Prop := ∀ (j j2 : Nat) (h : rm_H) (s : rS) (ds : List Nat) (G : List scN) (lv : Nat) (gn b : Int32) (u : Nat → Nat) (A B : Nat → Int32), CKJ L xs cx C Sc M pt vr mv hB s0 nk m h s ds G lv gn 0 b u A B → lv + z ≤ 55 → FV s0 G gn lo hi → (∀ i, lo ≤ i → i < hi → s.2.1 53 i = s0.2.1 53 i) → u 2 + 3 * (hi - lo) ≤ 9000 → ∃ h' s', (dcV L xs (dM L xs zf w (ke + j)) 173 [13] (some C) [va_rf (some p)] h).bind dxV = some h' ∧ rM w (kr + j2) 341 [.ref 36, .int (Int32.ofNat n)] s = some (none, s') ∧ AXO L xs cx C Sc M pt vr mv hB s0 nk m Pl Ph LO HI lo hi lv G ds gn u A B h s (3 * (hi - lo)) es (s0.2.1 45 n) h' s'
theorem r_70f {i1 i2 i3 : Int32} {v : Nat} (hs : 0 < (s.1 57).toInt) : s339_70 (rM w k) w (v + 1) i1 i2 i3 s = some (some (.int (-1)), s) := by
  have f : s339_104 (rM w k) w i3 s = some (some (.int (-1)), s) := by
    unfold s339_104
    exact inq (le_ps hs) rfl
  rw [s339_70]
  by_cases c : mx_f2 .eq i2 i1 = true
  · exact itq c f
  · exact inq c (itq (by rw [f1_ne]; exact decide_eq_true (ps_ne hs)) f)
theorem r_2f {i1 i2 : Int32} {N : Nat} (hw : 1 ≤ w) (hs : 0 < (s.1 57).toInt) : s339_2 (rM w k) w (N + 1) i1 i2 s = some (some (.int (-1)), s) := by
  rw [s339_2]
  refine itq (by rw [f1_ne]; exact decide_eq_true (ps_ne hs)) ?_
  unfold s339_53
  refine inq (le_ps hs) ?_
  unfold s339_69
  obtain ⟨v, rfl⟩ : ∃ v, w = v + 1 := ⟨w - 1, by omega⟩
  exact r_70f hs
theorem r_340 (hn : n < 4400) (r44 : s.2.1 44 n = Int32.ofNat W) (hW : W < 23) : rM w (k + 1) 340 [.ref 36, .int (Int32.ofNat n)] s = some (some (.int (if 10 ≤ W ∧ W ≤ 13 then 1 else 0)), s) := by
  have g44 : rs_aI s 44 (Int32.ofNat n) = some (Int32.ofNat W) := (aI_at (i := n) (by decide) rfl hn (by decide)).trans (by rw [r44])
  have f1 : ∀ W, W < 23 → (mx_f2 .lt (Int32.ofNat W) 10 = decide (W < 10)) ∧ (mx_f2 .gt (Int32.ofNat W) 13 = decide (13 < W)) := by decide +kernel
  obtain ⟨m1, m2⟩ := f1 W hW
  rw [y340]
  show s340_0 (rM w k) w (Int32.ofNat n) s = _
  unfold s340_0
  refine bsq g44 ?_
  rw [m1]
  by_cases c1 : W < 10
  · rw [if_pos (decide_eq_true c1), if_neg (fun z => by omega)]
    rfl
  · rw [if_neg (fun z => c1 (of_decide_eq_true z))]
    refine bsq g44 ?_
    rw [m2]
    by_cases c2 : 13 < W
    · rw [if_pos (decide_eq_true c2), if_neg (fun z => by omega)]
      rfl
    · rw [if_neg (fun z => c2 (of_decide_eq_true z)), if_pos ⟨by omega, by omega⟩]
      rfl
theorem r_342 (hn : n < 4400) (r44 : s.2.1 44 n = Int32.ofNat W) (hW : W < 23) : rM w (k + 1) 342 [.ref 36, .int (Int32.ofNat n)] s = some (some (.int (if W = 11 ∨ W = 12 then s.2.1 46 n else s.2.1 45 n)), s) := by
  have g44 : rs_aI s 44 (Int32.ofNat n) = some (Int32.ofNat W) := (aI_at (i := n) (by decide) rfl hn (by decide)).trans (by rw [r44])
  have g45 : rs_aI s 45 (Int32.ofNat n) = some (s.2.1 45 n) := aI_at (i := n) (by decide) rfl hn (by decide)
  have g46 : rs_aI s 46 (Int32.ofNat n) = some (s.2.1 46 n) := aI_at (i := n) (by decide) rfl hn (by decide)
  have w11 : ∀ W, W < 23 → (mx_f2 .eq (Int32.ofNat W) 11 = decide (W = 11)) ∧ (mx_f2 .ne (Int32.ofNat W) 12 = decide (¬ W = 12)) := by decide +kernel
  obtain ⟨m1, m2⟩ := w11 W hW
  have f22 : s342_22 (rM w k) w (Int32.ofNat n) s = some (some (.int (s.2.1 46 n)), s) := by
    unfold s342_22
    exact bsq g46 rfl
  rw [y342]
  show s342_0 (rM w k) w (Int32.ofNat n) s = _
  unfold s342_0
  refine bsq g44 ?_
  rw [m1]
  by_cases c1 : W = 11
  · rw [if_pos (decide_eq_true c1), if_pos (Or.inl c1)]
    exact f22
  · rw [if_neg (fun z => c1 (of_decide_eq_true z))]
    refine bsq g44 ?_
    rw [m2]
    by_cases c2 : W = 12
    · rw [if_neg (fun z => absurd c2 (of_decide_eq_true z)), if_pos (Or.inr c2)]
      exact f22
    · rw [if_pos (decide_eq_true c2), if_neg (fun z => z.elim c1 c2)]
      exact bsq g45 rfl
/-- the head -/
theorem jw_0 (e : JX L xs zf w cx C Sc M pt vr mv hB s0 nk m Pl Ph LO HI z 174 343 p n lo hi ke kr) (e6 : fd hB 12 p 6 = some .null) (r44 : s0.2.1 44 n = Int32.ofNat W) (hW : W < 10) (hn : n < 4400) (hlo : lo < hi) (hk : 1 ≤ kr) (hw : 1 ≤ w) : JW L xs zf w cx C Sc M pt vr mv hB s0 nk m Pl Ph LO HI z p n lo hi ke kr := by
  intro la lan j j2 h s ds G lv gn b u A B N N2 _ _ _ hN hN2 ck hlz fv p53 hz
  obtain ⟨N, rfl⟩ : ∃ M, N = M + 1 := ⟨N - 1, by omega⟩
  obtain ⟨N2, rfl⟩ : ∃ M, N2 = M + 1 := ⟨N2 - 1, by omega⟩
  obtain ⟨t, r, h', s', q1, q2, ex⟩ := e j j2 h s ds G lv gn b u A B ck hlz fv p53 hz
  obtain ⟨kh, dl, bh, rk, e57, _, rg, gw⟩ := id ck
  refine ⟨t, r, h', s', w, w, by omega, by omega, ?_, ?_, ex⟩
  · rw [b172_2]
    exact bsq (fd_R (o := none) (bh.1.1 _ _ _ (by decide) e6) (by decide)) (itq rfl (bsq q1 rfl))
  · obtain ⟨k3, hk3⟩ : ∃ k3, kr + j2 = k3 + 1 := ⟨kr + j2 - 1, by omega⟩
    have r40 := r_340 (w := w) (k := k3) (s := s) hn (by rw [rk_A rk (by decide)]; exact r44) (by omega)
    rw [if_neg (fun z => by omega), ← hk3] at r40
    rw [s339_2]
    refine inq (show ¬ mx_f1 .ne (s.1 57) = true by rw [e57]; decide) (bsq (a := (0, s)) (by rw [r40]; rfl) (itq (show mx_f1 .eq (0 : Int32) = true by decide) ?_))
    unfold s339_53
    refine itq (show mx_f1 .le (s.1 57) = true by rw [e57]; decide) (bsq (a := (r, s')) (by rw [q2]; rfl) ?_)
    unfold s339_69
    obtain ⟨gn', a', b', u', A', B', o1, _⟩ := ex
    by_cases ha : s'.1 57 = 0
    · rw [if_pos ha]
    · rw [if_neg ha]
      obtain ⟨v, rfl⟩ : ∃ v, w = v + 1 := ⟨w - 1, by omega⟩
      refine r_70f ?_
      rw [o1.2.2.2.2.1] at ha ⊢
      exact (o1.2.2.2.2.2.1 ha).2
theorem aQ_k (aq : aQ s0 nk h s es ns ts) (kh : KH L xs cx C Sc M pt vr mv h ds f sl ty gn rc a b u A B) (wf : wF cx C Sc pl ph u h h1) (r5 : r53 lo hi s s1) (hes : ∀ e ∈ es, ¬ (pl ≤ e ∧ e < ph)) (hns : ∀ e ∈ ns, ¬ (lo ≤ e ∧ e < hi)) : aQ s0 nk h1 s1 es ns ts := by
  obtain ⟨a1, a2, a3⟩ := aq
  refine ⟨a1, a2, fun i e0 m0 t h1 h2 h3 => ?_⟩
  obtain ⟨b1, b2, b3, b4, b5⟩ := a3 i e0 m0 t h1 h2 h3
  have he := hes e0 (List.mem_of_getElem? h1)
  have hn := hns m0 (List.mem_of_getElem? h2)
  exact ⟨wF_out kh wf b1 he, wF_out kh wf b2 he, (r5 m0 hn).2.trans b3, b4, b5⟩
/-- one link more -/
theorem jw_s (j0 : JE L xs cx hB s0 nk kl ml) (bj : bJ L xs hB s0 nk kl M m) (IH : JW L xs zf w cx C Sc M pt vr mv hB s0 nk m pl' ph' LO HI z xc l lo' hi' ke kr) (e0 : fd hB 12 p 0 = some (.int (Int32.ofNat W))) (e6 : fd hB 12 p 6 = some (.ref xc)) (e7 : fd hB 12 xc 7 = some (.ref p)) (lt : xc < p) (r44 : s0.2.1 44 n = Int32.ofNat W) (hW : 10 ≤ W ∧ W ≤ 13) (r4x : (if W = 11 ∨ W = 12 then s0.2.1 46 n else s0.2.1 45 n) = Int32.ofNat l) (r49 : s0.2.1 49 l = Int32.ofNat n) (hl1 : 1 ≤ l) (hln : l < n) (hn : n < 4400) (d1 : lo ≤ lo') (d2 : lo' < hi') (d3 : hi' ≤ n) (d4 : n < hi) (hHI : hi ≤ HI) (hLO : LO ≤ lo) (dp1 : pl ≤ pl') (dp2 : ph' ≤ p) (dp3 : pl ≤ p + 1) (hhl : n < hl ∧ hl ≤ hi ∧ (W = 13 → hl = hi) ∧ (W ≠ 13 → hl = n + 1)) (ao : W = 11 ∨ W = 12 → AO L xs zf w cx C Sc M pt vr mv hB s0 nk m (p + 1) ph LO HI z p n (n + 1) hi es ke kr) (lk : LK L xs zf w cx C Sc M pt vr mv hB s0 nk m pl ph LO HI z p n W l lo hl es ke kr) (zin : ∀ (ds : List Nat) (f : Nat → Int64) (sl ty : Nat → Int32) (rc a b : Int32), rc = 0 ∨ rc = 1 → ∃ len, len < hi' - lo' ∧ DW L xs zf w cx C Sc M pl' ph' pt vr mv ds f sl ty rc a b kl hB xc len (3 * (hi' - lo')) ke) (zup : ∀ (ds : List Nat) (f : Nat → Int64) (sl ty : Nat → Int32) (rc a b : Int32), rc = 0 ∨ rc = 1 → ∀ (j : Nat) (h : rm_H) (u : Nat → Nat) (t : Int32), EV L xs cx C Sc M pt vr mv ds f sl ty rc a b kl hB h u → (W = 11 ∨ W = 12 → aTy h es) → u 2 + 3 * (hl - n) ≤ 9000 → ∃ t' h' u', (dcV L xs (dM L xs zf w (ke + j)) 202 [13] (some C) [va_rf (some p), .int t] h).bind dxI = some (t', h') ∧ ZR L xs cx C Sc M pl ph pt vr mv ds f sl ty rc a b h u (3 * (hl - n)) h' u') (hk : 1 ≤ kr) (hw : 4600 ≤ w) (hph : ph' ≤ ph) : JW L xs zf w cx C Sc M pt vr mv hB s0 nk m pl ph LO HI z p n lo hi ke kr := by
  intro la lan j j2 h s ds G lv gn b u A B N N2 hla hlan hl4 hN hN2 e hlz fv p53 hz
  obtain ⟨N, rfl⟩ : ∃ M, N = M + 1 := ⟨N - 1, by omega⟩
  obtain ⟨N2, rfl⟩ : ∃ M, N2 = M + 1 := ⟨N2 - 1, by omega⟩
  obtain ⟨kh, dl, bh, rk, e57, _, rg, gw⟩ := id e
  obtain ⟨k3, hk3⟩ : ∃ k3, kr + j2 = k3 + 1 := ⟨kr + j2 - 1, by omega⟩
  have px := (fd_lt e7).2
  have w11 : ∀ W, W < 23 → (mx_f2 .eq (Int32.ofNat W) 11 = decide (W = 11)) ∧ (mx_f2 .ne (Int32.ofNat W) 12 = decide (¬ W = 12)) := by decide +kernel
  obtain ⟨m11, m12⟩ := w11 W (by omega)
  -- the class goes down
  have cdown : ∀ h1 R, (W = 11 ∨ W = 12 → (dcV L xs (dM L xs zf w (ke + j)) 173 [13] (some C) [va_rf (some p)] h).bind dxV = some h1) → (¬ (W = 11 ∨ W = 12) → h1 = h) → bH L xs hB h1 → b172_2 L xs zf (dM L xs zf w (ke + j)) w N (some C) (some la) (some xc) h1 = R → b172_2 L xs zf (dM L xs zf w (ke + j)) w (N + 1) (some C) (some la) (some p) h = R := by
    intro h1 R c1 c2 bh1 hR
    have gx : dgR L xs h 6 [12] (some p) = some (some xc) := fd_R (o := some xc) (bh.1.1 _ _ _ (by decide) e6) (by decide)
    have gx1 : dgR L xs h1 6 [12] (some p) = some (some xc) := fd_R (o := some xc) (bh1.1.1 _ _ _ (by decide) e6) (by decide)
    have g0 : dgI L xs h 0 [12] (some p) = some (Int32.ofNat W) := fd_I (bh.1.1 _ _ _ (by decide) e0) (by decide)
    have nxt : b172_32 L xs zf (dM L xs zf w (ke + j)) w (b172_2 L xs zf (dM L xs zf w (ke + j)) w N) (some C) (some la) (some p) h1 = R := by
      unfold b172_32
      exact bsq gx1 hR
    rw [b172_2]
    refine bsq gx (inq (dnl_s xc) (bsq g0 ?_))
    rw [m11]
    by_cases q1 : W = 11
    · rw [if_pos (decide_eq_true q1)]
      unfold b172_27
      exact bsq (c1 (Or.inl q1)) nxt
    · rw [if_neg (fun z => q1 (of_decide_eq_true z))]
      refine bsq g0 ?_
      rw [m12]
      by_cases q2 : W = 12
      · rw [if_neg (fun z => absurd q2 (of_decide_eq_true z))]
        unfold b172_27
        exact bsq (c1 (Or.inr q2)) nxt
      · rw [if_pos (decide_eq_true q2)]
        have := c2 (fun z => z.elim q1 q2)
        subst this
        exact nxt
  -- and up
  have cup : ∀ (v : Nat) (t : Int32) (h2 : rm_H) (t' : Int32) (h3 : rm_H), bH L xs hB h2 → (dcV L xs (dM L xs zf w (ke + j)) 202 [13] (some C) [va_rf (some p), .int t] h2).bind dxI = some (t', h3) → b172_46 L xs zf (dM L xs zf w (ke + j)) w (v + 1) (some C) (some la) (some xc) t h2 = b172_46 L xs zf (dM L xs zf w (ke + j)) w v (some C) (some la) (some p) t' h3 := by
    intro v t h2 t' h3 bh2 c1
    have g7 : dgR L xs h2 7 [12] (some xc) = some (some p) := fd_R (o := some p) (bh2.1.1 _ _ _ (by decide) e7) (by decide)
    rw [b172_46]
    refine itq (dcm_o (fun q hq => by cases hq; exact px) (by omega)) (inq (fun z => ?_) (bsq g7 (inq (dnl_s p) (bsq g7 (bsq c1 rfl)))))
    have : some xc = some la := of_decide_eq_true z
    cases this
    omega
  -- the reference goes down
  have rdown : ∀ s1 R, (W = 11 ∨ W = 12 → rM w (kr + j2) 341 [.ref 36, .int (Int32.ofNat n)] s = some (none, s1)) → (¬ (W = 11 ∨ W = 12) → s1 = s) → rK s0 s1 → s339_2 (rM w (kr + j2)) w N2 (Int32.ofNat lan) (Int32.ofNat l) s1 = R → s339_2 (rM w (kr + j2)) w (N2 + 1) (Int32.ofNat lan) (Int32.ofNat n) s = R := by
    intro s1 R c1 c2 rk1 hR
    have r40 := r_340 (w := w) (k := k3) (s := s) hn (by rw [rk_A rk (by decide)]; exact r44) (by omega)
    rw [if_pos hW, ← hk3] at r40
    have r42 := r_342 (w := w) (k := k3) (s := s1) hn (by rw [rk_A rk1 (by decide)]; exact r44) (by omega)
    rw [rk_A rk1 (by decide), rk_A rk1 (by decide), r4x, ← hk3] at r42
    have g44 : rs_aI s 44 (Int32.ofNat n) = some (Int32.ofNat W) := (aI_at (i := n) (by decide) rfl hn (by decide)).trans (by rw [rk_A rk (by decide), r44])
    have nxt : s339_44 (rM w (kr + j2)) w (s339_2 (rM w (kr + j2)) w N2) (Int32.ofNat lan) (Int32.ofNat n) s1 = R := by
      unfold s339_44
      exact bsq (a := (Int32.ofNat l, s1)) (by rw [r42]; rfl) hR
    rw [s339_2]
    refine inq (show ¬ mx_f1 .ne (s.1 57) = true by rw [e57]; decide) (bsq (a := (1, s)) (by rw [r40]; rfl) (inq (show ¬ mx_f1 .eq (1 : Int32) = true by decide) (bsq g44 ?_)))
    rw [m11]
    by_cases q1 : W = 11
    · rw [if_pos (decide_eq_true q1)]
      unfold s339_39
      exact bsq (a := s1) (by rw [c1 (Or.inl q1)]; rfl) nxt
    · rw [if_neg (fun z => q1 (of_decide_eq_true z))]
      refine bsq g44 ?_
      rw [m12]
      by_cases q2 : W = 12
      · rw [if_neg (fun z => absurd q2 (of_decide_eq_true z))]
        unfold s339_39
        exact bsq (a := s1) (by rw [c1 (Or.inr q2)]; rfl) nxt
      · rw [if_pos (decide_eq_true q2)]
        have := c2 (fun z => z.elim q1 q2)
        subst this
        exact nxt
  have rup : ∀ (v2 : Nat) (r : Int32) (s2 : rS) (r' : Int32) (s3 : rS), s2.1 57 = 0 → rK s0 s2 → rM w (kr + j2) 361 [.ref 36, .int (Int32.ofNat n), .int (Int32.ofNat l), .int r] s2 = some (some (.int r'), s3) → s339_70 (rM w (kr + j2)) w (v2 + 1) (Int32.ofNat lan) (Int32.ofNat l) r s2 = s339_70 (rM w (kr + j2)) w v2 (Int32.ofNat lan) (Int32.ofNat n) r' s3 := by
    intro v2 r s2 r' s3 z57 rk2 c1
    rw [s339_70]
    refine inq (fun z => ?_) (inq (show ¬ mx_f1 .ne (s2.1 57) = true by rw [z57]; decide) (bsq (a := Int32.ofNat n) ((aI_at (i := l) (by decide) rfl (by omega) (by decide)).trans (by rw [rk_A rk2 (by decide), r49])) (bsq (a := (r', s3)) (by rw [c1]; rfl) rfl)))
    have z : Int32.ofNat l = Int32.ofNat lan := of_decide_eq_true z
    have := congrArg Int32.toInt z
    rw [of_int (by omega), of_int (by omega)] at this
    omega
  -- arguments, or none
  obtain ⟨c1, hc1, h1, s1, gn1, a1, b1, u1, A1, B1, D1, D2, D3, D4, D5, ck1, wf1, wk1, u10, u12, r5a, at1, ok1⟩ : ∃ c1, c1 + 3 * (hl - n) ≤ 3 * (hi - n) ∧ ∃ h1 s1 gn1 a1 b1 u1 A1 B1, (W = 11 ∨ W = 12 → (dcV L xs (dM L xs zf w (ke + j)) 173 [13] (some C) [va_rf (some p)] h).bind dxV = some h1) ∧ (¬ (W = 11 ∨ W = 12) → h1 = h) ∧ (W = 11 ∨ W = 12 → rM w (kr + j2) 341 [.ref 36, .int (Int32.ofNat n)] s = some (none, s1)) ∧ (¬ (W = 11 ∨ W = 12) → s1 = s) ∧ (¬ (W = 11 ∨ W = 12) → gn1 = gn) ∧ CKJ L xs cx C Sc M pt vr mv hB s0 nk m h1 s1 ds G lv gn1 a1 b1 u1 A1 B1 ∧ wF cx C Sc (p + 1) ph u h h1 ∧ wK2 u u1 h h1 ∧ u1 0 = u 0 ∧ u1 2 ≤ u 2 + c1 ∧ r53 (n + 1) hi s s1 ∧ (W = 11 ∨ W = 12 → aTy h1 es) ∧ (a1 = 0 → (∀ i, i < u 2 → A1 i = A i ∧ B1 i = B i) ∧ (∀ lo2 hi2, (hi2 ≤ n + 1 ∨ hi ≤ lo2) → LO ≤ lo2 → hi2 ≤ HI → FV s0 G gn lo2 hi2 → FV s0 G gn1 lo2 hi2) ∧ ∃ ns ts, (W = 11 ∨ W = 12 → chR s0 ns (s0.2.1 45 n) ∧ aQ s0 nk h1 s1 es ns ts ∧ (∀ k ∈ ns, n + 1 ≤ k ∧ k < hi) ∧ (∀ e ∈ es, p + 1 ≤ e ∧ e < ph)) ∧ ∀ (SL AA BB : Nat → Int32) (f : Nat), (W = 11 ∨ W = 12 → ∀ i, n + 1 ≤ i → i < hi → SL i = s1.2.1 53 i) → (∀ i, u 2 ≤ i → i < u1 2 → AA i = A1 i ∧ BB i = B1 i) → hi - (n + 1) ≤ f → DAG s0 SL AA BB m W ts f lv G gn (s0.2.1 45 n) gn1 (u 2) (u1 2)) := by
    by_cases q : W = 11 ∨ W = 12
    · obtain ⟨h1, s1, m1, m2, ⟨gn1, a1, b1, u1, A1, B1, ck1, wf1, wk1, u10, u12, r5a, ok1⟩, at1⟩ := ao q j j2 h s ds G lv gn b u A B e hlz (FV_sub fv (by omega) (Nat.le_refl _)) (fun i h1 h2 => p53 i (by omega) h2) (by omega)
      have hl' : hl = n + 1 := hhl.2.2.2 (by omega)
      refine ⟨3 * (hi - (n + 1)), by omega, h1, s1, gn1, a1, b1, u1, A1, B1, fun _ => m1, fun z => absurd q z, fun _ => m2, fun z => absurd q z, fun z => absurd q z, ck1, wf1, wk1, u10, u12, r5a, fun _ => at1, fun z => ?_⟩
      obtain ⟨o1, o2, ns, ts, o3, o4, o5, o6, o7⟩ := ok1 z
      exact ⟨o1, o2, ns, ts, fun _ => ⟨o3, o4, o5, o6⟩, fun SL AA BB f y1 y2 y3 => ⟨fun y => by omega, fun _ => o7 SL AA BB f (y1 q) y2 y3⟩⟩
    · refine ⟨0, by omega, h, s, gn, 0, b, u, A, B, fun z => absurd z q, fun _ => rfl, fun z => absurd z q, fun _ => rfl, fun _ => rfl, e, wF_refl, wK2_refl, rfl, by omega, r53_refl, fun z => absurd z q, fun _ => ⟨fun _ _ => ⟨rfl, rfl⟩, fun _ _ _ _ _ y => y, [], [], fun z => absurd z q, fun SL AA BB f _ _ _ => ⟨fun _ => ⟨rfl, rfl⟩, fun z => absurd z q⟩⟩⟩
  have W1 : wF cx C Sc pl ph u h h1 := wF_mono wf1 dp3 (Nat.le_refl _)
  have bh1 := ck1.2.2.1
  have uu1 : u 2 ≤ u1 2 := wk1.2.2.2.2.1
  have un : c1 + 3 * (hl - n) + 3 * (hi' - lo') ≤ 3 * (hi - lo) := by omega
  have uz : u1 2 + 3 * (hi' - lo') + 3 * (hl - n) ≤ 9000 := by omega
  by_cases ha : a1 = 0
  · subst ha
    obtain ⟨old1, fv1, ns, ts, aq1, dag⟩ := ok1 rfl
    obtain ⟨t, r, h2, s2, v, v2, hv, hv2, m1, m2, gn2, a2, b2, u2, A2, B2, ck2, wf2, wk2, u20, u22, r5b, ok2⟩ := IH la lan j j2 h1 s1 ds G lv gn1 b1 u1 A1 B1 N N2 (by omega) (by omega) hl4 (by omega) (by omega) ck1 hlz (fv1 lo' hi' (by omega) (by omega) (by omega) (FV_sub fv d1 (by omega))) (fun i h1 h2 => by rw [(r5a i (fun z => by omega)).1]; exact p53 i (by omega) (by omega)) (by omega)
    have W2 : wF cx C Sc pl ph u1 h1 h2 := wF_mono wf2 dp1 hph
    have W12 := wF_trans W1 wk1 W2
    have K12 := wK2_trans wk1 wk2 W1.1.1
    have bh2 := ck2.2.2.1
    have uu2 : u1 2 ≤ u2 2 := wk2.2.2.2.2.1
    have R12 : r53 lo hi s s2 := r53_trans (r53_mono r5a (by omega) (Nat.le_refl _)) (r53_mono r5b d1 (by omega))
    obtain ⟨v, rfl⟩ : ∃ v', v = v' + 1 := ⟨v - 1, by omega⟩
    obtain ⟨v2, rfl⟩ : ∃ v', v2 = v' + 1 := ⟨v2 - 1, by omega⟩
    have s57 : s2.1 57 = a2 := ck2.2.2.2.2.1
    by_cases hb : a2 = 0
    · subst hb
      obtain ⟨old2, fv2, τ, vt, et, er, e61, e60, tu⟩ := ok2 rfl
      subst et
      subst er
      rw [if_pos s57] at m2
      obtain ⟨t', r', h3, s3, n1, n2, gn3, a3, b3, u3, A3, B3, ck3, wf3, wk3, u30, u32, r5c, ok3⟩ := lk j j2 h2 s2 ds G lv gn2 b2 u2 A2 B2 τ ns ts ck2 hlz (fv2 n hl (by omega) (by omega) (by omega) (by
        by_cases q : W = 13
        · rw [D5 (by omega)]
          exact FV_sub fv (by omega) hhl.2.1
        · have := hhl.2.2.2 q
          intro j' j1 j2' j3
          have ej : j' = n := by omega
          rw [ej, r44] at j3
          have : ∀ W, W ≤ 13 → Int32.ofNat W ≠ 20 := by decide
          exact absurd j3 (this W hW.2))) (fun i h1 h2 => by
        rw [(r5b i (fun z => by omega)).1]
        by_cases q : W = 11 ∨ W = 12
        · have := hhl.2.2.2 (by omega)
          rw [(r5a i (fun z => by omega)).1]
          exact p53 i (by omega) (by omega)
        · rw [D4 q]
          exact p53 i (by omega) (by omega)) (by omega) vt e61 e60 (fun q => ⟨(aq1 q).1, aQ_k (aq1 q).2.1 ck1.1 wf2 r5b (fun e' he z => by have := (aq1 q).2.2.2 e' he; omega) (fun e' he z => by have := (aq1 q).2.2.1 e' he; omega)⟩)
      have s573 : s3.1 57 = a3 := ck3.2.2.2.2.1
      refine ⟨t', r', h3, s3, v, v2, by omega, by omega, cdown h1 _ D1 D2 bh1 (m1.trans (cup v _ h2 t' h3 bh2 n1)), rdown s1 _ D3 D4 ck1.2.2.2.1 (m2.trans ((rup v2 _ s2 r' s3 s57 ck2.2.2.2.1 n2).trans ?_)), gn3, a3, b3, u3, A3, B3, ck3, wF_trans W12 K12 wf3, wK2_trans K12 wk3 W12.1.1, (u30.trans u20).trans u10, by omega, r53_trans R12 (r53_mono r5c (by omega) hhl.2.1), fun z => ?_⟩
      · by_cases c : s3.1 57 = 0
        · rw [if_pos c]
        · rw [if_neg c]
          obtain ⟨v2, rfl⟩ : ∃ v', v2 = v' + 1 := ⟨v2 - 1, by omega⟩
          refine r_70f ?_
          rw [s573] at c ⊢
          exact (ck3.2.2.2.2.2.1 c).2
      · obtain ⟨old3, fv3, τ', vt', et', er', e61', e60', xe⟩ := ok3 z
        refine ⟨fun i hi => ⟨(old3 i (by omega)).1.trans ((old2 i (by omega)).1.trans (old1 i hi).1), (old3 i (by omega)).2.trans ((old2 i (by omega)).2.trans (old1 i hi).2)⟩, fun lo2 hi2 o1 o2 o3 o4 => fv3 lo2 hi2 (by omega) o2 o3 (fv2 lo2 hi2 (by omega) o2 o3 (fv1 lo2 hi2 (by omega) o2 o3 o4)), τ', vt', et', er', e61', e60', fun SL AA BB hSL hAB => ?_⟩
        have uu3 : u2 2 ≤ u3 2 := wk3.2.2.2.2.1
        obtain ⟨f, hf⟩ : ∃ f, hi - lo = f + 1 := ⟨hi - lo - 1, by omega⟩
        rw [hf]
        refine Or.inr (xe SL AA BB f (fun i h1 h2 => hSL i h1 (by omega)) (fun i h1 h2 => hAB i (by omega) h2) (by omega) gn gn1 (u 2) (u1 2) (dag SL AA BB f (fun q i h1 h2 => ?_) (fun i h1 h2 => ?_) (by omega)) (TU_e (tu SL AA BB (fun i h1 h2 => ?_) (fun i h1 h2 => ?_)) (by omega)))
        · have := hhl.2.2.2 (by omega)
          rw [hSL i (by omega) h2, (r5c i (fun z => by omega)).1, (r5b i (fun z => by omega)).1]
        · have q := hAB i h1 (by omega)
          have o := old3 i (by omega)
          have o' := old2 i (by omega)
          exact ⟨q.1.trans (o.1.trans o'.1), q.2.trans (o.2.trans o'.2)⟩
        · rw [hSL i (by omega) (by omega), (r5c i (fun z => by omega)).1]
        · have q := hAB i (by omega) (by omega)
          have o := old3 i (by omega)
          exact ⟨q.1.trans o.1, q.2.trans o.2⟩
    · rw [if_neg (by rw [s57]; exact hb)] at m2
      obtain ⟨t', h3, u3, n1, n2⟩ := zup ds (gN G) (gSl G) (gTp G) _ a2 b2 (rc_lv lv) j h2 u2 t (CK_EV j0 bj ck2 hb) (fun q => aTy_w (at1 q) W2) (by omega)
      obtain ⟨gn3, A3, B3, ck3⟩ := CK_ZR ck2 hb n2
      have uu3 := n2.2.2.2.2
      refine ⟨t', r, h3, s2, v, v2, by omega, by omega, cdown h1 _ D1 D2 bh1 (m1.trans (cup v _ h2 t' h3 bh2 n1)), rdown s1 _ D3 D4 ck1.2.2.2.1 (m2.trans ?_), gn3, a2, b2, u3, A3, B3, ck3, wF_trans W12 K12 n2.2.1, wK2_trans K12 n2.2.2.1 W12.1.1, (n2.2.2.2.1.trans u20).trans u10, by omega, R12, fun z => absurd z hb⟩
      rw [if_neg (by rw [s57]; exact hb)]
  · obtain ⟨len, l1, l2⟩ := zin ds (gN G) (gSl G) (gTp G) _ a1 b1 (rc_lv lv)
    have ev1 := CK_EV j0 bj ck1 ha
    obtain ⟨t, h2, u2, m1, m2⟩ := l2 la j h1 u1 N (by omega) ev1 (by omega) (by omega)
    have ev2 := EV_s ev1 m2
    have uu2 := m2.2.2.2.2
    have W2 : wF cx C Sc pl ph u1 h1 h2 := wF_mono m2.2.1 dp1 hph
    obtain ⟨t', h3, u3, n1, n2⟩ := zup ds (gN G) (gSl G) (gTp G) _ a1 b1 (rc_lv lv) j h2 u2 t ev2 (fun q => aTy_w (at1 q) W2) (by omega)
    obtain ⟨gn2, A2, B2, ck2⟩ := CK_ZR ck1 ha m2
    obtain ⟨gn3, A3, B3, ck3⟩ := CK_ZR ck2 ha n2
    have uu3 := n2.2.2.2.2
    have W12 := wF_trans W1 wk1 W2
    have K12 := wK2_trans wk1 m2.2.2.1 W1.1.1
    obtain ⟨v, hv⟩ : ∃ v, w - len = v + 1 := ⟨w - len - 1, by omega⟩
    rw [hv] at m1
    have s57 : s1.1 57 = a1 := ck1.2.2.2.2.1
    refine ⟨t', -1, h3, s1, v, w, by omega, by omega, cdown h1 _ D1 D2 bh1 (m1.trans (cup v _ h2 t' h3 ck2.2.2.1 n1)), rdown s1 _ D3 D4 ck1.2.2.2.1 ?_, gn3, a1, b1, u3, A3, B3, ck3, wF_trans W12 K12 n2.2.1, wK2_trans K12 n2.2.2.1 W12.1.1, (n2.2.2.2.1.trans m2.2.2.2.1).trans u10, by omega, r53_mono r5a (by omega) (Nat.le_refl _), fun z => absurd z ha⟩
    rw [if_neg (by rw [s57]; exact ha)]
    obtain ⟨N2, rfl⟩ : ∃ M, N2 = M + 1 := ⟨N2 - 1, by omega⟩
    refine r_2f (by omega) ?_
    rw [s57]
    exact (ck1.2.2.2.2.2.1 ha).2
/-- the whole expression -/
theorem j_172 (e : JW L xs zf w cx C Sc M pt vr mv hB s0 nk m Pl Ph LO HI z p n lo hi ke kr) (e1 : fd hB 12 p 1 = some (.int x)) (hn : n < 4400) (hlo : lo < hi) (hh : hi ≤ 4400) (hw : 4600 ≤ w) : JX L xs zf w cx C Sc M pt vr mv hB s0 nk m Pl Ph LO HI z 172 339 p n lo hi (ke + 1) (kr + 1) := by
  intro j j2 h s ds G lv gn b u A B ck hlz fv p53 hz
  obtain ⟨t, r, h', s', v, v2, hv, hv2, m1, m2, ex⟩ := e p n j j2 h s ds G lv gn b u A B w w (Nat.le_refl _) (Nat.le_refl _) hn (by omega) (by omega) ck hlz fv p53 hz
  obtain ⟨v, rfl⟩ : ∃ v', v = v' + 1 := ⟨v - 1, by omega⟩
  obtain ⟨v2, rfl⟩ : ∃ v', v2 = v' + 1 := ⟨v2 - 1, by omega⟩
  have cls : (dcV L xs (dM L xs zf w (ke + 1 + j)) 172 [13] (some C) [va_rf (some p)] h).bind dxI = some (t, h') := by
    rw [ck_v ck.1, show ke + 1 + j = ke + j + 1 from by omega, e172]
    show (b172_2 L xs zf (dM L xs zf w (ke + j)) w w (some C) (some p) (some p) h).bind dxI = _
    rw [m1]
    refine bsq (a := (some (.int t), h')) ?_ rfl
    rw [b172_46]
    exact itq (dcm_o (fun q hq => by cases hq; exact (fd_lt e1).2) (fd_lt e1).2) (itq (decide_eq_true rfl) rfl)
  have ref : ∀ r', (s'.1 57 = 0 → r' = r) → (s'.1 57 ≠ 0 → r' = -1) → rM w (kr + 1 + j2) 339 [.ref 36, .int (Int32.ofNat n)] s = some (some (.int r'), s') := by
    intro r' y1 y2
    rw [show kr + 1 + j2 = kr + j2 + 1 from by omega, y339]
    show s339_2 (rM w (kr + j2)) w w (Int32.ofNat n) (Int32.ofNat n) s = _
    rw [m2]
    by_cases c : s'.1 57 = 0
    · rw [if_pos c, y1 c, s339_70]
      refine itq (decide_eq_true rfl) ?_
      unfold s339_104
      exact itq (show mx_f1 .le (s'.1 57) = true by rw [c]; decide) rfl
    · rw [if_neg c, y2 c]
  obtain ⟨gn', a', b', u', A', B', o1, o2, o3, o4, o5, o6, o7⟩ := ex
  have s57 : s'.1 57 = a' := o1.2.2.2.2.1
  by_cases c : s'.1 57 = 0
  · exact ⟨t, r, h', s', cls, ref r (fun _ => rfl) (fun z => absurd c z), gn', a', b', u', A', B', o1, o2, o3, o4, o5, o6, o7⟩
  · exact ⟨t, -1, h', s', cls, ref (-1) (fun z => absurd z c) (fun _ => rfl), gn', a', b', u', A', B', o1, o2, o3, o4, o5, o6, fun z => absurd (s57.trans z) c⟩
end JCH
