/-! BOTH CHECK: blocks. -/
section JBM
variable {L : Nat} {xs : Nat → Int32} {zf : Value} {w C Sc M Pl Ph LO HI nk m lv n p q i d lo hi k k2 z W ke kr l px q0 q1 pl ph how : Nat} {cx : Nat → Nat} {hB h h1 h2 : rm_H} {s0 s s1 s2 : rS} {pt vr gn gn1 a b a1 b1 x y rc t v : Int32} {mv : Value} {ds dx kl ml es : List Nat} {G gx : List scN} {u u1 u2 : Nat → Nat} {A B A1 B1 : Nat → Int32} {f f' : Nat → Int64} {sl ty sl' ty' : Nat → Int32}
/-- a step in a block, by both -/
def SR (L : Nat) (xs : Nat → Int32) (zf : Value) (w : Nat) (cx : Nat → Nat) (C Sc M : Nat) (pt vr : Int32) (mv : Value) (hB : rm_H) (s0 : rS) (nk m LO HI z ke kr : Nat) (lo hi pl ph n e : Nat) : Prop := (∀ how, how ≤ 2 → (how = 1 → s0.2.1 75 m ≠ -1) → JS L xs zf w cx C Sc M pt vr mv hB s0 nk m pl ph LO HI z how e n lo hi ke kr) ∧ 1 ≤ n ∧ n < 4400 ∧ lo ≤ n ∧ n < hi ∧ (pl ≤ e ∧ e < ph) ∧ (∃ y, fd hB 12 e 1 = some (.int y)) ∧ ∃ W, 15 ≤ W ∧ W ≤ 22 ∧ fd hB 12 e 0 = some (.int (Int32.ofNat W)) ∧ s0.2.1 44 n = Int32.ofNat (wK W)
/-- what a block of both leaves -/
def BKO (L : Nat) (xs : Nat → Int32) (cx : Nat → Nat) (C Sc M : Nat) (pt vr : Int32) (mv : Value) (hB : rm_H) (s0 : rS) (nk m Pl Ph LO HI lo hi n how lv : Nat) (G : List scN) (ds : List Nat) (gn : Int32) (u : Nat → Nat) (A B : Nat → Int32) (h : rm_H) (s : rS) (cst : Nat) (t : Int32) (h' : rm_H) (s' : rS) : Prop :=
  OUT L xs cx C Sc M pt vr mv hB s0 nk m Pl Ph LO HI lo hi lv G ds gn u A B h s cst h' s' (fun gn' u' A' B' => ∃ tg, (how = 2 → vT s0 nk tg ∧ tg % 8 ≠ 6 ∧ tg ≠ 0 ∧ t = cT tg ∧ s'.1 65 = rTp tg) ∧ ∀ SL AA BB : Nat → Int32, (∀ i, lo ≤ i → i < hi → SL i = s'.2.1 53 i) → (∀ i, u 2 ≤ i → i < u' 2 → AA i = A' i ∧ BB i = B' i) → (TU s0 SL AA BB m (hi - lo)).2 lv G gn n how tg gn' (u 2) (u' 2))
def JB (L : Nat) (xs : Nat → Int32) (zf : Value) (w : Nat) (cx : Nat → Nat) (C Sc M : Nat) (pt vr : Int32) (mv : Value) (hB : rm_H) (s0 : rS) (nk m Pl Ph LO HI z how p n lo hi ke kr : Nat) : Prop := ∀ (j j2 : Nat) (h : rm_H) (s : rS) (ds : List Nat) (G : List scN) (lv : Nat) (gn b : Int32) (u : Nat → Nat) (A B : Nat → Int32), CKJ L xs cx C Sc M pt vr mv hB s0 nk m h s ds G lv gn 0 b u A B → lv + z ≤ 55 → FV s0 G gn lo hi → (∀ i, lo ≤ i → i < hi → s.2.1 53 i = s0.2.1 53 i) → u 2 + 3 * (hi - lo) ≤ 9000 → ∃ t h' s', (dcV L xs (dM L xs zf w (ke + j)) 166 [13] (some C) [va_rf (some p), .int (hwC how)] h).bind dxI = some (t, h') ∧ rM w (kr + j2) 336 [.ref 36, .int (Int32.ofNat n), .int (Int32.ofNat how)] s = some (none, s') ∧ BKO L xs cx C Sc M pt vr mv hB s0 nk m Pl Ph LO HI lo hi n how lv G ds gn u A B h s (3 * (hi - lo)) t h' s'
/-- the class at the head of the loop, when it is at its end or behind a fault -/
theorem bh_c {D : dD} {N c : Nat} {i2 i3 i4 : Int32} (kh : KH L xs cx C Sc M pt vr mv h ds f sl ty gn rc a b u A B) (hc : (i = c ∧ c ≤ 2000) ∨ a ≠ 0) : b166_23 L xs zf D w (N + 1) (some C) (some p) i2 i3 i4 (Int32.ofNat c) (Int32.ofNat i) h = b166_72 L xs zf D w (some C) (some p) i2 i3 i4 (Int32.ofNat c) h := by
  rw [b166_23]
  by_cases c1 : mx_f2 .ge (Int32.ofNat i) (Int32.ofNat c) = true
  · rw [if_pos c1]
  · rcases hc with ⟨q, q2⟩ | ha
    · subst q
      exact absurd (by rw [f2_ge]; simp) c1
    · refine inq c1 (bsq (ck_0 kh) (bsq (ck_7 kh) (itq ?_ rfl)))
      rw [f1_ne]
      exact decide_eq_true ha
theorem bh_r {E : rE} {N : Nat} {i1 i2 i3 i4 : Int32} (hc : x = 0 ∨ s.1 57 ≠ 0) : s336_16 E w (N + 1) i1 i2 i3 i4 x s = s336_65 E w i1 i2 i3 i4 s := by
  rw [s336_16]
  by_cases c1 : x = 0
  · exact itq (decide_eq_true c1) rfl
  · exact inq (fun z => c1 (of_decide_eq_true z)) (itq (by rw [f1_ne]; exact decide_eq_true (hc.resolve_left c1)) rfl)
theorem FV_l (e : FV s0 (G ++ gx) gn lo hi) : FV s0 G gn lo hi := by
  intro j j1 j2 j3
  obtain ⟨sn, t1, t2, t3, t4⟩ := e j j1 j2 j3
  refine ⟨sn, t1, t2, t3, fun i X hX => t4 i X ?_⟩
  rw [List.getElem?_append_left (List.getElem?_eq_some_iff.mp hX).1]
  exact hX
theorem ofN_0 (h1 : 1 ≤ l) (h2 : l < 4400) : ¬ Int32.ofNat l = 0 := by
  intro z
  have := congrArg Int32.toInt z
  rw [of_int (by omega), i0] at this
  omega
/-- a last step that is not refused -/
theorem be_k (W1 : 15 ≤ W) (W2 : W ≤ 22) (W4 : s0.2.1 44 n = Int32.ofNat (wK W)) (z0 : beX how (some (Int32.ofNat W)) = 0) (h0 : how ≠ 0) (hh : how ≤ 2) : s0.2.1 44 n = if how = 1 then 24 else 25 := by
  have c : Int32.ofNat W = hwC how := by
    unfold beX at z0
    by_cases c : how = 0 ∨ some (Int32.ofNat W) = some (hwC how)
    · exact Option.some.inj (c.resolve_left h0)
    · rw [if_neg c] at z0
      exact absurd z0 (by decide)
  obtain ⟨v1, v2⟩ := wK_hw W W1 W2
  have hc : how = 1 ∨ how = 2 := by omega
  rw [W4]
  rcases hc with q | q <;> subst q
  · exact v1.mpr c
  · exact v2.mpr c
/-- the last of a list of steps -/
theorem sq_last : ∀ (r : List Nat) (lo pl : Nat) (x : Int32), r ≠ [] → sq s0 (SR L xs zf w cx C Sc M pt vr mv hB s0 nk m LO HI z ke kr) hi ph n p lo pl r x → ∃ e0 l W y0, r[r.length - 1]? = some e0 ∧ 1 ≤ l ∧ l < 4400 ∧ fd hB 12 e0 1 = some (.int y0) ∧ 15 ≤ W ∧ W ≤ 22 ∧ fd hB 12 e0 0 = some (.int (Int32.ofNat W)) ∧ s0.2.1 44 l = Int32.ofNat (wK W)
  | [], _, _, _, h0, _ => absurd rfl h0
  | e0 :: r, lo, pl, x, _, e => by
    obtain ⟨m0, lo', hi1, pl', ph', _, _, ⟨_, n1, n2, n3, n4, ⟨pe1, pe2⟩, ⟨y0, y0'⟩, W, W1, W2, W3, W4⟩, _, sr⟩ := e
    by_cases hr : r = []
    · subst hr
      exact ⟨e0, m0, W, y0, rfl, n1, n2, y0', W1, W2, W3, W4⟩
    · obtain ⟨e1, l, V, y1, q1, q2⟩ := sq_last r hi1 ph' _ hr sr
      refine ⟨e1, l, V, y1, ?_, q2⟩
      have : r.length ≠ 0 := fun z => hr (List.length_eq_zero_iff.mp z)
      rw [List.length_cons, show r.length + 1 - 1 = (r.length - 1) + 1 from by omega, List.getElem?_cons_succ]
      exact q1
theorem lsS_of {r : List Nat} {x : Int32} (e : sq s0 (SR L xs zf w cx C Sc M pt vr mv hB s0 nk m LO HI z ke kr) hi ph n p lo pl r x) : ∃ la o, lsS hB s0 r la o := by
  by_cases hr : r = []
  · exact ⟨0, none, Or.inl ⟨hr, rfl, rfl⟩⟩
  · obtain ⟨e0, l, W, y0, q1, q2, q3, q4, q5, q6, q7, q8⟩ := sq_last r lo pl x hr e
    exact ⟨_, _, Or.inr ⟨e0, l, W, y0, q1, rfl, q2, q3, q4, q5, q6, q7, q8, rfl⟩⟩
/-- the loop over the steps -/
theorem blk_l {y1 laE : Int32} {oE : Option Int32} {j j2 u00 : Nat} (LS : lsS hB s0 es laE oE) (hp : pts hB q0 q1 p es) (e1 : fd hB 12 p 1 = some (.int y1)) (e3 : fd hB 12 p 3 = some (.int (s0.2.1 55 n))) (hl : es.length ≤ 2000) (hk : 4 ≤ ke) (hk2 : 1 ≤ kr) (hHI : hi ≤ HI) (hlz : lv + z ≤ 55) (hn : n < 4400) (hh : how ≤ 2) (hr1 : how = 1 → s0.2.1 75 m ≠ -1) (dl : ds.length = G.length) (gw0 : GW s0 nk G lv u00) (hu0 : u00 ≤ ds.length) : ∀ (r : List Nat) (i lo pl : Nat) (x la i4 : Int32) (N N2 : Nat) (h : rm_H) (s : rS) (dx : List Nat) (gx : List scN) (gn b : Int32) (u : Nat → Nat) (A B : Nat → Int32), r ≠ [] → (∀ i' e0, r[i']? = some e0 → es[i + i']? = some e0) → i + r.length = es.length → sq s0 (SR L xs zf w cx C Sc M pt vr mv hB s0 nk m LO HI z ke kr) hi ph n p lo pl r x → r.length < N → r.length < N2 → lo ≤ hi → LO ≤ lo → CKJ L xs cx C Sc M pt vr mv hB s0 nk m h s (ds ++ dx) (G ++ gx) lv gn 0 b u A B → u 0 = u00 → FV s0 (G ++ gx) gn lo hi → (∀ i, lo ≤ i → i < hi → s.2.1 53 i = s0.2.1 53 i) → u 2 + 3 * (hi - lo) ≤ 9000 → ∃ t h' s', b166_23 L xs zf (dM L xs zf w (ke + j)) w N (some C) (some p) (hwC how) (Int32.ofNat ds.length) i4 (Int32.ofNat es.length) (Int32.ofNat i) h = some (some (.int t), h') ∧ s336_16 (rM w (kr + j2)) w N2 (Int32.ofNat n) (Int32.ofNat how) (Int32.ofNat ds.length) la x s = some (none, s') ∧ ∃ gn' a' b' u' A' B', CKJ L xs cx C Sc M pt vr mv hB s0 nk m h' s' ds G lv gn' a' b' u' A' B' ∧ wF cx C Sc pl ph u h h' ∧ wK2 u u' h h' ∧ u' 0 = u 0 ∧ u' 2 ≤ u 2 + 3 * (hi - lo) ∧ r53 lo hi s s' ∧ (a' = 0 → (∀ i, i < u 2 → A' i = A i ∧ B' i = B i) ∧ (∀ lo2 hi2, (hi2 ≤ lo ∨ hi ≤ lo2) → LO ≤ lo2 → hi2 ≤ HI → FV s0 (G ++ gx) gn lo2 hi2 → FV s0 G gn' lo2 hi2) ∧ ∃ (tg : Nat) (ns : List Nat), ns ≠ [] ∧ (how = 2 → vT s0 nk tg ∧ tg % 8 ≠ 6 ∧ tg ≠ 0 ∧ t = cT tg ∧ s'.1 65 = rTp tg) ∧ ∀ (SL AA BB : Nat → Int32) (f : Nat), (∀ i, lo ≤ i → i < hi → SL i = s'.2.1 53 i) → (∀ i, u 2 ≤ i → i < u' 2 → AA i = A' i ∧ BB i = B' i) → hi - lo ≤ f + 1 → XL s0 SL AA BB m (TU s0 SL AA BB m f).1 (TU s0 SL AA BB m f).2 lv how ns (G ++ gx) gn x tg gn' (u 2) (u' 2)) := by
  obtain ⟨k', hk'⟩ : ∃ k', ke + j = k' + 4 := ⟨ke + j - 4, by omega⟩
  obtain ⟨k3, hk3⟩ : ∃ k3, kr + j2 = k3 + 1 := ⟨kr + j2 - 1, by omega⟩
  intro r
  induction r with
  | nil => intro i lo pl x la i4 N N2 h s dx gx gn b u A B z; exact absurd rfl z
  | cons e0 r ih =>
    intro i lo pl x la i4 N N2 h s dx gx gn b u A B _ hes hi' sqe hN hN2 hlo hLO e hu fv p53 hz
    obtain ⟨N, rfl⟩ : ∃ M, N = M + 1 + 1 := ⟨N - 2, by simp only [List.length_cons] at hN; omega⟩
    obtain ⟨N2, rfl⟩ : ∃ M, N2 = M + 1 + 1 := ⟨N2 - 2, by simp only [List.length_cons] at hN2; omega⟩
    simp only [List.length_cons] at hi' hN hN2
    obtain ⟨m0, lo', hi1, pl', ph', ex, _, ⟨JS1, n1, n2, n3, n4, ⟨pe1, pe2⟩, ⟨y0, y0'⟩, W, W1, W2, W3, W4⟩, ⟨d1, d2, d3, d4, d5, d6⟩, sr⟩ := sqe
    subst ex
    obtain ⟨kh, dl0, bh, rk, e57, _, rg, gw⟩ := id e
    have hp' : pts h q0 q1 p es := by
      rcases hp with ⟨z1, z2⟩ | ⟨l, ar, cap, z1, z2, z3⟩
      · exact Or.inl ⟨bh.1.1 _ _ _ (by decide) z1, z2⟩
      · exact Or.inr ⟨l, ar, cap, bh.1.1 _ _ _ (by decide) z1, bh.1.2.1 _ _ _ _ z2, z3⟩
    have he0 : es[i]? = some e0 := by have := hes 0 e0 rfl; simpa using this
    -- is it the last
    obtain ⟨hw, ehw⟩ : ∃ hw, hw = if r = [] then how else 0 := ⟨_, rfl⟩
    have hw2 : hw ≤ 2 := by
      rw [ehw]
      split
      · exact hh
      · omega
    have hw1 : hw = 1 → s0.2.1 75 m ≠ -1 := by
      intro q
      rw [ehw] at q
      split at q
      · exact hr1 q
      · omega
    have nx : (r = [] ∧ s0.2.1 48 m0 = 0) ∨ (r ≠ [] ∧ s0.2.1 48 m0 ≠ 0) := by
      cases r with
      | nil => exact Or.inl ⟨rfl, sr⟩
      | cons e2 r2 =>
        obtain ⟨m2, lo2, hi2, pl2, ph2, ex2, _, ⟨_, g1, g2, _⟩, _, _⟩ := sr
        exact Or.inr ⟨List.cons_ne_nil _ _, by rw [ex2]; exact ofN_0 g1 g2⟩
    obtain ⟨t, h1, s1, q1, q2, a', b', u', o1, o2, o3, o4, o5, o6⟩ := JS1 hw hw2 hw1 j j2 h s (ds ++ dx) (G ++ gx) lv gn b u A B e hlz (FV_sub fv d1 d2) (fun i i1 i2 => p53 i (by omega) (by omega)) (by omega)
    have ch : b166_23 L xs zf (dM L xs zf w (ke + j)) w (N + 1 + 1) (some C) (some p) (hwC how) (Int32.ofNat ds.length) i4 (Int32.ofNat es.length) (Int32.ofNat i) h = b166_23 L xs zf (dM L xs zf w (ke + j)) w (N + 1) (some C) (some p) (hwC how) (Int32.ofNat ds.length) t (Int32.ofNat es.length) (Int32.ofNat (i + 1)) h1 := by
      have pa := ck_part (L := L) (xs := xs) (zf := zf) (w := w) (k := k') hp' (bh.1.1 _ _ _ (by decide) e1) he0 ⟨_, bh.1.1 _ _ _ (by decide) y0'⟩ (by omega)
      rw [← hk'] at pa
      have em : Int32.ofNat es.length - 1 = Int32.ofNat (es.length - 1) := by
        apply i32_of
        rw [show (1 : Int32) = Int32.ofNat 1 from rfl, of_sub (by omega) (by omega), of_int (by omega)]
        omega
      rw [b166_23]
      refine inq ?_ (bsq (ck_0 kh) (bsq (ck_7 kh) (inq (by decide) (bsq pa ?_))))
      · rw [f2_ge, of_int (by omega), of_int (by omega)]
        simp
        omega
      · have fin : b166_61 L xs zf (dM L xs zf w (ke + j)) w (b166_23 L xs zf (dM L xs zf w (ke + j)) w (N + 1)) (some C) (some p) (hwC how) (Int32.ofNat ds.length) (Int32.ofNat es.length) (Int32.ofNat i) (hwC hw) (some e0) (some C) h = b166_23 L xs zf (dM L xs zf w (ke + j)) w (N + 1) (some C) (some p) (hwC how) (Int32.ofNat ds.length) t (Int32.ofNat es.length) (Int32.ofNat (i + 1)) h1 := by
          unfold b166_61
          refine bsq q1 ?_
          show b166_23 L xs zf (dM L xs zf w (ke + j)) w (N + 1) (some C) (some p) (hwC how) (Int32.ofNat ds.length) t (Int32.ofNat es.length) (Int32.ofNat i + 1) h1 = _
          rw [show Int32.ofNat i + 1 = Int32.ofNat (i + 1) from of_add i 1]
        show (if mx_f2 .ne (Int32.ofNat i) (Int32.ofNat es.length - 1) = true then _ else _) = _
        rw [em]
        by_cases c : r = []
        · rw [if_pos c] at ehw
          subst ehw
          refine inq ?_ fin
          have : i = es.length - 1 := by rw [c] at hi'; simp at hi'; omega
          rw [f2_ne, this]
          simp
        · rw [if_neg c] at ehw
          subst ehw
          refine itq ?_ fin
          have : r.length ≠ 0 := fun z => c (List.length_eq_zero_iff.mp z)
          rw [f2_ne]
          refine decide_eq_true (fun z => ?_)
          have := congrArg Int32.toInt z
          rw [of_int (by omega), of_int (by omega)] at this
          omega
    have rh : s336_16 (rM w (kr + j2)) w (N2 + 1 + 1) (Int32.ofNat n) (Int32.ofNat how) (Int32.ofNat ds.length) la (Int32.ofNat m0) s = s336_16 (rM w (kr + j2)) w (N2 + 1) (Int32.ofNat n) (Int32.ofNat how) (Int32.ofNat ds.length) (Int32.ofNat m0) (s0.2.1 48 m0) s1 := by
      have rk1 : rK s0 s1 := by
        rcases o6 with ⟨_, dy, f, sl, ty, gg, AA, BB, z1, z2, z3, z4, z5, _⟩ | ⟨_, _, _, _, _, _, _, z1, _⟩
        · exact z5
        · exact z1.2.2.2.1
      have g48 : ∀ S, rK s0 S → rs_aI S 48 (Int32.ofNat m0) = some (s0.2.1 48 m0) := fun S hS => (aI_at (i := m0) (by decide) rfl n2 (by decide)).trans (by rw [rk_A hS (by decide)])
      have fin : s336_50 (rM w (kr + j2)) w (s336_16 (rM w (kr + j2)) w (N2 + 1)) (Int32.ofNat n) (Int32.ofNat how) (Int32.ofNat ds.length) (Int32.ofNat m0) (Int32.ofNat m0) (Int32.ofNat hw) (Int32.ofNat m0) s = s336_16 (rM w (kr + j2)) w (N2 + 1) (Int32.ofNat n) (Int32.ofNat how) (Int32.ofNat ds.length) (Int32.ofNat m0) (s0.2.1 48 m0) s1 := by
        unfold s336_50
        exact bsq (a := s1) (by rw [q2]; rfl) (bsq (g48 s1 rk1) rfl)
      rw [s336_16]
      refine inq (fun z => ofN_0 n1 n2 (of_decide_eq_true z)) (inq (by rw [e57]; decide) (bsq (g48 s rk) ?_))
      rcases nx with ⟨y1, y2⟩ | ⟨y1, y2⟩
      · rw [if_pos y1] at ehw
        subst ehw
        exact inq (by rw [y2]; decide) fin
      · rw [if_neg y1] at ehw
        subst ehw
        exact itq (by rw [f1_ne]; exact decide_eq_true y2) fin
    rw [ch, rh]
    have uu : u 2 ≤ u' 2 := o2.2.2.2.2.1
    have wmo : wF cx C Sc pl ph u h h1 := wF_mono o1 d3 d4
    rcases o6 with ⟨ha, fs⟩ | ⟨ha, dx1, G1, gn1, A1, B1, tg, c1, ⟨gx1, c2⟩, c3, c4, c5, c6⟩
    · -- a fault
      obtain ⟨gnf, Af, Bf, bs⟩ := BS_ft (m := m) fs dl
      have kf := bs
      obtain ⟨dy, gy, ff, fsl, fty, kf1, _, _, _, kf57, _⟩ := kf
      rw [bh_c (D := dM L xs zf w (ke + j)) kf1 (Or.inr ha), bh_r (Or.inr (by rw [kf57]; exact ha))]
      obtain ⟨h2, s2, f1, f2, f3, f4, f5, f6, f7⟩ := blk_end (pl := pl) (ph := ph) (zf := zf) (w := w) (k := k') (k2 := k3) (la' := Int32.ofNat m0) (i4 := t) (nk := nk) bs dl (by rw [o3, hu]; exact gw0) (by rw [o3, hu]; exact hu0) hp e1 e3 hl hh hn LS (fun z => absurd z ha)
      rw [← hk'] at f1
      rw [← hk3] at f2
      refine ⟨t, h2, s2, f1, f2, gnf, _, _, u', Af, Bf, f3, wF_trans wmo o2 f4, wK2_trans o2 f5 wmo.1.1, o3, by omega, fun i0 hi0 => ?_, fun z => absurd z (by rw [fa_n ha]; exact ha)⟩
      rw [f6 53, f6 86]
      exact o5 i0 (fun y => hi0 ⟨by omega, by omega⟩)
    · subst ha
      subst c2
      rw [List.append_assoc] at c1
      rw [List.append_assoc] at c1
      by_cases hr : r = []
      · -- it was the last
        rw [if_pos hr] at ehw
        subst ehw
        have s48 : s0.2.1 48 m0 = 0 := by
          rcases nx with ⟨_, y⟩ | ⟨y, _⟩
          · exact y
          · exact absurd hr y
        have bs := BS_ok c1 dl
        have ei : i + 1 = es.length := by rw [hr] at hi'; simpa using hi'
        have ls2 : lsS hB s0 es (Int32.ofNat m0) (some (Int32.ofNat W)) := by
          refine Or.inr ⟨e0, m0, W, y0, ?_, rfl, n1, n2, y0', W1, W2, W3, W4, rfl⟩
          rw [show es.length - 1 = i from by omega]
          exact he0
        rw [bh_c (D := dM L xs zf w (ke + j)) c1.1 (Or.inl ⟨ei, hl⟩), bh_r (Or.inl s48)]
        obtain ⟨h2, s2, f1, f2, f3, f4, f5, f6, f7⟩ := blk_end (pl := pl) (ph := ph) (zf := zf) (w := w) (k := k') (k2 := k3) (la' := Int32.ofNat m0) (i4 := t) (nk := nk) bs dl (by rw [o3, hu]; exact gw0) (by rw [o3, hu]; exact hu0) hp e1 e3 hl hh hn ls2 (fun _ => rfl)
        rw [← hk'] at f1
        rw [← hk3] at f2
        refine ⟨t, h2, s2, f1, f2, gn1, _, _, u', A1, B1, f3, wF_trans wmo o2 f4, wK2_trans o2 f5 wmo.1.1, o3, by omega, fun i0 hi0 => ?_, fun z0 => ⟨c3, fun lo2 hi2 y1 y2 y3 y4 => ?_, tg, [m0], List.cons_ne_nil _ _, fun y => ?_, fun SL AA BB f y1 y2 y3 => ?_⟩⟩
        · rw [f6 53, f6 86]
          exact o5 i0 (fun y => hi0 ⟨by omega, by omega⟩)
        · have q := c4 lo2 hi2 (by omega) y2 y3 y4
          rw [List.append_assoc] at q
          exact FV_l q
        · have z0 : beX hw (some (Int32.ofNat W)) = 0 := z0
          have k44 := be_k W1 W2 W4 z0 (by omega) hh
          rw [f7]
          exact c5 y (by rw [k44, y]; rfl)
        · have z0 : beX hw (some (Int32.ofNat W)) = 0 := z0
          exact ⟨_, 0, 0, 0, n1, n2, rfl, Or.inl ⟨rfl, s48, c6 SL AA BB f (fun i i1 i2 => (y1 i (by omega) (by omega)).trans (by rw [f6 53])) y2 (by omega), fun y => be_k W1 W2 W4 z0 y hh⟩⟩
      · -- there are more
        rw [if_neg hr] at ehw
        subst ehw
        obtain ⟨t2, h2, s2, f1, f2, gn2, a2, b2, u2, A2, B2, g1, g2, g3, g4, g5, g6, g7⟩ := ih (i + 1) hi1 ph' (s0.2.1 48 m0) (Int32.ofNat m0) t (N + 1) (N2 + 1) h1 s1 (dx ++ dx1) (gx ++ gx1) gn1 b' u' A1 B1 hr (fun i' e' he' => by
          have := hes (i' + 1) e' (by simpa using he')
          rw [show i + (i' + 1) = i + 1 + i' from by omega] at this
          exact this) (by omega) sr (by omega) (by omega) (by omega) (by omega) c1 (by rw [o3, hu]) (by
          have q := c4 hi1 hi (by omega) (by omega) hHI (FV_sub fv (by omega) (Nat.le_refl _))
          rw [List.append_assoc] at q
          exact q) (fun i0 i1 i2 => by rw [(o5 i0 (fun y => by omega)).1]; exact p53 i0 (by omega) i2) (by omega)
        have wm2 : wF cx C Sc pl ph u' h1 h2 := wF_mono g2 (by omega) (Nat.le_refl _)
        have u12 : u' 2 ≤ u2 2 := g3.2.2.2.2.1
        refine ⟨t2, h2, s2, f1, f2, gn2, a2, b2, u2, A2, B2, g1, wF_trans wmo o2 wm2, wK2_trans o2 g3 wmo.1.1, g4.trans o3, by omega, r53_trans (r53_mono o5 d1 d2) (r53_mono g6 (by omega) (Nat.le_refl _)), fun z0 => ?_⟩
        obtain ⟨p1, p2, tg2, ns, p3, p4, p5⟩ := g7 z0
        refine ⟨fun i0 hi0 => ⟨(p1 i0 (by omega)).1.trans (c3 i0 hi0).1, (p1 i0 (by omega)).2.trans (c3 i0 hi0).2⟩, fun lo2 hi2 y1 y2 y3 y4 => ?_, tg2, m0 :: ns, List.cons_ne_nil _ _, p4, fun SL AA BB f y1 y2 y3 => ?_⟩
        · have q := c4 lo2 hi2 (by omega) y2 y3 y4
          rw [List.append_assoc] at q
          exact p2 lo2 hi2 (by omega) y2 y3 q
        · have st := c6 SL AA BB f (fun i0 i1 i2 => (y1 i0 (by omega) (by omega)).trans (g6 i0 (fun y => by omega)).1) (fun i0 i1 i2 => by
            have q := y2 i0 i1 (by omega)
            have q2 := p1 i0 i2
            exact ⟨q.1.trans q2.1, q.2.trans q2.2⟩) (by omega)
          have rs := p5 SL AA BB f (fun i0 i1 i2 => y1 i0 (by omega) i2) (fun i0 i1 i2 => y2 i0 (by omega) i2) (by omega)
          rw [List.append_assoc] at st
          exact ⟨_, tg, u' 2, gn1, n1, n2, rfl, Or.inr ⟨p3, st, rs⟩⟩
/-- a block, by both -/
theorem j_166 {y1 : Int32} (hp : pts hB q0 q1 p es) (e1 : fd hB 12 p 1 = some (.int y1)) (e3 : fd hB 12 p 3 = some (.int (s0.2.1 55 n))) (hl : es.length ≤ 2000) (sqe : sq s0 (SR L xs zf w cx C Sc M pt vr mv hB s0 nk m LO HI z ke kr) hi Ph n p lo Pl es (s0.2.1 45 n)) (r44 : s0.2.1 44 n = 30) (hk : 4 ≤ ke) (hk2 : 1 ≤ kr) (n1 : lo ≤ n) (n2 : n < hi) (hLO : LO ≤ lo) (hHI : hi ≤ HI) (hn : n < 4400) (hh : how ≤ 2) (hr1 : how = 1 → s0.2.1 75 m ≠ -1) (hw : 2100 ≤ w) : JB L xs zf w cx C Sc M pt vr mv hB s0 nk m Pl Ph LO HI z how p n lo hi (ke + 1) (kr + 1) := by
  intro j j2 h s ds G lv gn b u A B e hlz fv p53 hz
  obtain ⟨kh, dl, bh, rk, e57, _, rg, gw⟩ := id e
  obtain ⟨laE, oE, LS⟩ := lsS_of sqe
  obtain ⟨k', hk'⟩ : ∃ k', ke + j = k' + 4 := ⟨ke + j - 4, by omega⟩
  obtain ⟨k3, hk3⟩ : ∃ k3, kr + j2 = k3 + 1 := ⟨kr + j2 - 1, by omega⟩
  have hp' : pts h q0 q1 p es := by
    rcases hp with ⟨z1, z2⟩ | ⟨l, ar, cap, z1, z2, z3⟩
    · exact Or.inl ⟨bh.1.1 _ _ _ (by decide) z1, z2⟩
    · exact Or.inr ⟨l, ar, cap, bh.1.1 _ _ _ (by decide) z1, bh.1.2.1 _ _ _ _ z2, z3⟩
  have uo : u 0 ≤ ds.length := kh.2.2.2.2.2.2.2.2.2
  have cn := ck_cnt (L := L) (xs := xs) (zf := zf) (w := w) (k := k' + 2) hp' (bh.1.1 _ _ _ (by decide) e1)
  rw [show k' + 2 + 2 = ke + j from by omega] at cn
  have g45 : rs_aI s 45 (Int32.ofNat n) = some (s0.2.1 45 n) := (aI_at (i := n) (by decide) rfl hn (by decide)).trans (by rw [rk_A rk (by decide)])
  have r62 : s.1 62 = Int32.ofNat ds.length := by rw [dl]; exact (rg rfl).1
  have ch : ∀ t h', b166_23 L xs zf (dM L xs zf w (ke + j)) w w (some C) (some p) (hwC how) (Int32.ofNat ds.length) 0 (Int32.ofNat es.length) (Int32.ofNat 0) h = some (some (.int t), h') → (dcV L xs (dM L xs zf w (ke + 1 + j)) 166 [13] (some C) [va_rf (some p), .int (hwC how)] h).bind dxI = some (t, h') := by
    intro t h' q
    rw [ck_v kh, show ke + 1 + j = ke + j + 1 from by omega, e166]
    show (b166_0 L xs zf (dM L xs zf w (ke + j)) w (some C) (some p) (hwC how) h).bind dxI = _
    refine bsq (a := (some (.int t), h')) ?_ rfl
    unfold b166_0
    exact inq (dnl_s p) (bsq (ck_3 kh) (bsq cn q))
  have rh : ∀ s', s336_16 (rM w (kr + j2)) w w (Int32.ofNat n) (Int32.ofNat how) (Int32.ofNat ds.length) 0 (s0.2.1 45 n) s = some (none, s') → rM w (kr + 1 + j2) 336 [.ref 36, .int (Int32.ofNat n), .int (Int32.ofNat how)] s = some (none, s') := by
    intro s' q
    rw [show kr + 1 + j2 = kr + j2 + 1 from by omega, y336]
    show s336_0 (rM w (kr + j2)) w (Int32.ofNat n) (Int32.ofNat how) s = _
    unfold s336_0
    refine bsq g45 ?_
    rw [r62]
    exact q
  obtain ⟨f, hf⟩ : ∃ f, hi - lo = f + 1 := ⟨hi - lo - 1, by omega⟩
  by_cases he : es = []
  · have x0 : s0.2.1 45 n = 0 := by rw [he] at sqe; exact sqe
    have bs := BS_ok (dx := []) (gx := []) (by rw [List.append_nil, List.append_nil]; exact e) dl
    have ls0 : lsS hB s0 es 0 none := Or.inl ⟨he, rfl, rfl⟩
    obtain ⟨w', hw'⟩ : ∃ w', w = w' + 1 := ⟨w - 1, by omega⟩
    obtain ⟨h2, s2, f1, f2, f3, f4, f5, f6, f7⟩ := blk_end (pl := Pl) (ph := Ph) (zf := zf) (w := w) (k := k') (k2 := k3) (la' := 0) (i4 := 0) (nk := nk) bs dl gw uo hp e1 e3 hl hh hn ls0 (fun _ => rfl)
    rw [← hk'] at f1
    rw [← hk3] at f2
    refine ⟨0, h2, s2, ch _ _ ?_, rh _ ?_, gn, _, _, u, A, B, f3, f4, f5, rfl, by omega, fun i0 _ => ⟨by rw [f6 53], by rw [f6 86]⟩, fun z0 => ⟨fun _ _ => ⟨rfl, rfl⟩, fun _ _ _ _ _ q => q, 0, fun y => ?_, fun SL AA BB y1 y2 => ?_⟩⟩
    · have q := bh_c (D := dM L xs zf w (ke + j)) (zf := zf) (w := w) (N := w') (p := p) (i2 := hwC how) (i3 := Int32.ofNat ds.length) (i4 := 0) kh (Or.inl ⟨(show 0 = es.length by rw [he]; rfl), hl⟩)
      rw [← hw'] at q
      rw [q]
      exact f1
    · have q := bh_r (E := rM w (kr + j2)) (w := w) (N := w') (i1 := Int32.ofNat n) (i2 := Int32.ofNat how) (i3 := Int32.ofNat ds.length) (i4 := 0) (s := s) (Or.inl x0)
      rw [← hw'] at q
      rw [q]
      exact f2
    · have z0 : beX how none = 0 := z0
      unfold beX at z0
      rw [if_neg (fun c => c.elim (by omega) (fun c => by cases c))] at z0
      exact absurd z0 (by decide)
    · have z0 : beX how none = 0 := z0
      have h0 : how = 0 := by
        refine Decidable.byContradiction (fun h0 => ?_)
        unfold beX at z0
        rw [if_neg (fun c => c.elim h0 (fun c => by cases c))] at z0
        exact absurd z0 (by decide)
      rw [hf]
      exact Or.inr ⟨r44, [], x0, rfl, rfl, rfl, h0⟩
  · obtain ⟨t, h', s', q1, q2, gn', a', b', u', A', B', o1, o2, o3, o4, o5, o6, o7⟩ := blk_l (j := j) (j2 := j2) (u00 := u 0) LS hp e1 e3 hl hk hk2 hHI hlz hn hh hr1 dl gw uo es 0 lo Pl (s0.2.1 45 n) 0 0 w w h s [] [] gn b u A B he (fun i' e0 q => by rw [Nat.zero_add]; exact q) (by omega) sqe (by omega) (by omega) (by omega) hLO (by rw [List.append_nil, List.append_nil]; exact e) rfl (by rw [List.append_nil]; exact fv) p53 hz
    refine ⟨t, h', s', ch _ _ q1, rh _ q2, gn', a', b', u', A', B', o1, o2, o3, o4, o5, o6, fun z0 => ?_⟩
    obtain ⟨p1, p2, tg, ns, p3, p4, p5⟩ := o7 z0
    rw [List.append_nil] at p2
    refine ⟨p1, p2, tg, p4, fun SL AA BB y1 y2 => ?_⟩
    have q := p5 SL AA BB f y1 y2 (by omega)
    rw [List.append_nil] at q
    rw [hf]
    exact Or.inr ⟨r44, ns, q⟩
end JBM
