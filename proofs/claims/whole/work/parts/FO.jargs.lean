/-! BOTH CHECK: arguments. -/
section JAR
variable {L : Nat} {xs : Nat → Int32} {zf : Value} {w C Sc M Pl Ph LO HI nk m lv n p q i d lo hi k k2 z W ke kr K l τ px q0 q1 pl ph : Nat} {cx : Nat → Nat} {hB h h1 h2 : rm_H} {s0 s s1 s2 : rS} {pt vr gn gn1 a b a1 b1 x y rc t v : Int32} {mv : Value} {ds kl ml es ns ts qs : List Nat} {G : List scN} {u u1 u2 : Nat → Nat} {A B A1 B1 : Nat → Int32} {c : Int64} {X : scN} {f : Nat → Int64} {sl ty : Nat → Int32}
/-- what a walk does not reach stays -/
theorem wF_out {j : Nat} {v : Value} (kh : KH L xs cx C Sc M pt vr mv h ds f sl ty gn rc a b u A B) (e : wF cx C Sc pl ph u h h1) (ev : fd h 12 p j = some v) (ho : ¬ (pl ≤ p ∧ p < ph)) : fd h1 12 p j = some v := by
  obtain ⟨fs, e1, e2⟩ := fd_c ev
  obtain ⟨k1, k2, ⟨g, k3, _⟩, _, _, ⟨k6, k7, _⟩, _⟩ := kh
  have ne : ∀ q cell, hc h q = some cell → (∀ fs, cell ≠ .inr (12, fs)) → p ≠ q := fun q cell z hn y => by
    rw [← y, e1] at z
    exact hn fs (Option.some.inj z).symm
  have e3 := fr_old e.1 e1 (fun z => by
    rcases z with z | z | z | z | z | ⟨z1, z2, _⟩
    · exact ne _ _ k1 (fun _ z => by cases z) z
    · exact ne _ _ k2 (fun _ z => by cases z) z
    · exact ne _ _ k3 (fun _ z => by cases z) z
    · exact ne _ _ k6 (fun _ z => by cases z) z
    · exact ne _ _ k7 (fun _ z => by cases z) z
    · exact ho ⟨z1, z2⟩)
  rw [fd_of e3]
  exact e2
/-- the type of a Node is written -/
theorem ck_nty {e0 : Nat} (kh : KH L xs cx C Sc M pt vr mv h ds f sl ty gn rc a b u A B) (hs : (fd h 12 e0 12).isSome = true) (h1 : pl ≤ e0) (h2 : e0 < ph) (t : Int32) : ∃ h', dpF h 12 [12] (some e0) (.int t) = some h' ∧ KH L xs cx C Sc M pt vr mv h' ds f sl ty gn rc a b u A B ∧ wF cx C Sc pl ph u h h' ∧ wK2 u u h h' ∧ fd h' 12 e0 12 = some (.int t) := by
  obtain ⟨v, hv⟩ := Option.isSome_iff_exists.mp hs
  obtain ⟨fs, e1, e2⟩ := fd_c hv
  obtain ⟨h', w1, w2, w3⟩ := pF_ex (v := .int t) (j := 12) (cis := [12]) e1 e2 (by decide) rfl (by decide)
  obtain ⟨k1, k2, ⟨g, k3, k3'⟩, k4, k5, ⟨k6, k7, k8, k9, k10⟩, k11, k12, k13, k14⟩ := kh
  have ne : ∀ q cell, hc h q = some cell → (∀ fs, cell ≠ .inr (12, fs)) → q ≠ e0 := fun q cell z hn y => by
    rw [y, e1] at z
    exact hn fs (Option.some.inj z).symm
  refine ⟨h', w1, ⟨st1_old w3 k1 (ne _ _ k1 (fun _ z => by cases z)), st1_old w3 k2 (ne _ _ k2 (fun _ z => by cases z)), ⟨g, st1_old w3 k3 (ne _ _ k3 (fun _ z => by cases z)), k3'⟩, k4, fun i d hi => dSn_o w3.1 (fun fs z => st1_old w3 z (ne _ _ z (fun _ y => by cases y))) (k5 i d hi), ⟨st1_old w3 k6 (ne _ _ k6 (fun _ z => by cases z)), st1_old w3 k7 (ne _ _ k7 (fun _ z => by cases z)), k8, k9, k10⟩, k11, k12, k13, k14⟩, ⟨fr_mono w3.1 (fun q _ z => Or.inr (Or.inr (Or.inr (Or.inr (Or.inr ⟨by rw [z]; exact h1, by rw [z]; exact h2, fs, by rw [z]; exact e1⟩))))), fun q gs eq => ?_⟩, ⟨Or.inl rfl, Or.inl rfl, by rw [w3.2.2], by rw [w3.2.1]; exact Nat.le_refl _, Nat.le_refl _, Nat.le_refl _⟩, ?_⟩
  · by_cases y : q = e0
    · subst y
      rw [e1] at eq
      cases eq
      exact Or.inr ⟨t, w2⟩
    · exact Or.inl (st1_old w3 eq y)
  · rw [fd_of w2, List.getElem?_set_self (List.getElem?_eq_some_iff.mp e2).1]
/-- an argument, by both -/
def AR (L : Nat) (xs : Nat → Int32) (zf : Value) (w : Nat) (cx : Nat → Nat) (C Sc M : Nat) (pt vr : Int32) (mv : Value) (hB : rm_H) (s0 : rS) (nk m LO HI z ke kr : Nat) (kl : List Nat) (lo hi pl ph n e : Nat) : Prop := JV L xs zf w cx C Sc M pt vr mv hB s0 nk m pl ph LO HI z e n lo hi ke kr ∧ (∀ (ds : List Nat) (f : Nat → Int64) (sl ty : Nat → Int32) (rc a b : Int32), rc = 0 ∨ rc = 1 → ZX L xs zf w cx C Sc M pl ph pt vr mv ds f sl ty rc a b kl hB 171 e (3 * (hi - lo)) ke) ∧ 1 ≤ n ∧ n < 4400 ∧ lo ≤ n ∧ n < hi ∧ fd hB 12 e 1 = some (.int (s0.2.1 50 n)) ∧ (fd hB 12 e 12).isSome = true ∧ pl ≤ e ∧ e < ph
/-- behind a fault: the rest of the arguments -/
theorem z_argr {y1 : Int32} {j : Nat} (hp : pts hB q0 q1 p es) (e1 : fd hB 12 p 1 = some (.int y1)) (hl : es.length ≤ 6) (hk : 4 ≤ ke) (hrc : rc = 0 ∨ rc = 1) : ∀ (r : List Nat) (i lo pl : Nat) (x : Int32) (N : Nat) (h : rm_H) (u : Nat → Nat), (∀ i' e0, r[i']? = some e0 → es[i + i']? = some e0) → i + r.length = es.length → sq s0 (AR L xs zf w cx C Sc M pt vr mv hB s0 nk m LO HI z ke kr kl) hi ph n p lo pl r x → r.length < N → lo ≤ hi → EV L xs cx C Sc M pt vr mv ds f sl ty rc a b kl hB h u → u 2 + 3 * (hi - lo) ≤ 9000 → ∃ h' u', b173_2 L xs zf (dM L xs zf w (ke + j)) w N (some C) (some p) (Int32.ofNat i) h = some (none, h') ∧ ZR L xs cx C Sc M pl ph pt vr mv ds f sl ty rc a b h u (3 * (hi - lo)) h' u' ∧ aTy h' r := by
  obtain ⟨k', rfl⟩ : ∃ k', ke = k' + 4 := ⟨ke - 4, by omega⟩
  intro r
  induction r with
  | nil =>
    intro i lo pl x N h u _ hi' sqe hN _ ev hz
    obtain ⟨N, rfl⟩ : ∃ M, N = M + 1 := ⟨N - 1, by omega⟩
    have nb := ev.2.2.2.1
    have hp' : pts h q0 q1 p es := by
      rcases hp with ⟨z1, z2⟩ | ⟨l, ar, cap, z1, z2, z3⟩
      · exact Or.inl ⟨nb.1 _ _ _ (by decide) z1, z2⟩
      · exact Or.inr ⟨l, ar, cap, nb.1 _ _ _ (by decide) z1, nb.2.1 _ _ _ _ z2, z3⟩
    refine ⟨h, u, ?_, ZR_le (ZR_refl (n := 0) ev.1) (by omega), fun e0 he0 => by cases he0⟩
    rw [b173_2]
    have cn := ck_cnt (L := L) (xs := xs) (zf := zf) (w := w) (k := k' + 2 + j) hp' (nb.1 _ _ _ (by decide) e1)
    rw [show k' + 2 + j + 2 = k' + 4 + j from by omega] at cn
    refine bsq cn (itq ?_ rfl)
    show mx_f2 .ge (Int32.ofNat i) (Int32.ofNat es.length) = true
    have : i = es.length := by simpa using hi'
    rw [f2_ge, of_int (by omega), of_int (by omega)]
    simp
    omega
  | cons e0 r ih =>
    intro i lo pl x N h u hes hi' sqe hN hlo ev hz
    obtain ⟨N, rfl⟩ : ∃ M, N = M + 1 := ⟨N - 1, by omega⟩
    simp only [List.length_cons] at hi' hN
    obtain ⟨m0, lo', hi1, pl', ph', _, _, ⟨_, ZX1, n1, n2, n3, n4, y1', y2, y3, y4⟩, ⟨s1, s2, s3, s4, s5, s6⟩, sr⟩ := sqe
    have nb := ev.2.2.2.1
    have hp' : pts h q0 q1 p es := by
      rcases hp with ⟨z1, z2⟩ | ⟨l, ar, cap, z1, z2, z3⟩
      · exact Or.inl ⟨nb.1 _ _ _ (by decide) z1, z2⟩
      · exact Or.inr ⟨l, ar, cap, nb.1 _ _ _ (by decide) z1, nb.2.1 _ _ _ _ z2, z3⟩
    have he0 : es[i]? = some e0 := by have := hes 0 e0 rfl; simpa using this
    obtain ⟨t, h1, u1, r1, r2⟩ := ZX1 ds f sl ty rc a b hrc j h u ev (by omega)
    have ev1 := EV_s ev r2
    obtain ⟨h2, v1, v2, v3⟩ := zk_nty (pl := pl') (ph := ph') ev1.1 (ev1.2.2.2.1.2.2.2.2 e0 y2) y3 y4 t
    have ev2 := EV_s ev1 v2
    have u12 : u1 2 ≤ u 2 + 3 * (hi1 - lo') := r2.2.2.2.2
    obtain ⟨h', u', q1', q2', q3'⟩ := ih (i + 1) hi1 ph' _ N h2 u1 (fun i' e' he' => by
      have := hes (i' + 1) e' (by simpa using he')
      rw [show i + (i' + 1) = i + 1 + i' from by omega] at this
      exact this) (by omega) sr (by omega) (by omega) ev2 (by omega)
    have z12 := ZR_trans r2 v2
    have w12 : wF cx C Sc pl ph u h h2 := wF_mono z12.2.1 s3 s4
    have w3 : wF cx C Sc pl ph u1 h2 h' := wF_mono q2'.2.1 (by omega) (Nat.le_refl _)
    refine ⟨h', u', ?_, ⟨q2'.1, wF_trans w12 z12.2.2.1 w3, wK2_trans z12.2.2.1 q2'.2.2.1 w12.1.1, q2'.2.2.2.1.trans z12.2.2.2.1, ?_⟩, ?_⟩
    · have cn := ck_cnt (L := L) (xs := xs) (zf := zf) (w := w) (k := k' + 2 + j) hp' (nb.1 _ _ _ (by decide) e1)
      rw [show k' + 2 + j + 2 = k' + 4 + j from by omega] at cn
      have pa := ck_part (L := L) (xs := xs) (zf := zf) (w := w) (k := k' + j) hp' (nb.1 _ _ _ (by decide) e1) he0 ⟨_, nb.1 _ _ _ (by decide) y1'⟩ (by omega)
      rw [show k' + j + 4 = k' + 4 + j from by omega] at pa
      rw [b173_2]
      refine bsq cn (inq ?_ (bsq pa (bsq r1 (bsq v1 ?_))))
      · show ¬ mx_f2 .ge (Int32.ofNat i) (Int32.ofNat es.length) = true
        rw [f2_ge, of_int (by omega), of_int (by omega)]
        simp
        omega
      · rw [show Int32.ofNat i + 1 = Int32.ofNat (i + 1) from of_add i 1]
        exact q1'
    · have := q2'.2.2.2.2
      omega
    · intro e' he'
      rcases List.mem_cons.mp he' with q | q
      · subst q
        obtain ⟨t', ht'⟩ := wF_t w3 v3
        exact ⟨_, t', (EV_s ev2 q2').2.2.2.1.1 _ _ _ (by decide) y1', ht'⟩
      · exact q3' e' q
theorem VL_f {SL AA BB : Nat → Int32} {f f2 t a b : Nat} {g g' : Int32} (e : VL s0 (TU s0 SL AA BB m f).1 lv G g n t g' a b) (hf : f ≤ f2) : VL s0 (TU s0 SL AA BB m f2).1 lv G g n t g' a b := by
  obtain ⟨t0, e1, e2⟩ := e
  exact ⟨t0, TU_e e1 hf, e2⟩
/-- what the arguments of both leave -/
def AXO (L : Nat) (xs : Nat → Int32) (cx : Nat → Nat) (C Sc M : Nat) (pt vr : Int32) (mv : Value) (hB : rm_H) (s0 : rS) (nk m Pl Ph LO HI lo hi lv : Nat) (G : List scN) (ds : List Nat) (gn : Int32) (u : Nat → Nat) (A B : Nat → Int32) (h : rm_H) (s : rS) (cst : Nat) (r : List Nat) (x : Int32) (h' : rm_H) (s' : rS) : Prop :=
  OUT L xs cx C Sc M pt vr mv hB s0 nk m Pl Ph LO HI lo hi lv G ds gn u A B h s cst h' s' (fun gn' u' A' B' => ∃ ns ts, chR s0 ns x ∧ aQ s0 nk h' s' r ns ts ∧ (∀ k ∈ ns, lo ≤ k ∧ k < hi) ∧ (∀ e ∈ r, Pl ≤ e ∧ e < Ph) ∧ ∀ (SL AA BB : Nat → Int32) (f : Nat), (∀ i, lo ≤ i → i < hi → SL i = s'.2.1 53 i) → (∀ i, u 2 ≤ i → i < u' 2 → AA i = A' i ∧ BB i = B' i) → hi - lo ≤ f → AG s0 (TU s0 SL AA BB m f).1 lv G ts gn x gn' (u 2) (u' 2)) ∧ aTy h' r
theorem rc_lv (lv : Nat) : (if lv = 0 then (0 : Int32) else 1) = 0 ∨ (if lv = 0 then (0 : Int32) else 1) = 1 := by
  split
  · exact Or.inl rfl
  · exact Or.inr rfl
/-- both loops -/
theorem j_argl {y1 : Int32} {j j2 : Nat} (j0 : JE L xs cx hB s0 nk kl ml) (bj : bJ L xs hB s0 nk kl M m) (hp : pts hB q0 q1 p es) (e1 : fd hB 12 p 1 = some (.int y1)) (hl : es.length ≤ 6) (hk : 4 ≤ ke) (hHI : hi ≤ HI) (hlz : lv + z ≤ 55) : ∀ (r : List Nat) (i lo pl : Nat) (x : Int32) (N N2 : Nat) (h : rm_H) (s : rS) (gn b : Int32) (u : Nat → Nat) (A B : Nat → Int32), (∀ i' e0, r[i']? = some e0 → es[i + i']? = some e0) → i + r.length = es.length → sq s0 (AR L xs zf w cx C Sc M pt vr mv hB s0 nk m LO HI z ke kr kl) hi ph n p lo pl r x → r.length < N → r.length < N2 → lo ≤ hi → LO ≤ lo → CKJ L xs cx C Sc M pt vr mv hB s0 nk m h s ds G lv gn 0 b u A B → FV s0 G gn lo hi → (∀ i, lo ≤ i → i < hi → s.2.1 53 i = s0.2.1 53 i) → u 2 + 3 * (hi - lo) ≤ 9000 → ∃ h' s', b173_2 L xs zf (dM L xs zf w (ke + j)) w N (some C) (some p) (Int32.ofNat i) h = some (none, h') ∧ s341_7 (rM w (kr + j2)) w N2 x s = some (none, s') ∧ AXO L xs cx C Sc M pt vr mv hB s0 nk m pl ph LO HI lo hi lv G ds gn u A B h s (3 * (hi - lo)) r x h' s' := by
  obtain ⟨k', rfl⟩ : ∃ k', ke = k' + 4 := ⟨ke - 4, by omega⟩
  intro r
  induction r with
  | nil =>
    intro i lo pl x N N2 h s gn b u A B _ hi' sqe hN hN2 _ _ ck fv r3 hz
    obtain ⟨N, rfl⟩ : ∃ M, N = M + 1 := ⟨N - 1, by omega⟩
    obtain ⟨N2, rfl⟩ : ∃ M, N2 = M + 1 := ⟨N2 - 1, by omega⟩
    have sqe : x = 0 := sqe
    subst sqe
    have bh := ck.2.2.1
    refine ⟨h, s, ?_, ?_, ⟨gn, 0, b, u, A, B, ck, wF_refl, wK2_refl, rfl, by omega, r53_refl, fun _ => ⟨fun _ _ => ⟨rfl, rfl⟩, fun _ _ _ _ _ q => q, [], [], rfl, ⟨rfl, rfl, fun i e0 m0 t he => by simp at he⟩, fun k hk => (by cases hk), fun k hk => (by cases hk), fun SL AA BB f _ _ _ => ⟨rfl, rfl, rfl⟩⟩⟩, fun e0 he0 => by cases he0⟩
    · rw [b173_2]
      have cn := ck_cnt (L := L) (xs := xs) (zf := zf) (w := w) (k := k' + 2 + j) (pts_h bh hp) (bh.1.1 _ _ _ (by decide) e1)
      rw [show k' + 2 + j + 2 = k' + 4 + j from by omega] at cn
      refine bsq cn (itq ?_ rfl)
      show mx_f2 .ge (Int32.ofNat i) (Int32.ofNat es.length) = true
      have : i = es.length := by simpa using hi'
      rw [f2_ge, of_int (by omega), of_int (by omega)]
      simp
      omega
    · rw [s341_7]
      exact itq (by decide) rfl
  | cons e0 r ih =>
    intro i lo pl x N N2 h s gn b u A B hes hi' sqe hN hN2 hlo hLO ck fv r3 hz
    obtain ⟨N, rfl⟩ : ∃ M, N = M + 1 := ⟨N - 1, by omega⟩
    obtain ⟨N2, rfl⟩ : ∃ M, N2 = M + 1 := ⟨N2 - 1, by omega⟩
    simp only [List.length_cons] at hi' hN hN2
    obtain ⟨m0, lo', hi1, pl', ph', ex, _, ⟨JV1, ZX1, n1, n2, n3, n4, y1', y2, y3, y4⟩, ⟨g1, g2, g3, g4, g5, g6⟩, sr⟩ := sqe
    subst ex
    have bh := ck.2.2.1
    have he0 : es[i]? = some e0 := by have := hes 0 e0 rfl; simpa using this
    have hes' : ∀ i' e', r[i']? = some e' → es[i + 1 + i']? = some e' := fun i' e' he' => by
      have := hes (i' + 1) e' (by simpa using he')
      rw [show i + (i' + 1) = i + 1 + i' from by omega] at this
      exact this
    obtain ⟨t, rr, h1, s1, r1, r2, gn1, a1, b1, u1, A1, B1, ck1, wf1, wk1, u10, u12, r53a, ok1⟩ := JV1 j j2 h s ds G lv gn b u A B ck hlz (FV_sub fv g1 g2) (fun i h1 h2 => r3 i (by omega) (by omega)) (by omega)
    obtain ⟨h2, v1, v2, v3, v4, v5⟩ := ck_nty (pl := pl') (ph := ph') ck1.1 (ck1.2.2.1.1.2.2.2.2 e0 y2) y3 y4 t
    have bh1 := ck1.2.2.1
    -- the class's step
    have cstep : ∀ R, b173_2 L xs zf (dM L xs zf w (k' + 4 + j)) w N (some C) (some p) (Int32.ofNat (i + 1)) h2 = R → b173_2 L xs zf (dM L xs zf w (k' + 4 + j)) w (N + 1) (some C) (some p) (Int32.ofNat i) h = R := by
      intro R hR
      have cn := ck_cnt (L := L) (xs := xs) (zf := zf) (w := w) (k := k' + 2 + j) (pts_h bh hp) (bh.1.1 _ _ _ (by decide) e1)
      rw [show k' + 2 + j + 2 = k' + 4 + j from by omega] at cn
      have pa := ck_part (L := L) (xs := xs) (zf := zf) (w := w) (k := k' + j) (pts_h bh hp) (bh.1.1 _ _ _ (by decide) e1) he0 ⟨_, bh.1.1 _ _ _ (by decide) y1'⟩ (by omega)
      rw [show k' + j + 4 = k' + 4 + j from by omega] at pa
      rw [b173_2]
      refine bsq cn (inq ?_ (bsq pa (bsq r1 (bsq v1 ?_))))
      · show ¬ mx_f2 .ge (Int32.ofNat i) (Int32.ofNat es.length) = true
        rw [f2_ge, of_int (by omega), of_int (by omega)]
        simp
        omega
      · rw [show Int32.ofNat i + 1 = Int32.ofNat (i + 1) from of_add i 1]
        exact hR
    -- the reference's
    have s57 : s.1 57 = 0 := ck.2.2.2.2.1
    have x0 : ¬ Int32.ofNat m0 = 0 := fun z => by
      have := congrArg Int32.toInt z
      rw [of_int (by omega), show (0 : Int32).toInt = 0 from by decide] at this
      omega
    have rstep : ∀ R, s341_7 (rM w (kr + j2)) w N2 (s0.2.1 48 m0) (rs_wA s1 86 m0 rr) = R → s341_7 (rM w (kr + j2)) w (N2 + 1) (Int32.ofNat m0) s = R := by
      intro R hR
      rw [s341_7]
      refine inq (show ¬ mx_f1 .eq (Int32.ofNat m0) = true from fun z => x0 (of_decide_eq_true z)) (inq (show ¬ mx_f1 .ne (s.1 57) = true by rw [s57]; decide) (bsq (a := (rr, s1)) (by rw [r2]; rfl) (bsq (sI_at (i := m0) (by decide) rfl n2 (by decide)) (bsq (a := s0.2.1 48 m0) ((aI_at (i := m0) (by decide) rfl n2 (by decide)).trans ?_) hR))))
      show some (s1.2.1 48 m0) = _
      rw [rk_A ck1.2.2.2.1 (by decide)]
    have l86 : rL s1 (rs_wA s1 86 m0 rr) := rL_A (Or.inr rfl)
    have w86 : ∀ q i, (rs_wA s1 86 m0 rr).2.1 q i = if q = 86 ∧ i = m0 then rr else s1.2.1 q i := fun q i => wA_get _ _ _ _ _ _
    have rA : r53 lo' hi1 s (rs_wA s1 86 m0 rr) := fun i hi => by
      have ne : i ≠ m0 := fun z => hi ⟨by omega, by omega⟩
      rw [w86, w86, if_neg (fun z => by omega), if_neg (fun z => ne z.2)]
      exact r53a i hi
    have W1 : wF cx C Sc pl' ph' u h h2 := wF_trans wf1 wk1 v3
    have K1 : wK2 u u1 h h2 := wK2_trans wk1 v4 wf1.1.1
    have W1' : wF cx C Sc pl ph u h h2 := wF_mono W1 g3 g4
    by_cases c0 : a1 = 0
    · subst c0
      obtain ⟨old1, fv1, τ, vt, t6, t0, et, er, vl⟩ := ok1 rfl
      have ck2 : CKJ L xs cx C Sc M pt vr mv hB s0 nk m h2 (rs_wA s1 86 m0 rr) ds G lv gn1 0 b1 u1 A1 B1 := CK_up ck1 v2 v3 rfl l86 (ck1.2.2.2.2.2.2.1 rfl).2.2.1
      obtain ⟨h', s', q1', q2', ⟨gn', a', b', u', A', B', ck', wf', wk', u0', u2', r5', ok'⟩, at'⟩ := ih (i + 1) hi1 ph' (s0.2.1 48 m0) N N2 h2 (rs_wA s1 86 m0 rr) gn1 b1 u1 A1 B1 hes' (by omega) sr (by omega) (by omega) (by omega) (by omega) ck2 (fv1 hi1 hi (Or.inr (Nat.le_refl _)) (by omega) hHI (FV_sub fv (by omega) (Nat.le_refl _))) (fun i h1 h2 => by
        rw [w86, if_neg (fun z => by omega), (r53a i (fun z => by omega)).1]
        exact r3 i (by omega) (by omega)) (by omega)
      have W2 : wF cx C Sc pl ph u1 h2 h' := wF_mono wf' (by omega) (Nat.le_refl _)
      have e12 : fd h' 12 e0 12 = some (.int t) := wF_out v2 wf' v5 (fun z => by omega)
      have ty : aTy h' (e0 :: r) := fun e' he' => by
        rcases List.mem_cons.mp he' with q | q
        · subst q
          exact ⟨_, t, ck'.2.2.1.1.1 _ _ _ (by decide) y1', e12⟩
        · exact at' e' q
      refine ⟨h', s', cstep _ q1', rstep _ q2', ⟨gn', a', b', u', A', B', ck', wF_trans W1' K1 W2, wK2_trans K1 wk' W1'.1.1, u0'.trans u10, by omega, r53_trans (r53_mono rA g1 g2) (r53_mono r5' (by omega) (Nat.le_refl _)), fun z => ?_⟩, ty⟩
      obtain ⟨old', fv', ns, ts, ch, ⟨a1', a2', a3'⟩, nr, er', ag⟩ := ok' z
      have uu : u 2 ≤ u1 2 := wk1.2.2.2.2.1
      have uu' : u1 2 ≤ u' 2 := wk'.2.2.2.2.1
      refine ⟨fun i hi => ⟨(old' i (by omega)).1.trans (old1 i hi).1, (old' i (by omega)).2.trans (old1 i hi).2⟩, fun lo2 hi2 o1 o2 o3 o4 => fv' lo2 hi2 (by omega) o2 o3 (fv1 lo2 hi2 (by omega) o2 o3 o4), m0 :: ns, τ :: ts, ⟨rfl, n1, n2, ch⟩, ⟨by simp [a1'], by simp [a2'], fun i e' m' t' he hm ht => ?_⟩, fun k hk => ?_, fun e' he' => ?_, fun SL AA BB f hSL hAB hf => ?_⟩
      · cases i with
        | zero =>
          simp at he hm ht
          subst he
          subst hm
          subst ht
          refine ⟨ck'.2.2.1.1.1 _ _ _ (by decide) y1', by rw [← et]; exact e12, ?_, vt, t6⟩
          rw [(r5' _ (fun z => by omega)).2, w86, if_pos ⟨rfl, rfl⟩, er]
        | succ i =>
          simp at he hm ht
          exact a3' i e' m' t' he hm ht
      · rcases List.mem_cons.mp hk with q | q
        · omega
        · have := nr k q
          omega
      · rcases List.mem_cons.mp he' with q | q
        · omega
        · have := er' e' q
          omega
      · refine ⟨m0, gn1, u1 2, n1, n2, rfl, VL_f (vl SL AA BB (fun i h1 h2 => ?_) (fun i h1 h2 => ?_)) (by omega), ag SL AA BB f (fun i h1 h2 => hSL i (by omega) h2) (fun i h1 h2 => hAB i (by omega) h2) (by omega)⟩
        · rw [hSL i (by omega) (by omega), (r5' i (fun z => by omega)).1, w86, if_neg (fun z => by omega)]
        · have q := hAB i h1 (by omega)
          have o := old' i h2
          exact ⟨q.1.trans o.1, q.2.trans o.2⟩
    · have ck2 : CKJ L xs cx C Sc M pt vr mv hB s0 nk m h2 (rs_wA s1 86 m0 rr) ds G lv gn1 a1 b1 u1 A1 B1 := CK_fs (CK_fk ck1 c0 v2 v3 rfl) c0 l86
      obtain ⟨h', u', q1', q2', q3'⟩ := z_argr (j := j) (hi := hi) (n := n) hp e1 hl hk (rc_lv lv) r (i + 1) hi1 ph' (s0.2.1 48 m0) N h2 u1 hes' (by omega) sr (by omega) (by omega) (CK_EV j0 bj ck2 c0) (by omega)
      obtain ⟨gn3, A3, B3, ck3⟩ := CK_ZR ck2 c0 q2'
      have W2 : wF cx C Sc pl ph u1 h2 h' := wF_mono q2'.2.1 (by omega) (Nat.le_refl _)
      have uu := q2'.2.2.2.2
      refine ⟨h', rs_wA s1 86 m0 rr, cstep _ q1', rstep _ ?_, ⟨gn3, a1, b1, u', A3, B3, ck3, wF_trans W1' K1 W2, wK2_trans K1 q2'.2.2.1 W1'.1.1, q2'.2.2.2.1.trans u10, by omega, r53_mono rA g1 g2, fun z => absurd z c0⟩, fun e' he' => ?_⟩
      · have f57 : mx_f1 .ne ((rs_wA s1 86 m0 rr).1 57) = true := by
          show mx_f1 .ne (s1.1 57) = true
          rw [ck1.2.2.2.2.1, f1_ne]
          exact decide_eq_true c0
        obtain ⟨N2, rfl⟩ : ∃ M, N2 = M + 1 := ⟨N2 - 1, by omega⟩
        rw [s341_7]
        by_cases y0 : mx_f1 .eq (s0.2.1 48 m0) = true
        · exact itq y0 rfl
        · exact inq y0 (itq f57 rfl)
      · rcases List.mem_cons.mp he' with q | q
        · subst q
          obtain ⟨t', ht'⟩ := wF_t W2 v5
          exact ⟨_, t', ck3.2.2.1.1.1 _ _ _ (by decide) y1', ht'⟩
        · exact q3' e' q
/-- arguments, by both -/
theorem j_173 {y1 : Int32} (j j2 : Nat) (j0 : JE L xs cx hB s0 nk kl ml) (bj : bJ L xs hB s0 nk kl M m) (hp : pts hB q0 q1 p es) (e1 : fd hB 12 p 1 = some (.int y1)) (hl : es.length ≤ 6) (hk : 4 ≤ ke) (hn : n < 4400) (hHI : hi ≤ HI) (hLO : LO ≤ lo) (hlo : lo ≤ hi) (hlz : lv + z ≤ 55) (hw : 200 ≤ w) (sqe : sq s0 (AR L xs zf w cx C Sc M pt vr mv hB s0 nk m LO HI z ke kr kl) hi ph n p lo pl es (s0.2.1 45 n)) (ck : CKJ L xs cx C Sc M pt vr mv hB s0 nk m h s ds G lv gn 0 b u A B) (fv : FV s0 G gn lo hi) (r3 : ∀ i, lo ≤ i → i < hi → s.2.1 53 i = s0.2.1 53 i) (hz : u 2 + 3 * (hi - lo) ≤ 9000) : ∃ h' s', (dcV L xs (dM L xs zf w (ke + 1 + j)) 173 [13] (some C) [va_rf (some p)] h).bind dxV = some h' ∧ rM w (kr + 1 + j2) 341 [.ref 36, .int (Int32.ofNat n)] s = some (none, s') ∧ AXO L xs cx C Sc M pt vr mv hB s0 nk m pl ph LO HI lo hi lv G ds gn u A B h s (3 * (hi - lo)) es (s0.2.1 45 n) h' s' := by
  obtain ⟨h', s', q1', q2', q3'⟩ := j_argl (j := j) (j2 := j2) j0 bj hp e1 hl hk hHI hlz es 0 lo pl (s0.2.1 45 n) w w h s gn b u A B (fun i' e0 he => by rw [Nat.zero_add]; exact he) (by omega) sqe (by omega) (by omega) hlo hLO ck fv r3 hz
  refine ⟨h', s', ?_, ?_, q3'⟩
  · rw [ck_v ck.1, show ke + 1 + j = ke + j + 1 from by omega, e173]
    show (b173_2 L xs zf (dM L xs zf w (ke + j)) w w (some C) (some p) (Int32.ofNat 0) h).bind dxV = _
    rw [q1']
    rfl
  · rw [show kr + 1 + j2 = kr + j2 + 1 from by omega, y341]
    show s341_0 (rM w (kr + j2)) w (Int32.ofNat n) s = _
    unfold s341_0
    exact bsq (a := s0.2.1 45 n) ((aI_at (i := n) (by decide) rfl hn (by decide)).trans (by rw [rk_A ck.2.2.2.1 (by decide)])) q2'
end JAR
