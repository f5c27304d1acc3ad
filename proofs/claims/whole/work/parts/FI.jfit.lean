/-! BOTH CHECK: whether arguments fit. -/
/-- the first that does not fit: its fault and its place -/
def gfit (X Y : Nat → Int32) : Nat → Nat → Int32 × Int32
  | 0, _ => (0, 0)
  | r + 1, i => if X i = 0 then gfit X Y r (i + 1) else (X i, Y i)
theorem gfit_0 {X Y : Nat → Int32} : ∀ r i, (gfit X Y r i).1 = 0 → ∀ j, i ≤ j → j < i + r → X j = 0 := by
  intro r
  induction r with
  | zero => intro i _ j h1 h2; omega
  | succ r ih =>
    intro i e j h1 h2
    unfold gfit at e
    by_cases c : X i = 0
    · rw [if_pos c] at e
      by_cases q : j = i
      · rw [q]; exact c
      · exact ih (i + 1) e j (by omega) (by omega)
    · rw [if_neg c] at e
      exact absurd e c
theorem gfit_p {X Y : Nat → Int32} (hX : ∀ i, X i = 0 ∨ 0 < (X i).toInt) : ∀ r i, (gfit X Y r i).1 = 0 ∨ 0 < (gfit X Y r i).1.toInt := by
  intro r
  induction r with
  | zero => intro i; exact Or.inl rfl
  | succ r ih =>
    intro i
    unfold gfit
    by_cases c : X i = 0
    · rw [if_pos c]
      exact ih (i + 1)
    · rw [if_neg c]
      exact hX i
theorem fitC_p (t v : Int32) : fitC t v = 0 ∨ 0 < (fitC t v).toInt := by
  have f7 : fit7 t v = 0 ∨ 0 < (fit7 t v).toInt := by
    unfold fit7
    split
    · split
      · exact Or.inl rfl
      · exact Or.inr (by decide)
    · exact Or.inl rfl
  unfold fitC
  split
  · split
    · exact Or.inl rfl
    · split
      · exact Or.inl rfl
      · exact Or.inr (by decide)
  · split
    · split
      · exact f7
      · split
        · exact f7
        · exact Or.inr (by decide)
    · exact Or.inr (by decide)
section JFT
variable {L : Nat} {xs : Nat → Int32} {zf : Value} {w k C Sc M pl ph K p n m q0 q1 : Nat} {cx : Nat → Nat} {h h1 h2 : rm_H} {pt vr gn rc a b x y t wt : Int32} {mv : Value} {ds kl es ps : List Nat} {f : Nat → Int64} {sl ty : Nat → Int32} {u u1 u2 : Nat → Nat} {A B : Nat → Int32} {s s0 : rS}
/-- Nodes stay where something is refused -/
theorem ck_rfn (kh : KH L xs cx C Sc M pt vr mv h ds f sl ty gn rc a b u A B) (x y : Int32) : ∃ h', rfz L xs zf w k C x y h = some h' ∧ KH L xs cx C Sc M pt vr mv h' ds f sl ty gn rc (fa a x) (fb a b x y) u A B ∧ wF cx C Sc pl ph u h h' ∧ wK2 u u h h' ∧ ∀ p j v, fd h 12 p j = some v → fd h' 12 p j = some v := by
  obtain ⟨h', r1, k1, w1, w2⟩ := ck_rfz (pl := pl) (ph := ph) (zf := zf) (w := w) (k := k) kh x y
  obtain ⟨h2, r2, _, w3, _⟩ := ck_rfz (pl := 0) (ph := 0) (zf := zf) (w := w) (k := k) kh x y
  have e : h2 = h' := by
    rw [r1] at r2
    exact (Option.some.inj r2).symm
  subst e
  refine ⟨h2, r1, k1, w1, w2, fun p j v ev => ?_⟩
  obtain ⟨k1', k2', ⟨g, k3, _⟩, _, _, ⟨k6, k7, _⟩, _⟩ := kh
  refine fd_old w3.1 ev (fun z => ?_)
  obtain ⟨fs, e1, _⟩ := fd_c ev
  rcases z with z | z | z | z | z | ⟨z1, z2, _⟩
  · rw [z, k1'] at e1; cases e1
  · rw [z, k2'] at e1; cases e1
  · rw [z, k3] at e1; cases e1
  · rw [z, k6] at e1; cases e1
  · rw [z, k7] at e1; cases e1
  · omega
theorem fa_2 {a x x2 : Int32} : fa (fa a x) x2 = fa a (if x = 0 then x2 else x) := by
  unfold fa
  by_cases ha : a = 0
  · by_cases hx : x = 0
    · simp [ha, hx]
    · simp [ha, hx]
  · simp [ha]
theorem fb_2 {a b x y x2 y2 : Int32} : fb (fa a x) (fb a b x y) x2 y2 = fb a b (if x = 0 then x2 else x) (if x = 0 then y2 else y) := by
  unfold fa fb
  by_cases ha : a = 0
  · by_cases hx : x = 0
    · simp [ha, hx]
    · simp [ha, hx]
  · simp [ha]
/-- the class, before a fault and behind it alike -/
theorem c_199 {y1 y3 : Int32} {M' l ar cap : Nat} {T Y Q : Nat → Int32} (kh : KH L xs cx C Sc M pt vr mv h ds f sl ty gn rc a b u A B) (e : pts h q0 q1 p es) (e1 : fd h 12 p 1 = some (.int y1)) (e3 : fd h 12 p 3 = some (.int y3)) (hl : es.length ≤ 6) (hA : ∀ i e0, es[i]? = some e0 → fd h 12 e0 1 = some (.int (Y i)) ∧ fd h 12 e0 12 = some (.int (T i))) (o1 : fd h 11 M' 5 = some (.ref l)) (o2 : aL h l ar cap ps) (o4 : ps.length ≤ 6) (o5 : ∀ i d, ps[i]? = some d → fd h 10 d 7 = some (.int (Q i))) (hw : 200 ≤ w) : ∃ h', (dcV L xs (dM L xs zf w (k + 5)) 199 [13] (some C) [va_rf (some p), va_rf (some M')] h).bind dxV = some h' ∧ KH L xs cx C Sc M pt vr mv h' ds f sl ty gn rc (fa a (if es.length = ps.length then gfit (fun i => fitC (T i) (Q i)) Y es.length 0 else (8, y3)).1) (fb a b (if es.length = ps.length then gfit (fun i => fitC (T i) (Q i)) Y es.length 0 else (8, y3)).1 (if es.length = ps.length then gfit (fun i => fitC (T i) (Q i)) Y es.length 0 else (8, y3)).2) u A B ∧ wF cx C Sc pl ph u h h' ∧ wK2 u u h h' ∧ ∀ p j v, fd h 12 p j = some v → fd h' 12 p j = some v := by
  have cn := ck_cnt (L := L) (xs := xs) (zf := zf) (w := w) (k := k + 2) e e1
  have g5 : dgR L xs h 5 [11] (some M') = some (some l) := fd_R (o := some l) o1 (by decide)
  have sz : (dcV L xs (dM L xs zf w (k + 4)) 101 [5] (some l) [] h).bind dxI = some (Int32.ofNat ps.length, h) := by
    rw [al_v o2, al_size o2]
    rfl
  have wrap : ∀ h', b199_0 L xs zf (dM L xs zf w (k + 4)) w (some C) (some p) (some M') h = some (none, h') → (dcV L xs (dM L xs zf w (k + 5)) 199 [13] (some C) [va_rf (some p), va_rf (some M')] h).bind dxV = some h' := by
    intro h' hh
    rw [ck_v kh, e199]
    show (b199_0 L xs zf (dM L xs zf w (k + 4)) w (some C) (some p) (some M') h).bind dxV = _
    rw [hh]
    rfl
  by_cases ll : es.length = ps.length
  · rw [if_pos ll]
    have lp : ∀ (r i N : Nat) (h0 : rm_H) (a b : Int32), i + r = es.length → r < N → KH L xs cx C Sc M pt vr mv h0 ds f sl ty gn rc a b u A B → (∀ p j v, fd h 12 p j = some v → fd h0 12 p j = some v) → wF cx C Sc pl ph u h h0 → wK2 u u h h0 → ∃ h', b199_29 L xs zf (dM L xs zf w (k + 4)) w N (some C) (some p) (some M') (Int32.ofNat i) h0 = some (none, h') ∧ KH L xs cx C Sc M pt vr mv h' ds f sl ty gn rc (fa a (gfit (fun i => fitC (T i) (Q i)) Y r i).1) (fb a b (gfit (fun i => fitC (T i) (Q i)) Y r i).1 (gfit (fun i => fitC (T i) (Q i)) Y r i).2) u A B ∧ wF cx C Sc pl ph u h0 h' ∧ wK2 u u h0 h' ∧ ∀ p j v, fd h0 12 p j = some v → fd h' 12 p j = some v := by
      intro r
      induction r with
      | zero =>
        intro i N h0 a b er hN k0 n0 w0 w00
        obtain ⟨N, rfl⟩ : ∃ M, N = M + 1 := ⟨N - 1, by omega⟩
        have e' : pts h0 q0 q1 p es := by
          rcases e with ⟨z1, z2⟩ | ⟨l', ar', cap', z1, z2, z3⟩
          · exact Or.inl ⟨n0 _ _ _ z1, z2⟩
          · exact Or.inr ⟨l', ar', cap', n0 _ _ _ z1, wF_aL kh w0 z2, z3⟩
        have cn0 := ck_cnt (L := L) (xs := xs) (zf := zf) (w := w) (k := k + 2) e' (n0 _ _ _ e1)
        refine ⟨h0, ?_, by show KH L xs cx C Sc M pt vr mv h0 ds f sl ty gn rc (fa a 0) (fb a b 0 0) u A B; rw [fa_0, fb_0]; exact k0, wF_refl, wK2_refl, fun _ _ _ z => z⟩
        rw [b199_29]
        refine bsq cn0 (itq ?_ rfl)
        show mx_f2 .ge (Int32.ofNat i) (Int32.ofNat es.length) = true
        rw [f2_ge, of_int (by omega), of_int (by omega)]
        simp
        omega
      | succ r ih =>
        intro i N h0 a b er hN k0 n0 w0 w00
        obtain ⟨N, rfl⟩ : ∃ M, N = M + 1 := ⟨N - 1, by omega⟩
        have e' : pts h0 q0 q1 p es := by
          rcases e with ⟨z1, z2⟩ | ⟨l', ar', cap', z1, z2, z3⟩
          · exact Or.inl ⟨n0 _ _ _ z1, z2⟩
          · exact Or.inr ⟨l', ar', cap', n0 _ _ _ z1, wF_aL kh w0 z2, z3⟩
        have cn0 := ck_cnt (L := L) (xs := xs) (zf := zf) (w := w) (k := k + 2) e' (n0 _ _ _ e1)
        have o20 := wF_aL kh w0 o2
        have g50 : dgR L xs h0 5 [11] (some M') = some (some l) := fd_R (o := some l) (wF_f kh w0 (by decide) o1) (by decide)
        obtain ⟨e0, he0⟩ : ∃ d, es[i]? = some d := ⟨es[i]'(by omega), List.getElem?_eq_getElem (by omega)⟩
        obtain ⟨d, hd⟩ : ∃ d, ps[i]? = some d := ⟨ps[i]'(by omega), List.getElem?_eq_getElem (by omega)⟩
        obtain ⟨y1', y2'⟩ := hA i e0 he0
        have d7 := wF_f kh w0 (by decide) (o5 i d hd)
        obtain ⟨fsd, d0, _⟩ := fd_c d7
        have pa := ck_part (L := L) (xs := xs) (zf := zf) (w := w) (k := k) e' (n0 _ _ _ e1) he0 ⟨_, n0 _ _ _ y1'⟩ (by omega)
        obtain ⟨h1, r1, k1, w1, w2, n1⟩ := ck_rfn (pl := pl) (ph := ph) (zf := zf) (w := w) (k := k + 2) k0 (fitC (T i) (Q i)) (Y i)
        have w01 := wF_trans w0 w00 w1
        obtain ⟨h2, r2, k2, w3, w4, n2⟩ := ih (i + 1) N h1 _ _ (by omega) (by omega) k1 (fun p j v z => n1 p j v (n0 p j v z)) w01 (wK2_trans w00 w2 w0.1.1)
        rw [fa_2, fb_2] at k2
        refine ⟨h2, ?_, ?_, wF_trans w1 w2 w3, wK2_trans w2 w4 w1.1.1, fun p j v z => n2 p j v (n1 p j v z)⟩
        · rw [b199_29]
          refine bsq cn0 (inq ?_ (bsq pa (bsq (fd_I (n0 _ _ _ y2') (by decide)) (bsq g50 (bsq (a := (some d, h0)) (by rw [al_v o20, al_get o20 i hd]; rfl) (inq (by rw [ck_of d0]; decide) (bsq (fd_I d7 (by decide)) (bsq ((c_188 (k := k + 1) k0 (n0 _ _ _ y1') _ _).trans r1) ?_))))))))
          · show ¬ mx_f2 .ge (Int32.ofNat i) (Int32.ofNat es.length) = true
            rw [f2_ge, of_int (by omega), of_int (by omega)]
            simp
            omega
          · rw [show Int32.ofNat i + 1 = Int32.ofNat (i + 1) from of_add i 1]
            exact r2
        · unfold gfit
          by_cases c : fitC (T i) (Q i) = 0
          · rw [if_pos c, if_pos c] at k2
            rw [if_pos c]
            exact k2
          · rw [if_neg c, if_neg c] at k2
            rw [if_neg c]
            exact k2
    obtain ⟨h', r1, r2⟩ := lp es.length 0 w h a b (by omega) (by omega) kh (fun _ _ _ z => z) wF_refl wK2_refl
    refine ⟨h', wrap h' ?_, r2⟩
    unfold b199_0
    exact bsq cn (bsq g5 (bsq sz (itq (by rw [ll]; exact decide_eq_true rfl) r1)))
  · rw [if_neg ll]
    obtain ⟨h1, r1, k1, w1, w2, n1⟩ := ck_rfn (pl := pl) (ph := ph) (zf := zf) (w := w) (k := k + 3) kh 8 y3
    refine ⟨h1, wrap h1 ?_, k1, w1, w2, n1⟩
    unfold rfz at r1
    rw [if_neg (by decide)] at r1
    unfold b199_0
    refine bsq cn (bsq g5 (bsq sz (inq (fun z => ll ?_) (bsq (fd_I e3 (by decide)) (bsq r1 rfl)))))
    have : Int32.ofNat es.length = Int32.ofNat ps.length := of_decide_eq_true z
    have := congrArg Int32.toInt this
    rw [of_int (by omega), of_int (by omega)] at this
    omega
end JFT
