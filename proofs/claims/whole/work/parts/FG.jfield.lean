/-! BOTH CHECK: what is ahead of a dot; fields. -/
/-- the type of a field behind right a by table q; 72 if there is none -/
def bhN (q a t : Nat) : Nat := if isO t = true then (if lkV q (Int32.ofNat a) (Int32.ofNat (t % 8)) = -1 then 72 else t - t % 8 + (lkV q (Int32.ofNat a) (Int32.ofNat (t % 8))).toNatClampNeg) else t
theorem bhN_4 : ∀ a, a < 5 → ∀ t, t < 72 → dTy t = true → bhC 4 (Int32.ofNat a) (cT t) = if bhN 4 a t = 72 then -1 else cT (bhN 4 a t) := by decide +kernel
theorem bhN_3 : ∀ a, a < 5 → ∀ t, t < 72 → dTy t = true → bhC 3 (Int32.ofNat a) (cT t) = if bhN 3 a t = 72 then -1 else cT (bhN 3 a t) := by decide +kernel
def bhK (q a t : Nat) : Bool := ! dTy t || decide (bhN q a t = 72) || (dTy (bhN q a t) && decide (bhN q a t / 8 = t / 8) && decide (bhN q a t % 8 < 5 ↔ t % 8 < 5) && decide (8 ≤ bhN q a t ↔ 8 ≤ t))
theorem bhK_4 : ∀ a, a < 5 → ∀ t, t < 72 → bhK 4 a t = true := by decide +kernel
theorem bhK_3 : ∀ a, a < 5 → ∀ t, t < 72 → bhK 3 a t = true := by decide +kernel
theorem bhD {q a t : Nat} (hq : q = 3 ∨ q = 4) (ha : a < 5) (ht : t < 72) (hd : dTy t = true) (h7 : bhN q a t ≠ 72) : dTy (bhN q a t) = true ∧ bhN q a t / 8 = t / 8 ∧ (bhN q a t % 8 < 5 ↔ t % 8 < 5) ∧ (8 ≤ bhN q a t ↔ 8 ≤ t) := by
  have e : bhK q a t = true := by
    rcases hq with z | z <;> subst z
    · exact bhK_3 a ha t ht
    · exact bhK_4 a ha t ht
  unfold bhK at e
  rw [hd, decide_eq_false h7] at e
  simp only [Bool.not_true, Bool.false_or, Bool.and_eq_true, decide_eq_true_eq] at e
  exact ⟨e.1.1.1, e.1.1.2, e.1.2, e.2⟩
def bhL (q a t : Nat) : Bool := ! dTy t || ! isO t || (decide (bhN q a t = 72 ↔ lkV q (Int32.ofNat a) (Int32.ofNat (t % 8)) = -1) && (decide (bhN q a t = 72) || decide ((rTp t - (rTp t - rTp t / 8 * 8)) + lkV q (Int32.ofNat a) (Int32.ofNat (t % 8)) = rTp (bhN q a t))))
theorem bhL_4 : ∀ a, a < 5 → ∀ t, t < 72 → bhL 4 a t = true := by decide +kernel
theorem bhL_3 : ∀ a, a < 5 → ∀ t, t < 72 → bhL 3 a t = true := by decide +kernel
theorem bhR {q a t : Nat} (hq : q = 3 ∨ q = 4) (ha : a < 5) (ht : t < 72) (hd : dTy t = true) (ho : isO t = true) : (bhN q a t = 72 ↔ lkV q (Int32.ofNat a) (Int32.ofNat (t % 8)) = -1) ∧ (bhN q a t ≠ 72 → (rTp t - (rTp t - rTp t / 8 * 8)) + lkV q (Int32.ofNat a) (Int32.ofNat (t % 8)) = rTp (bhN q a t)) := by
  have e : bhL q a t = true := by
    rcases hq with z | z <;> subst z
    · exact bhL_3 a ha t ht
    · exact bhL_4 a ha t ht
  unfold bhL at e
  rw [hd, ho] at e
  simp only [Bool.not_true, Bool.false_or, Bool.and_eq_true, Bool.or_eq_true, decide_eq_true_eq] at e
  exact ⟨e.1, fun h7 => e.2.resolve_left h7⟩
/-- as the relation of types says it -/
theorem bhN_T {q a t : Nat} (hq : q = 3 ∨ q = 4) (ha : a < 5) (ht : t % 8 < 5 ∨ isO t = false) (h7 : bhN q a t ≠ 72) : bhT q a t (bhN q a t) := by
  unfold bhT
  by_cases o : isO t = true
  · rw [if_pos o]
    have t5 : t % 8 < 5 := ht.resolve_right (fun z => by rw [o] at z; cases z)
    rcases lk_cp q hq a ha (t % 8) t5 with z | ⟨c, hc, z⟩
    · refine absurd ?_ h7
      unfold bhN
      rw [if_pos o, if_pos z]
    · refine ⟨c, hc, z, ?_⟩
      unfold bhN
      have c1 : ¬ Int32.ofNat c = -1 := by
        have : ∀ c, c < 5 → ¬ Int32.ofNat c = -1 := by decide
        exact this c hc
      rw [if_pos o, z, if_neg c1, of_clamp (by omega)]
  · rw [if_neg o]
    unfold bhN
    rw [if_neg o]
theorem cT_m1 : ∀ t, t < 72 → ¬ cT t = -1 := by decide +kernel
theorem so_T : ∀ t, t < 72 → gTy t = true → ((c_so (cT t) = 5 ∨ c_so (cT t) = 4) ↔ (8 ≤ t ∧ t % 8 ≠ 5)) ∧ (c_so (cT t) = 0 ↔ t = 0) ∧ (c_so (cT t) = 4 ↔ (8 ≤ t ∧ t % 8 = 6)) ∧ (c_so (cT t) = 5 ↔ isO t = true) := by decide +kernel
theorem ah_T : ∀ t, t < 72 → gTy t = true → ((oT t ≠ 0 ∨ isO t = true) ↔ (8 ≤ t ∧ t % 8 ≠ 5)) := by decide +kernel
section JFD
variable {L : Nat} {xs : Nat → Int32} {zf : Value} {w C Sc M Pl Ph LO HI nk m lv n p q i d lo hi k k2 z W ke kr : Nat} {cx : Nat → Nat} {hB h h1 h2 : rm_H} {s0 s s1 s2 : rS} {pt vr gn gn1 a b a1 b1 x y rc t v : Int32} {mv : Value} {ds kl ml : List Nat} {G : List scN} {u u1 u2 : Nat → Nat} {A B A1 B1 : Nat → Int32} {c : Int64} {X : scN} {f : Nat → Int64} {sl ty : Nat → Int32}
/-- what can be ahead of a dot: the fault -/
def owX (t : Int32) : Int32 := if c_so t = 0 then 8 else 5
theorem c_193 {px : Nat} (kh : KH L xs cx C Sc M pt vr mv h ds f sl ty gn rc a b u A B) (ge : GE L xs cx h kl) (ex : fd h 12 px 1 = some (.int y)) (t : Int32) : (dcV L xs (dM L xs zf w (k + 5)) 193 [13] (some C) [va_rf (some px), .int t] h).bind dxR = if c_so t = 5 ∨ c_so t = 4 then some (kNo kl (c_kd t), h) else ((dcV L xs (dM L xs zf w (k + 4)) 178 [13] (some C) [.int (owX t), .int y] h).bind dxV).bind fun h' => some (none, h') := by
  have g1 : dgI L xs h 1 [12] (some px) = some y := fd_I ex (by decide)
  have kd := ck_kind (zf := zf) (w := w) (k := k) kh ge (c_kd t)
  rw [ck_v kh, e193]
  show (b193_0 L xs zf (dM L xs zf w (k + 4)) w (some C) (some px) t h).bind dxR = _
  have f39 : (b193_39 L xs zf (dM L xs zf w (k + 4)) w (some C) t h).bind dxR = some (kNo kl (c_kd t), h) := by
    unfold b193_39
    rw [ck_0 kh, Option.bind_some, t_kd (k := k + 3) t h, Option.bind_some]
    dsimp only
    rw [kd, Option.bind_some]
    cases kNo kl (c_kd t) <;> rfl
  have f30 : ∀ x : Int32, (b193_30 L xs zf (dM L xs zf w (k + 4)) w (some px) x (some C) h).bind dxR = ((dcV L xs (dM L xs zf w (k + 4)) 178 [13] (some C) [.int x, .int y] h).bind dxV).bind fun h' => some (none, h') := by
    intro x
    unfold b193_30
    rw [g1, Option.bind_some]
    generalize (dcV L xs (dM L xs zf w (k + 4)) 178 [13] (some C) [.int x, .int y] h).bind dxV = R
    cases R <;> rfl
  unfold b193_0 owX
  rw [t_so (k := k + 3) t h, Option.bind_some]
  dsimp only
  by_cases c5 : c_so t = 5
  · rw [if_pos (show mx_f2 .eq (c_so t) 5 = true from decide_eq_true c5), if_pos (Or.inl c5)]
    exact f39
  · rw [if_neg (show ¬ mx_f2 .eq (c_so t) 5 = true from fun z => c5 (of_decide_eq_true z)), t_so (k := k + 3) t h, Option.bind_some]
    dsimp only
    by_cases c4 : c_so t = 4
    · rw [if_pos (show mx_f2 .eq (c_so t) 4 = true from decide_eq_true c4), if_pos (Or.inr c4)]
      exact f39
    · rw [if_neg (show ¬ mx_f2 .eq (c_so t) 4 = true from fun z => c4 (of_decide_eq_true z)), if_neg (fun z => z.elim c5 c4), t_so (k := k + 3) t h, Option.bind_some]
      dsimp only
      by_cases c0 : c_so t = 0
      · rw [if_neg (show ¬ mx_f1 .ne (c_so t) = true by rw [f1_ne, c0]; decide), if_pos c0]
        exact f30 8
      · rw [if_pos (show mx_f1 .ne (c_so t) = true by rw [f1_ne]; exact decide_eq_true c0), if_neg c0]
        exact f30 5
/-- the reference's kind ahead -/
theorem r_354 {l τ : Nat} (hs : s.1 57 = 0) (hl : l < 4400) (hτ : gTy τ = true) (h61 : s.1 61 = oT τ) : rM w (k + 3) 354 [.ref 36, .int (Int32.ofNat l), .int (rTp τ)] s = if 8 ≤ τ ∧ τ % 8 ≠ 5 then some (some (.int (Int32.ofNat (τ / 8 - 1))), s) else some (some (.int (-1)), rfS s (owX (cT τ)) (s.2.1 50 l)) := by
  obtain ⟨z1, z2, _⟩ := rTp_1 τ (gTy_lt hτ) hτ
  obtain ⟨so1, so2, _⟩ := so_T τ (gTy_lt hτ) hτ
  have ah := ah_T τ (gTy_lt hτ) hτ
  have r5 := r_350 (w := w) (k := k) hs hl (rTp τ)
  rw [y354]
  show s354_0 (rM w (k + 2)) w (Int32.ofNat l) (rTp τ) s = _
  unfold s354_0 owX
  by_cases c0 : τ = 0
  · rw [if_pos (z1.mpr c0), if_pos (z1.mpr c0)] at r5
    rw [if_neg (by omega), if_pos (so2.mpr c0)]
    exact bsq (a := (0, rfS s 8 (s.2.1 50 l))) (by rw [r5]; rfl) (inq (show ¬ mx_f1 .ne (0 : Int32) = true by decide) rfl)
  · rw [if_neg (fun z => c0 (z1.mp z)), if_neg (fun z => c0 (z1.mp z))] at r5
    refine bsq (a := (1, s)) (by rw [r5]; rfl) (itq (show mx_f1 .ne (1 : Int32) = true by decide) ?_)
    show (if mx_f1 .ne (s.1 61) = true then _ else _) = _
    rw [h61]
    have f38 : 8 ≤ τ → s354_38 (rM w (k + 2)) w (rTp τ) s = some (some (.int (Int32.ofNat (τ / 8 - 1))), s) := by
      intro t8
      unfold s354_38
      rw [(t_all3 τ (gTy_lt hτ) hτ t8).2]
      rfl
    by_cases c1 : oT τ = 0
    · rw [if_neg (show ¬ mx_f1 .ne (oT τ) = true by rw [f1_ne, c1]; decide)]
      refine bsq (a := (rd_01 (isO τ), s)) (by rw [r_333b, clR_T τ (gTy_lt hτ) hτ]; rfl) ?_
      have o2 : isO τ = true ∨ isO τ = false := by cases isO τ <;> simp
      rcases o2 with o | o
      · rw [o]
        have := ah.mp (Or.inr o)
        rw [if_pos this]
        exact itq (show mx_f1 .ne (rd_01 true) = true by decide) (f38 this.1)
      · rw [o]
        have nn : ¬ (8 ≤ τ ∧ τ % 8 ≠ 5) := fun q => (ah.mpr q).elim (fun q => q c1) (fun q => by rw [o] at q; cases q)
        rw [if_neg nn, if_neg (fun q => c0 (so2.mp q))]
        exact inq (show ¬ mx_f1 .ne (rd_01 false) = true by decide) (bsq (aI_at (i := l) (by decide) rfl hl (by decide)) (bsq (a := rfS s 5 (s.2.1 50 l)) (by rw [r_305 hs]; rfl) rfl))
    · have := ah.mp (Or.inl c1)
      rw [if_pos (show mx_f1 .ne (oT τ) = true by rw [f1_ne]; exact decide_eq_true c1), if_pos this]
      exact f38 this.1
/-- the right ahead -/
theorem r_355 {τ : Nat} (hτ : gTy τ = true) (h8 : 8 ≤ τ ∧ τ % 8 ≠ 5) (h61 : s.1 61 = oT τ) : rM w (k + 1) 355 [.ref 36, .int (rTp τ)] s = some (some (.int (Int32.ofNat (cpT τ))), s) := by
  have q : ∀ t, t < 72 → gTy t = true → 8 ≤ t → t % 8 ≠ 5 → (if oT t = 0 then rTp t - rTp t / 8 * 8 else 2) = Int32.ofNat (cpT t) := by decide +kernel
  have q1 := q τ (gTy_lt hτ) hτ h8.1 h8.2
  rw [y355]
  show s355_0 (rM w k) w (rTp τ) s = _
  unfold s355_0
  rw [h61]
  by_cases c : oT τ = 0
  · rw [if_pos c] at q1
    rw [if_pos (show mx_f1 .eq (oT τ) = true from decide_eq_true c), q1]
    rfl
  · rw [if_neg c] at q1
    rw [if_neg (show ¬ mx_f1 .eq (oT τ) = true from fun z => c (of_decide_eq_true z)), q1]
    rfl
theorem cp5 {τ : Nat} : cpT τ < 5 := by
  unfold cpT
  split <;> omega
/-- the Kind of what is ahead -/
theorem kNo_T {τ : Nat} (hτ : vT s0 nk τ) (h8 : 8 ≤ τ) (hl : kl.length = nk) (n8 : nk ≤ 8) : ∃ K, kNo kl (c_kd (cT τ)) = some K ∧ kl[τ / 8 - 1]? = some K := by
  have q := (t_all2 τ (gTy_lt hτ.1) hτ.1 h8).1
  have hk := (hτ.2 h8).1
  refine ⟨kl[τ / 8 - 1]'(by omega), ?_, List.getElem?_eq_getElem (by omega)⟩
  rw [q]
  unfold kNo
  rw [of_int (by omega), if_neg (by omega), Int.toNat_natCast, List.getElem?_eq_getElem (by omega)]
end JFD
