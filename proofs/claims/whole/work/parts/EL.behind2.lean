/-! BEHIND A FAULT: rights, fields, fits. -/
/-- what a table of rights says -/
def lkV (q : Nat) (i j : Int32) : Int32 := if 0 ≤ i.toInt ∧ i.toInt < 5 ∧ 0 ≤ j.toInt ∧ j.toInt < 5 then (ah_sa (q - 1)).getD (i * 5 + j).toNatClampNeg 0 else -1
section ZL
variable {L : Nat} {xs : Nat → Int32} {zf : Value} {w k C Sc M pl ph K p n m : Nat} {cx : Nat → Nat} {h h1 h2 : rm_H} {pt vr gn rc a b x y t : Int32} {mv : Value} {ds kl : List Nat} {f : Nat → Int64} {sl ty : Nat → Int32} {u u1 u2 : Nat → Nat} {A B : Nat → Int32}
/-- a table of rights: at place q -/
theorem lk_tb {q : Nat} (hq : 1 ≤ q ∧ q ≤ 4) (i j : Int32) (h : rm_H) : (dM L xs zf w (k + 1) 190 [.ref q, .int i, .int j] h).bind dxI = some (lkV q i j, h) := by
  rw [e190]
  show (b190_0 L xs zf (dM L xs zf w k) w (some q) i j h).bind dxI = _
  refine bsq (a := (some (.int (lkV q i j)), h)) ?_ rfl
  unfold b190_0 lkV
  have z5 : (5 : Int32).toInt = 5 := by decide
  simp only [f1_lt, f2_ge, f2_lt, z5, decide_eq_true_eq]
  by_cases c1 : i.toInt < 0
  · rw [if_pos c1, if_neg (by omega)]
    rfl
  · rw [if_neg c1]
    by_cases c2 : 5 ≤ i.toInt
    · rw [if_pos c2, if_neg (by omega)]
      rfl
    · rw [if_neg c2]
      by_cases c3 : j.toInt < 0
      · rw [if_pos c3, if_neg (by omega)]
        rfl
      · rw [if_neg c3]
        by_cases c4 : j.toInt < 5
        · rw [if_pos c4, if_pos ⟨by omega, by omega, by omega, c4⟩]
          have ei : i = Int32.ofNat i.toInt.toNat := i32_of (by rw [of_int (by omega)]; omega)
          have ej : j = Int32.ofNat j.toInt.toNat := i32_of (by rw [of_int (by omega)]; omega)
          have es : i * 5 + j = Int32.ofNat (i.toInt.toNat * 5 + j.toInt.toNat) := by
            rw [← of_add, Int32.ofNat_mul, ← ei, ← ej]
            rfl
          have lk : rm_look 21 (ah_O L xs) h q = some (.inl (0, 25, .inl (fun j => (ah_sa (q - 1)).getD j 0))) := by
            unfold rm_look
            rw [if_pos (by omega)]
            have : q = 1 ∨ q = 2 ∨ q = 3 ∨ q = 4 := by omega
            rcases this with z | z | z | z <;> subst z <;> rfl
          have rd : daI L xs h (some q) (i * 5 + j) = some ((ah_sa (q - 1)).getD (i * 5 + j).toNatClampNeg 0) := by
            unfold daI
            dsimp only
            rw [lk]
            show (if _ then _ else _) = _
            rw [if_pos ⟨rfl, by rw [es]; exact of_in (by omega) (by decide)⟩]
          exact bsq rd rfl
        · rw [if_neg c4, if_neg (by omega)]
          rfl
/-- a value fits or not: behind a fault nothing is noted -/
theorem zk_188 {spl : Int32} (z : KZ L xs cx C Sc M pt vr mv ds f sl ty rc a b h u) (ha : a ≠ 0) (e1 : fd h 12 p 1 = some (.int spl)) (t wt : Int32) : (dcV L xs (dM L xs zf w (k + 3)) 188 [13] (some C) [va_rf (some p), .int t, .int wt] h).bind dxV = some h := by
  have rf := fun x y => zk_ref (zf := zf) (w := w) (k := k + 1) z ha x y
  have g1 : dgI L xs h 1 [12] (some p) = some spl := fd_I e1 (by decide)
  rw [zk_v z, e188]
  show (b188_0 L xs zf (dM L xs zf w (k + 2)) w (some C) (some p) t wt h).bind dxV = _
  refine bsq (a := (none, h)) ?_ rfl
  have f66 : b188_66 L xs zf (dM L xs zf w (k + 2)) w (some C) (some p) h = some (none, h) := by
    unfold b188_66
    exact bsq g1 (bsq (rf _ _) rfl)
  have f78 : ∀ i4, b188_78 L xs zf (dM L xs zf w (k + 2)) w (some C) (some p) t wt i4 h = some (none, h) := by
    intro i4
    unfold b188_78
    by_cases c : mx_f2 .ne i4 5 = true
    · exact itq c rfl
    · refine inq c (bsq (t_cp (k := k + 1) t h) (bsq (t_cp (k := k + 1) wt h) (bsq (lk_tb (k := k + 1) (q := 1) (by decide) _ _ h) ?_)))
      dsimp only
      split
      · rfl
      · exact bsq g1 (bsq (rf _ _) rfl)
  unfold b188_0
  refine bsq (t_so (k := k + 1) t h) (bsq (t_so (k := k + 1) wt h) ?_)
  dsimp only
  split
  · split
    · exact f66
    · split
      · exact f78 _
      · refine bsq (t_kd (k := k + 1) t h) (bsq (t_kd (k := k + 1) wt h) ?_)
        dsimp only
        split
        · exact f78 _
        · exact f66
  · split
    · rfl
    · split
      · rfl
      · exact bsq g1 (bsq (rf _ _) rfl)
theorem zk_209 {spl : Int32} (z : KZ L xs cx C Sc M pt vr mv ds f sl ty rc a b h u) (ha : a ≠ 0) (e1 : fd h 12 p 1 = some (.int spl)) (t : Int32) : (dcV L xs (dM L xs zf w (k + 3)) 209 [13] (some C) [va_rf (some p), .int t] h).bind dxV = some h := by
  have rf := fun x y => zk_ref (zf := zf) (w := w) (k := k + 1) z ha x y
  have g1 : dgI L xs h 1 [12] (some p) = some spl := fd_I e1 (by decide)
  rw [zk_v z, e209]
  show (b209_0 L xs zf (dM L xs zf w (k + 2)) w (some C) (some p) t h).bind dxV = _
  refine bsq (a := (none, h)) ?_ rfl
  have f22 : ∀ s0, b209_22 L xs zf (dM L xs zf w (k + 2)) w (some p) s0 (some C) h = some (none, h) := by
    intro s0
    unfold b209_22
    exact bsq g1 (bsq (rf _ _) rfl)
  unfold b209_0
  refine bsq (t_so (k := k + 1) t h) ?_
  dsimp only
  split
  · rfl
  · refine bsq (t_so (k := k + 1) t h) ?_
    dsimp only
    split
    · exact f22 5
    · exact f22 8
/-- the Kind ahead of a dot -/
theorem zk_193 {spl : Int32} (z : KZ L xs cx C Sc M pt vr mv ds f sl ty rc a b h u) (ha : a ≠ 0) (ge : GE L xs cx h kl) (e1 : fd h 12 p 1 = some (.int spl)) (t : Int32) : ∃ o, (dcV L xs (dM L xs zf w (k + 5)) 193 [13] (some C) [va_rf (some p), .int t] h).bind dxR = some (o, h) ∧ ∀ K, o = some K → K ∈ kl := by
  have rf := fun x y => zk_ref (zf := zf) (w := w) (k := k + 3) z ha x y
  have g1 : dgI L xs h 1 [12] (some p) = some spl := fd_I e1 (by decide)
  have kd : (dcV L xs (dM L xs zf w (k + 4)) 194 [4] (some (cx 8)) [.int ((t >>> ((4 : Int32) &&& 31)) &&& 15)] h).bind dxR = some (kNo kl ((t >>> ((4 : Int32) &&& 31)) &&& 15), h) := by
    obtain ⟨gn, A, B, kh⟩ := z
    exact ck_kind kh ge _
  rw [zk_v z, e193]
  show ∃ o, (b193_0 L xs zf (dM L xs zf w (k + 4)) w (some C) (some p) t h).bind dxR = some (o, h) ∧ _
  have f30 : ∀ s0, b193_30 L xs zf (dM L xs zf w (k + 4)) w (some p) s0 (some C) h = some (some (va_rf none), h) := by
    intro s0
    unfold b193_30
    exact bsq g1 (bsq (rf _ _) rfl)
  have f39 : b193_39 L xs zf (dM L xs zf w (k + 4)) w (some C) t h = some (some (va_rf (kNo kl ((t >>> ((4 : Int32) &&& 31)) &&& 15))), h) := by
    unfold b193_39
    exact bsq (zk_0 z) (bsq (t_kd (k := k + 3) t h) (bsq kd rfl))
  have mem : ∀ x K, kNo kl x = some K → K ∈ kl := by
    intro x K e
    unfold kNo at e
    split at e
    · cases e
    · exact List.mem_of_getElem? e
  have dxr : ∀ o : Option Nat, (some (some (va_rf o), h) : Option dR).bind dxR = some (o, h) := fun o => by cases o <;> rfl
  have yes : (b193_0 L xs zf (dM L xs zf w (k + 4)) w (some C) (some p) t h = some (some (va_rf (kNo kl ((t >>> ((4 : Int32) &&& 31)) &&& 15))), h)) ∨ (b193_0 L xs zf (dM L xs zf w (k + 4)) w (some C) (some p) t h = some (some (va_rf none), h)) := by
    unfold b193_0
    rw [t_so (k := k + 3) t h, Option.bind_some]
    dsimp only
    split
    · exact Or.inl f39
    · rw [t_so (k := k + 3) t h, Option.bind_some]
      dsimp only
      split
      · exact Or.inl f39
      · rw [t_so (k := k + 3) t h, Option.bind_some]
        dsimp only
        split
        · exact Or.inr (f30 5)
        · exact Or.inr (f30 8)
  rcases yes with e | e
  · exact ⟨_, by rw [e]; exact dxr _, fun K hK => mem _ K hK⟩
  · exact ⟨none, by rw [e]; rfl, fun K hK => by cases hK⟩
/-- the field behind a dot -/
theorem zk_192 {q pa : Nat} {c : Int64} {spl s1 : Int32} (z : KZ L xs cx C Sc M pt vr mv ds f sl ty rc a b h u) (ha : a ≠ 0) (ge : GE L xs cx h kl) (e6 : fd h 12 p 6 = some (.ref pa)) (ea : fd h 12 pa 1 = some (.int s1)) (e2 : fd h 12 p 2 = some (.ref q)) (hq : nS L xs h q c) (e3 : fd h 12 p 3 = some (.int spl)) (t : Int32) (hw : 200 ≤ w) : ∃ o, (dcV L xs (dM L xs zf w (k + 6)) 192 [13] (some C) [va_rf (some p), .int t] h).bind dxR = some (o, h) ∧ ∀ d, o = some d → ∃ c s0 x0, dSn L xs h d c s0 x0 := by
  obtain ⟨o1, r1, r2⟩ := zk_193 (zf := zf) (w := w) (k := k) z ha ge ea t
  have rf := fun x y => zk_ref (zf := zf) (w := w) (k := k + 4) z ha x y
  rw [zk_v z, e192]
  show ∃ o, (b192_0 L xs zf (dM L xs zf w (k + 5)) w (some C) (some p) t h).bind dxR = some (o, h) ∧ _
  have g6 : dgR L xs h 6 [12] (some p) = some (some pa) := fd_R (o := some pa) e6 (by decide)
  have g2 : dgR L xs h 2 [12] (some p) = some (some q) := fd_R (o := some q) e2 (by decide)
  have g3 : dgI L xs h 3 [12] (some p) = some spl := fd_I e3 (by decide)
  cases o1 with
  | none =>
    refine ⟨none, bsq (a := (some (va_rf none), h)) ?_ rfl, fun d hd => by cases hd⟩
    unfold b192_0
    exact bsq g6 (bsq r1 (itq rfl rfl))
  | some K =>
    obtain ⟨ac, nb, _, _, ⟨fl, ar, cap, fs, ff, fsl, fty, q3, q4⟩, _⟩ := ge.2.2 K (r2 K rfl)
    have fe := ck_field (zf := zf) (w := w) (k := k + 1) q3 q4 hq hw
    generalize ho : kO fs (kF ff c fs.length 0) = o2 at fe
    have good : ∀ d, o2 = some d → ∃ c s0 x0, dSn L xs h d c s0 x0 := by
      intro d hd
      rw [hd] at ho
      unfold kO at ho
      cases hk : kF ff c fs.length 0 with
      | none => rw [hk] at ho; cases ho
      | some i =>
        rw [hk] at ho
        exact ⟨_, _, _, q4.2.2 i d ho⟩
    refine ⟨o2, bsq (a := (some (va_rf o2), h)) ?_ (by cases o2 <;> rfl), good⟩
    unfold b192_0
    refine bsq g6 (bsq r1 (inq (dnl_s K) (bsq g2 (bsq fe ?_))))
    cases o2 with
    | none => exact itq rfl (bsq g3 (bsq (rf _ _) rfl))
    | some d => exact inq (dnl_s d) rfl
end ZL
