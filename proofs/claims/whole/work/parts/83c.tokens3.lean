/-! THE REFERENCE'S PARSER: its small methods, and arguments. -/
section TKC
variable {E : rE} {w : Nat} {c c' : Int} {s : rS} {b : Bool}
def oSm (s : rS) (X : Option rA) : Prop := ∀ r s', X = some (r, s') → s' = s ∧ (s.1 57 = 0 → (s.1 56).toInt ≤ 2000)
theorem oSm_rI {t : Option FieldType} {x : Int32} (h : s.1 57 = 0 → (s.1 56).toInt ≤ 2000) : oSm s (rrI t x s) := fun r s' e => by
  unfold rrI at e
  split at e
  · cases e; exact ⟨rfl, h⟩
  · cases e
theorem oSm_bi {α : Type} {f : Option α} {g : α → Option rA} (a : ∀ x, f = some x → oSm s (g x)) : oSm s (f.bind g) := by
  cases f with
  | none => exact fun r s' e => by cases e
  | some x => exact a x rfl
theorem f1n {x : Int32} (h : mx_f1 .ne x = true) : x ≠ 0 := fun z => by
  rw [z] at h
  exact absurd h (by decide)
theorem rxI_get {X : Option rA} {x : Int32 × rS} (e : X.bind rxI = some x) : X = some (some (.int x.1), x.2) := by
  cases X with
  | none => cases e
  | some y =>
    obtain ⟨r, s1⟩ := y
    have e : rxI (r, s1) = some x := e
    unfold rxI at e
    split at e
    · rename_i v hv
      have hv : r = some (.int v) := hv
      cases e
      rw [hv]
    · cases e
theorem tk_303 (i1 : Int32) (s : rS) : oSm s (s303_0 E w i1 s) := by
  unfold s303_0 s303_37 s303_38
  split
  · rename_i h
    exact oSm_rI (fun z => absurd z (f1n h))
  · refine oSm_bi (fun x e => ?_)
    have rd := rd56 (by decide) e
    split
    · exact oSm_rI (fun _ => rd)
    · refine oSm_bi (fun x e => ?_)
      split
      · exact oSm_rI (fun _ => rd)
      · exact oSm_rI (fun _ => rd)
theorem tk_310 (i1 : Int32) (s : rS) : oSm s (s310_0 E w i1 s) := by
  unfold s310_0 s310_37 s310_38
  split
  · rename_i h
    exact oSm_rI (fun z => absurd z (f1n h))
  · refine oSm_bi (fun x e => ?_)
    have rd := rd56 (by decide) e
    split
    · exact oSm_rI (fun _ => rd)
    · refine oSm_bi (fun x e => ?_)
      split
      · exact oSm_rI (fun _ => rd)
      · exact oSm_rI (fun _ => rd)
theorem tk_313 (s : rS) : oSm s (s313_0 E w s) := by
  unfold s313_0 s313_52 s313_53
  split
  · rename_i h
    exact oSm_rI (fun z => absurd z (f1n h))
  · refine oSm_bi (fun x e => ?_)
    have rd := rd56 (by decide) e
    split
    · exact oSm_rI (fun _ => rd)
    · refine oSm_bi (fun x e => ?_)
      split
      · exact oSm_rI (fun _ => rd)
      · refine oSm_bi (fun x e => ?_)
        split
        · exact oSm_rI (fun _ => rd)
        · exact oSm_rI (fun _ => rd)
theorem oSm_pk (hE : tE E) {m : Nat} {As : List Value} {g : Int32 × rS → Option rA} (hm : tpm m = true) (a : ∀ v, (s.1 57 = 0 → (s.1 56).toInt ≤ 2000) → oSm s (g (v, s))) : oSm s (((E m As s).bind rxI).bind g) := oSm_bi fun x e => by
  have e1 := rxI_get e
  obtain ⟨v, s1⟩ := x
  obtain ⟨q1, q2⟩ := hE.2.2.2.2.2.1 m hm As s _ _ e1
  have q1 : s1 = s := q1
  rw [q1]
  exact a v q2
theorem tk_325 (hE : tE E) (s : rS) : oSm s (s325_0 E w s) := by
  unfold s325_0 s325_46 s325_51
  refine oSm_pk hE (by decide) (fun v rd => ?_)
  repeat' (first
    | exact oSm_rI rd
    | split
    | refine oSm_pk hE (by decide) (fun _ _ => ?_))
theorem tk_304 (hE : tE E) (s : rS) : ∀ r s', s304_0 E w s = some (r, s') → s'.1 57 ≠ 0 := by
  intro r s' e
  unfold s304_0 at e
  obtain ⟨x, _, e⟩ := Option.bind_eq_some_iff.mp e
  obtain ⟨s3, e3, e⟩ := Option.bind_eq_some_iff.mp e
  obtain ⟨⟨r1, s1⟩, e4, e5⟩ := Option.bind_eq_some_iff.mp e3
  have k := hE.2.2.2.2.1 x s r1 s1 e4
  have e5 : rxV (r1, s1) = some s3 := e5
  unfold rxV at e5
  split at e5
  · cases e5
    cases e
    exact k
  · cases e5
theorem tk_305 (x : Int32) (s : rS) : ∀ r s', s305_0 E w 1 x s = some (r, s') → s'.1 57 ≠ 0 := by
  intro r s' e
  unfold s305_0 at e
  split at e
  · obtain ⟨s2, e2, e⟩ := Option.bind_eq_some_iff.mp e
    obtain ⟨s7, e7, e⟩ := Option.bind_eq_some_iff.mp e
    cases e
    unfold rs_pI at e2 e7
    split at e2
    · cases e2
      split at e7
      · cases e7
        show upd (upd s.1 57 1) 58 x 57 ≠ 0
        rw [tk_upd (by decide), show upd s.1 57 1 57 = 1 from if_pos rfl]
        decide
      · cases e7
    · cases e2
  · rename_i h
    cases e
    intro z
    rw [z] at h
    exact h (by decide)
theorem tk_307_38 (hE : tE E) (i2 : Int32) (s : rS) : oTk c (s307_38 E w i2 s) := by
  unfold s307_38 s307_42
  exact oTk_304 hE (fun _ z => oTk_rI (tB_le z (by omega)))
theorem tk_307 (hE : tE E) (i1 : Int32) (s : rS) (z : tB false c s) : oTk (c + 1) (s307_0 E w i1 s) := by
  unfold s307_0
  split
  · exact tk_307_38 hE _ _
  · refine oTk_r56 (by decide) z (fun x z1 => ?_)
    split
    · exact tk_307_38 hE _ _
    · refine oTk_56 z1 (fun s1 z2 => ?_)
      unfold s307_42
      exact oTk_rI z2
theorem tk_309 (hE : tE E) (i1 : Int32) (s : rS) (z : tB false c s) : oTk c (s309_0 E w i1 s) := by
  unfold s309_0
  refine oTk_pk hE (by decide) z (fun x z1 => ?_)
  split
  · exact oTk_56 z1 (fun s1 z2 => oTk_rI (tB_le z2 (by omega)))
  · exact oTk_rI (tB_le z1 (by omega))
theorem tk_309v (hE : tE E) (i1 : Int32) (s : rS) (z : tB false c s) : ∀ v s', s309_0 E w i1 s = some (some (.int v), s') → v ≠ 0 → tB false (c + 1) s' := by
  intro v s' e nv
  unfold s309_0 at e
  obtain ⟨⟨x, s1⟩, ex, e2⟩ := Option.bind_eq_some_iff.mp e
  clear e
  obtain ⟨q1, q2⟩ := hE.2.2.2.2.2.1 310 (by decide) _ _ _ _ (rxI_get ex)
  have q1 : s1 = s := q1
  subst q1
  split at e2
  · have k : oTk (c + 1) ((rs_pI s1 56 ((s1.1 56) + 1)).bind fun s7 => rrI (some .boolean) 1 s7) := oTk_56 (tB_rd z q2) (fun s2 z2 => oTk_rI z2)
    exact k _ _ e2
  · unfold rrI at e2
    split at e2
    · cases e2
      exact absurd rfl nv
    · cases e2
theorem tk_308 (hE : tE E) (i1 : Int32) (s : rS) (z : tB false c s) : oTk (c + 1) (s308_0 E w i1 s) := by
  intro r s' e
  unfold s308_0 s308_12 at e
  obtain ⟨⟨x, s1⟩, ex, e⟩ := Option.bind_eq_some_iff.mp e
  split at e
  · rename_i h
    cases e
    exact hE.2.2.2.2.2.2.2 _ s c x s1 z (rxI_get ex) (f1n h)
  · have k : oTk (c + 1) (((E 304 [.ref 36] s1).bind rxV).bind fun s7 => some (none, s7)) := oTk_304 hE (fun _ zz => oTk_so (tB_le zz (by omega)))
    exact k _ _ e
theorem sm2_le {f : Nat → Int32} {i : Nat} {x : Int32} (h : x.toNatClampNeg ≤ (f i).toNatClampNeg + 1) : ∀ n, sm2 (upd f i x) n ≤ sm2 f n + 1 ∧ (n ≤ i → sm2 (upd f i x) n = sm2 f n)
  | 0 => ⟨Nat.zero_le _, fun _ => rfl⟩
  | n + 1 => by
    obtain ⟨a1, a2⟩ := sm2_le h n
    show sm2 (upd f i x) n + (if n = 0 then 0 else (upd f i x n).toNatClampNeg) ≤ sm2 f n + (if n = 0 then 0 else (f n).toNatClampNeg) + 1 ∧ (n + 1 ≤ i → sm2 (upd f i x) n + (if n = 0 then 0 else (upd f i x n).toNatClampNeg) = sm2 f n + (if n = 0 then 0 else (f n).toNatClampNeg))
    by_cases q : n = i
    · have e : upd f i x n = x := if_pos q
      rw [e, a2 (by omega), q]
      refine ⟨?_, fun z => by omega⟩
      split <;> omega
    · rw [tk_upd q]
      exact ⟨by omega, fun z => by rw [a2 (by omega)]⟩
theorem clamp1 (x : Int32) : (x + 1).toNatClampNeg ≤ x.toNatClampNeg + 1 := by
  show (x + 1).toInt.toNat ≤ x.toInt.toNat + 1
  rw [Int32.toInt_add, show (1 : Int32).toInt = 1 from by decide, Int.bmod_def]
  have := x.toInt_lt
  have := x.le_toInt
  split <;> omega
theorem sI_get {p : Nat} {i v : Int32} {s1 : rS} (e : rs_sI s p i v = some s1) : s1 = rs_wA s p i.toNatClampNeg v ∧ rm_in i (rs_t p).2.1 = true := by
  unfold rs_sI at e
  split at e
  · rename_i h
    cases e
    simp only [Bool.and_eq_true] at h
    exact ⟨rfl, h.2⟩
  · cases e
theorem aI_get {p : Nat} {i x : Int32} (e : rs_aI s p i = some x) : x = s.2.1 p i.toNatClampNeg := by
  unfold rs_aI at e
  split at e
  · cases e; rfl
  · cases e
theorem oTk_52 {i : Int32} {g : rS → Option rA} (z : tB false c' s) (a : ∀ s1, tB false (c' - 1) s1 → oTk c (g s1)) : oTk c ((rs_aI s 52 i).bind fun x => (rs_sI s 52 i (x + 1)).bind g) := oTk_bi fun x e => oTk_bi fun s1 e1 => a s1 (by
  rw [(sI_get e1).1, aI_get e]
  rcases z with z | ⟨z1, z2, z3, z4⟩
  · exact Or.inl z
  · refine Or.inr ⟨z1, z2, z3, ?_⟩
    have k := (sm2_le (f := s.2.1 52) (i := i.toNatClampNeg) (clamp1 _) (s.1 10).toInt.toNat).1
    show c' - 1 + (s.1 10).toInt + (sm2 (upd (s.2.1 52) i.toNatClampNeg (s.2.1 52 i.toNatClampNeg + 1)) (s.1 10).toInt.toNat : Int) ≤ (s.1 56).toInt
    omega)
theorem tk_316 (i1 i2 : Int32) (s : rS) (z : tB b c s) : ∀ r s', s316_0 E w i1 i2 s = some (r, s') → tB b (c - 1) s' := by
  intro r s' e
  unfold s316_0 at e
  obtain ⟨s1, e1, e⟩ := Option.bind_eq_some_iff.mp e
  obtain ⟨s2, e2, e⟩ := Option.bind_eq_some_iff.mp e
  obtain ⟨s3, e3, e⟩ := Option.bind_eq_some_iff.mp e
  obtain ⟨s4, e4, e⟩ := Option.bind_eq_some_iff.mp e
  obtain ⟨s5, e5, e⟩ := Option.bind_eq_some_iff.mp e
  obtain ⟨s6, e6, e⟩ := Option.bind_eq_some_iff.mp e
  obtain ⟨s7, e7, e⟩ := Option.bind_eq_some_iff.mp e
  obtain ⟨s8, e8, e⟩ := Option.bind_eq_some_iff.mp e
  obtain ⟨s9, e9, e⟩ := Option.bind_eq_some_iff.mp e
  obtain ⟨s10, e10, e⟩ := Option.bind_eq_some_iff.mp e
  obtain ⟨s11, e11, e⟩ := Option.bind_eq_some_iff.mp e
  obtain ⟨s12, e12, e⟩ := Option.bind_eq_some_iff.mp e
  obtain ⟨s13, e13, e⟩ := Option.bind_eq_some_iff.mp e
  obtain ⟨s14, e14, e⟩ := Option.bind_eq_some_iff.mp e
  have f : s' = s14 := by
    unfold rrI at e
    split at e
    · cases e; rfl
    · cases e
  have f1 : s1 = rs_w s 10 (s.1 10 + 1) := by
    unfold rs_pI at e1
    split at e1
    · cases e1; rfl
    · cases e1
  have f14 : s14 = rs_wB s13 56 (s.1 10).toNatClampNeg 0 := by
    unfold rs_sJ at e14
    split at e14
    · cases e14; rfl
    · cases e14
  have hin := (sI_get e2).2
  rw [f, f14, (sI_get e13).1, (sI_get e12).1, (sI_get e11).1, (sI_get e10).1, (sI_get e9).1, (sI_get e8).1, (sI_get e7).1, (sI_get e6).1, (sI_get e5).1, (sI_get e4).1, (sI_get e3).1, (sI_get e2).1, f1]
  rcases z with z | ⟨z1, z2, z3, z4⟩
  · exact Or.inl z
  · have hn : (s.1 10).toInt < 4400 := by
      rw [show (rs_t 44).2.1 = 4400 from rfl] at hin
      unfold rm_in at hin
      simp at hin
      have q : (s.1 10).toNatClampNeg = (s.1 10).toInt.toNat := rfl
      omega
    have q : (s.1 10 + 1).toInt = (s.1 10).toInt + 1 := by
      rw [Int32.toInt_add, show (1 : Int32).toInt = 1 from by decide, Int.bmod_def]
      split <;> omega
    have k : sm2 (upd (s.2.1 52) (s.1 10).toInt.toNat 0) ((s.1 10).toInt.toNat + 1) = sm2 (s.2.1 52) (s.1 10).toInt.toNat := by
      show sm2 (upd (s.2.1 52) (s.1 10).toInt.toNat 0) (s.1 10).toInt.toNat + (if (s.1 10).toInt.toNat = 0 then 0 else (upd (s.2.1 52) (s.1 10).toInt.toNat 0 (s.1 10).toInt.toNat).toNatClampNeg) = _
      rw [(sm2_le (Nat.zero_le _) _).2 (Nat.le_refl _), show upd (s.2.1 52) (s.1 10).toInt.toNat 0 (s.1 10).toInt.toNat = 0 from if_pos rfl, show (if (s.1 10).toInt.toNat = 0 then 0 else (0 : Int32).toNatClampNeg) = 0 from by split <;> rfl]
      rfl
    refine Or.inr ⟨?_, z2, z3, ?_⟩
    · show 0 ≤ (s.1 10 + 1).toInt
      omega
    · show c - 1 + (s.1 10 + 1).toInt + (sm2 (upd (s.2.1 52) (s.1 10).toInt.toNat 0) (s.1 10 + 1).toInt.toNat : Int) ≤ (s.1 56).toInt
      rw [q, show ((s.1 10).toInt + 1).toNat = (s.1 10).toInt.toNat + 1 from by omega, k]
      omega
theorem tk_324_99 (hE : tE E) {K31 : Int32 → Int32 → Int32 → Int32 → rS → Option rA} (hK : ∀ a0 a1 a2 a3 s, tB false c s → (a2 ≠ 0 → tB false (c + 1) s) → oTk c (K31 a0 a1 a2 a3 s)) (i1 i2 i5 : Int32) (s : rS) (z : tB false c s) : oTk c (s324_99 E w K31 i1 i2 i5 s) := by
  unfold s324_99
  refine oTk_bi (fun x e => ?_)
  have e1 := rxI_get e
  exact hK _ _ _ _ _ (hE.1 309 (by decide) _ s c _ _ z e1) (fun nz => hE.2.2.2.2.2.2.2 _ s c _ _ z e1 nz)
theorem tk_324_50 (hE : tE E) {K31 : Int32 → Int32 → Int32 → Int32 → rS → Option rA} (hK : ∀ a0 a1 a2 a3 s, tB false c s → (a2 ≠ 0 → tB false (c + 1) s) → oTk c (K31 a0 a1 a2 a3 s)) (i1 i2 i4 : Int32) (s : rS) (z : tB false (c + 1) s) : oTk c (s324_50 E w K31 i1 i2 i4 s) := by
  unfold s324_50
  refine oTk_I0 hE (by decide) z (fun x z1 => ?_)
  refine oTk_I0 hE (by decide) z1 (fun x2 z2 => ?_)
  refine oTk_52 z2 (fun s1 z3 => ?_)
  split
  · exact oTk_sI (by decide) z3 (fun s2 z4 => tk_324_99 hE hK _ _ _ _ (tB_le z4 (by omega)))
  · exact oTk_sI (by decide) z3 (fun s2 z4 => tk_324_99 hE hK _ _ _ _ (tB_le z4 (by omega)))
theorem tk_324_31 (hE : tE E) : ∀ (n : Nat) (i1 i2 i3 i4 : Int32) (s : rS), tB false c s → (i3 ≠ 0 → tB false (c + 1) s) → oTk c (s324_31 E w n i1 i2 i3 i4 s)
  | 0, _, _, _, _, _ => fun _ _ r s' e => by
    have e : (none : Option rA) = some (r, s') := e
    cases e
  | n + 1, i1, i2, i3, i4, s => fun z zz => by
    have ih := tk_324_31 hE n
    unfold s324_31
    split
    · exact oTk_V1 hE (by decide) z (fun s1 z1 => oTk_so (tB_le z1 (by omega)))
    · rename_i h
      have z1 := zz (fun q => h (by rw [q]; decide))
      refine oTk_rd (fun x => ?_)
      split
      · exact tk_324_50 hE ih _ _ _ _ z1
      · exact oTk_304 hE (fun s1 z2 => tk_324_50 hE ih _ _ _ _ (tB_le z2 (by omega)))
theorem tk_324_0 (hE : tE E) (i1 i2 : Int32) (s : rS) (z : tB false c s) : oTk c (s324_0 E w i1 i2 s) := by
  unfold s324_0 s324_26 s324_27
  refine oTk_V1 hE (by decide) z (fun s1 z1 => ?_)
  split
  · exact tk_324_31 hE _ _ _ _ _ _ (tB_le z1 (by omega)) (fun q => absurd rfl q)
  · refine oTk_pk hE (by decide) z1 (fun x z2 => ?_)
    split
    · exact tk_324_31 hE _ _ _ _ _ _ (tB_le z2 (by omega)) (fun q => absurd rfl q)
    · exact tk_324_31 hE _ _ _ _ _ _ (tB_le z2 (by omega)) (fun _ => tB_le z2 (by omega))
end TKC
