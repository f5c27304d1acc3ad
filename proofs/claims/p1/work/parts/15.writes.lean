/-! THE INSTRUCTIONS THAT WRITE AND MAKE. 'lk' of putfield: the field's number, then the classes; of new: the class; of newarray and anewarray: the number of the component type. FT: the type of a class's field; DV: a new object's fields; CA: may an object of that class stand in an array of that component type. -/
def rm_fit (ty : FieldType) (v : Value) : Bool := match ty, v with
  | .int, .int _ => true
  | .long, .long _ => true
  | .object _, .null => true
  | .object _, .ref _ => true
  | .array _, .null => true
  | .array _, .ref _ => true
  | .boolean, .int x => decide (x = 0) || decide (x = 1)
  | .byte, .int x => decide (x.toInt8.toInt32 = x)
  | _, _ => false
theorem rm_fit_ok (ρ : Nat → Nat) {ty : FieldType} {v : Value} (h : rm_fit ty v = true) : narrow ty (rm_v ρ v) = rm_v ρ v ∧ fits ty (rm_v ρ v) = true := by
  unfold rm_fit at h
  split at h
  · exact ⟨rfl, rfl⟩
  · exact ⟨rfl, rfl⟩
  · exact ⟨rfl, rfl⟩
  · exact ⟨rfl, rfl⟩
  · exact ⟨rfl, rfl⟩
  · exact ⟨rfl, rfl⟩
  · simp only [Bool.or_eq_true, decide_eq_true_eq] at h
    rcases h with rfl | rfl
    · exact ⟨rfl, rfl⟩
    · exact ⟨rfl, rfl⟩
  · rename_i x
    have hx := of_decide_eq_true h
    refine ⟨congrArg Value.int hx, ?_⟩
    have := pk_fb x
    rw [hx] at this
    exact this
  · cases h
theorem rm_G.put {D : va_G} {cl : List vw_C} {cA : Nat → ClassId} {ρ : Nat → Nat} {b0 : Nat} {H0 H H1 : Heap} {h : rm_H} {locs : List Loc} (hG : rm_G D cl cA ρ b0 H0 h H locs) {k i : Nat} {x : rm_E} (hk : k < h.length) (z : H1.size = H.size) (o : ∀ q : Nat, q ≠ b0 + k → H1[q]? = H[q]?) (hx : va_at D cl (b0 + k, rm_w cA (rm_c ρ x)) H1) : rm_G D cl cA ρ b0 H0 (h.set k x) H1 (locs ++ [⟨b0 + k, i⟩]) := by
  refine ⟨by rw [z, List.length_set]; exact hG.1, fun j y hy => ?_, fun q hq => ?_, fun q hq => ?_⟩
  · by_cases hj : j = k
    · subst hj
      rw [List.getElem?_set_self hk] at hy
      cases hy
      exact hx
    · rw [List.getElem?_set_ne (fun e => hj e.symm)] at hy
      exact (hG.2.1 j y hy).kept (o _ (by show b0 + j ≠ b0 + k; omega))
  · rw [o q (by omega)]
    exact hG.2.2.1 q hq
  · rcases List.mem_append.mp hq with h1 | h1
    · exact hG.2.2.2 q h1
    · rw [List.mem_singleton.mp h1]
      exact Nat.le_add_right _ _
theorem rm_G.new {D : va_G} {cl : List vw_C} {cA : Nat → ClassId} {ρ : Nat → Nat} {b0 : Nat} {H0 H H1 : Heap} {h : rm_H} {locs : List Loc} (hG : rm_G D cl cA ρ b0 H0 h H locs) {x : rm_E} (z : H1.size = H.size + 1) (o : ∀ q : Nat, q < H.size → H1[q]? = H[q]?) (hx : va_at D cl (H.size, rm_w cA (rm_c ρ x)) H1) : rm_G D cl cA ρ b0 H0 (h ++ [x]) H1 locs := by
  have hz := hG.1
  refine ⟨by rw [z, hz, List.length_append, List.length_singleton]; omega, fun j y hy => ?_, fun q hq => ?_, hG.2.2.2⟩
  · by_cases hj : j < h.length
    · rw [List.getElem?_append_left hj] at hy
      exact (hG.2.1 j y hy).kept (o _ (by show b0 + j < H.size; omega))
    · have hl := (List.getElem?_eq_some_iff.mp hy).1
      rw [List.length_append, List.length_singleton] at hl
      have hj2 : j = h.length := by omega
      subst hj2
      rw [List.getElem?_append_right (Nat.le_refl _), Nat.sub_self] at hy
      cases hy
      rw [← hz]
      exact hx
  · rw [o q (by omega)]
    exact hG.2.2.1 q hq
def rm_sC (n0 : Nat) (O : Nat → Option rm_E) (TY : List FieldType) (FT : Nat → Nat → FieldType) (DV : Nat → List Value) (CA : Nat → Nat → Bool) (ins : Instr) (len : Nat) (lk : List Nat) (pc : Nat) (lv : rm_L) (st : List Value) (h : rm_H) : Option (Nat × rm_L × List Value × rm_H × Nat × Nat) := match ins with
  | .putfield _ => if len = 3 then (match lk, st with
    | k :: cis, v :: .ref a :: r => if n0 ≤ a then (match h[a - n0]? with
      | some (.inr (ci, fs)) => if cis.contains ci = true ∧ rm_fit (FT ci k) v = true ∧ k < fs.length then some (pc + 3, lv, r, h.set (a - n0) (.inr (ci, fs.set k v)), 0, 0) else none
      | _ => none) else none
    | _, _ => none) else none
  | .iastore => if len = 1 then (match st with
    | .int x :: .int i :: .ref a :: r => if n0 ≤ a then (match h[a - n0]? with
      | some (.inl (t, n, .inl f)) => if TY[t]? = some .int ∧ rm_in i n = true then some (pc + 1, lv, r, h.set (a - n0) (.inl (t, n, .inl (upd f i.toNatClampNeg x))), 0, 0) else none
      | _ => none) else none
    | _ => none) else none
  | .bastore => if len = 1 then (match st with
    | .int x :: .int i :: .ref a :: r => if n0 ≤ a then (match h[a - n0]? with
      | some (.inl (t, n, .inl f)) => if TY[t]? = some .byte ∧ rm_in i n = true then some (pc + 1, lv, r, h.set (a - n0) (.inl (t, n, .inl (upd f i.toNatClampNeg x.toInt8.toInt32))), 0, 0)
        else if TY[t]? = some .boolean ∧ rm_in i n = true then some (pc + 1, lv, r, h.set (a - n0) (.inl (t, n, .inl (upd f i.toNatClampNeg (x &&& 1)))), 0, 0) else none
      | _ => none) else none
    | _ => none) else none
  | .lastore => if len = 1 then (match st with
    | .long x :: .int i :: .ref a :: r => if n0 ≤ a then (match h[a - n0]? with
      | some (.inl (t, n, .inr (.inl f))) => if TY[t]? = some .long ∧ rm_in i n = true then some (pc + 1, lv, r, h.set (a - n0) (.inl (t, n, .inr (.inl (vp_updL f i.toNatClampNeg x)))), 0, 0) else none
      | _ => none) else none
    | _ => none) else none
  | .aastore => if len = 1 then (match st with
    | .ref b :: .int i :: .ref a :: r => if n0 ≤ a then (match h[a - n0]?, rm_look n0 O h b with
      | some (.inl (t, n, .inr (.inr (.inr (.inr f))))), some (.inr (ci, _)) => if CA ci t = true ∧ rm_in i n = true then some (pc + 1, lv, r, h.set (a - n0) (.inl (t, n, .inr (.inr (.inr (.inr (va_up f i.toNatClampNeg (some b))))))), 0, 0) else none
      | _, _ => none) else none
    | _ => none) else none
  | .new _ => if len = 3 then (match lk with
    | [ci] => some (pc + 3, lv, .ref (n0 + h.length) :: st, h ++ [.inr (ci, DV ci)], 1, (DV ci).length)
    | _ => none) else none
  | .newarray aty => if len = 2 then (match lk, st with
    | [t], .int n :: r => if TY[t]? = some (newarray.typeOf aty) ∧ ¬ n < 0 ∧ n.toNatClampNeg * 8 ≤ 536870912 then (match newarray.typeOf aty with
      | .int => some (pc + 2, lv, .ref (n0 + h.length) :: r, h ++ [.inl (t, n.toNatClampNeg, .inl (fun _ => 0))], 1, n.toNatClampNeg)
      | .byte => some (pc + 2, lv, .ref (n0 + h.length) :: r, h ++ [.inl (t, n.toNatClampNeg, .inl (fun _ => 0))], 1, n.toNatClampNeg)
      | .boolean => some (pc + 2, lv, .ref (n0 + h.length) :: r, h ++ [.inl (t, n.toNatClampNeg, .inl (fun _ => 0))], 1, n.toNatClampNeg)
      | .long => some (pc + 2, lv, .ref (n0 + h.length) :: r, h ++ [.inl (t, n.toNatClampNeg, .inr (.inl (fun _ => 0)))], 1, n.toNatClampNeg)
      | _ => none) else none
    | _, _ => none) else none
  | .anewarray _ => if len = 3 then (match lk, st with
    | [t], .int n :: r => if ¬ n < 0 ∧ n.toNatClampNeg * 4 ≤ 536870912 then some (pc + 3, lv, .ref (n0 + h.length) :: r, h ++ [.inl (t, n.toNatClampNeg, .inr (.inr (.inr (.inr (fun _ => none)))))], 1, n.toNatClampNeg) else none
    | _, _ => none) else none
  | _ => none
def rm_lkP (Ts : List Cond) (cl : List vw_C) (own mn : String) (idx k ci : Nat) : Prop := ∃ (r : vw_C) (ref : String), cl[ci]? = some r ∧ k < r.2.2 ∧ (ref = (r.2.1 k).1 ∨ Cond.sameField ref (r.2.1 k).1 (r.2.1 k).2.1 (r.2.1 k).2.2.1 ∈ Ts) ∧ Cond.fieldLink own idx ref (r.2.1 k).2.1 (r.2.1 k).2.2.1 ∈ Ts ∧ ((r.2.1 k).2.2.2 = false ∨ ((r.2.1 k).2.2.2 = true ∧ mn = "<init>" ∧ (r.2.1 k).1 = own))
def rm_lkC2 (Ts : List Cond) (cl : List vw_C) (TY : List FieldType) (DV : Nat → List Value) (own mn : String) (ins : Instr) (lk : List Nat) : Prop := match ins with
  | .putfield idx => ∀ ci ∈ lk.drop 1, rm_lkP Ts cl own mn idx (lk.headD 0) ci
  | .new idx => lk ≠ [] → ∃ r : vw_C, cl[lk.headD 0]? = some r ∧ Cond.classLink own idx r.1 ∈ Ts ∧ Cond.instantiable r.1 r.2.2 ∈ Ts ∧ Cond.initialized r.1 ∈ Ts ∧ (DV (lk.headD 0)).length = r.2.2
  | .newarray aty => lk ≠ [] → Cond.arrayClass (newarray.typeOf aty) ∈ Ts
  | .anewarray idx => lk ≠ [] → ∃ C : String, TY[lk.headD 0]? = some (.object C) ∧ Cond.classLink own idx C ∈ Ts ∧ Cond.arrayOver (.object C) ∈ Ts
  | _ => True
/-- the classes' field types, names and new objects -/
def rm_Cn (cl : List vw_C) (FT : Nat → Nat → FieldType) (DV : Nat → List Value) : Prop := ∀ (ci : Nat) (r : vw_C), cl[ci]? = some r → (∀ k, k < r.2.2 → parseFieldDescriptor (r.2.1 k).2.2.1 = some (FT ci k)) ∧ (∀ a, a < r.2.2 → ∀ b, b < r.2.2 → a ≠ b → (r.2.1 a).2.1 ≠ (r.2.1 b).2.1) ∧ ∀ j, j < r.2.2 → (DV ci)[j]? = some (defaultValue (FT ci j))
