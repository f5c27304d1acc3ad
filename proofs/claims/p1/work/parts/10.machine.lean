/-! THE MACHINE OF THE MIND. Bytecode is run here over a heap of its own: a list of cells that the run makes, behind a list O of old cells that it only reads. An address of this machine is a place: below O.length an old cell, from there on a made one. 'rho' says where it lies in the real machine: the made ones lie at b0, b0 + 1, .. in the order in which they were made. What this machine answers the real one answers: part by part below. Values are the model's own, with places for addresses. -/
/-- a cell: an array (the number of its component type, length, contents) or an object (the number of its class, fields) -/
abbrev rm_E : Type := (Nat × vp_A) ⊕ (Nat × List Value)
abbrev rm_H : Type := List rm_E
abbrev rm_L : Type := List (Nat × Value)
def rm_v (ρ : Nat → Nat) (v : Value) : Value := match v with
  | .ref a => .ref (ρ a)
  | .int x => .int x
  | .long x => .long x
  | .float x => .float x
  | .double x => .double x
  | .null => .null
  | .retAddr x => .retAddr x
theorem rm_v_cat (ρ : Nat → Nat) (v : Value) : (rm_v ρ v).category = v.category := by cases v <;> rfl
def rm_lv (ρ : Nat → Nat) (lv : rm_L) : rm_L := lv.map (fun q => (q.1, rm_v ρ q.2))
def rm_get : rm_L → Nat → Option Value
  | [], _ => none
  | q :: r, i => if q.1 = i then some q.2 else rm_get r i
theorem rm_get_mem {lv : rm_L} {i : Nat} {v : Value} (h : rm_get lv i = some v) : (i, v) ∈ lv := by
  induction lv with
  | nil => cases h
  | cons q r ih =>
    rw [rm_get] at h
    split at h
    · rename_i e
      cases h
      rw [← e]
      exact List.mem_cons_self
    · exact List.mem_cons_of_mem _ (ih h)
theorem rm_get_ix (ρ : Nat → Nat) {lv : rm_L} {i : Nat} {v : Value} (h : rm_get lv i = some v) : ∃ k : Nat, (rm_lv ρ lv)[k]? = some (i, rm_v ρ v) :=
  List.getElem?_of_mem (List.mem_map.mpr ⟨(i, v), rm_get_mem h, rfl⟩)
theorem rm_get_at {ρ : Nat → Nat} {ls : Array Slot} {nL : Nat} {lv : rm_L} {i : Nat} {v : Value} (hl : lv_has ls nL (rm_lv ρ lv)) (h : rm_get lv i = some v) : ls[i]? = some (.val (rm_v ρ v)) := by
  obtain ⟨k, hk⟩ := rm_get_ix ρ h
  exact lv_at hl k hk
def rm_set1 (lv : rm_L) (i : Nat) (v : Value) : rm_L := (i, v) :: lv.filter (fun q => !(q.1 == i) && !(q.1 + 1 == i && q.2.category == 2))
def rm_set2 (lv : rm_L) (i : Nat) (v : Value) : rm_L := (i, v) :: lv.filter (fun q => !(q.1 == i) && (!(q.1 == i + 1) && !(q.1 + 1 == i && q.2.category == 2)))
theorem rm_set1_lv (ρ : Nat → Nat) (lv : rm_L) (i : Nat) (v : Value) : (i, rm_v ρ v) :: (rm_lv ρ lv).filter (fun q => !(q.1 == i) && !(q.1 + 1 == i && q.2.category == 2)) = rm_lv ρ (rm_set1 lv i v) := by
  simp only [rm_lv, rm_set1, List.map_cons, List.filter_map]
  congr 2
  apply List.filter_congr
  intro q _
  simp only [Function.comp, rm_v_cat]
theorem rm_set2_lv (ρ : Nat → Nat) (lv : rm_L) (i : Nat) (v : Value) : (i, rm_v ρ v) :: (rm_lv ρ lv).filter (fun q => !(q.1 == i) && (!(q.1 == i + 1) && !(q.1 + 1 == i && q.2.category == 2))) = rm_lv ρ (rm_set2 lv i v) := by
  simp only [rm_lv, rm_set2, List.map_cons, List.filter_map]
  congr 2
  apply List.filter_congr
  intro q _
  simp only [Function.comp, rm_v_cat]
/-- a jump on one int, on two, on two references -/
def rm_b1 (len pc : Nat) (off : Int) (lv : rm_L) (st : List Value) (f : Int32 → Bool) : Option (Nat × rm_L × List Value) :=
  if len = 3 ∧ 0 ≤ (pc : Int) + off then (match st with
    | .int x :: r => if f x = true then some (((pc : Int) + off).toNat, lv, r) else some (pc + 3, lv, r)
    | _ => none) else none
theorem rm_b1_some {len pc : Nat} {off : Int} {lv : rm_L} {st : List Value} {f : Int32 → Bool} {r : Nat × rm_L × List Value} (h : rm_b1 len pc off lv st f = some r) :
    len = 3 ∧ 0 ≤ (pc : Int) + off ∧ ∃ x rest, st = .int x :: rest ∧ ((f x = true ∧ r = (((pc : Int) + off).toNat, lv, rest)) ∨ (f x = false ∧ r = (pc + 3, lv, rest))) := by
  unfold rm_b1 at h
  split at h
  · rename_i e
    split at h
    · split at h
      · rename_i q
        cases h
        exact ⟨e.1, e.2, _, _, rfl, Or.inl ⟨q, rfl⟩⟩
      · rename_i q
        cases h
        exact ⟨e.1, e.2, _, _, rfl, Or.inr ⟨Bool.eq_false_iff.mpr q, rfl⟩⟩
    · cases h
  · cases h
def rm_b2 (len pc : Nat) (off : Int) (lv : rm_L) (st : List Value) (f : Int32 → Int32 → Bool) : Option (Nat × rm_L × List Value) :=
  if len = 3 ∧ 0 ≤ (pc : Int) + off then (match st with
    | .int y :: .int x :: r => if f x y = true then some (((pc : Int) + off).toNat, lv, r) else some (pc + 3, lv, r)
    | _ => none) else none
theorem rm_b2_some {len pc : Nat} {off : Int} {lv : rm_L} {st : List Value} {f : Int32 → Int32 → Bool} {r : Nat × rm_L × List Value} (h : rm_b2 len pc off lv st f = some r) :
    len = 3 ∧ 0 ≤ (pc : Int) + off ∧ ∃ x y rest, st = .int y :: .int x :: rest ∧ ((f x y = true ∧ r = (((pc : Int) + off).toNat, lv, rest)) ∨ (f x y = false ∧ r = (pc + 3, lv, rest))) := by
  unfold rm_b2 at h
  split at h
  · rename_i e
    split at h
    · split at h
      · rename_i q
        cases h
        exact ⟨e.1, e.2, _, _, _, rfl, Or.inl ⟨q, rfl⟩⟩
      · rename_i q
        cases h
        exact ⟨e.1, e.2, _, _, _, rfl, Or.inr ⟨Bool.eq_false_iff.mpr q, rfl⟩⟩
    · cases h
  · cases h
def rm_rf (v : Value) : Option (Option Nat) := match v with
  | .ref a => some (some a)
  | .null => some none
  | _ => none
theorem rm_rf_v (v : Value) (o : Option Nat) (h : rm_rf v = some o) : v = va_rf o := by
  cases v <;> simp [rm_rf] at h <;> subst h <;> rfl
theorem rm_rf_st (ρ : Nat → Nat) (x y : Option Nat) (r : List Value) : (va_rf y :: va_rf x :: r).map (rm_v ρ) = va_rf (y.map ρ) :: va_rf (x.map ρ) :: r.map (rm_v ρ) := by
  cases x <;> cases y <;> rfl
def rm_cm (g : Nat → Bool) (x : Option Nat) : Bool := match x with
  | none => true
  | some a => g a
theorem rm_inj {g : Nat → Bool} {ρ : Nat → Nat} (hρ : ∀ a b, g a = true → g b = true → ρ a = ρ b → a = b) {x y : Option Nat} (gx : rm_cm g x = true) (gy : rm_cm g y = true) (h : x.map ρ = y.map ρ) : x = y := by
  cases x <;> cases y
  · rfl
  · cases h
  · cases h
  · exact congrArg some (hρ _ _ gx gy (Option.some.inj h))
def rm_b3 (g : Nat → Bool) (len pc : Nat) (off : Int) (lv : rm_L) (st : List Value) (f : Option Nat → Option Nat → Bool) : Option (Nat × rm_L × List Value) :=
  if len = 3 ∧ 0 ≤ (pc : Int) + off then (match st with
    | vy :: vx :: r => (match rm_rf vx, rm_rf vy with
      | some x, some y => if rm_cm g x = true ∧ rm_cm g y = true then (if f x y = true then some (((pc : Int) + off).toNat, lv, r) else some (pc + 3, lv, r)) else none
      | _, _ => none)
    | _ => none) else none
theorem rm_b3_some {g : Nat → Bool} {len pc : Nat} {off : Int} {lv : rm_L} {st : List Value} {f : Option Nat → Option Nat → Bool} {r : Nat × rm_L × List Value} (h : rm_b3 g len pc off lv st f = some r) :
    len = 3 ∧ 0 ≤ (pc : Int) + off ∧ ∃ x y rest, st = va_rf y :: va_rf x :: rest ∧ rm_cm g x = true ∧ rm_cm g y = true ∧ ((f x y = true ∧ r = (((pc : Int) + off).toNat, lv, rest)) ∨ (f x y = false ∧ r = (pc + 3, lv, rest))) := by
  unfold rm_b3 at h
  split at h
  · rename_i e
    split at h
    · split at h
      · rename_i h1 h2
        rw [rm_rf_v _ _ h1, rm_rf_v _ _ h2]
        split at h
        · rename_i gg
          split at h
          · rename_i q
            cases h
            exact ⟨e.1, e.2, _, _, _, rfl, gg.1, gg.2, Or.inl ⟨q, rfl⟩⟩
          · rename_i q
            cases h
            exact ⟨e.1, e.2, _, _, _, rfl, gg.1, gg.2, Or.inr ⟨Bool.eq_false_iff.mpr q, rfl⟩⟩
        · cases h
      · cases h
    · cases h
  · cases h
/-- the instructions that touch no heap: their number of bytes, the place, locals, operand stack; what comes behind -/
def rm_sA (g : Nat → Bool) (nL : Nat) (ins : Instr) (len pc : Nat) (lv : rm_L) (st : List Value) : Option (Nat × rm_L × List Value) := match ins with
  | .iconst n => if len = 1 then some (pc + 1, lv, .int (Int32.ofInt n) :: st) else none
  | .bipush n => if len = 2 then some (pc + 2, lv, .int (Int8.ofInt n).toInt32 :: st) else none
  | .sipush n => if len = 3 then some (pc + 3, lv, .int (Int16.ofInt n).toInt32 :: st) else none
  | .lconst n => if len = 1 then some (pc + 1, lv, .long (Int64.ofNat (n : Nat)) :: st) else none
  | .aconst_null => if len = 1 then some (pc + 1, lv, .null :: st) else none
  | .iload i => if len = 2 then (match rm_get lv i with
    | some (.int x) => some (pc + 2, lv, .int x :: st)
    | _ => none) else none
  | .iload_n i => if len = 1 then (match rm_get lv (i : Nat) with
    | some (.int x) => some (pc + 1, lv, .int x :: st)
    | _ => none) else none
  | .lload i => if len = 2 then (match rm_get lv i with
    | some (.long x) => some (pc + 2, lv, .long x :: st)
    | _ => none) else none
  | .lload_n i => if len = 1 then (match rm_get lv (i : Nat) with
    | some (.long x) => some (pc + 1, lv, .long x :: st)
    | _ => none) else none
  | .aload i => if len = 2 then (match rm_get lv i with
    | some (.ref x) => some (pc + 2, lv, .ref x :: st)
    | some .null => some (pc + 2, lv, .null :: st)
    | _ => none) else none
  | .aload_n i => if len = 1 then (match rm_get lv (i : Nat) with
    | some (.ref x) => some (pc + 1, lv, .ref x :: st)
    | some .null => some (pc + 1, lv, .null :: st)
    | _ => none) else none
  | .istore i => if len = 2 then (match st with
    | .int x :: r => if i < nL then some (pc + 2, rm_set1 lv i (.int x), r) else none
    | _ => none) else none
  | .istore_n i => if len = 1 then (match st with
    | .int x :: r => if (i : Nat) < nL then some (pc + 1, rm_set1 lv (i : Nat) (.int x), r) else none
    | _ => none) else none
  | .lstore i => if len = 2 then (match st with
    | .long x :: r => if i + 1 < nL then some (pc + 2, rm_set2 lv i (.long x), r) else none
    | _ => none) else none
  | .lstore_n i => if len = 1 then (match st with
    | .long x :: r => if (i : Nat) + 1 < nL then some (pc + 1, rm_set2 lv (i : Nat) (.long x), r) else none
    | _ => none) else none
  | .astore i => if len = 2 then (match st with
    | .ref x :: r => if i < nL then some (pc + 2, rm_set1 lv i (.ref x), r) else none
    | .null :: r => if i < nL then some (pc + 2, rm_set1 lv i .null, r) else none
    | _ => none) else none
  | .astore_n i => if len = 1 then (match st with
    | .ref x :: r => if (i : Nat) < nL then some (pc + 1, rm_set1 lv (i : Nat) (.ref x), r) else none
    | .null :: r => if (i : Nat) < nL then some (pc + 1, rm_set1 lv (i : Nat) .null, r) else none
    | _ => none) else none
  | .iinc i n => if len = 3 then (match rm_get lv i with
    | some (.int x) => if i < nL then some (pc + 3, rm_set1 lv i (.int (x + Int32.ofInt n)), st) else none
    | _ => none) else none
  | .iadd => if len = 1 then (match st with
    | .int y :: .int x :: r => some (pc + 1, lv, .int (x + y) :: r)
    | _ => none) else none
  | .isub => if len = 1 then (match st with
    | .int y :: .int x :: r => some (pc + 1, lv, .int (x - y) :: r)
    | _ => none) else none
  | .imul => if len = 1 then (match st with
    | .int y :: .int x :: r => some (pc + 1, lv, .int (x * y) :: r)
    | _ => none) else none
  | .iand => if len = 1 then (match st with
    | .int y :: .int x :: r => some (pc + 1, lv, .int (x &&& y) :: r)
    | _ => none) else none
  | .ior => if len = 1 then (match st with
    | .int y :: .int x :: r => some (pc + 1, lv, .int (x ||| y) :: r)
    | _ => none) else none
  | .ixor => if len = 1 then (match st with
    | .int y :: .int x :: r => some (pc + 1, lv, .int (x ^^^ y) :: r)
    | _ => none) else none
  | .ishl => if len = 1 then (match st with
    | .int y :: .int x :: r => some (pc + 1, lv, .int (x <<< (y &&& 31)) :: r)
    | _ => none) else none
  | .ishr => if len = 1 then (match st with
    | .int y :: .int x :: r => some (pc + 1, lv, .int (x >>> (y &&& 31)) :: r)
    | _ => none) else none
  | .idiv => if len = 1 then (match st with
    | .int y :: .int x :: r => if y = 0 then none else some (pc + 1, lv, .int (x / y) :: r)
    | _ => none) else none
  | .irem => if len = 1 then (match st with
    | .int y :: .int x :: r => if y = 0 then none else some (pc + 1, lv, .int (x - x / y * y) :: r)
    | _ => none) else none
  | .iushr => if len = 1 then (match st with
    | .int y :: .int x :: r => some (pc + 1, lv, .int ((x.toUInt32 >>> (y.toUInt32 &&& Int32.toUInt32 31)).toInt32) :: r)
    | _ => none) else none
  | .ladd => if len = 1 then (match st with
    | .long y :: .long x :: r => some (pc + 1, lv, .long (x + y) :: r)
    | _ => none) else none
  | .lsub => if len = 1 then (match st with
    | .long y :: .long x :: r => some (pc + 1, lv, .long (x - y) :: r)
    | _ => none) else none
  | .lmul => if len = 1 then (match st with
    | .long y :: .long x :: r => some (pc + 1, lv, .long (x * y) :: r)
    | _ => none) else none
  | .land => if len = 1 then (match st with
    | .long y :: .long x :: r => some (pc + 1, lv, .long (x &&& y) :: r)
    | _ => none) else none
  | .lor => if len = 1 then (match st with
    | .long y :: .long x :: r => some (pc + 1, lv, .long (x ||| y) :: r)
    | _ => none) else none
  | .lxor => if len = 1 then (match st with
    | .long y :: .long x :: r => some (pc + 1, lv, .long (x ^^^ y) :: r)
    | _ => none) else none
  | .ldiv => if len = 1 then (match st with
    | .long y :: .long x :: r => if y = 0 then none else some (pc + 1, lv, .long (x / y) :: r)
    | _ => none) else none
  | .lrem => if len = 1 then (match st with
    | .long y :: .long x :: r => if y = 0 then none else some (pc + 1, lv, .long (x - x / y * y) :: r)
    | _ => none) else none
  | .lshl => if len = 1 then (match st with
    | .int y :: .long x :: r => some (pc + 1, lv, .long (x <<< (y.toInt64 &&& 63)) :: r)
    | _ => none) else none
  | .lshr => if len = 1 then (match st with
    | .int y :: .long x :: r => some (pc + 1, lv, .long (x >>> (y.toInt64 &&& 63)) :: r)
    | _ => none) else none
  | .lcmp => if len = 1 then (match st with
    | .long y :: .long x :: r => some (pc + 1, lv, .int (lg_cmp x y) :: r)
    | _ => none) else none
  | .ineg => if len = 1 then (match st with
    | .int x :: r => some (pc + 1, lv, .int (-x) :: r)
    | _ => none) else none
  | .lneg => if len = 1 then (match st with
    | .long x :: r => some (pc + 1, lv, .long (-x) :: r)
    | _ => none) else none
  | .i2l => if len = 1 then (match st with
    | .int x :: r => some (pc + 1, lv, .long (x.toInt64) :: r)
    | _ => none) else none
  | .l2i => if len = 1 then (match st with
    | .long x :: r => some (pc + 1, lv, .int (x.toInt32) :: r)
    | _ => none) else none
  | .i2b => if len = 1 then (match st with
    | .int x :: r => some (pc + 1, lv, .int (x.toInt8.toInt32) :: r)
    | _ => none) else none
  | .i2c => if len = 1 then (match st with
    | .int x :: r => some (pc + 1, lv, .int ((x.toUInt32 % 65536).toInt32) :: r)
    | _ => none) else none
  | .dup => if len = 1 then (match st with
    | v :: r => if v.category = 1 then some (pc + 1, lv, v :: v :: r) else none
    | _ => none) else none
  | .pop => if len = 1 then (match st with
    | v :: r => if v.category = 1 then some (pc + 1, lv, r) else none
    | _ => none) else none
  | .dup_x1 => if len = 1 then (match st with
    | v :: w :: r => if v.category = 1 ∧ w.category = 1 then some (pc + 1, lv, v :: w :: v :: r) else none
    | _ => none) else none
  | .dup2 => if len = 1 then (match st with
    | v :: w :: r => if v.category = 1 ∧ w.category = 1 then some (pc + 1, lv, v :: w :: v :: w :: r) else none
    | _ => none) else none
  | .goto off => if len = 3 ∧ 0 ≤ (pc : Int) + off then some (((pc : Int) + off).toNat, lv, st) else none
  | .ifCond cnd off => match cnd with
    | .eq => rm_b1 len pc off lv st (fun x => decide (x = 0))
    | .ne => rm_b1 len pc off lv st (fun x => decide (¬ x = 0))
    | .lt => rm_b1 len pc off lv st (fun x => decide (x < 0))
    | .ge => rm_b1 len pc off lv st (fun x => decide (0 ≤ x))
    | .gt => rm_b1 len pc off lv st (fun x => decide (0 < x))
    | .le => rm_b1 len pc off lv st (fun x => decide (x ≤ 0))
  | .if_icmp cnd off => match cnd with
    | .eq => rm_b2 len pc off lv st (fun x y => decide (x = y))
    | .ne => rm_b2 len pc off lv st (fun x y => decide (¬ x = y))
    | .lt => rm_b2 len pc off lv st (fun x y => decide (x < y))
    | .ge => rm_b2 len pc off lv st (fun x y => decide (y ≤ x))
    | .gt => rm_b2 len pc off lv st (fun x y => decide (y < x))
    | .le => rm_b2 len pc off lv st (fun x y => decide (x ≤ y))
  | .ifnull off => if len = 3 ∧ 0 ≤ (pc : Int) + off then (match st with
    | .ref _ :: r => some (pc + 3, lv, r)
    | .null :: r => some (((pc : Int) + off).toNat, lv, r)
    | _ => none) else none
  | .ifnonnull off => if len = 3 ∧ 0 ≤ (pc : Int) + off then (match st with
    | .ref _ :: r => some (((pc : Int) + off).toNat, lv, r)
    | .null :: r => some (pc + 3, lv, r)
    | _ => none) else none
  | .if_acmp cnd off => match cnd with
    | .eq => rm_b3 g len pc off lv st (fun x y => decide (x = y))
    | .ne => rm_b3 g len pc off lv st (fun x y => decide (¬ x = y))
  | .tableswitch dflt lo hi offs => match st with
    | .int x :: r => if x.toInt < lo ∨ hi < x.toInt then (if 0 ≤ (pc : Int) + dflt then some (((pc : Int) + dflt).toNat, lv, r) else none) else (match offs[(x.toInt - lo).toNat]? with
      | some off => if 0 ≤ (pc : Int) + off then some (((pc : Int) + off).toNat, lv, r) else none
      | none => none)
    | _ => none
  | .lookupswitch dflt ps => match st with
    | .int x :: r => if (ps.toList.zip (ps.toList.drop 1)).all (fun (a, next) => a.1 < next.1) = true ∧ 0 ≤ (pc : Int) + Op.lookupswitch.offset ps.toList dflt x.toInt then some (((pc : Int) + Op.lookupswitch.offset ps.toList dflt x.toInt).toNat, lv, r) else none
    | _ => none
  | _ => none
