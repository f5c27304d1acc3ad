/-! ROWS: how a method's rows are seen to be as its bytes and the tables say. -/
section RM_R
variable {Tg Tb : List Cond} {cl : List vw_C} {TY : List FieldType} {DV : Nat → List Value} {strs : List (String × Nat × String × Nat)} {stats : List (String × String × String × Nat)} {P : List rm_M} {y : MethodName} {pc len idx : Nat}
def rm_row (Tg Tb : List Cond) (cl : List vw_C) (TY : List FieldType) (DV : Nat → List Value) (strs : List (String × Nat × String × Nat)) (stats : List (String × String × String × Nat)) (P : List rm_M) (y : MethodName) (q : Nat × Instr × Nat × List Nat) : Prop :=
  rm_lkB (Tg ++ Tb) cl strs stats y.cls q.2.1 q.2.2.2 ∧ rm_lkC2 (Tg ++ Tb) cl TY DV y.cls y.name q.2.1 q.2.2.2 ∧ rm_lkI Tg Tb cl P y.cls q.2.1 q.2.2.2 ∧ rm_lkD Tg Tb y.cls q.2.1 q.2.2.2
theorem rm_fnd_mem {rows : List (Nat × Instr × Nat × List Nat)} {pc : Nat} {i : Instr × Nat × List Nat} (h : rm_fnd rows pc = some i) : (pc, i) ∈ rows := by
  induction rows with
  | nil => cases h
  | cons q r ih =>
    rw [rm_fnd] at h
    split at h
    · rename_i e
      cases h
      rw [← e]
      exact List.mem_cons_self
    · exact List.mem_cons_of_mem _ (ih h)
theorem rm_Mrw_of {M : rm_M} (hd : rm_dec M.2.1 M.2.2.2.2 = true) (hr : ∀ q ∈ M.2.2.2.2, rm_row Tg Tb cl TY DV strs stats P M.1 q) : rm_Mrw Tg Tb cl TY DV strs stats P M := by
  intro pc i hi
  obtain ⟨ins, len, lk⟩ := i
  have hm := rm_fnd_mem hi
  have h1 := hr _ hm
  have h2 := rm_dec_ok hd hm
  unfold rm_row at h1
  dsimp only at h1 h2 ⊢
  exact ⟨h2, h1⟩
theorem rm_Mok_of {M : rm_M} (hc : Cond.code M.1 M.2.1 M.2.2.1 M.2.2.2.1 ∈ Tg) (hp : plainFor M.1 = true) (hd : rm_dec M.2.1 M.2.2.2.2 = true) (hr : ∀ q ∈ M.2.2.2.2, rm_row Tg Tb cl TY DV strs stats P M.1 q) : rm_Mok Tg Tb cl TY DV strs stats P M := ⟨hc, hp, rm_Mrw_of hd hr⟩
theorem rm_ni {ins : Instr} : rm_row Tg Tb cl TY DV strs stats P y (pc, ins, len, []) := by
  refine ⟨?_, ?_, (fun _ _ _ _ _ h => by cases h), ?_⟩
  · cases ins <;> simp [rm_lkB]
  · cases ins <;> simp [rm_lkC2]
  · cases ins <;> simp [rm_lkD]
theorem rm_one {α : Type} {F : α → Prop} {a : α} (h : F a) : ∀ x ∈ [a], F x := fun x hx => by rw [List.mem_singleton.mp hx]; exact h
theorem rm_two {α : Type} {F : α → Prop} {a b : α} (h : F a) (h2 : F b) : ∀ x ∈ [a, b], F x := fun x hx => by
  rcases List.mem_cons.mp hx with h3 | h3
  · rw [h3]; exact h
  · exact rm_one h2 x h3
theorem rm_rF {k : Nat} {cis : List Nat} (h : ∀ ci ∈ cis, rm_lkF (Tg ++ Tb) cl y.cls idx k ci) : rm_row Tg Tb cl TY DV strs stats P y (pc, .getfield idx, len, k :: cis) := ⟨h, trivial, fun _ _ _ _ _ _ _ => trivial, trivial⟩
theorem rm_rP {k : Nat} {cis : List Nat} (h : ∀ ci ∈ cis, rm_lkP (Tg ++ Tb) cl y.cls y.name idx k ci) : rm_row Tg Tb cl TY DV strs stats P y (pc, .putfield idx, len, k :: cis) := ⟨trivial, h, fun _ _ _ _ _ _ _ => trivial, trivial⟩
theorem rm_rG {z : Nat} (h : ∃ C n d, (C, n, d, z) ∈ stats ∧ (Cond.fieldLink y.cls idx C n d ∈ Tg ++ Tb ∨ ∃ host, Cond.fieldLinkNest y.cls idx C n d host ∈ Tg ++ Tb)) : rm_row Tg Tb cl TY DV strs stats P y (pc, .getstatic idx, len, [z]) := ⟨fun _ => h, trivial, fun _ _ _ _ _ _ _ => trivial, trivial⟩
theorem rm_rL {n : Nat} (h : Cond.constant y.cls idx (Int32.ofNat n) ∈ Tg ++ Tb) : rm_row Tg Tb cl TY DV strs stats P y (pc, .ldc idx, len, [0, n]) := ⟨⟨fun _ => h, (fun z => by cases z)⟩, trivial, fun _ _ _ _ _ _ _ => trivial, trivial⟩
theorem rm_rS {a : Nat} {tx : String} (h : (y.cls, idx, tx, a) ∈ strs) : rm_row Tg Tb cl TY DV strs stats P y (pc, .ldc idx, len, [1, a]) := ⟨⟨(fun z => by cases z), fun _ => ⟨tx, h⟩⟩, trivial, fun _ _ _ _ _ _ _ => trivial, trivial⟩
theorem rm_rW {n : Nat} (h : Cond.constant y.cls idx (Int32.ofNat n) ∈ Tg ++ Tb) : rm_row Tg Tb cl TY DV strs stats P y (pc, .ldc_w idx, len, [0, n]) := ⟨fun _ => h, trivial, fun _ _ _ _ _ _ _ => trivial, trivial⟩
theorem rm_r2 {n : Nat} (h : Cond.constantLong y.cls idx (Int64.ofNat n) ∈ Tg ++ Tb) : rm_row Tg Tb cl TY DV strs stats P y (pc, .ldc2_w idx, len, [n]) := ⟨fun _ => h, trivial, fun _ _ _ _ _ _ _ => trivial, trivial⟩
theorem rm_rC {cis : List Nat} (hn : cis ≠ [77]) (h : ∀ x ∈ cis, rm_lkC (Tg ++ Tb) cl y.cls idx x) : rm_row Tg Tb cl TY DV strs stats P y (pc, .checkcast idx, len, cis) := ⟨fun _ => h, trivial, fun _ _ _ _ _ _ _ => trivial, fun z => absurd z hn⟩
theorem rm_rB (h : Cond.classLink y.cls idx "[B" ∈ Tg) : rm_row Tg Tb cl TY DV strs stats P y (pc, .checkcast idx, len, [77]) := ⟨fun z => absurd rfl z, trivial, fun _ _ _ _ _ _ _ => trivial, fun _ => h⟩
theorem rm_rK (h : Cond.methodLink y.cls idx rm_clN ∈ Tg ∧ Cond.sameMethod "[B" "java/lang/Object" "clone" "()Ljava/lang/Object;" ∈ Tg ∧ Cond.native rm_clO ∈ Tg ∧ Cond.instanceMethod rm_clO ∈ Tg ∧ Cond.selects "[B" rm_clN rm_clO ∈ Tg ∧ Cond.castable "[B" "java/lang/Cloneable" ∈ Tb) : rm_row Tg Tb cl TY DV strs stats P y (pc, .invokevirtual idx, len, [3]) := ⟨trivial, trivial, (fun _ _ _ _ _ h => by cases h), fun _ => h⟩
theorem rm_rI {a b : Nat} (h : ∀ x ∈ [a, b], rm_lkC (Tg ++ Tb) cl y.cls idx x) : rm_row Tg Tb cl TY DV strs stats P y (pc, .instanceof idx, len, [a, b]) := ⟨h, trivial, fun _ _ _ _ _ _ _ => trivial, trivial⟩
theorem rm_rN {ci : Nat} (h : ∃ r : vw_C, cl[ci]? = some r ∧ Cond.classLink y.cls idx r.1 ∈ Tg ++ Tb ∧ Cond.instantiable r.1 r.2.2 ∈ Tg ++ Tb ∧ Cond.initialized r.1 ∈ Tg ++ Tb ∧ (DV ci).length = r.2.2) : rm_row Tg Tb cl TY DV strs stats P y (pc, .new idx, len, [ci]) := ⟨trivial, fun _ => h, fun _ _ _ _ _ _ _ => trivial, trivial⟩
theorem rm_rA {t : Nat} {aty : ArrayType} (h : Cond.arrayClass (newarray.typeOf aty) ∈ Tg ++ Tb) : rm_row Tg Tb cl TY DV strs stats P y (pc, .newarray aty, len, [t]) := ⟨trivial, fun _ => h, fun _ _ _ _ _ _ _ => trivial, trivial⟩
theorem rm_rQ {t : Nat} (h : ∃ C : String, TY[t]? = some (.object C) ∧ Cond.classLink y.cls idx C ∈ Tg ++ Tb ∧ Cond.arrayOver (.object C) ∈ Tg ++ Tb) : rm_row Tg Tb cl TY DV strs stats P y (pc, .anewarray idx, len, [t]) := ⟨trivial, fun _ => h, fun _ _ _ _ _ _ _ => trivial, trivial⟩
theorem rm_rO (h : Cond.methodLink y.cls idx objectInit ∈ Tg ∧ Cond.instanceMethod objectInit ∈ Tg ∧ Cond.code objectInit ⟨#[0xb1]⟩ 1 none ∈ Tg) : rm_row Tg Tb cl TY DV strs stats P y (pc, .invokespecial idx, len, [0]) := ⟨trivial, trivial, (fun _ _ _ _ _ h => by cases h), fun _ => h⟩
theorem rm_rY (h : Cond.methodLink y.cls idx arraycopyName ∈ Tg ∧ Cond.native arraycopyName ∈ Tg ∧ Cond.static arraycopyName ∈ Tg ∧ Cond.initialized "java/lang/System" ∈ Tg) : rm_row Tg Tb cl TY DV strs stats P y (pc, .invokestatic idx, len, [1]) := ⟨trivial, trivial, (fun _ _ _ _ _ h => by cases h), fun _ => h, fun _ z => by cases z⟩
theorem rm_rX {t : Nat} (h : rm_k0 Tg y.cls idx rm_cpN 2 ∧ Cond.code rm_cpN prog_29_method_119_code 2 (some (.array (.object "java/lang/Object"))) ∈ Tg) : rm_row Tg Tb cl TY DV strs stats P y (pc, .invokestatic idx, len, [2, t]) := ⟨trivial, trivial, (fun _ _ _ _ _ h => by cases h), (fun z => by cases z), fun _ _ => h⟩
variable {mi n : Nat} {cis : List Nat} {M : rm_M}
theorem rm_r50 (hP : P[mi]? = some M) (h : rm_k0 Tg y.cls idx M.1 n) : rm_row Tg Tb cl TY DV strs stats P y (pc, .invokestatic idx, len, mi :: 0 :: n :: cis) := ⟨trivial, trivial, fun a b c d N e f => by
  cases e
  cases hP.symm.trans f
  exact ⟨fun _ => h, (fun z => by cases z)⟩, (fun z => by cases z), (fun _ z => by cases z)⟩
theorem rm_r51 (hP : P[mi]? = some M) (h : rm_k1 Tg Tb y.cls idx M.1 n) : rm_row Tg Tb cl TY DV strs stats P y (pc, .invokestatic idx, len, mi :: 1 :: n :: cis) := ⟨trivial, trivial, fun a b c d N e f => by
  cases e
  cases hP.symm.trans f
  exact ⟨(fun z => by cases z), fun _ => h⟩, (fun z => by cases z), (fun _ z => by cases z)⟩
theorem rm_r52 (hP : P[mi]? = some M) (h : rm_k2 Tg y.cls idx M.1 n ∧ M.2.2.2.1 = none) : rm_row Tg Tb cl TY DV strs stats P y (pc, .invokespecial idx, len, mi :: 2 :: n :: cis) := ⟨trivial, trivial, fun a b c d N e f => by
  cases e
  cases hP.symm.trans f
  exact ⟨fun _ => h, (fun z => by cases z)⟩, (fun z => by cases z)⟩
theorem rm_r54 (hP : P[mi]? = some M) (h : ∀ ci ∈ cis, rm_k4 Tg cl y.cls idx M.1 n ci) : rm_row Tg Tb cl TY DV strs stats P y (pc, .invokespecial idx, len, mi :: 4 :: n :: cis) := ⟨trivial, trivial, fun a b c d N e f => by
  cases e
  cases hP.symm.trans f
  exact ⟨(fun z => by cases z), fun _ => h⟩, (fun z => by cases z)⟩
theorem rm_r55 (hP : P[mi]? = some M) (h : ∀ ci ∈ cis, rm_k5 Tg cl y.cls idx M.1 n ci) : rm_row Tg Tb cl TY DV strs stats P y (pc, .invokevirtual idx, len, mi :: 5 :: n :: cis) := ⟨trivial, trivial, fun a b c d N e f => by
  cases e
  cases hP.symm.trans f
  exact ⟨(fun _ => h), (fun z => by cases z), (fun z => by cases z), (fun z => by cases z)⟩, (fun z => by cases z)⟩
theorem rm_r56 (hP : P[mi]? = some M) (h : ∀ ci ∈ cis, rm_k6 Tg cl y.cls idx M.1 n ci) : rm_row Tg Tb cl TY DV strs stats P y (pc, .invokevirtual idx, len, mi :: 6 :: n :: cis) := ⟨trivial, trivial, fun a b c d N e f => by
  cases e
  cases hP.symm.trans f
  exact ⟨(fun z => by cases z), (fun _ => h), (fun z => by cases z), (fun z => by cases z)⟩, (fun z => by cases z)⟩
theorem rm_r58 (hP : P[mi]? = some M) (h : ∀ ci ∈ cis, rm_k8 Tg cl y.cls idx M.1 n ci) : rm_row Tg Tb cl TY DV strs stats P y (pc, .invokevirtual idx, len, mi :: 8 :: n :: cis) := ⟨trivial, trivial, fun a b c d N e f => by
  cases e
  cases hP.symm.trans f
  exact ⟨(fun z => by cases z), (fun z => by cases z), (fun _ => h), (fun z => by cases z)⟩, (fun z => by cases z)⟩
theorem rm_r59 (hP : P[mi]? = some M) (h : ∀ ci ∈ cis, rm_k9 Tg Tb cl y.cls idx M.1 n ci) : rm_row Tg Tb cl TY DV strs stats P y (pc, .invokevirtual idx, len, mi :: 9 :: n :: cis) := ⟨trivial, trivial, fun a b c d N e f => by
  cases e
  cases hP.symm.trans f
  exact ⟨(fun z => by cases z), (fun z => by cases z), (fun z => by cases z), (fun _ => h)⟩, (fun z => by cases z)⟩
theorem rm_r57 {cnt : Nat} (hP : P[mi]? = some M) (h : ∀ ci ∈ cis, rm_k7 Tg Tb cl y.cls idx M.1 n ci) : rm_row Tg Tb cl TY DV strs stats P y (pc, .invokeinterface idx cnt, len, mi :: 7 :: n :: cis) := ⟨trivial, trivial, fun a b c d N e f => by
  cases e
  cases hP.symm.trans f
  exact fun _ => h, trivial⟩
theorem rm_ap {α : Type} {F : α → Prop} {a b : List α} (ha : ∀ x ∈ a, F x) (hb : ∀ x ∈ b, F x) : ∀ x ∈ a ++ b, F x := fun x hx => (List.mem_append.mp hx).elim (ha x) (hb x)
theorem rm_co {α : Type} {F : α → Prop} {a : α} {b : List α} (ha : F a) (hb : ∀ x ∈ b, F x) : ∀ x ∈ a :: b, F x := List.forall_mem_cons.mpr ⟨ha, hb⟩
theorem rm_nl {α : Type} {F : α → Prop} : ∀ x ∈ ([] : List α), F x := fun _ h => by cases h
end RM_R
